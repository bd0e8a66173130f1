/-! ===== the class's calls: drawings and locks ===== -/
set_option maxRecDepth 100000 in
set_option maxHeartbeats 4000000 in
theorem c_X5_tell (G : am_G) (l : Launch) (htr : l.stackTraces = false) (h : am_H) (n np nq : Nat) (hci : CI h n np nq) (D : Int32) (P : Int32) (S : Int32) (W : Int32) : am_Met G l yX5_tell (.code yX5_tell cX5_tell 7 (some .int)) 9 8 48 [.ref (3), .int (D), .int (P), .int (S), .int (W)] h (fun v h' => (k3 (IX n D) (IX 6 P && IX 40 S && IW W) (decide (chg h (dn D) = P))) = 0 ∧ v = some (.int (tC h (dn D) (dn S))) ∧ h' = am_sI h (101 + 4 * dn D) (dn S) W) (fun X h' => h' = h ∧ EX ["java/lang/IndexOutOfBoundsException", "java/lang/IllegalArgumentException", "java/lang/IllegalStateException"] (k3 (IX n D) (IX 6 P && IX 40 S && IW W) (decide (chg h (dn D) = P))) X) := by
  have hF := hci.1.1
  have hD := hci.1.2.1
  have hB := hci.1.2.2
  have hn6 := hci.2.1.1
  have hn20 := hci.2.1.2.1
  have hn30 := hci.2.1.2.2
  obtain ⟨⟨c4, l4⟩, ⟨c5, l5⟩, ⟨c6, l6⟩⟩ := hci.2.2.1
  refine am_intro rfl htr rfl (Nat.le_of_ble_eq_true rfl) (fun Z hC hR hI => ?_)
  change am_W Z 0 0 0 [.ref (3), .int (D), .int (P), .int (S), .int (W), .null, .null] [] h
  refine am_aload_n hC dX5_tell_0 rfl ?_
  refine am_iload_n hC dX5_tell_1 rfl ?_
  refine am_callV hC (ci := 6) (N := 4) [.int (D)] rfl (kC_3 hF) rfl mf_X5_drawingAt tw_276 (c_X5_drawingAt _ _ (am_tr hC) h n np nq hci D) rfl ⟨rfl, Nat.le_of_ble_eq_true rfl⟩ ⟨by decide, by decide⟩ (by decide) (by decide) dX5_tell_2 rfl (fun X g hx hle => am_out hC hR (by decide) (by decide) (by obtain ⟨hx1, hx2, hx⟩ := hx; subst hx1; subst hx2; exact ⟨rfl, EX_1 ((IX_n (by omega) hx))⟩)) (fun v h' hp hlc => ?_)
  obtain ⟨z8, d, hd, z7, z9⟩ := hp
  have z8 := z8.symm
  subst z8
  subst z9
  subst z7
  refine am_astore hC dX5_tell_5 (by decide) ?_
  change am_W _ _ _ _ [.ref (3), .int (nI d), .int (P), .int (S), .int (W), .ref (100 + 4 * d), .null] _ _
  refine am_iload_n hC dX5_tell_7 rfl ?_
  refine am_callS hC [.int (P)] mf_X5_needPerson tw_310 (c_X5_needPerson _ _ (am_tr hC) h (P)) rfl ⟨rfl, Nat.le_of_ble_eq_true rfl⟩ ⟨by decide, by decide⟩ (by decide) (by decide) dX5_tell_8 rfl (fun X g hx hle => am_out hC hR (by decide) (by decide) (by obtain ⟨hx1, hx2, hx⟩ := hx; subst hx1; subst hx2; exact ⟨rfl, EX_2 (IX_y (by omega) hd rfl) (and_fl (and_fl (IX_n (by decide) hx)))⟩)) (fun v h' hp hlc => ?_)
  obtain ⟨rfl, z8, p, hp0, z7⟩ := hp
  have z8 := z8.symm
  subst z8
  subst z7
  refine am_iload_n hC dX5_tell_11 rfl ?_
  refine am_callS hC [.int (S)] mf_X5_needSide tw_329 (c_X5_needSide _ _ (am_tr hC) h (S)) rfl ⟨rfl, Nat.le_of_ble_eq_true rfl⟩ ⟨by decide, by decide⟩ (by decide) (by decide) dX5_tell_12 rfl (fun X g hx hle => am_out hC hR (by decide) (by decide) (by obtain ⟨hx1, hx2, hx⟩ := hx; subst hx1; subst hx2; exact ⟨rfl, EX_2 (IX_y (by omega) hd rfl) (and_fl (and_ff (IX_n (by decide) hx)))⟩)) (fun v h' hp hlc => ?_)
  obtain ⟨rfl, z8, s, hs0, z7⟩ := hp
  have z8 := z8.symm
  subst z8
  subst z7
  refine am_iload hC dX5_tell_15 rfl ?_
  refine am_iconst (v := -1) hC dX5_tell_17 (by decide) ?_
  refine am_icmp_lt (tgt := 27) hC dX5_tell_18 (by decide) (fun c_18 => ?_) (fun c_18 => ?_)
  · refine am_throw hC hR (X := "java/lang/IllegalArgumentException") (text := "a side is not that") (by decide +kernel) tw_313 tw_19 tw_333 xw_RX5_62 ⟨rfl, Nat.le_of_ble_eq_true rfl⟩ (by decide) (by decide) (by decide) dX5_tell_27 dX5_tell_30 dX5_tell_31 dX5_tell_33 dX5_tell_36 ?_
    refine ⟨rfl, EX_2 (IX_y (by omega) hd rfl) (and_ff ?_)⟩
    unfold IW
    first
      | exact and_fl (decide_eq_false (fun z => absurd c_18 (Int32.not_lt.mpr z)))
      | exact and_ff (decide_eq_false c_24)
  · refine am_iload hC dX5_tell_21 rfl ?_
    refine am_iconst (v := nI 2) hC dX5_tell_23 (by decide) ?_
    refine am_icmp_le (tgt := 37) hC dX5_tell_24 (by decide) (fun c_24 => ?_) (fun c_24 => ?_)
    · have hw0 : IW W = true := and_tt (decide_eq_true (Int32.not_lt.mp c_18)) (decide_eq_true c_24)
      refine am_aload hC dX5_tell_37 rfl ?_
      refine am_iload_n hC dX5_tell_39 rfl ?_
      refine am_callS hC [.ref (100 + 4 * d), .int (nI p)] mf_X5_needChanger tw_334 (c_X5_needChanger _ _ (am_tr hC) h n hD d hd (nI p)) rfl ⟨rfl, Nat.le_of_ble_eq_true rfl⟩ ⟨by decide, by decide⟩ (by decide) (by decide) dX5_tell_40 rfl (fun X g hx hle => am_out hC hR (by decide) (by decide) (by obtain ⟨hx1, hx2, hx⟩ := hx; subst hx1; subst hx2; exact ⟨rfl, EX_3 (IX_y (by omega) hd rfl) (and_tt (and_tt (IX_y (by decide) hp0 rfl) (IX_y (by decide) hs0 rfl)) hw0) (decide_eq_false (fun z => hx (by rw [dn_nI (by omega)] at z; exact z)))⟩)) (fun v h' hp hlc => ?_)
      obtain ⟨rfl, z8, hcg⟩ := hp
      have z8 := z8.symm
      subst z8
      refine am_aload hC dX5_tell_43 rfl ?_
      refine am_getN (v := .ref (101 + 4 * d)) hC (ci := 1) (N := 5) (j := 0) rfl (dk0 hD hd) (by decide) tw_195 dX5_tell_45 (am_rfe (dr0 hD hd)) ?_
      refine am_iload_n hC dX5_tell_48 rfl ?_
      refine am_ialdE (v := hi_ h (101 + 4 * d) s) hC (j := s) (N := 40) (dk1 hD hd) (dn1 hD hd) rfl (by omega) (by decide) dX5_tell_49 rfl ?_
      refine am_istore hC dX5_tell_50 (by decide) ?_
      change am_W _ _ _ _ [.ref (3), .int (nI d), .int (nI p), .int (nI s), .int (W), .ref (100 + 4 * d), .int (hi_ h (101 + 4 * d) s)] _ _
      refine am_aload hC dX5_tell_52 rfl ?_
      refine am_getN (v := .ref (101 + 4 * d)) hC (ci := 1) (N := 5) (j := 0) rfl (dk0 hD hd) (by decide) tw_195 dX5_tell_54 (am_rfe (dr0 hD hd)) ?_
      refine am_iload_n hC dX5_tell_57 rfl ?_
      refine am_iload hC dX5_tell_58 rfl ?_
      refine am_iast hC (j := s) (N := 40) (dk1 hD hd) (dn1 hD hd) rfl (by omega) (by decide) dX5_tell_60 ?_
      refine am_iload hC dX5_tell_61 rfl ?_
      refine am_iret hC hR rfl (by decide) (by decide) dX5_tell_63 ?_
      refine ⟨k3_0 (IX_y (by omega) hd rfl) (and_tt (and_tt (IX_y (by decide) hp0 rfl) (IX_y (by decide) hs0 rfl)) hw0) (decide_eq_true (by rw [dn_nI (by omega)]; exact hcg)), ?_, ?_⟩
      · rw [dn_nI (by omega), dn_nI (by omega)]; rfl
      · rw [dn_nI (by omega), dn_nI (by omega)]
    · refine am_throw hC hR (X := "java/lang/IllegalArgumentException") (text := "a side is not that") (by decide +kernel) tw_313 tw_19 tw_333 xw_RX5_62 ⟨rfl, Nat.le_of_ble_eq_true rfl⟩ (by decide) (by decide) (by decide) dX5_tell_27 dX5_tell_30 dX5_tell_31 dX5_tell_33 dX5_tell_36 ?_
      refine ⟨rfl, EX_2 (IX_y (by omega) hd rfl) (and_ff ?_)⟩
      unfold IW
      first
        | exact and_fl (decide_eq_false (fun z => absurd c_18 (Int32.not_lt.mpr z)))
        | exact and_ff (decide_eq_false c_24)
set_option maxRecDepth 100000 in
set_option maxHeartbeats 4000000 in
theorem c_X5_setExit (G : am_G) (l : Launch) (htr : l.stackTraces = false) (h : am_H) (n np nq : Nat) (hci : CI h n np nq) (D : Int32) (P : Int32) (S : Int32) (b : Bool) : am_Met G l yX5_setExit (.code yX5_setExit cX5_setExit 7 (some .boolean)) 9 8 48 [.ref (3), .int (D), .int (P), .int (S), .int (b2i b)] h (fun v h' => (k3 (IX n D) (IX 6 P && IX 25 S) (decide (chg h (dn D) = P))) = 0 ∧ v = some (.int (b2i (xC h (dn D) (dn S)))) ∧ h' = am_sI h (102 + 4 * dn D) (dn S) (b2i b)) (fun X h' => h' = h ∧ EX ["java/lang/IndexOutOfBoundsException", "java/lang/IllegalArgumentException", "java/lang/IllegalStateException"] (k3 (IX n D) (IX 6 P && IX 25 S) (decide (chg h (dn D) = P))) X) := by
  have hF := hci.1.1
  have hD := hci.1.2.1
  have hB := hci.1.2.2
  have hn6 := hci.2.1.1
  have hn20 := hci.2.1.2.1
  have hn30 := hci.2.1.2.2
  obtain ⟨⟨c4, l4⟩, ⟨c5, l5⟩, ⟨c6, l6⟩⟩ := hci.2.2.1
  refine am_intro rfl htr rfl (Nat.le_of_ble_eq_true rfl) (fun Z hC hR hI => ?_)
  change am_W Z 0 0 0 [.ref (3), .int (D), .int (P), .int (S), .int (b2i b), .null, .null] [] h
  refine am_aload_n hC dX5_setExit_0 rfl ?_
  refine am_iload_n hC dX5_setExit_1 rfl ?_
  refine am_callV hC (ci := 6) (N := 4) [.int (D)] rfl (kC_3 hF) rfl mf_X5_drawingAt tw_276 (c_X5_drawingAt _ _ (am_tr hC) h n np nq hci D) rfl ⟨rfl, Nat.le_of_ble_eq_true rfl⟩ ⟨by decide, by decide⟩ (by decide) (by decide) dX5_setExit_2 rfl (fun X g hx hle => am_out hC hR (by decide) (by decide) (by obtain ⟨hx1, hx2, hx⟩ := hx; subst hx1; subst hx2; exact ⟨rfl, EX_1 ((IX_n (by omega) hx))⟩)) (fun v h' hp hlc => ?_)
  obtain ⟨z8, d, hd, z7, z9⟩ := hp
  have z8 := z8.symm
  subst z8
  subst z9
  subst z7
  refine am_astore hC dX5_setExit_5 (by decide) ?_
  change am_W _ _ _ _ [.ref (3), .int (nI d), .int (P), .int (S), .int (b2i b), .ref (100 + 4 * d), .null] _ _
  refine am_iload_n hC dX5_setExit_7 rfl ?_
  refine am_callS hC [.int (P)] mf_X5_needPerson tw_310 (c_X5_needPerson _ _ (am_tr hC) h (P)) rfl ⟨rfl, Nat.le_of_ble_eq_true rfl⟩ ⟨by decide, by decide⟩ (by decide) (by decide) dX5_setExit_8 rfl (fun X g hx hle => am_out hC hR (by decide) (by decide) (by obtain ⟨hx1, hx2, hx⟩ := hx; subst hx1; subst hx2; exact ⟨rfl, EX_2 (IX_y (by omega) hd rfl) (and_fl (IX_n (by decide) hx))⟩)) (fun v h' hp hlc => ?_)
  obtain ⟨rfl, z8, p, hp0, z7⟩ := hp
  have z8 := z8.symm
  subst z8
  subst z7
  refine am_iload_n hC dX5_setExit_11 rfl ?_
  refine am_callS hC [.int (S)] mf_X5_needCell tw_346 (c_X5_needCell _ _ (am_tr hC) h (S)) rfl ⟨rfl, Nat.le_of_ble_eq_true rfl⟩ ⟨by decide, by decide⟩ (by decide) (by decide) dX5_setExit_12 rfl (fun X g hx hle => am_out hC hR (by decide) (by decide) (by obtain ⟨hx1, hx2, hx⟩ := hx; subst hx1; subst hx2; exact ⟨rfl, EX_2 (IX_y (by omega) hd rfl) (and_ff (IX_n (by decide) hx))⟩)) (fun v h' hp hlc => ?_)
  obtain ⟨rfl, z8, s, hs0, z7⟩ := hp
  have z8 := z8.symm
  subst z8
  subst z7
  refine am_aload hC dX5_setExit_15 rfl ?_
  refine am_iload_n hC dX5_setExit_17 rfl ?_
  refine am_callS hC [.ref (100 + 4 * d), .int (nI p)] mf_X5_needChanger tw_334 (c_X5_needChanger _ _ (am_tr hC) h n hD d hd (nI p)) rfl ⟨rfl, Nat.le_of_ble_eq_true rfl⟩ ⟨by decide, by decide⟩ (by decide) (by decide) dX5_setExit_18 rfl (fun X g hx hle => am_out hC hR (by decide) (by decide) (by obtain ⟨hx1, hx2, hx⟩ := hx; subst hx1; subst hx2; exact ⟨rfl, EX_3 (IX_y (by omega) hd rfl) (and_tt (IX_y (by decide) hp0 rfl) (IX_y (by decide) hs0 rfl)) (decide_eq_false (fun z => hx (by rw [dn_nI (by omega)] at z; exact z)))⟩)) (fun v h' hp hlc => ?_)
  obtain ⟨rfl, z8, hcg⟩ := hp
  have z8 := z8.symm
  subst z8
  refine am_aload hC dX5_setExit_21 rfl ?_
  refine am_getN (v := .ref (102 + 4 * d)) hC (ci := 1) (N := 5) (j := 1) rfl (dk0 hD hd) (by decide) tw_197 dX5_setExit_23 (am_rfe (dr1 hD hd)) ?_
  refine am_iload_n hC dX5_setExit_26 rfl ?_
  refine am_zaldE (v := b2i (xC h d s)) hC (j := s) (N := 25) (dk2 hD hd) (dn2 hD hd) rfl (by omega) (by decide) dX5_setExit_27 (hB d hd s hs0) ?_
  refine am_istore hC dX5_setExit_28 (by decide) ?_
  change am_W _ _ _ _ [.ref (3), .int (nI d), .int (nI p), .int (nI s), .int (b2i b), .ref (100 + 4 * d), .int (b2i (xC h d s))] _ _
  refine am_aload hC dX5_setExit_30 rfl ?_
  refine am_getN (v := .ref (102 + 4 * d)) hC (ci := 1) (N := 5) (j := 1) rfl (dk0 hD hd) (by decide) tw_197 dX5_setExit_32 (am_rfe (dr1 hD hd)) ?_
  refine am_iload_n hC dX5_setExit_35 rfl ?_
  refine am_iload hC dX5_setExit_36 rfl ?_
  refine am_zast hC (j := s) (N := 25) (dk2 hD hd) (dn2 hD hd) rfl (by omega) (by decide) (nar_b2i _) dX5_setExit_38 ?_
  refine am_iload hC dX5_setExit_39 rfl ?_
  refine am_iret hC hR (nar_b2i _) (by decide) (by decide) dX5_setExit_41 ?_
  refine ⟨k3_0 (IX_y (by omega) hd rfl) (and_tt (IX_y (by decide) hp0 rfl) (IX_y (by decide) hs0 rfl)) (decide_eq_true (by rw [dn_nI (by omega)]; exact hcg)), ?_, ?_⟩
  · rw [dn_nI (by omega), dn_nI (by omega)]
  · rw [dn_nI (by omega), dn_nI (by omega)]
set_option maxRecDepth 100000 in
set_option maxHeartbeats 4000000 in
theorem c_X5_drawings (G : am_G) (l : Launch) (htr : l.stackTraces = false) (h : am_H) (n np nq : Nat) (hci : CI h n np nq) : am_Met G l yX5_drawings (.code yX5_drawings cX5_drawings 1 (some .int)) 2 0 0 [.ref (3)] h (fun v h' => h' = h ∧ v = some (.int (nI n))) (am_no) := by
  have hF := hci.1.1
  have hD := hci.1.2.1
  have hB := hci.1.2.2
  have hn6 := hci.2.1.1
  have hn20 := hci.2.1.2.1
  have hn30 := hci.2.1.2.2
  obtain ⟨⟨c4, l4⟩, ⟨c5, l5⟩, ⟨c6, l6⟩⟩ := hci.2.2.1
  refine am_intro rfl htr rfl (Nat.le_of_ble_eq_true rfl) (fun Z hC hR hI => ?_)
  change am_W Z 0 0 0 [.ref (3)] [] h
  refine am_aload_n hC dX5_drawings_0 rfl ?_
  refine am_get (v := .ref (4)) hC (ci := 6) (N := 4) (j := 0) rfl (kC_3 hF) (by decide) tw_94 (Or.inl rfl) dX5_drawings_1 (am_rfe (rC_3_0 hF)) ?_
  refine am_callV hC (ci := 0) (N := 3) [] rfl (kC_4 hF) rfl mf_Jx4a65c_size_8abf5 tw_111 (c_size _ _ (am_tr hC) h 4 n c4 100 1 l4) rfl ⟨rfl, Nat.le_of_ble_eq_true rfl⟩ ⟨by decide, by decide⟩ (by decide) (by decide) dX5_drawings_4 rfl (fun _ _ q _ => False.elim q) (fun v h' hp hlc => ?_)
  obtain ⟨z8, z9⟩ := hp
  have z8 := z8.symm
  subst z8
  subst z9
  refine am_iret hC hR rfl (by decide) (by decide) dX5_drawings_7 ?_
  exact ⟨rfl, rfl⟩
set_option maxRecDepth 100000 in
set_option maxHeartbeats 4000000 in
theorem c_X5_side (G : am_G) (l : Launch) (htr : l.stackTraces = false) (h : am_H) (n np nq : Nat) (hci : CI h n np nq) (D : Int32) (S : Int32) : am_Met G l yX5_side (.code yX5_side cX5_side 4 (some .int)) 9 8 48 [.ref (3), .int (D), .int (S)] h (fun v h' => (k3 (IX n D) (IX 40 S) true) = 0 ∧ v = some (.int (sdH h (dn D) (dn S))) ∧ h' = h) (fun X h' => h' = h ∧ EX ["java/lang/IndexOutOfBoundsException", "java/lang/IllegalArgumentException", "java/lang/IllegalStateException"] (k3 (IX n D) (IX 40 S) true) X) := by
  have hF := hci.1.1
  have hD := hci.1.2.1
  have hB := hci.1.2.2
  have hn6 := hci.2.1.1
  have hn20 := hci.2.1.2.1
  have hn30 := hci.2.1.2.2
  obtain ⟨⟨c4, l4⟩, ⟨c5, l5⟩, ⟨c6, l6⟩⟩ := hci.2.2.1
  refine am_intro rfl htr rfl (Nat.le_of_ble_eq_true rfl) (fun Z hC hR hI => ?_)
  change am_W Z 0 0 0 [.ref (3), .int (D), .int (S), .null] [] h
  refine am_aload_n hC dX5_side_0 rfl ?_
  refine am_iload_n hC dX5_side_1 rfl ?_
  refine am_callV hC (ci := 6) (N := 4) [.int (D)] rfl (kC_3 hF) rfl mf_X5_drawingAt tw_276 (c_X5_drawingAt _ _ (am_tr hC) h n np nq hci D) rfl ⟨rfl, Nat.le_of_ble_eq_true rfl⟩ ⟨by decide, by decide⟩ (by decide) (by decide) dX5_side_2 rfl (fun X g hx hle => am_out hC hR (by decide) (by decide) (by obtain ⟨hx1, hx2, hx⟩ := hx; subst hx1; subst hx2; exact ⟨rfl, EX_1 ((IX_n (by omega) hx))⟩)) (fun v h' hp hlc => ?_)
  obtain ⟨z8, d, hd, z7, z9⟩ := hp
  have z8 := z8.symm
  subst z8
  subst z9
  subst z7
  refine am_astore_n hC dX5_side_5 (by decide) ?_
  change am_W _ _ _ _ [.ref (3), .int (nI d), .int (S), .ref (100 + 4 * d)] _ _
  refine am_iload_n hC dX5_side_6 rfl ?_
  refine am_callS hC [.int (S)] mf_X5_needSide tw_329 (c_X5_needSide _ _ (am_tr hC) h (S)) rfl ⟨rfl, Nat.le_of_ble_eq_true rfl⟩ ⟨by decide, by decide⟩ (by decide) (by decide) dX5_side_7 rfl (fun X g hx hle => am_out hC hR (by decide) (by decide) (by obtain ⟨hx1, hx2, hx⟩ := hx; subst hx1; subst hx2; exact ⟨rfl, EX_2 (IX_y (by omega) hd rfl) (IX_n (by decide) hx)⟩)) (fun v h' hp hlc => ?_)
  obtain ⟨rfl, z8, s, hs0, z7⟩ := hp
  have z8 := z8.symm
  subst z8
  subst z7
  refine am_aload_n hC dX5_side_10 rfl ?_
  refine am_iload_n hC dX5_side_11 rfl ?_
  refine am_callVN hC (ci := 1) (N := 5) [.int (nI s)] rfl (dk0 hD hd) rfl mf_X0_sideNow tw_354 (c_X0_sideNow _ _ (am_tr hC) h n hD hn6 d hd s hs0) rfl ⟨rfl, Nat.le_of_ble_eq_true rfl⟩ ⟨by decide, by decide⟩ (by decide) (by decide) dX5_side_12 rfl (fun _ _ q _ => False.elim q) (fun v h' hp hlc => ?_)
  obtain ⟨z9, z8⟩ := hp
  have z8 := z8.symm
  subst z8
  subst z9
  refine am_iret hC hR rfl (by decide) (by decide) dX5_side_15 ?_
  refine ⟨k3_0 (IX_y (by omega) hd rfl) (IX_y (by decide) hs0 rfl) rfl, ?_, rfl⟩
  rw [dn_nI (by omega), dn_nI (by omega)]
  rfl
set_option maxRecDepth 100000 in
set_option maxHeartbeats 4000000 in
theorem c_X5_hasExit (G : am_G) (l : Launch) (htr : l.stackTraces = false) (h : am_H) (n np nq : Nat) (hci : CI h n np nq) (D : Int32) (S : Int32) : am_Met G l yX5_hasExit (.code yX5_hasExit cX5_hasExit 4 (some .boolean)) 9 8 48 [.ref (3), .int (D), .int (S)] h (fun v h' => (k3 (IX n D) (IX 25 S) true) = 0 ∧ v = some (.int (b2i (exH h (dn D) (dn S)))) ∧ h' = h) (fun X h' => h' = h ∧ EX ["java/lang/IndexOutOfBoundsException", "java/lang/IllegalArgumentException", "java/lang/IllegalStateException"] (k3 (IX n D) (IX 25 S) true) X) := by
  have hF := hci.1.1
  have hD := hci.1.2.1
  have hB := hci.1.2.2
  have hn6 := hci.2.1.1
  have hn20 := hci.2.1.2.1
  have hn30 := hci.2.1.2.2
  obtain ⟨⟨c4, l4⟩, ⟨c5, l5⟩, ⟨c6, l6⟩⟩ := hci.2.2.1
  refine am_intro rfl htr rfl (Nat.le_of_ble_eq_true rfl) (fun Z hC hR hI => ?_)
  change am_W Z 0 0 0 [.ref (3), .int (D), .int (S), .null] [] h
  refine am_aload_n hC dX5_hasExit_0 rfl ?_
  refine am_iload_n hC dX5_hasExit_1 rfl ?_
  refine am_callV hC (ci := 6) (N := 4) [.int (D)] rfl (kC_3 hF) rfl mf_X5_drawingAt tw_276 (c_X5_drawingAt _ _ (am_tr hC) h n np nq hci D) rfl ⟨rfl, Nat.le_of_ble_eq_true rfl⟩ ⟨by decide, by decide⟩ (by decide) (by decide) dX5_hasExit_2 rfl (fun X g hx hle => am_out hC hR (by decide) (by decide) (by obtain ⟨hx1, hx2, hx⟩ := hx; subst hx1; subst hx2; exact ⟨rfl, EX_1 ((IX_n (by omega) hx))⟩)) (fun v h' hp hlc => ?_)
  obtain ⟨z8, d, hd, z7, z9⟩ := hp
  have z8 := z8.symm
  subst z8
  subst z9
  subst z7
  refine am_astore_n hC dX5_hasExit_5 (by decide) ?_
  change am_W _ _ _ _ [.ref (3), .int (nI d), .int (S), .ref (100 + 4 * d)] _ _
  refine am_iload_n hC dX5_hasExit_6 rfl ?_
  refine am_callS hC [.int (S)] mf_X5_needCell tw_346 (c_X5_needCell _ _ (am_tr hC) h (S)) rfl ⟨rfl, Nat.le_of_ble_eq_true rfl⟩ ⟨by decide, by decide⟩ (by decide) (by decide) dX5_hasExit_7 rfl (fun X g hx hle => am_out hC hR (by decide) (by decide) (by obtain ⟨hx1, hx2, hx⟩ := hx; subst hx1; subst hx2; exact ⟨rfl, EX_2 (IX_y (by omega) hd rfl) (IX_n (by decide) hx)⟩)) (fun v h' hp hlc => ?_)
  obtain ⟨rfl, z8, s, hs0, z7⟩ := hp
  have z8 := z8.symm
  subst z8
  subst z7
  refine am_aload_n hC dX5_hasExit_10 rfl ?_
  refine am_iload_n hC dX5_hasExit_11 rfl ?_
  refine am_callVN hC (ci := 1) (N := 5) [.int (nI s)] rfl (dk0 hD hd) rfl mf_X0_exitNow tw_466 (c_X0_exitNow _ _ (am_tr hC) h n hD hn6 d hd hB s hs0) rfl ⟨rfl, Nat.le_of_ble_eq_true rfl⟩ ⟨by decide, by decide⟩ (by decide) (by decide) dX5_hasExit_12 rfl (fun _ _ q _ => False.elim q) (fun v h' hp hlc => ?_)
  obtain ⟨z9, z8⟩ := hp
  have z8 := z8.symm
  subst z8
  subst z9
  refine am_iret hC hR (nar_b2i _) (by decide) (by decide) dX5_hasExit_15 ?_
  refine ⟨k3_0 (IX_y (by omega) hd rfl) (IX_y (by decide) hs0 rfl) rfl, ?_, rfl⟩
  rw [dn_nI (by omega), dn_nI (by omega)]
  rfl
set_option maxRecDepth 100000 in
set_option maxHeartbeats 4000000 in
theorem c_X5_lock (G : am_G) (l : Launch) (htr : l.stackTraces = false) (h : am_H) (n np nq : Nat) (hci : CI h n np nq) (D : Int32) (P : Int32) : am_Met G l yX5_lock (.code yX5_lock cX5_lock 4 none) 9 8 48 [.ref (3), .int (D), .int (P)] h (fun v h' => (k3 (IX n D) (IX 6 P) (decide (hi_ h (100 + 4 * dn D) 3 = -1))) = 0 ∧ v = none ∧ h' = am_sI h (100 + 4 * dn D) 3 P) (fun X h' => h' = h ∧ EX ["java/lang/IndexOutOfBoundsException", "java/lang/IllegalArgumentException", "java/lang/IllegalStateException"] (k3 (IX n D) (IX 6 P) (decide (hi_ h (100 + 4 * dn D) 3 = -1))) X) := by
  have hF := hci.1.1
  have hD := hci.1.2.1
  have hB := hci.1.2.2
  have hn6 := hci.2.1.1
  have hn20 := hci.2.1.2.1
  have hn30 := hci.2.1.2.2
  obtain ⟨⟨c4, l4⟩, ⟨c5, l5⟩, ⟨c6, l6⟩⟩ := hci.2.2.1
  refine am_intro rfl htr rfl (Nat.le_of_ble_eq_true rfl) (fun Z hC hR hI => ?_)
  change am_W Z 0 0 0 [.ref (3), .int (D), .int (P), .null] [] h
  refine am_aload_n hC dX5_lock_0 rfl ?_
  refine am_iload_n hC dX5_lock_1 rfl ?_
  refine am_callV hC (ci := 6) (N := 4) [.int (D)] rfl (kC_3 hF) rfl mf_X5_drawingAt tw_276 (c_X5_drawingAt _ _ (am_tr hC) h n np nq hci D) rfl ⟨rfl, Nat.le_of_ble_eq_true rfl⟩ ⟨by decide, by decide⟩ (by decide) (by decide) dX5_lock_2 rfl (fun X g hx hle => am_out hC hR (by decide) (by decide) (by obtain ⟨hx1, hx2, hx⟩ := hx; subst hx1; subst hx2; exact ⟨rfl, EX_1 ((IX_n (by omega) hx))⟩)) (fun v h' hp hlc => ?_)
  obtain ⟨z8, d, hd, z7, z9⟩ := hp
  have z8 := z8.symm
  subst z8
  subst z9
  subst z7
  refine am_astore_n hC dX5_lock_5 (by decide) ?_
  change am_W _ _ _ _ [.ref (3), .int (nI d), .int (P), .ref (100 + 4 * d)] _ _
  refine am_iload_n hC dX5_lock_6 rfl ?_
  refine am_callS hC [.int (P)] mf_X5_needPerson tw_310 (c_X5_needPerson _ _ (am_tr hC) h (P)) rfl ⟨rfl, Nat.le_of_ble_eq_true rfl⟩ ⟨by decide, by decide⟩ (by decide) (by decide) dX5_lock_7 rfl (fun X g hx hle => am_out hC hR (by decide) (by decide) (by obtain ⟨hx1, hx2, hx⟩ := hx; subst hx1; subst hx2; exact ⟨rfl, EX_2 (IX_y (by omega) hd rfl) (IX_n (by decide) hx)⟩)) (fun v h' hp hlc => ?_)
  obtain ⟨rfl, z8, p, hp0, z7⟩ := hp
  have z8 := z8.symm
  subst z8
  subst z7
  refine am_aload_n hC dX5_lock_10 rfl ?_
  refine am_getN (v := .int (hi_ h (100 + 4 * d) 3)) hC (ci := 1) (N := 5) (j := 3) rfl (dk0 hD hd) (by decide) tw_201 dX5_lock_11 rfl ?_
  refine am_iconst (v := -1) hC dX5_lock_14 (by decide) ?_
  refine am_icmp_eq (tgt := 28) hC dX5_lock_15 (by decide) (fun c_15 => ?_) (fun c_15 => ?_)
  · refine am_aload_n hC dX5_lock_28 rfl ?_
    refine am_iload_n hC dX5_lock_29 rfl ?_
    refine am_putNI hC (ci := 1) (N := 5) (j := 3) rfl (dk0 hD hd) (by decide) rfl rfl rfl tw_201 dX5_lock_30 ?_
    refine am_vret hC hR (by decide) (by decide) dX5_lock_33 ?_
    refine ⟨k3_0 (IX_y (by omega) hd rfl) (IX_y (by decide) hp0 rfl) (decide_eq_true ?_), rfl, ?_⟩
    · rw [dn_nI (by omega)]; exact c_15
    · rw [dn_nI (by omega)]
  · refine am_throw hC hR (X := "java/lang/IllegalStateException") (text := "the drawing is locked") (by decide +kernel) tw_115 tw_13 tw_446 xw_RX5_37 ⟨rfl, Nat.le_of_ble_eq_true rfl⟩ (by decide) (by decide) (by decide) dX5_lock_18 dX5_lock_21 dX5_lock_22 dX5_lock_24 dX5_lock_27 ?_
    refine ⟨rfl, EX_3 (IX_y (by omega) hd rfl) (IX_y (by decide) hp0 rfl) (decide_eq_false (fun z => c_15 ?_))⟩
    rw [dn_nI (by omega)] at z
    exact z
set_option maxRecDepth 100000 in
set_option maxHeartbeats 4000000 in
theorem c_X5_unlock (G : am_G) (l : Launch) (htr : l.stackTraces = false) (h : am_H) (n np nq : Nat) (hci : CI h n np nq) (D : Int32) (P : Int32) : am_Met G l yX5_unlock (.code yX5_unlock cX5_unlock 4 none) 9 8 48 [.ref (3), .int (D), .int (P)] h (fun v h' => (k3 (IX n D) (IX 6 P) (decide (hi_ h (100 + 4 * dn D) 3 = P) && decide (hi_ h (100 + 4 * dn D) 4 = -1))) = 0 ∧ v = none ∧ h' = am_sI h (100 + 4 * dn D) 3 (-1)) (fun X h' => h' = h ∧ EX ["java/lang/IndexOutOfBoundsException", "java/lang/IllegalArgumentException", "java/lang/IllegalStateException"] (k3 (IX n D) (IX 6 P) (decide (hi_ h (100 + 4 * dn D) 3 = P) && decide (hi_ h (100 + 4 * dn D) 4 = -1))) X) := by
  have hF := hci.1.1
  have hD := hci.1.2.1
  have hB := hci.1.2.2
  have hn6 := hci.2.1.1
  have hn20 := hci.2.1.2.1
  have hn30 := hci.2.1.2.2
  obtain ⟨⟨c4, l4⟩, ⟨c5, l5⟩, ⟨c6, l6⟩⟩ := hci.2.2.1
  refine am_intro rfl htr rfl (Nat.le_of_ble_eq_true rfl) (fun Z hC hR hI => ?_)
  change am_W Z 0 0 0 [.ref (3), .int (D), .int (P), .null] [] h
  refine am_aload_n hC dX5_unlock_0 rfl ?_
  refine am_iload_n hC dX5_unlock_1 rfl ?_
  refine am_callV hC (ci := 6) (N := 4) [.int (D)] rfl (kC_3 hF) rfl mf_X5_drawingAt tw_276 (c_X5_drawingAt _ _ (am_tr hC) h n np nq hci D) rfl ⟨rfl, Nat.le_of_ble_eq_true rfl⟩ ⟨by decide, by decide⟩ (by decide) (by decide) dX5_unlock_2 rfl (fun X g hx hle => am_out hC hR (by decide) (by decide) (by obtain ⟨hx1, hx2, hx⟩ := hx; subst hx1; subst hx2; exact ⟨rfl, EX_1 ((IX_n (by omega) hx))⟩)) (fun v h' hp hlc => ?_)
  obtain ⟨z8, d, hd, z7, z9⟩ := hp
  have z8 := z8.symm
  subst z8
  subst z9
  subst z7
  refine am_astore_n hC dX5_unlock_5 (by decide) ?_
  change am_W _ _ _ _ [.ref (3), .int (nI d), .int (P), .ref (100 + 4 * d)] _ _
  refine am_iload_n hC dX5_unlock_6 rfl ?_
  refine am_callS hC [.int (P)] mf_X5_needPerson tw_310 (c_X5_needPerson _ _ (am_tr hC) h (P)) rfl ⟨rfl, Nat.le_of_ble_eq_true rfl⟩ ⟨by decide, by decide⟩ (by decide) (by decide) dX5_unlock_7 rfl (fun X g hx hle => am_out hC hR (by decide) (by decide) (by obtain ⟨hx1, hx2, hx⟩ := hx; subst hx1; subst hx2; exact ⟨rfl, EX_2 (IX_y (by omega) hd rfl) (IX_n (by decide) hx)⟩)) (fun v h' hp hlc => ?_)
  obtain ⟨rfl, z8, p, hp0, z7⟩ := hp
  have z8 := z8.symm
  subst z8
  subst z7
  refine am_aload_n hC dX5_unlock_10 rfl ?_
  refine am_iload_n hC dX5_unlock_11 rfl ?_
  refine am_callS hC [.ref (100 + 4 * d), .int (nI p)] mf_X5_needLocker tw_488 (c_X5_needLocker _ _ (am_tr hC) h n hD d hd (nI p)) rfl ⟨rfl, Nat.le_of_ble_eq_true rfl⟩ ⟨by decide, by decide⟩ (by decide) (by decide) dX5_unlock_12 rfl (fun X g hx hle => am_out hC hR (by decide) (by decide) (by obtain ⟨hx1, hx2, hx⟩ := hx; subst hx1; subst hx2; exact ⟨rfl, EX_3 (IX_y (by omega) hd rfl) (IX_y (by decide) hp0 rfl) (and_fl (decide_eq_false (fun z => hx (by rw [dn_nI (by omega)] at z; exact z))))⟩)) (fun v h' hp hlc => ?_)
  obtain ⟨rfl, z8, hcg⟩ := hp
  have z8 := z8.symm
  subst z8
  refine am_aload_n hC dX5_unlock_15 rfl ?_
  refine am_getN (v := .int (hi_ h (100 + 4 * d) 4)) hC (ci := 1) (N := 5) (j := 4) rfl (dk0 hD hd) (by decide) tw_203 dX5_unlock_16 rfl ?_
  refine am_iconst (v := -1) hC dX5_unlock_19 (by decide) ?_
  refine am_icmp_eq (tgt := 33) hC dX5_unlock_20 (by decide) (fun c_20 => ?_) (fun c_20 => ?_)
  · refine am_aload_n hC dX5_unlock_33 rfl ?_
    refine am_iconst (v := -1) hC dX5_unlock_34 (by decide) ?_
    refine am_putNI hC (ci := 1) (N := 5) (j := 3) rfl (dk0 hD hd) (by decide) rfl rfl rfl tw_201 dX5_unlock_35 ?_
    refine am_vret hC hR (by decide) (by decide) dX5_unlock_38 ?_
    refine ⟨k3_0 (IX_y (by omega) hd rfl) (IX_y (by decide) hp0 rfl) (and_tt (decide_eq_true ?_) (decide_eq_true ?_)), rfl, ?_⟩
    · rw [dn_nI (by omega)]; exact hcg
    · rw [dn_nI (by omega)]; exact c_20
    · rw [dn_nI (by omega)]
  · refine am_throw hC hR (X := "java/lang/IllegalStateException") (text := "the lock is lent") (by decide +kernel) tw_115 tw_13 tw_592 xw_RX5_37 ⟨rfl, Nat.le_of_ble_eq_true rfl⟩ (by decide) (by decide) (by decide) dX5_unlock_23 dX5_unlock_26 dX5_unlock_27 dX5_unlock_29 dX5_unlock_32 ?_
    refine ⟨rfl, EX_3 (IX_y (by omega) hd rfl) (IX_y (by decide) hp0 rfl) (and_ff (decide_eq_false (fun z => c_20 ?_)))⟩
    rw [dn_nI (by omega)] at z
    exact z
set_option maxRecDepth 100000 in
set_option maxHeartbeats 4000000 in
theorem c_X5_canChange (G : am_G) (l : Launch) (htr : l.stackTraces = false) (h : am_H) (n np nq : Nat) (hci : CI h n np nq) (D : Int32) : am_Met G l yX5_canChange (.code yX5_canChange cX5_canChange 2 (some .int)) 9 8 48 [.ref (3), .int (D)] h (fun v h' => (k3 (IX n D) true true) = 0 ∧ v = some (.int (chg h (dn D))) ∧ h' = h) (fun X h' => h' = h ∧ EX ["java/lang/IndexOutOfBoundsException", "java/lang/IllegalArgumentException", "java/lang/IllegalStateException"] (k3 (IX n D) true true) X) := by
  have hF := hci.1.1
  have hD := hci.1.2.1
  have hB := hci.1.2.2
  have hn6 := hci.2.1.1
  have hn20 := hci.2.1.2.1
  have hn30 := hci.2.1.2.2
  obtain ⟨⟨c4, l4⟩, ⟨c5, l5⟩, ⟨c6, l6⟩⟩ := hci.2.2.1
  refine am_intro rfl htr rfl (Nat.le_of_ble_eq_true rfl) (fun Z hC hR hI => ?_)
  change am_W Z 0 0 0 [.ref (3), .int (D)] [] h
  refine am_aload_n hC dX5_canChange_0 rfl ?_
  refine am_iload_n hC dX5_canChange_1 rfl ?_
  refine am_callV hC (ci := 6) (N := 4) [.int (D)] rfl (kC_3 hF) rfl mf_X5_drawingAt tw_276 (c_X5_drawingAt _ _ (am_tr hC) h n np nq hci D) rfl ⟨rfl, Nat.le_of_ble_eq_true rfl⟩ ⟨by decide, by decide⟩ (by decide) (by decide) dX5_canChange_2 rfl (fun X g hx hle => am_out hC hR (by decide) (by decide) (by obtain ⟨hx1, hx2, hx⟩ := hx; subst hx1; subst hx2; exact ⟨rfl, EX_1 ((IX_n (by omega) hx))⟩)) (fun v h' hp hlc => ?_)
  obtain ⟨z8, d, hd, z7, z9⟩ := hp
  have z8 := z8.symm
  subst z8
  subst z9
  subst z7
  refine am_callVN hC (ci := 1) (N := 5) [] rfl (dk0 hD hd) rfl mf_X0_changer tw_337 (c_X0_changer _ _ (am_tr hC) h n hD d hd) rfl ⟨rfl, Nat.le_of_ble_eq_true rfl⟩ ⟨by decide, by decide⟩ (by decide) (by decide) dX5_canChange_5 rfl (fun _ _ q _ => False.elim q) (fun v h' hp hlc => ?_)
  obtain ⟨z8, z9⟩ := hp
  have z8 := z8.symm
  subst z8
  subst z9
  refine am_iret hC hR rfl (by decide) (by decide) dX5_canChange_8 ?_
  refine ⟨k3_0 (IX_y (by omega) hd rfl) rfl rfl, ?_, rfl⟩
  rw [dn_nI (by omega)]
set_option maxRecDepth 100000 in
set_option maxHeartbeats 4000000 in
theorem c_X5_lend (G : am_G) (l : Launch) (htr : l.stackTraces = false) (h : am_H) (n np nq : Nat) (hci : CI h n np nq) (D : Int32) (P : Int32) (O : Int32) : am_Met G l yX5_lend (.code yX5_lend cX5_lend 6 (some .int)) 9 8 48 [.ref (3), .int (D), .int (P), .int (O)] h (fun v h' => (k3 (IX n D) (IX 6 P && ((decide (O = -1) || IX 6 O) && !decide (P = O))) (decide (hi_ h (100 + 4 * dn D) 3 = P))) = 0 ∧ v = some (.int (hi_ h (100 + 4 * dn D) 4)) ∧ h' = am_sI h (100 + 4 * dn D) 4 O) (fun X h' => h' = h ∧ EX ["java/lang/IndexOutOfBoundsException", "java/lang/IllegalArgumentException", "java/lang/IllegalStateException"] (k3 (IX n D) (IX 6 P && ((decide (O = -1) || IX 6 O) && !decide (P = O))) (decide (hi_ h (100 + 4 * dn D) 3 = P))) X) := by
  have hF := hci.1.1
  have hD := hci.1.2.1
  have hB := hci.1.2.2
  have hn6 := hci.2.1.1
  have hn20 := hci.2.1.2.1
  have hn30 := hci.2.1.2.2
  obtain ⟨⟨c4, l4⟩, ⟨c5, l5⟩, ⟨c6, l6⟩⟩ := hci.2.2.1
  refine am_intro rfl htr rfl (Nat.le_of_ble_eq_true rfl) (fun Z hC hR hI => ?_)
  change am_W Z 0 0 0 [.ref (3), .int (D), .int (P), .int (O), .null, .null] [] h
  refine am_aload_n hC dX5_lend_0 rfl ?_
  refine am_iload_n hC dX5_lend_1 rfl ?_
  refine am_callV hC (ci := 6) (N := 4) [.int (D)] rfl (kC_3 hF) rfl mf_X5_drawingAt tw_276 (c_X5_drawingAt _ _ (am_tr hC) h n np nq hci D) rfl ⟨rfl, Nat.le_of_ble_eq_true rfl⟩ ⟨by decide, by decide⟩ (by decide) (by decide) dX5_lend_2 rfl (fun X g hx hle => am_out hC hR (by decide) (by decide) (by obtain ⟨hx1, hx2, hx⟩ := hx; subst hx1; subst hx2; exact ⟨rfl, EX_1 ((IX_n (by omega) hx))⟩)) (fun v h' hp hlc => ?_)
  obtain ⟨z8, d, hd, z7, z9⟩ := hp
  have z8 := z8.symm
  subst z8
  subst z9
  subst z7
  refine am_astore hC dX5_lend_5 (by decide) ?_
  change am_W _ _ _ _ [.ref (3), .int (nI d), .int (P), .int (O), .ref (100 + 4 * d), .null] _ _
  refine am_iload_n hC dX5_lend_7 rfl ?_
  refine am_callS hC [.int (P)] mf_X5_needPerson tw_310 (c_X5_needPerson _ _ (am_tr hC) h (P)) rfl ⟨rfl, Nat.le_of_ble_eq_true rfl⟩ ⟨by decide, by decide⟩ (by decide) (by decide) dX5_lend_8 rfl (fun X g hx hle => am_out hC hR (by decide) (by decide) (by obtain ⟨hx1, hx2, hx⟩ := hx; subst hx1; subst hx2; exact ⟨rfl, EX_2 (IX_y (by omega) hd rfl) (and_fl (IX_n (by decide) hx))⟩)) (fun v h' hp hlc => ?_)
  obtain ⟨rfl, z8, p, hp0, z7⟩ := hp
  have z8 := z8.symm
  subst z8
  subst z7
  refine am_iload_n hC dX5_lend_11 rfl ?_
  refine am_iconst (v := -1) hC dX5_lend_12 (by decide) ?_
  refine am_icmp_eq (tgt := 20) hC dX5_lend_13 (by decide) (fun c_13 => ?_) (fun c_13 => ?_)
  · have hO : (decide (O = -1) || IX 6 O) = true := by rw [decide_eq_true c_13]; rfl
    refine am_iload_n hC dX5_lend_20 rfl ?_
    refine am_iload_n hC dX5_lend_21 rfl ?_
    refine am_icmp_ne (tgt := 35) hC dX5_lend_22 (by decide) (fun c_22 => ?_) (fun c_22 => ?_)
    · refine am_aload hC dX5_lend_35 rfl ?_
      refine am_iload_n hC dX5_lend_37 rfl ?_
      refine am_callS hC [.ref (100 + 4 * d), .int (nI p)] mf_X5_needLocker tw_488 (c_X5_needLocker _ _ (am_tr hC) h n hD d hd (nI p)) rfl ⟨rfl, Nat.le_of_ble_eq_true rfl⟩ ⟨by decide, by decide⟩ (by decide) (by decide) dX5_lend_38 rfl (fun X g hx hle => am_out hC hR (by decide) (by decide) (by obtain ⟨hx1, hx2, hx⟩ := hx; subst hx1; subst hx2; exact ⟨rfl, EX_3 (IX_y (by omega) hd rfl) (and_tt (IX_y (by decide) hp0 rfl) (and_tt hO (by rw [decide_eq_false c_22]; rfl))) (decide_eq_false (fun z => hx (by rw [dn_nI (by omega)] at z; exact z)))⟩)) (fun v h' hp hlc => ?_)
      obtain ⟨rfl, z8, hcg⟩ := hp
      have z8 := z8.symm
      subst z8
      refine am_aload hC dX5_lend_41 rfl ?_
      refine am_getN (v := .int (hi_ h (100 + 4 * d) 4)) hC (ci := 1) (N := 5) (j := 4) rfl (dk0 hD hd) (by decide) tw_203 dX5_lend_43 rfl ?_
      refine am_istore hC dX5_lend_46 (by decide) ?_
      change am_W _ _ _ _ [.ref (3), .int (nI d), .int (nI p), .int (O), .ref (100 + 4 * d), .int (hi_ h (100 + 4 * d) 4)] _ _
      refine am_aload hC dX5_lend_48 rfl ?_
      refine am_iload_n hC dX5_lend_50 rfl ?_
      refine am_putNI hC (ci := 1) (N := 5) (j := 4) rfl (dk0 hD hd) (by decide) rfl rfl rfl tw_203 dX5_lend_51 ?_
      refine am_iload hC dX5_lend_54 rfl ?_
      refine am_iret hC hR rfl (by decide) (by decide) dX5_lend_56 ?_
      refine ⟨k3_0 (IX_y (by omega) hd rfl) (and_tt (IX_y (by decide) hp0 rfl) (and_tt hO (by rw [decide_eq_false c_22]; rfl))) (decide_eq_true ?_), ?_, ?_⟩
      · rw [dn_nI (by omega)]; exact hcg
      · rw [dn_nI (by omega)]
      · rw [dn_nI (by omega)]
    · refine am_throw hC hR (X := "java/lang/IllegalArgumentException") (text := "nobody lends to himself") (by decide +kernel) tw_313 tw_19 tw_487 xw_RX5_62 ⟨rfl, Nat.le_of_ble_eq_true rfl⟩ (by decide) (by decide) (by decide) dX5_lend_25 dX5_lend_28 dX5_lend_29 dX5_lend_31 dX5_lend_34 ?_
      exact ⟨rfl, EX_2 (IX_y (by omega) hd rfl) (and_ff (and_ff (by rw [decide_eq_true c_22]; rfl)))⟩
  · refine am_iload_n hC dX5_lend_16 rfl ?_
    refine am_callS hC [.int (O)] mf_X5_needPerson tw_310 (c_X5_needPerson _ _ (am_tr hC) h (O)) rfl ⟨rfl, Nat.le_of_ble_eq_true rfl⟩ ⟨by decide, by decide⟩ (by decide) (by decide) dX5_lend_17 rfl (fun X g hx hle => am_out hC hR (by decide) (by decide) (by obtain ⟨hx1, hx2, hx⟩ := hx; subst hx1; subst hx2; exact ⟨rfl, EX_2 (IX_y (by omega) hd rfl) (and_ff (and_fl (by rw [decide_eq_false c_13, IX_n (by decide) hx]; rfl)))⟩)) (fun v h' hp hlc => ?_)
    obtain ⟨rfl, z8, o, ho, z7⟩ := hp
    have z8 := z8.symm
    subst z8
    subst z7
    have hO : (decide (nI o = -1) || IX 6 (nI o)) = true := by rw [IX_y (by decide) ho rfl]; exact Bool.or_true _
    refine am_iload_n hC dX5_lend_20 rfl ?_
    refine am_iload_n hC dX5_lend_21 rfl ?_
    refine am_icmp_ne (tgt := 35) hC dX5_lend_22 (by decide) (fun c_22 => ?_) (fun c_22 => ?_)
    · refine am_aload hC dX5_lend_35 rfl ?_
      refine am_iload_n hC dX5_lend_37 rfl ?_
      refine am_callS hC [.ref (100 + 4 * d), .int (nI p)] mf_X5_needLocker tw_488 (c_X5_needLocker _ _ (am_tr hC) h n hD d hd (nI p)) rfl ⟨rfl, Nat.le_of_ble_eq_true rfl⟩ ⟨by decide, by decide⟩ (by decide) (by decide) dX5_lend_38 rfl (fun X g hx hle => am_out hC hR (by decide) (by decide) (by obtain ⟨hx1, hx2, hx⟩ := hx; subst hx1; subst hx2; exact ⟨rfl, EX_3 (IX_y (by omega) hd rfl) (and_tt (IX_y (by decide) hp0 rfl) (and_tt hO (by rw [decide_eq_false c_22]; rfl))) (decide_eq_false (fun z => hx (by rw [dn_nI (by omega)] at z; exact z)))⟩)) (fun v h' hp hlc => ?_)
      obtain ⟨rfl, z8, hcg⟩ := hp
      have z8 := z8.symm
      subst z8
      refine am_aload hC dX5_lend_41 rfl ?_
      refine am_getN (v := .int (hi_ h (100 + 4 * d) 4)) hC (ci := 1) (N := 5) (j := 4) rfl (dk0 hD hd) (by decide) tw_203 dX5_lend_43 rfl ?_
      refine am_istore hC dX5_lend_46 (by decide) ?_
      change am_W _ _ _ _ [.ref (3), .int (nI d), .int (nI p), .int (nI o), .ref (100 + 4 * d), .int (hi_ h (100 + 4 * d) 4)] _ _
      refine am_aload hC dX5_lend_48 rfl ?_
      refine am_iload_n hC dX5_lend_50 rfl ?_
      refine am_putNI hC (ci := 1) (N := 5) (j := 4) rfl (dk0 hD hd) (by decide) rfl rfl rfl tw_203 dX5_lend_51 ?_
      refine am_iload hC dX5_lend_54 rfl ?_
      refine am_iret hC hR rfl (by decide) (by decide) dX5_lend_56 ?_
      refine ⟨k3_0 (IX_y (by omega) hd rfl) (and_tt (IX_y (by decide) hp0 rfl) (and_tt hO (by rw [decide_eq_false c_22]; rfl))) (decide_eq_true ?_), ?_, ?_⟩
      · rw [dn_nI (by omega)]; exact hcg
      · rw [dn_nI (by omega)]
      · rw [dn_nI (by omega)]
    · refine am_throw hC hR (X := "java/lang/IllegalArgumentException") (text := "nobody lends to himself") (by decide +kernel) tw_313 tw_19 tw_487 xw_RX5_62 ⟨rfl, Nat.le_of_ble_eq_true rfl⟩ (by decide) (by decide) (by decide) dX5_lend_25 dX5_lend_28 dX5_lend_29 dX5_lend_31 dX5_lend_34 ?_
      exact ⟨rfl, EX_2 (IX_y (by omega) hd rfl) (and_ff (and_ff (by rw [decide_eq_true c_22]; rfl)))⟩
set_option maxRecDepth 100000 in
set_option maxHeartbeats 4000000 in
theorem c_X5_refer (G : am_G) (l : Launch) (htr : l.stackTraces = false) (h : am_H) (n np nq : Nat) (hci : CI h n np nq) (D P O : Int32) (b : Bool) : am_Met G l yX5_refer (.code yX5_refer cX5_refer 8 (some .boolean)) 9 8 48 [.ref (3), .int (D), .int (P), .int (O), .int (b2i b)] h (fun v h' => (k3 (IX n D && IX n O) (IX 6 P) (decide (chg h (dn D) = P) && !(b && ldF (rC h) 6 (dn O) (dn D)))) = 0 ∧ v = some (.int (b2i (rC h (dn D) (dn O)))) ∧ h' = am_sR h (103 + 4 * dn D) (dn O) (if b = true then 100 + 4 * dn O else 0)) (fun X h' => h' = h ∧ EX ["java/lang/IndexOutOfBoundsException", "java/lang/IllegalArgumentException", "java/lang/IllegalStateException"] (k3 (IX n D && IX n O) (IX 6 P) (decide (chg h (dn D) = P) && !(b && ldF (rC h) 6 (dn O) (dn D)))) X) := by
  have hF := hci.1.1
  have hD := hci.1.2.1
  have hB := hci.1.2.2
  have hn6 := hci.2.1.1
  have hn20 := hci.2.1.2.1
  have hn30 := hci.2.1.2.2
  obtain ⟨⟨c4, l4⟩, ⟨c5, l5⟩, ⟨c6, l6⟩⟩ := hci.2.2.1
  refine am_intro rfl htr rfl (Nat.le_of_ble_eq_true rfl) (fun Z hC hR hI => ?_)
  change am_W Z 0 0 0 [.ref (3), .int (D), .int (P), .int (O), .int (b2i b), .null, .null, .null] [] h
  cases b
  · refine am_aload_n hC dX5_refer_0 rfl ?_
    refine am_iload_n hC dX5_refer_1 rfl ?_
    refine am_callV hC (ci := 6) (N := 4) [.int (D)] rfl (kC_3 hF) rfl mf_X5_drawingAt tw_276 (c_X5_drawingAt _ _ (am_tr hC) h n np nq hci D) rfl ⟨rfl, Nat.le_of_ble_eq_true rfl⟩ ⟨by decide, by decide⟩ (by decide) (by decide) dX5_refer_2 rfl (fun X g hx hle => am_out hC hR (by decide) (by decide) (by obtain ⟨hx1, hx2, hx⟩ := hx; subst hx1; subst hx2; exact ⟨rfl, EX_1 (and_fl (IX_n (by omega) hx))⟩)) (fun v h' hp hlc => ?_)
    obtain ⟨z8, d, hd, z7, z9⟩ := hp
    have z8 := z8.symm
    subst z8
    subst z9
    subst z7
    refine am_astore hC dX5_refer_5 (by decide) ?_
    change am_W _ _ _ _ [.ref (3), .int (nI d), .int (P), .int (O), .int (b2i false), .ref (100 + 4 * d), .null, .null] _ _
    refine am_aload_n hC dX5_refer_7 rfl ?_
    refine am_iload_n hC dX5_refer_8 rfl ?_
    refine am_callV hC (ci := 6) (N := 4) [.int (O)] rfl (kC_3 hF) rfl mf_X5_drawingAt tw_276 (c_X5_drawingAt _ _ (am_tr hC) h n np nq hci O) rfl ⟨rfl, Nat.le_of_ble_eq_true rfl⟩ ⟨by decide, by decide⟩ (by decide) (by decide) dX5_refer_9 rfl (fun X g hx hle => am_out hC hR (by decide) (by decide) (by obtain ⟨hx1, hx2, hx⟩ := hx; subst hx1; subst hx2; exact ⟨rfl, EX_1 (and_ff (IX_n (by omega) hx))⟩)) (fun v h' hp hlc => ?_)
    obtain ⟨z8, o, ho, z7, z9⟩ := hp
    have z8 := z8.symm
    subst z8
    subst z9
    subst z7
    refine am_astore hC dX5_refer_12 (by decide) ?_
    change am_W _ _ _ _ [.ref (3), .int (nI d), .int (P), .int (nI o), .int (b2i false), .ref (100 + 4 * d), .ref (100 + 4 * o), .null] _ _
    refine am_iload_n hC dX5_refer_14 rfl ?_
    refine am_callS hC [.int (P)] mf_X5_needPerson tw_310 (c_X5_needPerson _ _ (am_tr hC) h (P)) rfl ⟨rfl, Nat.le_of_ble_eq_true rfl⟩ ⟨by decide, by decide⟩ (by decide) (by decide) dX5_refer_15 rfl (fun X g hx hle => am_out hC hR (by decide) (by decide) (by obtain ⟨hx1, hx2, hx⟩ := hx; subst hx1; subst hx2; exact ⟨rfl, EX_2 (and_tt (IX_y (by omega) hd rfl) (IX_y (by omega) ho rfl)) (IX_n (by decide) hx)⟩)) (fun v h' hp hlc => ?_)
    obtain ⟨rfl, z8, p, hp0, z7⟩ := hp
    have z8 := z8.symm
    subst z8
    subst z7
    refine am_aload hC dX5_refer_18 rfl ?_
    refine am_iload_n hC dX5_refer_20 rfl ?_
    refine am_callS hC [.ref (100 + 4 * d), .int (nI p)] mf_X5_needChanger tw_334 (c_X5_needChanger _ _ (am_tr hC) h n hD d hd (nI p)) rfl ⟨rfl, Nat.le_of_ble_eq_true rfl⟩ ⟨by decide, by decide⟩ (by decide) (by decide) dX5_refer_21 rfl (fun X g hx hle => am_out hC hR (by decide) (by decide) (by obtain ⟨hx1, hx2, hx⟩ := hx; subst hx1; subst hx2; exact ⟨rfl, EX_3 (and_tt (IX_y (by omega) hd rfl) (IX_y (by omega) ho rfl)) (IX_y (by decide) hp0 rfl) (and_fl (decide_eq_false (fun z => hx (by rw [dn_nI (by omega)] at z; exact z))))⟩)) (fun v h' hp hlc => ?_)
    obtain ⟨rfl, z8, hcg⟩ := hp
    have z8 := z8.symm
    subst z8
    refine am_iload hC dX5_refer_24 rfl ?_
    refine am_if_eq (tgt := 49) hC dX5_refer_26 (by decide) (fun c_26 => ?_) (fun c_26 => absurd rfl c_26)
    refine am_aload hC dX5_refer_49 rfl ?_
    refine am_getN (v := .ref (103 + 4 * d)) hC (ci := 1) (N := 5) (j := 2) rfl (dk0 hD hd) (by decide) tw_199 dX5_refer_51 (am_rfe (dr2 hD hd)) ?_
    refine am_iload_n hC dX5_refer_54 rfl ?_
    refine am_aaldE (v := .ref (hr_ h (103 + 4 * d) o)) hC (j := o) (N := 6) (by decide) (dk3 hD hd) (dn3 hD hd) rfl (by omega) (by decide) dX5_refer_55 rfl ?_
    refine am_ifnull (tgt := 63) hC dX5_refer_56 (by decide) (fun c_56 => ?_) (fun c_56 => ?_)
    · refine am_iconst (v := nI 0) hC dX5_refer_63 (by decide) ?_
      refine am_istore hC dX5_refer_64 (by decide) ?_
      change am_W _ _ _ _ [.ref (3), .int (nI d), .int (nI p), .int (nI o), .int (b2i false), .ref (100 + 4 * d), .ref (100 + 4 * o), .int (nI 0)] _ _
      refine am_aload hC dX5_refer_66 rfl ?_
      refine am_getN (v := .ref (103 + 4 * d)) hC (ci := 1) (N := 5) (j := 2) rfl (dk0 hD hd) (by decide) tw_199 dX5_refer_68 (am_rfe (dr2 hD hd)) ?_
      refine am_iload_n hC dX5_refer_71 rfl ?_
      refine am_iload hC dX5_refer_72 rfl ?_
      refine am_if_eq (tgt := 82) hC dX5_refer_74 (by decide) (fun c_74 => ?_) (fun c_74 => absurd rfl c_74)
      refine am_anull hC dX5_refer_82 ?_
      refine am_aast hC (k' := 2) (ci := 1) (N' := 5) (j := o) (N := 6) (Or.inl ⟨rfl, rfl⟩) (dk3 hD hd) (dn3 hD hd) rfl (by omega) (by decide) (Or.inl ⟨rfl, rfl⟩) rfl dX5_refer_83 ?_
      refine am_iload hC dX5_refer_84 rfl ?_
      refine am_iret hC hR rfl (by decide) (by decide) dX5_refer_86 ?_
      refine ⟨k3_0 (and_tt (IX_y (by omega) hd rfl) (IX_y (by omega) ho rfl)) (IX_y (by decide) hp0 rfl) (and_tt (decide_eq_true (by rw [dn_nI (by omega)]; exact hcg)) (by rw [dn_nI (by omega), dn_nI (by omega)]; rfl)), ?_, ?_⟩
      · rw [dn_nI (by omega), dn_nI (by omega)]
        unfold rC
        first | rw [decide_eq_true c_56]; rfl | rw [decide_eq_false (fun z => z c_56)]; rfl
      · rw [dn_nI (by omega), dn_nI (by omega)]
        rfl
    · refine am_iconst (v := nI 1) hC dX5_refer_59 (by decide) ?_
      refine am_goto (tgt := 64) hC dX5_refer_60 (by decide) ?_
      refine am_istore hC dX5_refer_64 (by decide) ?_
      change am_W _ _ _ _ [.ref (3), .int (nI d), .int (nI p), .int (nI o), .int (b2i false), .ref (100 + 4 * d), .ref (100 + 4 * o), .int (nI 1)] _ _
      refine am_aload hC dX5_refer_66 rfl ?_
      refine am_getN (v := .ref (103 + 4 * d)) hC (ci := 1) (N := 5) (j := 2) rfl (dk0 hD hd) (by decide) tw_199 dX5_refer_68 (am_rfe (dr2 hD hd)) ?_
      refine am_iload_n hC dX5_refer_71 rfl ?_
      refine am_iload hC dX5_refer_72 rfl ?_
      refine am_if_eq (tgt := 82) hC dX5_refer_74 (by decide) (fun c_74 => ?_) (fun c_74 => absurd rfl c_74)
      refine am_anull hC dX5_refer_82 ?_
      refine am_aast hC (k' := 2) (ci := 1) (N' := 5) (j := o) (N := 6) (Or.inl ⟨rfl, rfl⟩) (dk3 hD hd) (dn3 hD hd) rfl (by omega) (by decide) (Or.inl ⟨rfl, rfl⟩) rfl dX5_refer_83 ?_
      refine am_iload hC dX5_refer_84 rfl ?_
      refine am_iret hC hR rfl (by decide) (by decide) dX5_refer_86 ?_
      refine ⟨k3_0 (and_tt (IX_y (by omega) hd rfl) (IX_y (by omega) ho rfl)) (IX_y (by decide) hp0 rfl) (and_tt (decide_eq_true (by rw [dn_nI (by omega)]; exact hcg)) (by rw [dn_nI (by omega), dn_nI (by omega)]; rfl)), ?_, ?_⟩
      · rw [dn_nI (by omega), dn_nI (by omega)]
        unfold rC
        first | rw [decide_eq_true c_56]; rfl | rw [decide_eq_false (fun z => z c_56)]; rfl
      · rw [dn_nI (by omega), dn_nI (by omega)]
        rfl
  · refine am_aload_n hC dX5_refer_0 rfl ?_
    refine am_iload_n hC dX5_refer_1 rfl ?_
    refine am_callV hC (ci := 6) (N := 4) [.int (D)] rfl (kC_3 hF) rfl mf_X5_drawingAt tw_276 (c_X5_drawingAt _ _ (am_tr hC) h n np nq hci D) rfl ⟨rfl, Nat.le_of_ble_eq_true rfl⟩ ⟨by decide, by decide⟩ (by decide) (by decide) dX5_refer_2 rfl (fun X g hx hle => am_out hC hR (by decide) (by decide) (by obtain ⟨hx1, hx2, hx⟩ := hx; subst hx1; subst hx2; exact ⟨rfl, EX_1 (and_fl (IX_n (by omega) hx))⟩)) (fun v h' hp hlc => ?_)
    obtain ⟨z8, d, hd, z7, z9⟩ := hp
    have z8 := z8.symm
    subst z8
    subst z9
    subst z7
    refine am_astore hC dX5_refer_5 (by decide) ?_
    change am_W _ _ _ _ [.ref (3), .int (nI d), .int (P), .int (O), .int (b2i true), .ref (100 + 4 * d), .null, .null] _ _
    refine am_aload_n hC dX5_refer_7 rfl ?_
    refine am_iload_n hC dX5_refer_8 rfl ?_
    refine am_callV hC (ci := 6) (N := 4) [.int (O)] rfl (kC_3 hF) rfl mf_X5_drawingAt tw_276 (c_X5_drawingAt _ _ (am_tr hC) h n np nq hci O) rfl ⟨rfl, Nat.le_of_ble_eq_true rfl⟩ ⟨by decide, by decide⟩ (by decide) (by decide) dX5_refer_9 rfl (fun X g hx hle => am_out hC hR (by decide) (by decide) (by obtain ⟨hx1, hx2, hx⟩ := hx; subst hx1; subst hx2; exact ⟨rfl, EX_1 (and_ff (IX_n (by omega) hx))⟩)) (fun v h' hp hlc => ?_)
    obtain ⟨z8, o, ho, z7, z9⟩ := hp
    have z8 := z8.symm
    subst z8
    subst z9
    subst z7
    refine am_astore hC dX5_refer_12 (by decide) ?_
    change am_W _ _ _ _ [.ref (3), .int (nI d), .int (P), .int (nI o), .int (b2i true), .ref (100 + 4 * d), .ref (100 + 4 * o), .null] _ _
    refine am_iload_n hC dX5_refer_14 rfl ?_
    refine am_callS hC [.int (P)] mf_X5_needPerson tw_310 (c_X5_needPerson _ _ (am_tr hC) h (P)) rfl ⟨rfl, Nat.le_of_ble_eq_true rfl⟩ ⟨by decide, by decide⟩ (by decide) (by decide) dX5_refer_15 rfl (fun X g hx hle => am_out hC hR (by decide) (by decide) (by obtain ⟨hx1, hx2, hx⟩ := hx; subst hx1; subst hx2; exact ⟨rfl, EX_2 (and_tt (IX_y (by omega) hd rfl) (IX_y (by omega) ho rfl)) (IX_n (by decide) hx)⟩)) (fun v h' hp hlc => ?_)
    obtain ⟨rfl, z8, p, hp0, z7⟩ := hp
    have z8 := z8.symm
    subst z8
    subst z7
    refine am_aload hC dX5_refer_18 rfl ?_
    refine am_iload_n hC dX5_refer_20 rfl ?_
    refine am_callS hC [.ref (100 + 4 * d), .int (nI p)] mf_X5_needChanger tw_334 (c_X5_needChanger _ _ (am_tr hC) h n hD d hd (nI p)) rfl ⟨rfl, Nat.le_of_ble_eq_true rfl⟩ ⟨by decide, by decide⟩ (by decide) (by decide) dX5_refer_21 rfl (fun X g hx hle => am_out hC hR (by decide) (by decide) (by obtain ⟨hx1, hx2, hx⟩ := hx; subst hx1; subst hx2; exact ⟨rfl, EX_3 (and_tt (IX_y (by omega) hd rfl) (IX_y (by omega) ho rfl)) (IX_y (by decide) hp0 rfl) (and_fl (decide_eq_false (fun z => hx (by rw [dn_nI (by omega)] at z; exact z))))⟩)) (fun v h' hp hlc => ?_)
    obtain ⟨rfl, z8, hcg⟩ := hp
    have z8 := z8.symm
    subst z8
    refine am_iload hC dX5_refer_24 rfl ?_
    refine am_if_eq (tgt := 49) hC dX5_refer_26 (by decide) (fun c_26 => absurd c_26 (by decide)) (fun c_26 => ?_)
    refine am_aload hC dX5_refer_29 rfl ?_
    refine am_aload hC dX5_refer_31 rfl ?_
    refine am_callVN hC (ci := 1) (N := 5) [.ref (100 + 4 * d)] rfl (dk0 hD ho) rfl mf_X0_leadsTo tw_454 (c_X0_leadsTo _ _ (am_tr hC) h n hD hn6 o ho d hd) rfl ⟨rfl, Nat.le_of_ble_eq_true rfl⟩ ⟨by decide, by decide⟩ (by decide) (by decide) dX5_refer_33 rfl (fun _ _ q _ => False.elim q) (fun v h' hp hlc => ?_)
    obtain ⟨z9, z8⟩ := hp
    have z8 := z8.symm
    subst z8
    subst z9
    refine am_if_eq (tgt := 49) hC dX5_refer_36 (by decide) (fun c_36 => ?_) (fun c_36 => ?_)
    · refine am_aload hC dX5_refer_49 rfl ?_
      refine am_getN (v := .ref (103 + 4 * d)) hC (ci := 1) (N := 5) (j := 2) rfl (dk0 hD hd) (by decide) tw_199 dX5_refer_51 (am_rfe (dr2 hD hd)) ?_
      refine am_iload_n hC dX5_refer_54 rfl ?_
      refine am_aaldE (v := .ref (hr_ h (103 + 4 * d) o)) hC (j := o) (N := 6) (by decide) (dk3 hD hd) (dn3 hD hd) rfl (by omega) (by decide) dX5_refer_55 rfl ?_
      refine am_ifnull (tgt := 63) hC dX5_refer_56 (by decide) (fun c_56 => ?_) (fun c_56 => ?_)
      · refine am_iconst (v := nI 0) hC dX5_refer_63 (by decide) ?_
        refine am_istore hC dX5_refer_64 (by decide) ?_
        change am_W _ _ _ _ [.ref (3), .int (nI d), .int (nI p), .int (nI o), .int (b2i true), .ref (100 + 4 * d), .ref (100 + 4 * o), .int (nI 0)] _ _
        refine am_aload hC dX5_refer_66 rfl ?_
        refine am_getN (v := .ref (103 + 4 * d)) hC (ci := 1) (N := 5) (j := 2) rfl (dk0 hD hd) (by decide) tw_199 dX5_refer_68 (am_rfe (dr2 hD hd)) ?_
        refine am_iload_n hC dX5_refer_71 rfl ?_
        refine am_iload hC dX5_refer_72 rfl ?_
        refine am_if_eq (tgt := 82) hC dX5_refer_74 (by decide) (fun c_74 => absurd c_74 (by decide)) (fun c_74 => ?_)
        refine am_aload hC dX5_refer_77 rfl ?_
        refine am_goto (tgt := 83) hC dX5_refer_79 (by decide) ?_
        refine am_aast hC (k' := 2) (ci := 1) (N' := 5) (j := o) (N := 6) (Or.inl ⟨rfl, rfl⟩) (dk3 hD hd) (dn3 hD hd) rfl (by omega) (by decide) (Or.inr (dk0 hD ho)) rfl dX5_refer_83 ?_
        refine am_iload hC dX5_refer_84 rfl ?_
        refine am_iret hC hR rfl (by decide) (by decide) dX5_refer_86 ?_
        refine ⟨k3_0 (and_tt (IX_y (by omega) hd rfl) (IX_y (by omega) ho rfl)) (IX_y (by decide) hp0 rfl) (and_tt (decide_eq_true (by rw [dn_nI (by omega)]; exact hcg)) (by rw [dn_nI (by omega), dn_nI (by omega)]; rw [b2i_0.mp c_36]; rfl)), ?_, ?_⟩
        · rw [dn_nI (by omega), dn_nI (by omega)]
          unfold rC
          first | rw [decide_eq_true c_56]; rfl | rw [decide_eq_false (fun z => z c_56)]; rfl
        · rw [dn_nI (by omega), dn_nI (by omega)]
          rfl
      · refine am_iconst (v := nI 1) hC dX5_refer_59 (by decide) ?_
        refine am_goto (tgt := 64) hC dX5_refer_60 (by decide) ?_
        refine am_istore hC dX5_refer_64 (by decide) ?_
        change am_W _ _ _ _ [.ref (3), .int (nI d), .int (nI p), .int (nI o), .int (b2i true), .ref (100 + 4 * d), .ref (100 + 4 * o), .int (nI 1)] _ _
        refine am_aload hC dX5_refer_66 rfl ?_
        refine am_getN (v := .ref (103 + 4 * d)) hC (ci := 1) (N := 5) (j := 2) rfl (dk0 hD hd) (by decide) tw_199 dX5_refer_68 (am_rfe (dr2 hD hd)) ?_
        refine am_iload_n hC dX5_refer_71 rfl ?_
        refine am_iload hC dX5_refer_72 rfl ?_
        refine am_if_eq (tgt := 82) hC dX5_refer_74 (by decide) (fun c_74 => absurd c_74 (by decide)) (fun c_74 => ?_)
        refine am_aload hC dX5_refer_77 rfl ?_
        refine am_goto (tgt := 83) hC dX5_refer_79 (by decide) ?_
        refine am_aast hC (k' := 2) (ci := 1) (N' := 5) (j := o) (N := 6) (Or.inl ⟨rfl, rfl⟩) (dk3 hD hd) (dn3 hD hd) rfl (by omega) (by decide) (Or.inr (dk0 hD ho)) rfl dX5_refer_83 ?_
        refine am_iload hC dX5_refer_84 rfl ?_
        refine am_iret hC hR rfl (by decide) (by decide) dX5_refer_86 ?_
        refine ⟨k3_0 (and_tt (IX_y (by omega) hd rfl) (IX_y (by omega) ho rfl)) (IX_y (by decide) hp0 rfl) (and_tt (decide_eq_true (by rw [dn_nI (by omega)]; exact hcg)) (by rw [dn_nI (by omega), dn_nI (by omega)]; rw [b2i_0.mp c_36]; rfl)), ?_, ?_⟩
        · rw [dn_nI (by omega), dn_nI (by omega)]
          unfold rC
          first | rw [decide_eq_true c_56]; rfl | rw [decide_eq_false (fun z => z c_56)]; rfl
        · rw [dn_nI (by omega), dn_nI (by omega)]
          rfl
    · refine am_throw hC hR (X := "java/lang/IllegalStateException") (text := "a drawing would refer to itself") (by decide +kernel) tw_115 tw_13 tw_461 xw_RX5_37 ⟨rfl, Nat.le_of_ble_eq_true rfl⟩ (by decide) (by decide) (by decide) dX5_refer_39 dX5_refer_42 dX5_refer_43 dX5_refer_45 dX5_refer_48 ?_
      refine ⟨rfl, EX_3 (and_tt (IX_y (by omega) hd rfl) (IX_y (by omega) ho rfl)) (IX_y (by decide) hp0 rfl) (and_ff ?_)⟩
      rw [dn_nI (by omega), dn_nI (by omega), b2i_ne c_36]
      rfl
