/-! ===== the model's calls: side, rooms, size ===== -/
set_option maxRecDepth 100000 in
set_option maxHeartbeats 4000000 in
theorem c_X6_side (G : am_G) (l : Launch) (htr : l.stackTraces = false) (h : am_H) (n : Nat) (t : Nat → Nat → Int32) (x r : Nat → Nat → Bool) (hT : MT h n t x r) (D : Int32) (S : Int32) : am_Met G l yX6_side (.code yX6_side cX6_side 3 (some .int)) 4 0 0 [.ref (14), .int (D), .int (S)] h (fun v h' => ∃ V, v = some (.int V) ∧ ((k3 (IX n D) (IX 40 S) true) ≠ 0 → h' = am_sI h 14 19 (nI (k3 (IX n D) (IX 40 S) true))) ∧ ((k3 (IX n D) (IX 40 S) true) = 0 → V = sdF t r 6 (dn D) (dn S) ∧ am_eq S4 (am_sI h 14 19 (nI 0)) h' ∧ am_le h h')) (am_no) := by
  have hM := hT.1
  have hn6 := hT.2.1
  have hn0 := hT.2.2.1
  refine am_intro rfl htr rfl (Nat.le_of_ble_eq_true rfl) (fun Z hC hR hI => ?_)
  change am_W Z 0 0 0 [.ref (14), .int (D), .int (S)] [] h
  refine am_aload_n hC dX6_side_0 rfl ?_
  refine am_aload_n hC dX6_side_1 rfl ?_
  refine am_iload_n hC dX6_side_2 rfl ?_
  refine am_callV hC (ci := 7) (N := 20) [.int (D)] rfl (kM_14 hM) rfl mf_X6_isDrawing tw_727 (c_X6_isDrawing _ _ (am_tr hC) h hM n hn6 hn0 D) rfl ⟨rfl, Nat.le_of_ble_eq_true rfl⟩ ⟨by decide, by decide⟩ (by decide) (by decide) dX6_side_3 rfl (fun _ _ q _ => False.elim q) (fun v h' hp hlc => ?_)
  obtain ⟨z8, z9⟩ := hp
  have z8 := z8.symm
  subst z8
  subst z9
  refine am_if_ne (tgt := 13) hC dX6_side_6 (by decide) (fun c_6 => ?_) (fun c_6 => ?_)
  · have hD1 := b2i_ne c_6
    obtain ⟨d, hd, rfl⟩ := (IX_iff (by omega)).mp hD1
    refine am_iload_n hC dX6_side_13 rfl ?_
    refine am_iconst (v := nI 0) hC dX6_side_14 (by decide) ?_
    refine am_bipush (v := nI 39) hC dX6_side_15 (by decide) ?_
    refine am_callS hC [.int (S), .int (nI 0), .int (nI 39)] mf_X6_isIn tw_724 (c_X6_isIn _ _ (am_tr hC) h S (nI 0) (nI 39)) rfl ⟨rfl, Nat.le_of_ble_eq_true rfl⟩ ⟨by decide, by decide⟩ (by decide) (by decide) dX6_side_17 rfl (fun _ _ q _ => False.elim q) (fun v h' hp hlc => ?_)
    obtain ⟨rfl, q9⟩ := hp
    have q9 := q9.symm
    subst q9
    rw [show (if nI 0 ≤ S ∧ S ≤ nI 39 then (1 : Int32) else 0) = b2i (IX 40 S) from IX_b (n := 40) (by decide)]
    refine am_if_eq (tgt := 27) hC dX6_side_20 (by decide) (fun c_20 => ?_) (fun c_20 => ?_)
    · refine am_iconst (v := nI 2) hC dX6_side_27 (by decide) ?_
      refine am_putI hC (ci := 7) (N := 20) (j := 19) rfl (kM_14 hM) (by decide) rfl rfl rfl tw_667 (Or.inl rfl) dX6_side_28 ?_
      have hM : FM (am_sI h 14 19 (nI 2)) := hM
      refine am_aload_n hC dX6_side_31 rfl ?_
      refine am_get (v := .int (nI 2)) hC (ci := 7) (N := 20) (j := 19) rfl (kM_14 hM) (by decide) tw_667 (Or.inl rfl) dX6_side_32 rfl ?_
      refine am_if_le (tgt := 40) hC dX6_side_35 (by decide) (fun c_35 => absurd c_35 (by decide)) (fun c_35 => ?_)
      refine am_iconst (v := nI 0) hC dX6_side_38 (by decide) ?_
      refine am_iret hC hR rfl (by decide) (by decide) dX6_side_39 ?_
      exact ⟨_, rfl, rfz (k3_2 hD1 (b2i_0.mp c_20)) (by decide) rfl⟩
    · have hS1 := b2i_ne c_20
      obtain ⟨s, hs, rfl⟩ := (IX_iff (by decide)).mp hS1
      refine am_iconst (v := nI 0) hC dX6_side_23 (by decide) ?_
      refine am_goto (tgt := 28) hC dX6_side_24 (by decide) ?_
      refine am_putI hC (ci := 7) (N := 20) (j := 19) rfl (kM_14 hM) (by decide) rfl rfl rfl tw_667 (Or.inl rfl) dX6_side_28 ?_
      have hM : FM (am_sI h 14 19 (nI 0)) := hM
      refine am_aload_n hC dX6_side_31 rfl ?_
      refine am_get (v := .int (nI 0)) hC (ci := 7) (N := 20) (j := 19) rfl (kM_14 hM) (by decide) tw_667 (Or.inl rfl) dX6_side_32 rfl ?_
      refine am_if_le (tgt := 40) hC dX6_side_35 (by decide) (fun c_35 => ?_) (fun c_35 => absurd (by decide) c_35)
      refine am_aload_n hC dX6_side_40 rfl ?_
      refine am_callV hC (ci := 7) (N := 20) [] rfl (kM_14 hM) rfl mf_X6_finds tw_758 (c_X6_finds _ _ (am_tr hC) (am_sI h 14 19 (nI 0)) n t x r (MT_th hT)) rfl ⟨rfl, Nat.le_of_ble_eq_true rfl⟩ ⟨by decide, by decide⟩ (by decide) (by decide) dX6_side_41 rfl (fun _ _ q _ => False.elim q) (fun v h5 hp l5 => ?_)
      obtain ⟨rfl, e5, hf⟩ := hp
      have hM := FM_eq (S := SF2) (by unfold SF2; omega) e5 l5 hM
      refine am_aload_n hC dX6_side_44 rfl ?_
      refine am_get (v := .ref (20)) hC (ci := 7) (N := 20) (j := 6) rfl (kM_14 hM) (by decide) tw_654 (Or.inl rfl) dX6_side_45 (am_rfe (rM_6 hM)) ?_
      refine am_bipush (v := nI 40) hC dX6_side_48 (by decide) ?_
      refine am_iload_n hC dX6_side_50 rfl ?_
      refine am_imulE (z := nI (40 * d)) hC dX6_side_51 (pk_mul (40) (d)) ?_
      refine am_iload_n hC dX6_side_52 rfl ?_
      refine am_iaddE (z := nI (40 * d + s)) hC dX6_side_53 (nI_add (40 * d) (s)) ?_
      refine am_ialdE (v := hi_ h5 20 (40 * d + s)) hC (j := 40 * d + s) (N := 240) (kM_20 hM) (nM_20 hM) rfl (by omega) (by decide) dX6_side_54 rfl ?_
      refine am_iret hC hR rfl (by decide) (by decide) dX6_side_55 ?_
      exact ⟨_, rfl, fun z => absurd (k3_0 hD1 hS1 rfl) z, fun _ => ⟨by rw [dn_nI (by omega), dn_nI (by omega)]; exact (hf d hd).1 s hs, am_eq_mono (fun q z => by unfold SF2 at z; unfold S4; omega) e5, am_le_tr (am_le_sI h 14 19 (nI 0)) l5⟩⟩
  · refine am_iconst (v := nI 1) hC dX6_side_9 (by decide) ?_
    refine am_goto (tgt := 28) hC dX6_side_10 (by decide) ?_
    refine am_putI hC (ci := 7) (N := 20) (j := 19) rfl (kM_14 hM) (by decide) rfl rfl rfl tw_667 (Or.inl rfl) dX6_side_28 ?_
    have hM : FM (am_sI h 14 19 (nI 1)) := hM
    refine am_aload_n hC dX6_side_31 rfl ?_
    refine am_get (v := .int (nI 1)) hC (ci := 7) (N := 20) (j := 19) rfl (kM_14 hM) (by decide) tw_667 (Or.inl rfl) dX6_side_32 rfl ?_
    refine am_if_le (tgt := 40) hC dX6_side_35 (by decide) (fun c_35 => absurd c_35 (by decide)) (fun c_35 => ?_)
    refine am_iconst (v := nI 0) hC dX6_side_38 (by decide) ?_
    refine am_iret hC hR rfl (by decide) (by decide) dX6_side_39 ?_
    exact ⟨_, rfl, rfz (k3_1 (b2i_0.mp c_6)) (by decide) rfl⟩
set_option maxRecDepth 100000 in
set_option maxHeartbeats 4000000 in
theorem c_X6_rooms (G : am_G) (l : Launch) (htr : l.stackTraces = false) (h : am_H) (n : Nat) (t : Nat → Nat → Int32) (x r : Nat → Nat → Bool) (hT : MT h n t x r) (D : Int32) : am_Met G l yX6_rooms (.code yX6_rooms cX6_rooms 5 (some .int)) 5 0 0 [.ref (14), .int (D)] h (fun v h' => ∃ V, v = some (.int V) ∧ ((k3 (IX n D) true true) ≠ 0 → h' = am_sI h 14 19 (nI (k3 (IX n D) true true))) ∧ ((k3 (IX n D) true true) = 0 → VR (fun s => sdF t r 6 (dn D) s) V ∧ am_eq S4 (am_sI h 14 19 (nI 0)) h' ∧ am_le h h')) (am_no) := by
  have hM := hT.1
  have hn6 := hT.2.1
  have hn0 := hT.2.2.1
  have h25 : IX 25 (nI 0) = true := by decide
  refine am_intro rfl htr rfl (Nat.le_of_ble_eq_true rfl) (fun Z hC hR hI => ?_)
  change am_W Z 0 0 0 [.ref (14), .int (D), .null, .null, .null] [] h
  refine am_iconst (v := nI 0) hC dX6_rooms_0 (by decide) ?_
  refine am_istore_n hC dX6_rooms_1 (by decide) ?_
  change am_W _ _ _ _ [.ref (14), .int (D), .int (nI 0), .null, .null] _ _
  refine am_aload_n hC dX6_rooms_2 rfl ?_
  refine am_iload_n hC dX6_rooms_3 rfl ?_
  refine am_iconst (v := nI 0) hC dX6_rooms_4 (by decide) ?_
  refine am_callV hC (ci := 7) (N := 20) [.int (D), .int (nI 0)] rfl (kM_14 hM) rfl mf_X6_asks tw_770 (c_X6_asks _ _ (am_tr hC) h n t x r hT D (nI 0)) rfl ⟨rfl, Nat.le_of_ble_eq_true rfl⟩ ⟨by decide, by decide⟩ (by decide) (by decide) dX6_rooms_5 rfl (fun _ _ q _ => False.elim q) (fun v h1 hp l1 => ?_)
  obtain ⟨R, rfl, hA⟩ := hp
  refine am_istore_n hC dX6_rooms_8 (by decide) ?_
  change am_W _ _ _ _ [.ref (14), .int (D), .int (nI 0), .int (b2i R), .null] _ _
  refine am_iconst (v := nI 0) hC dX6_rooms_9 (by decide) ?_
  refine am_istore hC dX6_rooms_10 (by decide) ?_
  change am_W _ _ _ _ [.ref (14), .int (D), .int (nI 0), .int (b2i R), .int (nI 0)] _ _
  cases R
  · have hR8 := hA.1 rfl
    refine am_iload hC dX6_rooms_12 rfl ?_
    refine am_bipush (v := nI 25) hC dX6_rooms_14 (by decide) ?_
    refine am_icmp_ge (tgt := 49) hC dX6_rooms_16 (by decide) (fun c_16 => absurd c_16 (nI_ge (by omega) (by omega))) (fun c_16 => ?_)
    refine am_iload_n hC dX6_rooms_19 rfl ?_
    refine am_if_eq (tgt := 49) hC dX6_rooms_20 (by decide) (fun c_20 => ?_) (fun c_20 => absurd rfl c_20)
    refine am_iload_n hC dX6_rooms_49 rfl ?_
    refine am_iret hC hR rfl (by decide) (by decide) dX6_rooms_50 ?_
    exact ⟨_, rfl, (by rw [h25] at hR8; exact ⟨fun _ => hR8.2, fun z => absurd z hR8.1⟩)⟩
  · obtain ⟨d, c0, hd, hc0, hDe, hCe, e5, l5, hf, ro, Dx, k1, k2, k3_, k4⟩ := hA.2 rfl
    subst hDe
    have hM := FM_eq (S := S4) (by unfold S4; omega) e5 (fun q hq => l1 q hq) hM
    have hrl : ∀ c, c < 25 → ro c < 25 := fun c hc => Room_lt k1 hc
    have sl : ∀ (m c : Nat), c + m = 25 → am_W Z (0 + 0) (0 + 0) 12 [.ref (14), .int (nI d), .int (nI (cnt (fun c => decide (ro c = c)) c)), .int (b2i true), .int (nI c)] [] h1 := by
      intro m
      induction m with
      | zero =>
        intro c hc
        obtain rfl : c = 25 := by omega
        refine am_iload hC dX6_rooms_12 rfl ?_
        refine am_bipush (v := nI 25) hC dX6_rooms_14 (by decide) ?_
        refine am_icmp_ge (tgt := 49) hC dX6_rooms_16 (by decide) (fun c_16 => ?_) (fun c_16 => absurd (nI_le (by omega) (by omega)) c_16)
        refine am_iload_n hC dX6_rooms_49 rfl ?_
        refine am_iret hC hR rfl (by decide) (by decide) dX6_rooms_50 ?_
        have hK : k3 (IX n (nI d)) true true = 0 := k3_0 (IX_y (by omega) hd rfl) rfl rfl
        exact ⟨_, rfl, fun z => absurd hK z, fun _ => ⟨by rw [dn_nI (by omega)]; exact ⟨ro, k1, rfl⟩, e5, l5⟩⟩
      | succ m ih =>
        intro c hc
        have hcl := cnt_le (fun c => decide (ro c = c)) c
        have hrc := hrl c (by omega)
        refine am_iload hC dX6_rooms_12 rfl ?_
        refine am_bipush (v := nI 25) hC dX6_rooms_14 (by decide) ?_
        refine am_icmp_ge (tgt := 49) hC dX6_rooms_16 (by decide) (fun c_16 => absurd c_16 (nI_ge (by omega) (by omega))) (fun c_16 => ?_)
        refine am_iload_n hC dX6_rooms_19 rfl ?_
        refine am_if_eq (tgt := 49) hC dX6_rooms_20 (by decide) (fun c_20 => absurd c_20 (by decide)) (fun c_20 => ?_)
        refine am_iload_n hC dX6_rooms_23 rfl ?_
        refine am_aload_n hC dX6_rooms_24 rfl ?_
        refine am_get (v := .ref (22)) hC (ci := 7) (N := 20) (j := 8) rfl (kM_14 hM) (by decide) tw_656 (Or.inl rfl) dX6_rooms_25 (am_rfe (rM_8 hM)) ?_
        refine am_iload hC dX6_rooms_28 rfl ?_
        refine am_ialdE (v := nI (ro c)) hC (j := c) (N := 25) (kM_22 hM) (nM_22 hM) rfl (by omega) (by decide) dX6_rooms_30 (k3_ c (by omega)) ?_
        refine am_iload hC dX6_rooms_31 rfl ?_
        refine am_icmp_ne (tgt := 40) hC dX6_rooms_33 (by decide) (fun c_33 => ?_) (fun c_33 => ?_)
        · replace c_33 : ¬ (ro c) = c := fun q9 => c_33 ((nI_eq (a := (ro c)) (b := c) (by omega) (by omega)).mpr q9)
          refine am_iconst (v := nI 0) hC dX6_rooms_40 (by decide) ?_
          refine am_iaddE (z := nI (cnt (fun c => decide (ro c = c)) c + 0)) hC dX6_rooms_41 (nI_add (cnt (fun c => decide (ro c = c)) c) (0)) ?_
          refine am_istore_n hC dX6_rooms_42 (by decide) ?_
          change am_W _ _ _ _ [.ref (14), .int (nI d), .int (nI (cnt (fun c => decide (ro c = c)) c + 0)), .int (b2i true), .int (nI c)] _ _
          refine am_iinc (v := nI (c + 1)) hC dX6_rooms_43 rfl (nI_1 (c)) (by decide) ?_
          change am_W _ _ _ _ [.ref (14), .int (nI d), .int (nI (cnt (fun c => decide (ro c = c)) c + 0)), .int (b2i true), .int (nI (c + 1))] _ _
          refine am_goto (tgt := 12) hC dX6_rooms_46 (by decide) ?_
          have e9 : cnt (fun c => decide (ro c = c)) (c + 1) = cnt (fun c => decide (ro c = c)) c + 0 := cnt_n (decide_eq_false c_33)
          have k9 := ih (c + 1) (by omega)
          rw [e9] at k9
          exact k9
        · replace c_33 : (ro c) = c := (nI_eq (a := (ro c)) (b := c) (by omega) (by omega)).mp c_33
          refine am_iconst (v := nI 1) hC dX6_rooms_36 (by decide) ?_
          refine am_goto (tgt := 41) hC dX6_rooms_37 (by decide) ?_
          refine am_iaddE (z := nI (cnt (fun c => decide (ro c = c)) c + 1)) hC dX6_rooms_41 (nI_add (cnt (fun c => decide (ro c = c)) c) (1)) ?_
          refine am_istore_n hC dX6_rooms_42 (by decide) ?_
          change am_W _ _ _ _ [.ref (14), .int (nI d), .int (nI (cnt (fun c => decide (ro c = c)) c + 1)), .int (b2i true), .int (nI c)] _ _
          refine am_iinc (v := nI (c + 1)) hC dX6_rooms_43 rfl (nI_1 (c)) (by decide) ?_
          change am_W _ _ _ _ [.ref (14), .int (nI d), .int (nI (cnt (fun c => decide (ro c = c)) c + 1)), .int (b2i true), .int (nI (c + 1))] _ _
          refine am_goto (tgt := 12) hC dX6_rooms_46 (by decide) ?_
          have e9 : cnt (fun c => decide (ro c = c)) (c + 1) = cnt (fun c => decide (ro c = c)) c + 1 := cnt_y (decide_eq_true c_33)
          have k9 := ih (c + 1) (by omega)
          rw [e9] at k9
          exact k9
    exact sl 25 0 rfl
set_option maxRecDepth 100000 in
set_option maxHeartbeats 4000000 in
theorem c_X6_size (G : am_G) (l : Launch) (htr : l.stackTraces = false) (h : am_H) (n : Nat) (t : Nat → Nat → Int32) (x r : Nat → Nat → Bool) (hT : MT h n t x r) (D : Int32) (C : Int32) : am_Met G l yX6_size (.code yX6_size cX6_size 6 (some .int)) 5 0 0 [.ref (14), .int (D), .int (C)] h (fun v h' => ∃ V, v = some (.int V) ∧ ((k3 (IX n D) (IX 25 C) true) ≠ 0 → h' = am_sI h 14 19 (nI (k3 (IX n D) (IX 25 C) true))) ∧ ((k3 (IX n D) (IX 25 C) true) = 0 → VS (fun s => sdF t r 6 (dn D) s) (dn C) V ∧ am_eq S4 (am_sI h 14 19 (nI 0)) h' ∧ am_le h h')) (am_no) := by
  have hM := hT.1
  have hn6 := hT.2.1
  have hn0 := hT.2.2.1
  refine am_intro rfl htr rfl (Nat.le_of_ble_eq_true rfl) (fun Z hC hR hI => ?_)
  change am_W Z 0 0 0 [.ref (14), .int (D), .int (C), .null, .null, .null] [] h
  refine am_iconst (v := nI 0) hC dX6_size_0 (by decide) ?_
  refine am_istore_n hC dX6_size_1 (by decide) ?_
  change am_W _ _ _ _ [.ref (14), .int (D), .int (C), .int (nI 0), .null, .null] _ _
  refine am_aload_n hC dX6_size_2 rfl ?_
  refine am_iload_n hC dX6_size_3 rfl ?_
  refine am_iload_n hC dX6_size_4 rfl ?_
  refine am_callV hC (ci := 7) (N := 20) [.int (D), .int (C)] rfl (kM_14 hM) rfl mf_X6_asks tw_770 (c_X6_asks _ _ (am_tr hC) h n t x r hT D (C)) rfl ⟨rfl, Nat.le_of_ble_eq_true rfl⟩ ⟨by decide, by decide⟩ (by decide) (by decide) dX6_size_5 rfl (fun _ _ q _ => False.elim q) (fun v h1 hp l1 => ?_)
  obtain ⟨R, rfl, hA⟩ := hp
  refine am_istore hC dX6_size_8 (by decide) ?_
  change am_W _ _ _ _ [.ref (14), .int (D), .int (C), .int (nI 0), .int (b2i R), .null] _ _
  refine am_iconst (v := nI 0) hC dX6_size_10 (by decide) ?_
  refine am_istore hC dX6_size_11 (by decide) ?_
  change am_W _ _ _ _ [.ref (14), .int (D), .int (C), .int (nI 0), .int (b2i R), .int (nI 0)] _ _
  cases R
  · have hR8 := hA.1 rfl
    refine am_iload hC dX6_size_13 rfl ?_
    refine am_bipush (v := nI 25) hC dX6_size_15 (by decide) ?_
    refine am_icmp_ge (tgt := 55) hC dX6_size_17 (by decide) (fun c_17 => absurd c_17 (nI_ge (by omega) (by omega))) (fun c_17 => ?_)
    refine am_iload hC dX6_size_20 rfl ?_
    refine am_if_eq (tgt := 55) hC dX6_size_22 (by decide) (fun c_22 => ?_) (fun c_22 => absurd rfl c_22)
    refine am_iload_n hC dX6_size_55 rfl ?_
    refine am_iret hC hR rfl (by decide) (by decide) dX6_size_56 ?_
    exact ⟨_, rfl, (fun _ => hR8.2), (fun z => absurd z hR8.1)⟩
  · obtain ⟨d, c0, hd, hc0, hDe, hCe, e5, l5, hf, ro, Dx, k1, k2, k3_, k4⟩ := hA.2 rfl
    subst hDe
    subst hCe
    have hM := FM_eq (S := S4) (by unfold S4; omega) e5 (fun q hq => l1 q hq) hM
    have hrl : ∀ c, c < 25 → ro c < 25 := fun c hc => Room_lt k1 hc
    have sl : ∀ (m c : Nat), c + m = 25 → am_W Z (0 + 0) (0 + 0) 13 [.ref (14), .int (nI d), .int (nI c0), .int (nI (cnt (fun x => decide (ro x = ro c0)) c)), .int (b2i true), .int (nI c)] [] h1 := by
      intro m
      induction m with
      | zero =>
        intro c hc
        obtain rfl : c = 25 := by omega
        refine am_iload hC dX6_size_13 rfl ?_
        refine am_bipush (v := nI 25) hC dX6_size_15 (by decide) ?_
        refine am_icmp_ge (tgt := 55) hC dX6_size_17 (by decide) (fun c_17 => ?_) (fun c_17 => absurd (nI_le (by omega) (by omega)) c_17)
        refine am_iload_n hC dX6_size_55 rfl ?_
        refine am_iret hC hR rfl (by decide) (by decide) dX6_size_56 ?_
        exact ⟨_, rfl, fun z => absurd (k3_DC hn6 hd hc0) z, fun _ => ⟨by rw [dn_nI (by omega), dn_nI (by omega)]; exact ⟨ro, k1, rfl⟩, e5, l5⟩⟩
      | succ m ih =>
        intro c hc
        have hcl := cnt_le (fun x => decide (ro x = ro c0)) c
        have hrc := hrl c (by omega)
        have hrd := hrl c0 hc0
        refine am_iload hC dX6_size_13 rfl ?_
        refine am_bipush (v := nI 25) hC dX6_size_15 (by decide) ?_
        refine am_icmp_ge (tgt := 55) hC dX6_size_17 (by decide) (fun c_17 => absurd c_17 (nI_ge (by omega) (by omega))) (fun c_17 => ?_)
        refine am_iload hC dX6_size_20 rfl ?_
        refine am_if_eq (tgt := 55) hC dX6_size_22 (by decide) (fun c_22 => absurd c_22 (by decide)) (fun c_22 => ?_)
        refine am_iload_n hC dX6_size_25 rfl ?_
        refine am_aload_n hC dX6_size_26 rfl ?_
        refine am_get (v := .ref (22)) hC (ci := 7) (N := 20) (j := 8) rfl (kM_14 hM) (by decide) tw_656 (Or.inl rfl) dX6_size_27 (am_rfe (rM_8 hM)) ?_
        refine am_iload hC dX6_size_30 rfl ?_
        refine am_ialdE (v := nI (ro c)) hC (j := c) (N := 25) (kM_22 hM) (nM_22 hM) rfl (by omega) (by decide) dX6_size_32 (k3_ c (by omega)) ?_
        refine am_aload_n hC dX6_size_33 rfl ?_
        refine am_get (v := .ref (22)) hC (ci := 7) (N := 20) (j := 8) rfl (kM_14 hM) (by decide) tw_656 (Or.inl rfl) dX6_size_34 (am_rfe (rM_8 hM)) ?_
        refine am_iload_n hC dX6_size_37 rfl ?_
        refine am_ialdE (v := nI (ro c0)) hC (j := c0) (N := 25) (kM_22 hM) (nM_22 hM) rfl (by omega) (by decide) dX6_size_38 (k3_ c0 hc0) ?_
        refine am_icmp_ne (tgt := 46) hC dX6_size_39 (by decide) (fun c_39 => ?_) (fun c_39 => ?_)
        · replace c_39 : ¬ (ro c) = (ro c0) := fun q9 => c_39 ((nI_eq (a := (ro c)) (b := (ro c0)) (by omega) (by omega)).mpr q9)
          refine am_iconst (v := nI 0) hC dX6_size_46 (by decide) ?_
          refine am_iaddE (z := nI (cnt (fun x => decide (ro x = ro c0)) c + 0)) hC dX6_size_47 (nI_add (cnt (fun x => decide (ro x = ro c0)) c) (0)) ?_
          refine am_istore_n hC dX6_size_48 (by decide) ?_
          change am_W _ _ _ _ [.ref (14), .int (nI d), .int (nI c0), .int (nI (cnt (fun x => decide (ro x = ro c0)) c + 0)), .int (b2i true), .int (nI c)] _ _
          refine am_iinc (v := nI (c + 1)) hC dX6_size_49 rfl (nI_1 (c)) (by decide) ?_
          change am_W _ _ _ _ [.ref (14), .int (nI d), .int (nI c0), .int (nI (cnt (fun x => decide (ro x = ro c0)) c + 0)), .int (b2i true), .int (nI (c + 1))] _ _
          refine am_goto (tgt := 13) hC dX6_size_52 (by decide) ?_
          have e9 : cnt (fun x => decide (ro x = ro c0)) (c + 1) = cnt (fun x => decide (ro x = ro c0)) c + 0 := cnt_n (decide_eq_false c_39)
          have k9 := ih (c + 1) (by omega)
          rw [e9] at k9
          exact k9
        · replace c_39 : (ro c) = (ro c0) := (nI_eq (a := (ro c)) (b := (ro c0)) (by omega) (by omega)).mp c_39
          refine am_iconst (v := nI 1) hC dX6_size_42 (by decide) ?_
          refine am_goto (tgt := 47) hC dX6_size_43 (by decide) ?_
          refine am_iaddE (z := nI (cnt (fun x => decide (ro x = ro c0)) c + 1)) hC dX6_size_47 (nI_add (cnt (fun x => decide (ro x = ro c0)) c) (1)) ?_
          refine am_istore_n hC dX6_size_48 (by decide) ?_
          change am_W _ _ _ _ [.ref (14), .int (nI d), .int (nI c0), .int (nI (cnt (fun x => decide (ro x = ro c0)) c + 1)), .int (b2i true), .int (nI c)] _ _
          refine am_iinc (v := nI (c + 1)) hC dX6_size_49 rfl (nI_1 (c)) (by decide) ?_
          change am_W _ _ _ _ [.ref (14), .int (nI d), .int (nI c0), .int (nI (cnt (fun x => decide (ro x = ro c0)) c + 1)), .int (b2i true), .int (nI (c + 1))] _ _
          refine am_goto (tgt := 13) hC dX6_size_52 (by decide) ?_
          have e9 : cnt (fun x => decide (ro x = ro c0)) (c + 1) = cnt (fun x => decide (ro x = ro c0)) c + 1 := cnt_y (decide_eq_true c_39)
          have k9 := ih (c + 1) (by omega)
          rw [e9] at k9
          exact k9
    exact sl 25 0 rfl
