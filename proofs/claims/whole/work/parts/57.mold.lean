/-! ===== the model's calls: permitOf, isGood, old ===== -/
set_option maxRecDepth 100000 in
set_option maxHeartbeats 4000000 in
theorem c_X6_permitOf (G : am_G) (l : Launch) (htr : l.stackTraces = false) (h : am_H) (n : Nat) (t : Nat → Nat → Int32) (x r : Nat → Nat → Bool) (hT : MT h n t x r) (nq : Nat) (hq30 : nq ≤ 30) (hx0 : hi_ h 14 14 = nI nq) (qd : Nat → Nat) (hqd : ∀ p, p < nq → qd p < n ∧ hi_ h 29 p = nI (qd p)) (P : Int32) : am_Met G l yX6_permitOf (.code yX6_permitOf cX6_permitOf 2 (some .int)) 5 0 0 [.ref (14), .int (P)] h (fun v h' => ∃ V, v = some (.int V) ∧ am_eq S4 (am_sI h 14 19 (nI (k3 (IX nq P) true true))) h' ∧ am_le h h' ∧ ((k3 (IX nq P) true true) = 0 → V = hi_ h 32 (dn P))) (am_no) := by
  have hM := hT.1
  have hn6 := hT.2.1
  have hn0 := hT.2.2.1
  refine am_intro rfl htr rfl (Nat.le_of_ble_eq_true rfl) (fun Z hC hR hI => ?_)
  change am_W Z 0 0 0 [.ref (14), .int (P)] [] h
  refine am_aload_n hC dX6_permitOf_0 rfl ?_
  refine am_iload_n hC dX6_permitOf_1 rfl ?_
  refine am_callV hC (ci := 7) (N := 20) [.int (P)] rfl (kM_14 hM) rfl mf_X6_isPrint tw_844 (c_X6_isPrint _ _ (am_tr hC) h n t x r hT nq hq30 hx0 qd hqd P) rfl ⟨rfl, Nat.le_of_ble_eq_true rfl⟩ ⟨by decide, by decide⟩ (by decide) (by decide) dX6_permitOf_2 rfl (fun _ _ q _ => False.elim q) (fun v h1 hp l1 => ?_)
  obtain ⟨rfl, e6, l6, hf⟩ := hp
  have hM := FM_eq (S := S4) (by unfold S4; omega) e6 (fun q hq => l1 q hq) hM
  refine am_if_eq (tgt := 17) hC dX6_permitOf_5 (by decide) (fun c_5 => ?_) (fun c_5 => ?_)
  · refine am_iconst (v := nI 0) hC dX6_permitOf_17 (by decide) ?_
    refine am_iret hC hR rfl (by decide) (by decide) dX6_permitOf_18 ?_
    first
      | (exact ⟨_, rfl, e6, l6, fun z => absurd ((k3_1 (b2i_0.mp c_5)).symm.trans z) (by decide)⟩)
      | exact ⟨_, rfl, e6, l6, fun _ => by rw [dn_nI (by omega)]⟩
  · have hP1 := b2i_ne c_5
    obtain ⟨p, hp9, rfl⟩ := (IX_iff (by omega)).mp hP1
    have hpp := hqd p hp9
    refine am_aload_n hC dX6_permitOf_8 rfl ?_
    refine am_get (v := .ref (32)) hC (ci := 7) (N := 20) (j := 18) rfl (kM_14 hM) (by decide) tw_666 (Or.inl rfl) dX6_permitOf_9 (am_rfe (rM_18 hM)) ?_
    refine am_iload_n hC dX6_permitOf_12 rfl ?_
    refine am_ialdE (v := hi_ h 32 p) hC (j := p) (N := 30) (kM_32 hM) (nM_32 hM) rfl (by omega) (by decide) dX6_permitOf_13 (out_eq e6 (by decide) (by decide) p) ?_
    refine am_goto (tgt := 18) hC dX6_permitOf_14 (by decide) ?_
    refine am_iret hC hR rfl (by decide) (by decide) dX6_permitOf_18 ?_
    first
      | (exact ⟨_, rfl, e6, l6, fun z => absurd ((k3_1 (b2i_0.mp c_5)).symm.trans z) (by decide)⟩)
      | exact ⟨_, rfl, e6, l6, fun _ => by rw [dn_nI (by omega)]⟩
set_option maxRecDepth 100000 in
set_option maxHeartbeats 4000000 in
theorem c_X6_isGood (G : am_G) (l : Launch) (htr : l.stackTraces = false) (h : am_H) (n : Nat) (t : Nat → Nat → Int32) (x r : Nat → Nat → Bool) (hT : MT h n t x r) (nq : Nat) (hq30 : nq ≤ 30) (hx0 : hi_ h 14 14 = nI nq) (qd : Nat → Nat) (hqd : ∀ p, p < nq → qd p < n ∧ hi_ h 29 p = nI (qd p)) (P : Int32) : am_Met G l yX6_isGood (.code yX6_isGood cX6_isGood 2 (some .boolean)) 5 0 0 [.ref (14), .int (P)] h (fun v h' => ∃ V, v = some (.int V) ∧ am_eq S4 (am_sI h 14 19 (nI (k3 (IX nq P) true true))) h' ∧ am_le h h' ∧ ((k3 (IX nq P) true true) = 0 → ∃ R : Bool, V = b2i R ∧ (R = true ↔ ¬ hi_ h 32 (dn P) < 0 ∧ MK h t x r 31 30 (dn P) (qd (dn P))))) (am_no) := by
  have hM := hT.1
  have hn6 := hT.2.1
  have hn0 := hT.2.2.1
  refine am_intro rfl htr rfl (Nat.le_of_ble_eq_true rfl) (fun Z hC hR hI => ?_)
  change am_W Z 0 0 0 [.ref (14), .int (P)] [] h
  refine am_aload_n hC dX6_isGood_0 rfl ?_
  refine am_iload_n hC dX6_isGood_1 rfl ?_
  refine am_callV hC (ci := 7) (N := 20) [.int (P)] rfl (kM_14 hM) rfl mf_X6_isPrint tw_844 (c_X6_isPrint _ _ (am_tr hC) h n t x r hT nq hq30 hx0 qd hqd P) rfl ⟨rfl, Nat.le_of_ble_eq_true rfl⟩ ⟨by decide, by decide⟩ (by decide) (by decide) dX6_isGood_2 rfl (fun _ _ q _ => False.elim q) (fun v h1 hp l1 => ?_)
  obtain ⟨rfl, e6, l6, hf⟩ := hp
  have hM := FM_eq (S := S4) (by unfold S4; omega) e6 (fun q hq => l1 q hq) hM
  refine am_if_eq (tgt := 29) hC dX6_isGood_5 (by decide) (fun c_5 => ?_) (fun c_5 => ?_)
  · refine am_iconst (v := nI 0) hC dX6_isGood_29 (by decide) ?_
    refine am_iret hC hR rfl (by decide) (by decide) dX6_isGood_30 ?_
    first
      | (exact ⟨_, rfl, e6, l6, fun z => absurd ((k3_1 (b2i_0.mp c_5)).symm.trans z) (by decide)⟩)
      | (exact ⟨_, rfl, e6, l6, fun _ => ⟨true, rfl, by rw [dn_nI (by omega)]; exact ⟨fun _ => ⟨c_14, hMK.mp (Classical.byContradiction (fun z => by rw [hR9.mpr z] at c_22; exact absurd c_22 (by decide)))⟩, fun _ => rfl⟩⟩⟩)
      | (exact ⟨_, rfl, e6, l6, fun _ => ⟨false, rfl, by rw [dn_nI (by omega)]; exact ⟨fun z => absurd z (by decide), fun z => absurd (hMK.mpr z.2) (hR9.mp (b2i_ne c_22))⟩⟩⟩)
      | (exact ⟨_, rfl, e6, l6, fun _ => ⟨false, rfl, by rw [dn_nI (by omega)]; exact ⟨fun z => absurd z (by decide), fun z => absurd c_14 z.1⟩⟩⟩)
  · have hP1 := b2i_ne c_5
    obtain ⟨p, hp9, rfl⟩ := (IX_iff (by omega)).mp hP1
    have hpp := hqd p hp9
    refine am_aload_n hC dX6_isGood_8 rfl ?_
    refine am_get (v := .ref (32)) hC (ci := 7) (N := 20) (j := 18) rfl (kM_14 hM) (by decide) tw_666 (Or.inl rfl) dX6_isGood_9 (am_rfe (rM_18 hM)) ?_
    refine am_iload_n hC dX6_isGood_12 rfl ?_
    refine am_ialdE (v := hi_ h 32 p) hC (j := p) (N := 30) (kM_32 hM) (nM_32 hM) rfl (by omega) (by decide) dX6_isGood_13 (out_eq e6 (by decide) (by decide) p) ?_
    refine am_if_lt (tgt := 29) hC dX6_isGood_14 (by decide) (fun c_14 => ?_) (fun c_14 => ?_)
    · refine am_iconst (v := nI 0) hC dX6_isGood_29 (by decide) ?_
      refine am_iret hC hR rfl (by decide) (by decide) dX6_isGood_30 ?_
      first
        | (exact ⟨_, rfl, e6, l6, fun z => absurd ((k3_1 (b2i_0.mp c_5)).symm.trans z) (by decide)⟩)
        | (exact ⟨_, rfl, e6, l6, fun _ => ⟨true, rfl, by rw [dn_nI (by omega)]; exact ⟨fun _ => ⟨c_14, hMK.mp (Classical.byContradiction (fun z => by rw [hR9.mpr z] at c_22; exact absurd c_22 (by decide)))⟩, fun _ => rfl⟩⟩⟩)
        | (exact ⟨_, rfl, e6, l6, fun _ => ⟨false, rfl, by rw [dn_nI (by omega)]; exact ⟨fun z => absurd z (by decide), fun z => absurd (hMK.mpr z.2) (hR9.mp (b2i_ne c_22))⟩⟩⟩)
        | (exact ⟨_, rfl, e6, l6, fun _ => ⟨false, rfl, by rw [dn_nI (by omega)]; exact ⟨fun z => absurd z (by decide), fun z => absurd c_14 z.1⟩⟩⟩)
    · refine am_aload_n hC dX6_isGood_17 rfl ?_
      refine am_iload_n hC dX6_isGood_18 rfl ?_
      refine am_callV hC (ci := 7) (N := 20) [.int (nI p)] rfl (kM_14 hM) rfl mf_X6_isOld tw_852 (c_X6_isOld _ _ (am_tr hC) h1 hM (qd p) (by omega) p (by omega) ((out_eq e6 (by decide) (by decide) _).trans hpp.2)) rfl ⟨rfl, Nat.le_of_ble_eq_true rfl⟩ ⟨by decide, by decide⟩ (by decide) (by decide) dX6_isGood_19 rfl (fun _ _ q _ => False.elim q) (fun v h' hp hlc => ?_)
      obtain ⟨z8, R, z9, hR9⟩ := hp
      have z8 := z8.symm
      subst z8
      subst z9
      have hMK := MK_of (t := t) (x := x) (r := r) (out_eq e6 (by decide) (by decide) p) (fun s => out_eq e6 (by decide) (by decide) s) (hf _ hpp.1) (ko := 31) (ks := 30)
      refine am_if_ne (tgt := 29) hC dX6_isGood_22 (by decide) (fun c_22 => ?_) (fun c_22 => ?_)
      · refine am_iconst (v := nI 0) hC dX6_isGood_29 (by decide) ?_
        refine am_iret hC hR rfl (by decide) (by decide) dX6_isGood_30 ?_
        first
          | (exact ⟨_, rfl, e6, l6, fun z => absurd ((k3_1 (b2i_0.mp c_5)).symm.trans z) (by decide)⟩)
          | (exact ⟨_, rfl, e6, l6, fun _ => ⟨true, rfl, by rw [dn_nI (by omega)]; exact ⟨fun _ => ⟨c_14, hMK.mp (Classical.byContradiction (fun z => by rw [hR9.mpr z] at c_22; exact absurd c_22 (by decide)))⟩, fun _ => rfl⟩⟩⟩)
          | (exact ⟨_, rfl, e6, l6, fun _ => ⟨false, rfl, by rw [dn_nI (by omega)]; exact ⟨fun z => absurd z (by decide), fun z => absurd (hMK.mpr z.2) (hR9.mp (b2i_ne c_22))⟩⟩⟩)
          | (exact ⟨_, rfl, e6, l6, fun _ => ⟨false, rfl, by rw [dn_nI (by omega)]; exact ⟨fun z => absurd z (by decide), fun z => absurd c_14 z.1⟩⟩⟩)
      · refine am_iconst (v := nI 1) hC dX6_isGood_25 (by decide) ?_
        refine am_goto (tgt := 30) hC dX6_isGood_26 (by decide) ?_
        refine am_iret hC hR rfl (by decide) (by decide) dX6_isGood_30 ?_
        first
          | (exact ⟨_, rfl, e6, l6, fun z => absurd ((k3_1 (b2i_0.mp c_5)).symm.trans z) (by decide)⟩)
          | (exact ⟨_, rfl, e6, l6, fun _ => ⟨true, rfl, by rw [dn_nI (by omega)]; exact ⟨fun _ => ⟨c_14, hMK.mp (Classical.byContradiction (fun z => by rw [hR9.mpr z] at c_22; exact absurd c_22 (by decide)))⟩, fun _ => rfl⟩⟩⟩)
          | (exact ⟨_, rfl, e6, l6, fun _ => ⟨false, rfl, by rw [dn_nI (by omega)]; exact ⟨fun z => absurd z (by decide), fun z => absurd (hMK.mpr z.2) (hR9.mp (b2i_ne c_22))⟩⟩⟩)
          | (exact ⟨_, rfl, e6, l6, fun _ => ⟨false, rfl, by rw [dn_nI (by omega)]; exact ⟨fun z => absurd z (by decide), fun z => absurd c_14 z.1⟩⟩⟩)
set_option maxRecDepth 100000 in
set_option maxHeartbeats 4000000 in
theorem c_X6_old (G : am_G) (l : Launch) (htr : l.stackTraces = false) (h : am_H) (n : Nat) (t : Nat → Nat → Int32) (x r : Nat → Nat → Bool) (hT : MT h n t x r) (nq : Nat) (hq30 : nq ≤ 30) (hx0 : hi_ h 14 14 = nI nq) (qd : Nat → Nat) (hqd : ∀ p, p < nq → qd p < n ∧ hi_ h 29 p = nI (qd p)) : am_Met G l yX6_old (.code yX6_old cX6_old 3 (some .int)) 4 0 0 [.ref (14)] h (fun v h' => am_eq S4 (am_sI h 14 19 (nI 0)) h' ∧ am_le h h' ∧ ∃ p : Nat → Bool, (∀ i, i < nq → (p i = true ↔ ¬ MK h t x r 31 30 i (qd i))) ∧ v = some (.int (nI (cnt p nq)))) (am_no) := by
  have hM := hT.1
  have hn6 := hT.2.1
  have hn0 := hT.2.2.1
  refine am_intro rfl htr rfl (Nat.le_of_ble_eq_true rfl) (fun Z hC hR hI => ?_)
  change am_W Z 0 0 0 [.ref (14), .null, .null] [] h
  refine am_aload_n hC dX6_old_0 rfl ?_
  refine am_iconst (v := nI 0) hC dX6_old_1 (by decide) ?_
  refine am_putI hC (ci := 7) (N := 20) (j := 19) rfl (kM_14 hM) (by decide) rfl rfl rfl tw_667 (Or.inl rfl) dX6_old_2 ?_
  have hM : FM (am_sI h 14 19 (nI 0)) := hM
  refine am_aload_n hC dX6_old_5 rfl ?_
  refine am_callV hC (ci := 7) (N := 20) [] rfl (kM_14 hM) rfl mf_X6_finds tw_758 (c_X6_finds _ _ (am_tr hC) (am_sI h 14 19 (nI 0)) n t x r (MT_th hT)) rfl ⟨rfl, Nat.le_of_ble_eq_true rfl⟩ ⟨by decide, by decide⟩ (by decide) (by decide) dX6_old_6 rfl (fun _ _ q _ => False.elim q) (fun v h5 hp l5 => ?_)
  obtain ⟨rfl, e5, hf⟩ := hp
  have e6 := S4_of e5
  have l6 := am_le_tr (am_le_sI h 14 19 (nI 0)) l5
  have hM := FM_eq (S := SF2) (by unfold SF2; omega) e5 l5 hM
  refine am_iconst (v := nI 0) hC dX6_old_9 (by decide) ?_
  refine am_istore_n hC dX6_old_10 (by decide) ?_
  change am_W _ _ _ _ [.ref (14), .int (nI 0), .null] _ _
  refine am_iconst (v := nI 0) hC dX6_old_11 (by decide) ?_
  refine am_istore_n hC dX6_old_12 (by decide) ?_
  change am_W _ _ _ _ [.ref (14), .int (nI 0), .int (nI 0)] _ _
  have hn14 : hi_ h5 14 14 = nI nq := ((e5 14 (by unfold SF2; omega)).2.2.1 14).trans (by rw [hi_sI, if_neg (fun z => absurd z.2 (by decide))]; exact hx0)
  have sl : ∀ (m i : Nat) (p : Nat → Bool), i + m = nq → (∀ j, j < i → (p j = true ↔ ¬ MK h t x r 31 30 j (qd j))) → am_W Z (0 + 0) (0 + 0) 13 [.ref (14), .int (nI (cnt p i)), .int (nI i)] [] h5 := by
    intro m
    induction m with
    | zero =>
      intro i p him hs
      obtain rfl : i = nq := by omega
      refine am_iload_n hC dX6_old_13 rfl ?_
      refine am_aload_n hC dX6_old_14 rfl ?_
      refine am_get (v := .int (nI i)) hC (ci := 7) (N := 20) (j := 14) rfl (kM_14 hM) (by decide) tw_662 (Or.inl rfl) dX6_old_15 (congrArg Value.int hn14) ?_
      refine am_icmp_ge (tgt := 43) hC dX6_old_18 (by decide) (fun c_18 => ?_) (fun c_18 => absurd (nI_le (by omega) (by omega)) c_18)
      refine am_iload_n hC dX6_old_43 rfl ?_
      refine am_iret hC hR rfl (by decide) (by decide) dX6_old_44 ?_
      exact ⟨e6, l6, p, hs, rfl⟩
    | succ m ih =>
      intro i p him hs
      have hi : i < nq := by omega
      have hcp := cnt_le p i
      have hpp := hqd i hi
      refine am_iload_n hC dX6_old_13 rfl ?_
      refine am_aload_n hC dX6_old_14 rfl ?_
      refine am_get (v := .int (nI nq)) hC (ci := 7) (N := 20) (j := 14) rfl (kM_14 hM) (by decide) tw_662 (Or.inl rfl) dX6_old_15 (congrArg Value.int hn14) ?_
      refine am_icmp_ge (tgt := 43) hC dX6_old_18 (by decide) (fun c_18 => absurd c_18 (nI_ge (by omega) (by omega))) (fun c_18 => ?_)
      refine am_iload_n hC dX6_old_21 rfl ?_
      refine am_aload_n hC dX6_old_22 rfl ?_
      refine am_iload_n hC dX6_old_23 rfl ?_
      refine am_callV hC (ci := 7) (N := 20) [.int (nI i)] rfl (kM_14 hM) rfl mf_X6_isOld tw_852 (c_X6_isOld _ _ (am_tr hC) h5 hM (qd i) (by omega) i (by omega) ((out_eq e6 (by decide) (by decide) _).trans hpp.2)) rfl ⟨rfl, Nat.le_of_ble_eq_true rfl⟩ ⟨by decide, by decide⟩ (by decide) (by decide) dX6_old_24 rfl (fun _ _ q _ => False.elim q) (fun v h' hp hlc => ?_)
      obtain ⟨z8, R, z9, hR9⟩ := hp
      have z8 := z8.symm
      subst z8
      subst z9
      have hMK := MK_of (t := t) (x := x) (r := r) (out_eq e6 (by decide) (by decide) i) (fun s => out_eq e6 (by decide) (by decide) s) (hf _ hpp.1) (ko := 31) (ks := 30)
      refine am_if_eq (tgt := 34) hC dX6_old_27 (by decide) (fun c_27 => ?_) (fun c_27 => ?_)
      · refine am_iconst (v := nI 0) hC dX6_old_34 (by decide) ?_
        refine am_iaddE (z := nI (cnt p i + 0)) hC dX6_old_35 (nI_add (cnt p i) (0)) ?_
        refine am_istore_n hC dX6_old_36 (by decide) ?_
        change am_W _ _ _ _ [.ref (14), .int (nI (cnt p i + 0)), .int (nI i)] _ _
        refine am_iinc (v := nI (i + 1)) hC dX6_old_37 rfl (nI_1 (i)) (by decide) ?_
        change am_W _ _ _ _ [.ref (14), .int (nI (cnt p i + 0)), .int (nI (i + 1))] _ _
        refine am_goto (tgt := 13) hC dX6_old_40 (by decide) ?_
        have hc9 : cnt (pex p i false) (i + 1) = cnt p i + 0 := by
          rw [cnt_n (show pex p i false i = false from if_pos rfl), cnt_cg (p := pex p i false) (q := p) (fun j hj => if_neg (Nat.ne_of_lt hj))]
          exact (Nat.add_zero _).symm
        have k9 := ih (i + 1) (pex p i false) (by omega) (fun j hj => by
          rcases Nat.lt_or_eq_of_le (Nat.le_of_lt_succ hj) with z | z
          · rw [show pex p i false j = p j from if_neg (Nat.ne_of_lt z)]; exact hs j z
          · subst z
            rw [show pex p j false j = false from if_pos rfl]
            exact ⟨fun z => absurd z (by decide), fun z => by rw [hR9.mpr (fun w => z (hMK.mp w))] at c_27; exact absurd c_27 (by decide)⟩)
        rw [hc9] at k9
        exact k9
      · refine am_iconst (v := nI 1) hC dX6_old_30 (by decide) ?_
        refine am_goto (tgt := 35) hC dX6_old_31 (by decide) ?_
        refine am_iaddE (z := nI (cnt p i + 1)) hC dX6_old_35 (nI_add (cnt p i) (1)) ?_
        refine am_istore_n hC dX6_old_36 (by decide) ?_
        change am_W _ _ _ _ [.ref (14), .int (nI (cnt p i + 1)), .int (nI i)] _ _
        refine am_iinc (v := nI (i + 1)) hC dX6_old_37 rfl (nI_1 (i)) (by decide) ?_
        change am_W _ _ _ _ [.ref (14), .int (nI (cnt p i + 1)), .int (nI (i + 1))] _ _
        refine am_goto (tgt := 13) hC dX6_old_40 (by decide) ?_
        have hc9 : cnt (pex p i true) (i + 1) = cnt p i + 1 := by
          rw [cnt_y (show pex p i true i = true from if_pos rfl), cnt_cg (p := pex p i true) (q := p) (fun j hj => if_neg (Nat.ne_of_lt hj))]
        have k9 := ih (i + 1) (pex p i true) (by omega) (fun j hj => by
          rcases Nat.lt_or_eq_of_le (Nat.le_of_lt_succ hj) with z | z
          · rw [show pex p i true j = p j from if_neg (Nat.ne_of_lt z)]; exact hs j z
          · subst z
            rw [show pex p j true j = true from if_pos rfl]
            exact ⟨fun _ z => hR9.mp (b2i_ne c_27) (hMK.mpr z), fun _ => rfl⟩)
        rw [hc9] at k9
        exact k9
  exact sl nq 0 (fun _ => false) (Nat.zero_add _) (fun j hj => absurd hj (Nat.not_lt_zero j))
