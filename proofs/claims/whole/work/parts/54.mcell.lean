/-! ===== the model's calls that ask of one cell ===== -/
set_option maxRecDepth 100000 in
set_option maxHeartbeats 4000000 in
theorem c_X6_hasExit (G : am_G) (l : Launch) (htr : l.stackTraces = false) (h : am_H) (n : Nat) (t : Nat → Nat → Int32) (x r : Nat → Nat → Bool) (hT : MT h n t x r) (D : Int32) (C : Int32) : am_Met G l yX6_hasExit (.code yX6_hasExit cX6_hasExit 3 (some .boolean)) 5 0 0 [.ref (14), .int (D), .int (C)] h (fun v h' => ∃ V, v = some (.int V) ∧ ((k3 (IX n D) (IX 25 C) true) ≠ 0 → h' = am_sI h 14 19 (nI (k3 (IX n D) (IX 25 C) true))) ∧ ((k3 (IX n D) (IX 25 C) true) = 0 → V = b2i (exF x r 6 (dn D) (dn C)) ∧ am_eq S4 (am_sI h 14 19 (nI 0)) h' ∧ am_le h h')) (am_no) := by
  have hM := hT.1
  have hn6 := hT.2.1
  have hn0 := hT.2.2.1
  refine am_intro rfl htr rfl (Nat.le_of_ble_eq_true rfl) (fun Z hC hR hI => ?_)
  change am_W Z 0 0 0 [.ref (14), .int (D), .int (C)] [] h
  refine am_aload_n hC dX6_hasExit_0 rfl ?_
  refine am_iload_n hC dX6_hasExit_1 rfl ?_
  refine am_iload_n hC dX6_hasExit_2 rfl ?_
  refine am_callV hC (ci := 7) (N := 20) [.int (D), .int (C)] rfl (kM_14 hM) rfl mf_X6_asks tw_770 (c_X6_asks _ _ (am_tr hC) h n t x r hT D C) rfl ⟨rfl, Nat.le_of_ble_eq_true rfl⟩ ⟨by decide, by decide⟩ (by decide) (by decide) dX6_hasExit_3 rfl (fun _ _ q _ => False.elim q) (fun v h1 hp l1 => ?_)
  obtain ⟨R, rfl, hA⟩ := hp
  refine am_if_eq (tgt := 27) hC dX6_hasExit_6 (by decide) (fun c_6 => ?_) (fun c_6 => ?_)
  · refine am_iconst (v := nI 0) hC dX6_hasExit_27 (by decide) ?_
    refine am_iret hC hR rfl (by decide) (by decide) dX6_hasExit_28 ?_
    first
      | (have hR := hA.1 (b2i_0.mp c_6); exact ⟨_, rfl, fun _ => hR.2, fun z => absurd z hR.1⟩)
      | (exact ⟨_, rfl, fun z => absurd (k3_DC hn6 hd hc) z, fun _ => ⟨by rw [dn_nI (by omega), dn_nI (by omega), ← (hf d hd).2 c (by omega), (tb_ (by omega)).mp c_20]; rfl, e5, l5⟩⟩)
      | (exact ⟨_, rfl, fun z => absurd (k3_DC hn6 hd hc) z, fun _ => ⟨by rw [dn_nI (by omega), dn_nI (by omega), ← (hf d hd).2 c (by omega), tb_n (by omega) c_20]; rfl, e5, l5⟩⟩)
  · obtain ⟨d, c, hd, hc, rfl, rfl, e5, l5, hf, ro, Dx, k1, k2, k3_, k4⟩ := hA.2 (b2i_ne c_6)
    have hM := FM_eq (S := S4) (by unfold S4; omega) e5 (fun q hq => l1 q hq) hM
    have hrl : ∀ c, c < 25 → ro c < 25 := fun c hc => Room_lt k1 hc
    refine am_aload_n hC dX6_hasExit_9 rfl ?_
    refine am_get (v := .ref (21)) hC (ci := 7) (N := 20) (j := 7) rfl (kM_14 hM) (by decide) tw_655 (Or.inl rfl) dX6_hasExit_10 (am_rfe (rM_7 hM)) ?_
    refine am_iload_n hC dX6_hasExit_13 rfl ?_
    refine am_ialdE (v := hi_ h1 21 d) hC (j := d) (N := 6) (kM_21 hM) (nM_21 hM) rfl (by omega) (by decide) dX6_hasExit_14 rfl ?_
    refine am_iload_n hC dX6_hasExit_15 rfl ?_
    refine am_ishrE (z := (hi_ h1 21 d) >>> ((nI c) &&& 31)) hC dX6_hasExit_16 rfl ?_
    refine am_iconst (v := nI 1) hC dX6_hasExit_17 (by decide) ?_
    refine am_iandE (z := ((hi_ h1 21 d) >>> ((nI c) &&& 31)) &&& (nI 1)) hC dX6_hasExit_18 rfl ?_
    refine am_iconst (v := nI 1) hC dX6_hasExit_19 (by decide) ?_
    refine am_icmp_ne (tgt := 27) hC dX6_hasExit_20 (by decide) (fun c_20 => ?_) (fun c_20 => ?_)
    · refine am_iconst (v := nI 0) hC dX6_hasExit_27 (by decide) ?_
      refine am_iret hC hR rfl (by decide) (by decide) dX6_hasExit_28 ?_
      first
        | (have hR := hA.1 (b2i_0.mp c_6); exact ⟨_, rfl, fun _ => hR.2, fun z => absurd z hR.1⟩)
        | (exact ⟨_, rfl, fun z => absurd (k3_DC hn6 hd hc) z, fun _ => ⟨by rw [dn_nI (by omega), dn_nI (by omega), ← (hf d hd).2 c (by omega), (tb_ (by omega)).mp c_20]; rfl, e5, l5⟩⟩)
        | (exact ⟨_, rfl, fun z => absurd (k3_DC hn6 hd hc) z, fun _ => ⟨by rw [dn_nI (by omega), dn_nI (by omega), ← (hf d hd).2 c (by omega), tb_n (by omega) c_20]; rfl, e5, l5⟩⟩)
    · refine am_iconst (v := nI 1) hC dX6_hasExit_23 (by decide) ?_
      refine am_goto (tgt := 28) hC dX6_hasExit_24 (by decide) ?_
      refine am_iret hC hR rfl (by decide) (by decide) dX6_hasExit_28 ?_
      first
        | (have hR := hA.1 (b2i_0.mp c_6); exact ⟨_, rfl, fun _ => hR.2, fun z => absurd z hR.1⟩)
        | (exact ⟨_, rfl, fun z => absurd (k3_DC hn6 hd hc) z, fun _ => ⟨by rw [dn_nI (by omega), dn_nI (by omega), ← (hf d hd).2 c (by omega), (tb_ (by omega)).mp c_20]; rfl, e5, l5⟩⟩)
        | (exact ⟨_, rfl, fun z => absurd (k3_DC hn6 hd hc) z, fun _ => ⟨by rw [dn_nI (by omega), dn_nI (by omega), ← (hf d hd).2 c (by omega), tb_n (by omega) c_20]; rfl, e5, l5⟩⟩)
set_option maxRecDepth 100000 in
set_option maxHeartbeats 4000000 in
theorem c_X6_room (G : am_G) (l : Launch) (htr : l.stackTraces = false) (h : am_H) (n : Nat) (t : Nat → Nat → Int32) (x r : Nat → Nat → Bool) (hT : MT h n t x r) (D : Int32) (C : Int32) : am_Met G l yX6_room (.code yX6_room cX6_room 3 (some .int)) 5 0 0 [.ref (14), .int (D), .int (C)] h (fun v h' => ∃ V, v = some (.int V) ∧ ((k3 (IX n D) (IX 25 C) true) ≠ 0 → h' = am_sI h 14 19 (nI (k3 (IX n D) (IX 25 C) true))) ∧ ((k3 (IX n D) (IX 25 C) true) = 0 → VM (fun s => sdF t r 6 (dn D) s) (dn C) V ∧ am_eq S4 (am_sI h 14 19 (nI 0)) h' ∧ am_le h h')) (am_no) := by
  have hM := hT.1
  have hn6 := hT.2.1
  have hn0 := hT.2.2.1
  refine am_intro rfl htr rfl (Nat.le_of_ble_eq_true rfl) (fun Z hC hR hI => ?_)
  change am_W Z 0 0 0 [.ref (14), .int (D), .int (C)] [] h
  refine am_aload_n hC dX6_room_0 rfl ?_
  refine am_iload_n hC dX6_room_1 rfl ?_
  refine am_iload_n hC dX6_room_2 rfl ?_
  refine am_callV hC (ci := 7) (N := 20) [.int (D), .int (C)] rfl (kM_14 hM) rfl mf_X6_asks tw_770 (c_X6_asks _ _ (am_tr hC) h n t x r hT D C) rfl ⟨rfl, Nat.le_of_ble_eq_true rfl⟩ ⟨by decide, by decide⟩ (by decide) (by decide) dX6_room_3 rfl (fun _ _ q _ => False.elim q) (fun v h1 hp l1 => ?_)
  obtain ⟨R, rfl, hA⟩ := hp
  refine am_if_eq (tgt := 18) hC dX6_room_6 (by decide) (fun c_6 => ?_) (fun c_6 => ?_)
  · refine am_iconst (v := nI 0) hC dX6_room_18 (by decide) ?_
    refine am_iret hC hR rfl (by decide) (by decide) dX6_room_19 ?_
    first
      | (have hR := hA.1 (b2i_0.mp c_6); exact ⟨_, rfl, fun _ => hR.2, fun z => absurd z hR.1⟩)
      | (exact ⟨_, rfl, fun z => absurd (k3_DC hn6 hd hc) z, fun _ => ⟨by rw [dn_nI (by omega), dn_nI (by omega)]; exact ⟨ro, k1, rfl⟩, e5, l5⟩⟩)
  · obtain ⟨d, c, hd, hc, rfl, rfl, e5, l5, hf, ro, Dx, k1, k2, k3_, k4⟩ := hA.2 (b2i_ne c_6)
    have hM := FM_eq (S := S4) (by unfold S4; omega) e5 (fun q hq => l1 q hq) hM
    have hrl : ∀ c, c < 25 → ro c < 25 := fun c hc => Room_lt k1 hc
    refine am_aload_n hC dX6_room_9 rfl ?_
    refine am_get (v := .ref (22)) hC (ci := 7) (N := 20) (j := 8) rfl (kM_14 hM) (by decide) tw_656 (Or.inl rfl) dX6_room_10 (am_rfe (rM_8 hM)) ?_
    refine am_iload_n hC dX6_room_13 rfl ?_
    refine am_ialdE (v := nI (ro c)) hC (j := c) (N := 25) (kM_22 hM) (nM_22 hM) rfl (by omega) (by decide) dX6_room_14 (k3_ c hc) ?_
    refine am_goto (tgt := 19) hC dX6_room_15 (by decide) ?_
    refine am_iret hC hR rfl (by decide) (by decide) dX6_room_19 ?_
    first
      | (have hR := hA.1 (b2i_0.mp c_6); exact ⟨_, rfl, fun _ => hR.2, fun z => absurd z hR.1⟩)
      | (exact ⟨_, rfl, fun z => absurd (k3_DC hn6 hd hc) z, fun _ => ⟨by rw [dn_nI (by omega), dn_nI (by omega)]; exact ⟨ro, k1, rfl⟩, e5, l5⟩⟩)
theorem w99_dI {o : Option Nat} (ho : ∀ k, o = some k → k < 25) : (if w99 o = 99 then (-1 : Int32) else nI (w99 o)) = dI o := by
  cases o with
  | none => rfl
  | some k =>
    have := ho k rfl
    show (if k = 99 then (-1 : Int32) else nI k) = nI k
    rw [if_neg (by omega)]
theorem w99_le {o : Option Nat} (ho : ∀ k, o = some k → k < 25) : w99 o ≤ 99 := by
  cases o with
  | none => exact Nat.le_refl _
  | some k => have := ho k rfl; show k ≤ 99; omega
set_option maxRecDepth 100000 in
set_option maxHeartbeats 4000000 in
theorem c_X6_doorsOut (G : am_G) (l : Launch) (htr : l.stackTraces = false) (h : am_H) (n : Nat) (t : Nat → Nat → Int32) (x r : Nat → Nat → Bool) (hT : MT h n t x r) (D : Int32) (C : Int32) : am_Met G l yX6_doorsOut (.code yX6_doorsOut cX6_doorsOut 4 (some .int)) 5 0 0 [.ref (14), .int (D), .int (C)] h (fun v h' => ∃ V, v = some (.int V) ∧ ((k3 (IX n D) (IX 25 C) true) ≠ 0 → h' = am_sI h 14 19 (nI (k3 (IX n D) (IX 25 C) true))) ∧ ((k3 (IX n D) (IX 25 C) true) = 0 → VD (fun s => sdF t r 6 (dn D) s) (fun c => exF x r 6 (dn D) c) (dn C) V ∧ am_eq S4 (am_sI h 14 19 (nI 0)) h' ∧ am_le h h')) (am_no) := by
  have hM := hT.1
  have hn6 := hT.2.1
  have hn0 := hT.2.2.1
  refine am_intro rfl htr rfl (Nat.le_of_ble_eq_true rfl) (fun Z hC hR hI => ?_)
  change am_W Z 0 0 0 [.ref (14), .int (D), .int (C), .null] [] h
  refine am_aload_n hC dX6_doorsOut_0 rfl ?_
  refine am_iload_n hC dX6_doorsOut_1 rfl ?_
  refine am_iload_n hC dX6_doorsOut_2 rfl ?_
  refine am_callV hC (ci := 7) (N := 20) [.int (D), .int (C)] rfl (kM_14 hM) rfl mf_X6_asks tw_770 (c_X6_asks _ _ (am_tr hC) h n t x r hT D C) rfl ⟨rfl, Nat.le_of_ble_eq_true rfl⟩ ⟨by decide, by decide⟩ (by decide) (by decide) dX6_doorsOut_3 rfl (fun _ _ q _ => False.elim q) (fun v h1 hp l1 => ?_)
  obtain ⟨R, rfl, hA⟩ := hp
  refine am_if_ne (tgt := 11) hC dX6_doorsOut_6 (by decide) (fun c_6 => ?_) (fun c_6 => ?_)
  · obtain ⟨d, c, hd, hc, rfl, rfl, e5, l5, hf, ro, Dx, k1, k2, k3_, k4⟩ := hA.2 (b2i_ne c_6)
    have hM := FM_eq (S := S4) (by unfold S4; omega) e5 (fun q hq => l1 q hq) hM
    have hrl : ∀ c, c < 25 → ro c < 25 := fun c hc => Room_lt k1 hc
    refine am_aload_n hC dX6_doorsOut_11 rfl ?_
    refine am_get (v := .ref (23)) hC (ci := 7) (N := 20) (j := 9) rfl (kM_14 hM) (by decide) tw_657 (Or.inl rfl) dX6_doorsOut_12 (am_rfe (rM_9 hM)) ?_
    refine am_aload_n hC dX6_doorsOut_15 rfl ?_
    refine am_get (v := .ref (22)) hC (ci := 7) (N := 20) (j := 8) rfl (kM_14 hM) (by decide) tw_656 (Or.inl rfl) dX6_doorsOut_16 (am_rfe (rM_8 hM)) ?_
    refine am_iload_n hC dX6_doorsOut_19 rfl ?_
    refine am_ialdE (v := nI (ro c)) hC (j := c) (N := 25) (kM_22 hM) (nM_22 hM) rfl (by omega) (by decide) dX6_doorsOut_20 (k3_ c hc) ?_
    refine am_ialdE (v := nI (w99 (Dx (ro c)))) hC (j := ro c) (N := 25) (kM_23 hM) (nM_23 hM) rfl (hrl c hc) (by decide) dX6_doorsOut_21 (k4 _ (hrl c hc)) ?_
    have hdl : ∀ k, Dx (ro c) = some k → k < 25 := fun k hk => Dist_lt k2 (hrl c hc) hk
    have hw9 := w99_le hdl
    refine am_istore_n hC dX6_doorsOut_22 (by decide) ?_
    change am_W _ _ _ _ [.ref (14), .int (nI d), .int (nI c), .int (nI (w99 (Dx (ro c))))] _ _
    refine am_iload_n hC dX6_doorsOut_23 rfl ?_
    refine am_bipush (v := nI 99) hC dX6_doorsOut_24 (by decide) ?_
    refine am_icmp_ne (tgt := 33) hC dX6_doorsOut_26 (by decide) (fun c_26 => ?_) (fun c_26 => ?_)
    · replace c_26 : ¬ (w99 (Dx (ro c))) = 99 := fun q9 => c_26 ((nI_eq (a := (w99 (Dx (ro c)))) (b := 99) (by omega) (by omega)).mpr q9)
      refine am_iload_n hC dX6_doorsOut_33 rfl ?_
      refine am_iret hC hR rfl (by decide) (by decide) dX6_doorsOut_34 ?_
      refine ⟨_, rfl, fun z => absurd (k3_DC hn6 hd hc) z, fun _ => ⟨?_, e5, l5⟩⟩
      rw [dn_nI (by omega), dn_nI (by omega)]
      refine ⟨ro, Dx, k1, k2, ?_⟩
      rw [← w99_dI hdl]
      first
        | rw [if_pos c_26]
        | rw [if_neg c_26]
    · replace c_26 : (w99 (Dx (ro c))) = 99 := (nI_eq (a := (w99 (Dx (ro c)))) (b := 99) (by omega) (by omega)).mp c_26
      refine am_iconst (v := -1) hC dX6_doorsOut_29 (by decide) ?_
      refine am_goto (tgt := 34) hC dX6_doorsOut_30 (by decide) ?_
      refine am_iret hC hR rfl (by decide) (by decide) dX6_doorsOut_34 ?_
      refine ⟨_, rfl, fun z => absurd (k3_DC hn6 hd hc) z, fun _ => ⟨?_, e5, l5⟩⟩
      rw [dn_nI (by omega), dn_nI (by omega)]
      refine ⟨ro, Dx, k1, k2, ?_⟩
      rw [← w99_dI hdl]
      first
        | rw [if_pos c_26]
        | rw [if_neg c_26]
  · refine am_iconst (v := nI 0) hC dX6_doorsOut_9 (by decide) ?_
    refine am_iret hC hR rfl (by decide) (by decide) dX6_doorsOut_10 ?_
    have hR := hA.1 (b2i_0.mp c_6)
    exact ⟨_, rfl, fun _ => hR.2, fun z => absurd z hR.1⟩
