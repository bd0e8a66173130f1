/-! ===== the model's calls: locks, exits ===== -/
set_option maxRecDepth 100000 in
set_option maxHeartbeats 4000000 in
theorem c_X6_drawings (G : am_G) (l : Launch) (htr : l.stackTraces = false) (h : am_H) (hM : FM h) (n : Nat) (hn6 : n ≤ 6) (hn0 : hi_ h 14 0 = nI n) : am_Met G l yX6_drawings (.code yX6_drawings cX6_drawings 1 (some .int)) 1 0 0 [.ref (14)] h (fun v h' => h' = am_sI h 14 19 (nI 0) ∧ v = some (.int (nI n))) (am_no) := by
  refine am_intro rfl htr rfl (Nat.le_of_ble_eq_true rfl) (fun Z hC hR hI => ?_)
  change am_W Z 0 0 0 [.ref (14)] [] h
  refine am_aload_n hC dX6_drawings_0 rfl ?_
  refine am_iconst (v := nI 0) hC dX6_drawings_1 (by decide) ?_
  refine am_putI hC (ci := 7) (N := 20) (j := 19) rfl (kM_14 hM) (by decide) rfl rfl rfl tw_667 (Or.inl rfl) dX6_drawings_2 ?_
  have hM : FM (am_sI h 14 19 (nI 0)) := hM
  refine am_aload_n hC dX6_drawings_5 rfl ?_
  refine am_get (v := .int (nI n)) hC (ci := 7) (N := 20) (j := 0) rfl (kM_14 hM) (by decide) tw_648 (Or.inl rfl) dX6_drawings_6 (congrArg Value.int hn0) ?_
  refine am_iret hC hR rfl (by decide) (by decide) dX6_drawings_9 ?_
  exact ⟨rfl, rfl⟩
set_option maxRecDepth 100000 in
set_option maxHeartbeats 4000000 in
theorem c_X6_canChange (G : am_G) (l : Launch) (htr : l.stackTraces = false) (h : am_H) (hM : FM h) (n : Nat) (hn6 : n ≤ 6) (hn0 : hi_ h 14 0 = nI n) (D : Int32) : am_Met G l yX6_canChange (.code yX6_canChange cX6_canChange 2 (some .int)) 3 0 0 [.ref (14), .int (D)] h (fun v h' => ∃ V, v = some (.int V) ∧ ((k3 (IX n D) true true) ≠ 0 → h' = am_sI h 14 19 (nI (k3 (IX n D) true true))) ∧ ((k3 (IX n D) true true) = 0 → V = chM h (dn D) ∧ h' = am_sI h 14 19 (nI 0))) (am_no) := by
  refine am_intro rfl htr rfl (Nat.le_of_ble_eq_true rfl) (fun Z hC hR hI => ?_)
  change am_W Z 0 0 0 [.ref (14), .int (D)] [] h
  refine am_aload_n hC dX6_canChange_0 rfl ?_
  refine am_aload_n hC dX6_canChange_1 rfl ?_
  refine am_iload_n hC dX6_canChange_2 rfl ?_
  refine am_callV hC (ci := 7) (N := 20) [.int (D)] rfl (kM_14 hM) rfl mf_X6_isDrawing tw_727 (c_X6_isDrawing _ _ (am_tr hC) h hM n hn6 hn0 D) rfl ⟨rfl, Nat.le_of_ble_eq_true rfl⟩ ⟨by decide, by decide⟩ (by decide) (by decide) dX6_canChange_3 rfl (fun _ _ q _ => False.elim q) (fun v h' hp hlc => ?_)
  obtain ⟨z8, z9⟩ := hp
  have z8 := z8.symm
  subst z8
  subst z9
  refine am_if_eq (tgt := 13) hC dX6_canChange_6 (by decide) (fun c_6 => ?_) (fun c_6 => ?_)
  · refine am_iconst (v := nI 1) hC dX6_canChange_13 (by decide) ?_
    refine am_putI hC (ci := 7) (N := 20) (j := 19) rfl (kM_14 hM) (by decide) rfl rfl rfl tw_667 (Or.inl rfl) dX6_canChange_14 ?_
    have hM : FM (am_sI h 14 19 (nI 1)) := hM
    refine am_aload_n hC dX6_canChange_17 rfl ?_
    refine am_get (v := .int (nI 1)) hC (ci := 7) (N := 20) (j := 19) rfl (kM_14 hM) (by decide) tw_667 (Or.inl rfl) dX6_canChange_18 rfl ?_
    refine am_if_le (tgt := 28) hC dX6_canChange_21 (by decide) (fun c_21 => absurd c_21 (by decide)) (fun c_21 => ?_)
    refine am_iconst (v := nI 0) hC dX6_canChange_24 (by decide) ?_
    refine am_goto (tgt := 33) hC dX6_canChange_25 (by decide) ?_
    refine am_iret hC hR rfl (by decide) (by decide) dX6_canChange_33 ?_
    exact ⟨_, rfl, rfz (k3_1 (b2i_0.mp c_6)) (by decide) rfl⟩
  · have hD1 := b2i_ne c_6
    obtain ⟨d, hd, rfl⟩ := (IX_iff (by omega)).mp hD1
    refine am_iconst (v := nI 0) hC dX6_canChange_9 (by decide) ?_
    refine am_goto (tgt := 14) hC dX6_canChange_10 (by decide) ?_
    refine am_putI hC (ci := 7) (N := 20) (j := 19) rfl (kM_14 hM) (by decide) rfl rfl rfl tw_667 (Or.inl rfl) dX6_canChange_14 ?_
    have hM : FM (am_sI h 14 19 (nI 0)) := hM
    refine am_aload_n hC dX6_canChange_17 rfl ?_
    refine am_get (v := .int (nI 0)) hC (ci := 7) (N := 20) (j := 19) rfl (kM_14 hM) (by decide) tw_667 (Or.inl rfl) dX6_canChange_18 rfl ?_
    refine am_if_le (tgt := 28) hC dX6_canChange_21 (by decide) (fun c_21 => ?_) (fun c_21 => absurd (by decide) c_21)
    refine am_aload_n hC dX6_canChange_28 rfl ?_
    refine am_iload_n hC dX6_canChange_29 rfl ?_
    refine am_callV hC (ci := 7) (N := 20) [.int (nI d)] rfl (kM_14 hM) rfl mf_X6_changer tw_731 (c_X6_changer _ _ (am_tr hC) (am_sI h 14 19 (nI 0)) hM d (by omega)) rfl ⟨rfl, Nat.le_of_ble_eq_true rfl⟩ ⟨by decide, by decide⟩ (by decide) (by decide) dX6_canChange_30 rfl (fun _ _ q _ => False.elim q) (fun v h' hp hlc => ?_)
    obtain ⟨z8, z9⟩ := hp
    subst z8
    subst z9
    refine am_iret hC hR rfl (by decide) (by decide) dX6_canChange_33 ?_
    have hK : k3 (IX n (nI d)) true true = 0 := k3_0 hD1 rfl rfl
    refine ⟨_, rfl, fun z => absurd hK z, fun _ => ⟨?_, rfl⟩⟩
    rw [dn_nI (by omega)]
    rfl
set_option maxRecDepth 100000 in
set_option maxHeartbeats 4000000 in
theorem c_X6_lock (G : am_G) (l : Launch) (htr : l.stackTraces = false) (h : am_H) (hM : FM h) (n : Nat) (hn6 : n ≤ 6) (hn0 : hi_ h 14 0 = nI n) (D : Int32) (P : Int32) : am_Met G l yX6_lock (.code yX6_lock cX6_lock 3 none) 3 0 0 [.ref (14), .int (D), .int (P)] h (fun v h' => v = none ∧ ((k3 (IX n D) (IX 6 P) (decide (hi_ h 18 (dn D) < 0))) ≠ 0 → h' = am_sI h 14 19 (nI (k3 (IX n D) (IX 6 P) (decide (hi_ h 18 (dn D) < 0))))) ∧ ((k3 (IX n D) (IX 6 P) (decide (hi_ h 18 (dn D) < 0))) = 0 → h' = am_sI (am_sI h 14 19 (nI 0)) 18 (dn D) P)) (am_no) := by
  refine am_intro rfl htr rfl (Nat.le_of_ble_eq_true rfl) (fun Z hC hR hI => ?_)
  change am_W Z 0 0 0 [.ref (14), .int (D), .int (P)] [] h
  refine am_aload_n hC dX6_lock_0 rfl ?_
  refine am_aload_n hC dX6_lock_1 rfl ?_
  refine am_iload_n hC dX6_lock_2 rfl ?_
  refine am_callV hC (ci := 7) (N := 20) [.int (D)] rfl (kM_14 hM) rfl mf_X6_isDrawing tw_727 (c_X6_isDrawing _ _ (am_tr hC) h hM n hn6 hn0 D) rfl ⟨rfl, Nat.le_of_ble_eq_true rfl⟩ ⟨by decide, by decide⟩ (by decide) (by decide) dX6_lock_3 rfl (fun _ _ q _ => False.elim q) (fun v h' hp hlc => ?_)
  obtain ⟨z8, z9⟩ := hp
  have z8 := z8.symm
  subst z8
  subst z9
  refine am_if_ne (tgt := 13) hC dX6_lock_6 (by decide) (fun c_6 => ?_) (fun c_6 => ?_)
  · have hD1 := b2i_ne c_6
    obtain ⟨d, hd, rfl⟩ := (IX_iff (by omega)).mp hD1
    refine am_iload_n hC dX6_lock_13 rfl ?_
    refine am_callS hC [.int (P)] mf_X6_isPerson tw_721 (c_X6_isPerson _ _ (am_tr hC) h P) rfl ⟨rfl, Nat.le_of_ble_eq_true rfl⟩ ⟨by decide, by decide⟩ (by decide) (by decide) dX6_lock_14 rfl (fun _ _ q _ => False.elim q) (fun v h' hp hlc => ?_)
    obtain ⟨z8, z9⟩ := hp
    have z8 := z8.symm
    subst z8
    subst z9
    refine am_if_ne (tgt := 24) hC dX6_lock_17 (by decide) (fun c_17 => ?_) (fun c_17 => ?_)
    · refine am_aload_n hC dX6_lock_24 rfl ?_
      refine am_get (v := .ref (18)) hC (ci := 7) (N := 20) (j := 4) rfl (kM_14 hM) (by decide) tw_652 (Or.inl rfl) dX6_lock_25 (am_rfe (rM_4 hM)) ?_
      refine am_iload_n hC dX6_lock_28 rfl ?_
      refine am_ialdE (v := hi_ h 18 d) hC (j := d) (N := 6) (kM_18 hM) (nM_18 hM) rfl (by omega) (by decide) dX6_lock_29 rfl ?_
      refine am_if_lt (tgt := 37) hC dX6_lock_30 (by decide) (fun c_30 => ?_) (fun c_30 => ?_)
      · refine am_iconst (v := nI 0) hC dX6_lock_37 (by decide) ?_
        refine am_putI hC (ci := 7) (N := 20) (j := 19) rfl (kM_14 hM) (by decide) rfl rfl rfl tw_667 (Or.inl rfl) dX6_lock_38 ?_
        have hM : FM (am_sI h 14 19 (nI 0)) := hM
        refine am_aload_n hC dX6_lock_41 rfl ?_
        refine am_get (v := .int (nI 0)) hC (ci := 7) (N := 20) (j := 19) rfl (kM_14 hM) (by decide) tw_667 (Or.inl rfl) dX6_lock_42 rfl ?_
        refine am_if_ne (tgt := 55) hC dX6_lock_45 (by decide) (fun c_45 => absurd (by decide) c_45) (fun c_45 => ?_)
        refine am_aload_n hC dX6_lock_48 rfl ?_
        refine am_get (v := .ref (18)) hC (ci := 7) (N := 20) (j := 4) rfl (kM_14 hM) (by decide) tw_652 (Or.inl rfl) dX6_lock_49 (am_rfe (rM_4 hM)) ?_
        refine am_iload_n hC dX6_lock_52 rfl ?_
        refine am_iload_n hC dX6_lock_53 rfl ?_
        refine am_iast hC (j := d) (N := 6) (kM_18 hM) (nM_18 hM) rfl (by omega) (by decide) dX6_lock_54 ?_
        refine am_vret hC hR (by decide) (by decide) dX6_lock_55 ?_
        have hK : k3 (IX n (nI d)) (IX 6 P) (decide (hi_ h 18 (dn (nI d)) < 0)) = 0 := k3_0 hD1 (b2i_ne c_17) (decide_eq_true (by rw [dn_nI (by omega)]; exact c_30))
        refine ⟨rfl, fun z => absurd hK z, fun _ => ?_⟩
        rw [dn_nI (by omega)]
      · refine am_iconst (v := nI 3) hC dX6_lock_33 (by decide) ?_
        refine am_goto (tgt := 38) hC dX6_lock_34 (by decide) ?_
        refine am_putI hC (ci := 7) (N := 20) (j := 19) rfl (kM_14 hM) (by decide) rfl rfl rfl tw_667 (Or.inl rfl) dX6_lock_38 ?_
        have hM : FM (am_sI h 14 19 (nI 3)) := hM
        refine am_aload_n hC dX6_lock_41 rfl ?_
        refine am_get (v := .int (nI 3)) hC (ci := 7) (N := 20) (j := 19) rfl (kM_14 hM) (by decide) tw_667 (Or.inl rfl) dX6_lock_42 rfl ?_
        refine am_if_ne (tgt := 55) hC dX6_lock_45 (by decide) (fun c_45 => ?_) (fun c_45 => absurd c_45 (by decide))
        refine am_vret hC hR (by decide) (by decide) dX6_lock_55 ?_
        exact ⟨rfl, rfz (k3_3 hD1 (b2i_ne c_17) (decide_eq_false (p := hi_ h 18 (dn (nI d)) < 0) (fun z => c_30 (by rw [dn_nI (by omega)] at z; exact z)))) (by decide) rfl⟩
    · refine am_iconst (v := nI 2) hC dX6_lock_20 (by decide) ?_
      refine am_goto (tgt := 38) hC dX6_lock_21 (by decide) ?_
      refine am_putI hC (ci := 7) (N := 20) (j := 19) rfl (kM_14 hM) (by decide) rfl rfl rfl tw_667 (Or.inl rfl) dX6_lock_38 ?_
      have hM : FM (am_sI h 14 19 (nI 2)) := hM
      refine am_aload_n hC dX6_lock_41 rfl ?_
      refine am_get (v := .int (nI 2)) hC (ci := 7) (N := 20) (j := 19) rfl (kM_14 hM) (by decide) tw_667 (Or.inl rfl) dX6_lock_42 rfl ?_
      refine am_if_ne (tgt := 55) hC dX6_lock_45 (by decide) (fun c_45 => ?_) (fun c_45 => absurd c_45 (by decide))
      refine am_vret hC hR (by decide) (by decide) dX6_lock_55 ?_
      exact ⟨rfl, rfz (k3_2 hD1 (b2i_0.mp c_17)) (by decide) rfl⟩
  · refine am_iconst (v := nI 1) hC dX6_lock_9 (by decide) ?_
    refine am_goto (tgt := 38) hC dX6_lock_10 (by decide) ?_
    refine am_putI hC (ci := 7) (N := 20) (j := 19) rfl (kM_14 hM) (by decide) rfl rfl rfl tw_667 (Or.inl rfl) dX6_lock_38 ?_
    have hM : FM (am_sI h 14 19 (nI 1)) := hM
    refine am_aload_n hC dX6_lock_41 rfl ?_
    refine am_get (v := .int (nI 1)) hC (ci := 7) (N := 20) (j := 19) rfl (kM_14 hM) (by decide) tw_667 (Or.inl rfl) dX6_lock_42 rfl ?_
    refine am_if_ne (tgt := 55) hC dX6_lock_45 (by decide) (fun c_45 => ?_) (fun c_45 => absurd c_45 (by decide))
    refine am_vret hC hR (by decide) (by decide) dX6_lock_55 ?_
    exact ⟨rfl, rfz (k3_1 (b2i_0.mp c_6)) (by decide) rfl⟩
set_option maxRecDepth 100000 in
set_option maxHeartbeats 4000000 in
theorem c_X6_unlock (G : am_G) (l : Launch) (htr : l.stackTraces = false) (h : am_H) (hM : FM h) (n : Nat) (hn6 : n ≤ 6) (hn0 : hi_ h 14 0 = nI n) (D : Int32) (P : Int32) : am_Met G l yX6_unlock (.code yX6_unlock cX6_unlock 3 none) 3 0 0 [.ref (14), .int (D), .int (P)] h (fun v h' => v = none ∧ ((k3 (IX n D) (IX 6 P) (decide (hi_ h 18 (dn D) = P) && decide (hi_ h 19 (dn D) < 0))) ≠ 0 → h' = am_sI h 14 19 (nI (k3 (IX n D) (IX 6 P) (decide (hi_ h 18 (dn D) = P) && decide (hi_ h 19 (dn D) < 0))))) ∧ ((k3 (IX n D) (IX 6 P) (decide (hi_ h 18 (dn D) = P) && decide (hi_ h 19 (dn D) < 0))) = 0 → h' = am_sI (am_sI h 14 19 (nI 0)) 18 (dn D) (-1))) (am_no) := by
  refine am_intro rfl htr rfl (Nat.le_of_ble_eq_true rfl) (fun Z hC hR hI => ?_)
  change am_W Z 0 0 0 [.ref (14), .int (D), .int (P)] [] h
  refine am_aload_n hC dX6_unlock_0 rfl ?_
  refine am_aload_n hC dX6_unlock_1 rfl ?_
  refine am_iload_n hC dX6_unlock_2 rfl ?_
  refine am_callV hC (ci := 7) (N := 20) [.int (D)] rfl (kM_14 hM) rfl mf_X6_isDrawing tw_727 (c_X6_isDrawing _ _ (am_tr hC) h hM n hn6 hn0 D) rfl ⟨rfl, Nat.le_of_ble_eq_true rfl⟩ ⟨by decide, by decide⟩ (by decide) (by decide) dX6_unlock_3 rfl (fun _ _ q _ => False.elim q) (fun v h' hp hlc => ?_)
  obtain ⟨z8, z9⟩ := hp
  have z8 := z8.symm
  subst z8
  subst z9
  refine am_if_ne (tgt := 13) hC dX6_unlock_6 (by decide) (fun c_6 => ?_) (fun c_6 => ?_)
  · have hD1 := b2i_ne c_6
    obtain ⟨d, hd, rfl⟩ := (IX_iff (by omega)).mp hD1
    refine am_iload_n hC dX6_unlock_13 rfl ?_
    refine am_callS hC [.int (P)] mf_X6_isPerson tw_721 (c_X6_isPerson _ _ (am_tr hC) h P) rfl ⟨rfl, Nat.le_of_ble_eq_true rfl⟩ ⟨by decide, by decide⟩ (by decide) (by decide) dX6_unlock_14 rfl (fun _ _ q _ => False.elim q) (fun v h' hp hlc => ?_)
    obtain ⟨z8, z9⟩ := hp
    have z8 := z8.symm
    subst z8
    subst z9
    refine am_if_ne (tgt := 24) hC dX6_unlock_17 (by decide) (fun c_17 => ?_) (fun c_17 => ?_)
    · refine am_aload_n hC dX6_unlock_24 rfl ?_
      refine am_get (v := .ref (18)) hC (ci := 7) (N := 20) (j := 4) rfl (kM_14 hM) (by decide) tw_652 (Or.inl rfl) dX6_unlock_25 (am_rfe (rM_4 hM)) ?_
      refine am_iload_n hC dX6_unlock_28 rfl ?_
      refine am_ialdE (v := hi_ h 18 d) hC (j := d) (N := 6) (kM_18 hM) (nM_18 hM) rfl (by omega) (by decide) dX6_unlock_29 rfl ?_
      refine am_iload_n hC dX6_unlock_30 rfl ?_
      refine am_icmp_ne (tgt := 43) hC dX6_unlock_31 (by decide) (fun c_31 => ?_) (fun c_31 => ?_)
      · refine am_iconst (v := nI 3) hC dX6_unlock_43 (by decide) ?_
        refine am_goto (tgt := 48) hC dX6_unlock_44 (by decide) ?_
        refine am_putI hC (ci := 7) (N := 20) (j := 19) rfl (kM_14 hM) (by decide) rfl rfl rfl tw_667 (Or.inl rfl) dX6_unlock_48 ?_
        have hM : FM (am_sI h 14 19 (nI 3)) := hM
        refine am_aload_n hC dX6_unlock_51 rfl ?_
        refine am_get (v := .int (nI 3)) hC (ci := 7) (N := 20) (j := 19) rfl (kM_14 hM) (by decide) tw_667 (Or.inl rfl) dX6_unlock_52 rfl ?_
        refine am_if_ne (tgt := 65) hC dX6_unlock_55 (by decide) (fun c_55 => ?_) (fun c_55 => absurd c_55 (by decide))
        refine am_vret hC hR (by decide) (by decide) dX6_unlock_65 ?_
        first
          | exact ⟨rfl, rfz (k3_3 hD1 (b2i_ne c_17) (and_fl (decide_eq_false (p := hi_ h 18 (dn (nI d)) = P) (fun z => c_31 (by rw [dn_nI (by omega)] at z; exact z))))) (by decide) rfl⟩
          | exact ⟨rfl, rfz (k3_3 hD1 (b2i_ne c_17) (and_ff (decide_eq_false (p := hi_ h 19 (dn (nI d)) < 0) (fun z => c_40 (by rw [dn_nI (by omega)] at z; exact z))))) (by decide) rfl⟩
      · refine am_aload_n hC dX6_unlock_34 rfl ?_
        refine am_get (v := .ref (19)) hC (ci := 7) (N := 20) (j := 5) rfl (kM_14 hM) (by decide) tw_653 (Or.inl rfl) dX6_unlock_35 (am_rfe (rM_5 hM)) ?_
        refine am_iload_n hC dX6_unlock_38 rfl ?_
        refine am_ialdE (v := hi_ h 19 d) hC (j := d) (N := 6) (kM_19 hM) (nM_19 hM) rfl (by omega) (by decide) dX6_unlock_39 rfl ?_
        refine am_if_lt (tgt := 47) hC dX6_unlock_40 (by decide) (fun c_40 => ?_) (fun c_40 => ?_)
        · refine am_iconst (v := nI 0) hC dX6_unlock_47 (by decide) ?_
          refine am_putI hC (ci := 7) (N := 20) (j := 19) rfl (kM_14 hM) (by decide) rfl rfl rfl tw_667 (Or.inl rfl) dX6_unlock_48 ?_
          have hM : FM (am_sI h 14 19 (nI 0)) := hM
          refine am_aload_n hC dX6_unlock_51 rfl ?_
          refine am_get (v := .int (nI 0)) hC (ci := 7) (N := 20) (j := 19) rfl (kM_14 hM) (by decide) tw_667 (Or.inl rfl) dX6_unlock_52 rfl ?_
          refine am_if_ne (tgt := 65) hC dX6_unlock_55 (by decide) (fun c_55 => absurd (by decide) c_55) (fun c_55 => ?_)
          refine am_aload_n hC dX6_unlock_58 rfl ?_
          refine am_get (v := .ref (18)) hC (ci := 7) (N := 20) (j := 4) rfl (kM_14 hM) (by decide) tw_652 (Or.inl rfl) dX6_unlock_59 (am_rfe (rM_4 hM)) ?_
          refine am_iload_n hC dX6_unlock_62 rfl ?_
          refine am_iconst (v := -1) hC dX6_unlock_63 (by decide) ?_
          refine am_iast hC (j := d) (N := 6) (kM_18 hM) (nM_18 hM) rfl (by omega) (by decide) dX6_unlock_64 ?_
          refine am_vret hC hR (by decide) (by decide) dX6_unlock_65 ?_
          have hK : k3 (IX n (nI d)) (IX 6 P) (decide (hi_ h 18 (dn (nI d)) = P) && decide (hi_ h 19 (dn (nI d)) < 0)) = 0 := k3_0 hD1 (b2i_ne c_17) (and_tt (decide_eq_true (by rw [dn_nI (by omega)]; exact c_31)) (decide_eq_true (by rw [dn_nI (by omega)]; exact c_40)))
          refine ⟨rfl, fun z => absurd hK z, fun _ => ?_⟩
          rw [dn_nI (by omega)]
        · refine am_iconst (v := nI 3) hC dX6_unlock_43 (by decide) ?_
          refine am_goto (tgt := 48) hC dX6_unlock_44 (by decide) ?_
          refine am_putI hC (ci := 7) (N := 20) (j := 19) rfl (kM_14 hM) (by decide) rfl rfl rfl tw_667 (Or.inl rfl) dX6_unlock_48 ?_
          have hM : FM (am_sI h 14 19 (nI 3)) := hM
          refine am_aload_n hC dX6_unlock_51 rfl ?_
          refine am_get (v := .int (nI 3)) hC (ci := 7) (N := 20) (j := 19) rfl (kM_14 hM) (by decide) tw_667 (Or.inl rfl) dX6_unlock_52 rfl ?_
          refine am_if_ne (tgt := 65) hC dX6_unlock_55 (by decide) (fun c_55 => ?_) (fun c_55 => absurd c_55 (by decide))
          refine am_vret hC hR (by decide) (by decide) dX6_unlock_65 ?_
          first
            | exact ⟨rfl, rfz (k3_3 hD1 (b2i_ne c_17) (and_fl (decide_eq_false (p := hi_ h 18 (dn (nI d)) = P) (fun z => c_31 (by rw [dn_nI (by omega)] at z; exact z))))) (by decide) rfl⟩
            | exact ⟨rfl, rfz (k3_3 hD1 (b2i_ne c_17) (and_ff (decide_eq_false (p := hi_ h 19 (dn (nI d)) < 0) (fun z => c_40 (by rw [dn_nI (by omega)] at z; exact z))))) (by decide) rfl⟩
    · refine am_iconst (v := nI 2) hC dX6_unlock_20 (by decide) ?_
      refine am_goto (tgt := 48) hC dX6_unlock_21 (by decide) ?_
      refine am_putI hC (ci := 7) (N := 20) (j := 19) rfl (kM_14 hM) (by decide) rfl rfl rfl tw_667 (Or.inl rfl) dX6_unlock_48 ?_
      have hM : FM (am_sI h 14 19 (nI 2)) := hM
      refine am_aload_n hC dX6_unlock_51 rfl ?_
      refine am_get (v := .int (nI 2)) hC (ci := 7) (N := 20) (j := 19) rfl (kM_14 hM) (by decide) tw_667 (Or.inl rfl) dX6_unlock_52 rfl ?_
      refine am_if_ne (tgt := 65) hC dX6_unlock_55 (by decide) (fun c_55 => ?_) (fun c_55 => absurd c_55 (by decide))
      refine am_vret hC hR (by decide) (by decide) dX6_unlock_65 ?_
      exact ⟨rfl, rfz (k3_2 hD1 (b2i_0.mp c_17)) (by decide) rfl⟩
  · refine am_iconst (v := nI 1) hC dX6_unlock_9 (by decide) ?_
    refine am_goto (tgt := 48) hC dX6_unlock_10 (by decide) ?_
    refine am_putI hC (ci := 7) (N := 20) (j := 19) rfl (kM_14 hM) (by decide) rfl rfl rfl tw_667 (Or.inl rfl) dX6_unlock_48 ?_
    have hM : FM (am_sI h 14 19 (nI 1)) := hM
    refine am_aload_n hC dX6_unlock_51 rfl ?_
    refine am_get (v := .int (nI 1)) hC (ci := 7) (N := 20) (j := 19) rfl (kM_14 hM) (by decide) tw_667 (Or.inl rfl) dX6_unlock_52 rfl ?_
    refine am_if_ne (tgt := 65) hC dX6_unlock_55 (by decide) (fun c_55 => ?_) (fun c_55 => absurd c_55 (by decide))
    refine am_vret hC hR (by decide) (by decide) dX6_unlock_65 ?_
    exact ⟨rfl, rfz (k3_1 (b2i_0.mp c_6)) (by decide) rfl⟩
