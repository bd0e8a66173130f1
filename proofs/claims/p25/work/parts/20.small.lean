/-! ===== small methods ===== -/
def fc_ (s : Nat) : Nat := if s < 20 then 5 * (s / 4) + s % 4 else s - 20
def sc_ (s : Nat) : Nat := fc_ s + if s < 20 then 1 else 5
set_option maxRecDepth 100000 in
set_option maxHeartbeats 4000000 in
theorem c_X5_firstCell (G : am_G) (l : Launch) (htr : l.stackTraces = false) (h : am_H) (s : Nat) (hs : s < 40) : am_Met G l yX5_firstCell (.code yX5_firstCell cX5_firstCell 1 (some .int)) 1 0 0 [.int (nI s)] h (fun v h' => v = some (.int (nI (fc_ s))) ∧ h' = h) (am_no) := by
  refine am_intro rfl htr rfl (Nat.le_of_ble_eq_true rfl) (fun Z hC hR hI => ?_)
  change am_W Z 0 0 0 [.int (nI s)] [] h
  refine am_iload_n hC dX5_firstCell_0 rfl ?_
  refine am_bipush (v := nI 20) hC dX5_firstCell_1 (by decide) ?_
  refine am_icmp_ge (tgt := 16) hC dX5_firstCell_3 (by decide) (fun c_3 => ?_) (fun c_3 => ?_)
  · replace c_3 : 20 ≤ s := (nI_leI (a := 20) (b := s) (by omega) (by omega)).mp c_3
    refine am_iload_n hC dX5_firstCell_16 rfl ?_
    refine am_bipush (v := nI 20) hC dX5_firstCell_17 (by decide) ?_
    refine am_isubE (z := nI (s - 20)) hC dX5_firstCell_19 (pk_sub (by omega)) ?_
    refine am_iret hC hR rfl (by decide) (by decide) dX5_firstCell_20 ?_
    exact ⟨by unfold fc_; rw [if_neg (by omega)], rfl⟩
  · replace c_3 : ¬ 20 ≤ s := fun q9 => c_3 ((nI_leI (a := 20) (b := s) (by omega) (by omega)).mpr q9)
    refine am_iconst (v := nI 5) hC dX5_firstCell_6 (by decide) ?_
    refine am_iload_n hC dX5_firstCell_7 rfl ?_
    refine am_iconst (v := nI 4) hC dX5_firstCell_8 (by decide) ?_
    refine am_idivE (z := nI (s / 4)) hC dX5_firstCell_9 (by decide) (pk_div (by omega) (by omega) (by omega)) ?_
    refine am_imulE (z := nI (5 * (s / 4))) hC dX5_firstCell_10 (pk_mul (5) (s / 4)) ?_
    refine am_iload_n hC dX5_firstCell_11 rfl ?_
    refine am_iconst (v := nI 4) hC dX5_firstCell_12 (by decide) ?_
    refine am_iremE (z := nI (s % 4)) hC dX5_firstCell_13 (by decide) (pk_rem (by omega) (by omega) (by omega)) ?_
    refine am_iaddE (z := nI (5 * (s / 4) + s % 4)) hC dX5_firstCell_14 (nI_add (5 * (s / 4)) (s % 4)) ?_
    refine am_iret hC hR rfl (by decide) (by decide) dX5_firstCell_15 ?_
    exact ⟨by unfold fc_; rw [if_pos (by omega)], rfl⟩
set_option maxRecDepth 100000 in
set_option maxHeartbeats 4000000 in
theorem c_X5_secondCell (G : am_G) (l : Launch) (htr : l.stackTraces = false) (h : am_H) (s : Nat) (hs : s < 40) : am_Met G l yX5_secondCell (.code yX5_secondCell cX5_secondCell 1 (some .int)) 2 0 0 [.int (nI s)] h (fun v h' => v = some (.int (nI (sc_ s))) ∧ h' = h) (am_no) := by
  refine am_intro rfl htr rfl (Nat.le_of_ble_eq_true rfl) (fun Z hC hR hI => ?_)
  change am_W Z 0 0 0 [.int (nI s)] [] h
  refine am_iload_n hC dX5_secondCell_0 rfl ?_
  refine am_callS hC [.int (nI s)] mf_X5_firstCell tw_391 (c_X5_firstCell _ _ (am_tr hC) _ s hs) rfl ⟨rfl, Nat.le_of_ble_eq_true rfl⟩ ⟨by decide, by decide⟩ (by decide) (by decide) dX5_secondCell_1 rfl (fun _ _ q _ => False.elim q) (fun v h' hp hlc => ?_)
  obtain ⟨rfl, rfl⟩ := hp
  refine am_iload_n hC dX5_secondCell_4 rfl ?_
  refine am_bipush (v := nI 20) hC dX5_secondCell_5 (by decide) ?_
  refine am_icmp_ge (tgt := 14) hC dX5_secondCell_7 (by decide) (fun c_7 => ?_) (fun c_7 => ?_)
  · replace c_7 : 20 ≤ s := (nI_leI (a := 20) (b := s) (by omega) (by omega)).mp c_7
    refine am_iconst (v := nI 5) hC dX5_secondCell_14 (by decide) ?_
    refine am_iaddE (z := nI (fc_ s + 5)) hC dX5_secondCell_15 (nI_add (fc_ s) (5)) ?_
    refine am_iret hC hR rfl (by decide) (by decide) dX5_secondCell_16 ?_
    refine ⟨?_, rfl⟩
    unfold sc_
    first | rw [if_pos (by omega)] | rw [if_neg (by omega)]
  · replace c_7 : ¬ 20 ≤ s := fun q9 => c_7 ((nI_leI (a := 20) (b := s) (by omega) (by omega)).mpr q9)
    refine am_iconst (v := nI 1) hC dX5_secondCell_10 (by decide) ?_
    refine am_goto (tgt := 15) hC dX5_secondCell_11 (by decide) ?_
    refine am_iaddE (z := nI (fc_ s + 1)) hC dX5_secondCell_15 (nI_add (fc_ s) (1)) ?_
    refine am_iret hC hR rfl (by decide) (by decide) dX5_secondCell_16 ?_
    refine ⟨?_, rfl⟩
    unfold sc_
    first | rw [if_pos (by omega)] | rw [if_neg (by omega)]
set_option maxRecDepth 100000 in
set_option maxHeartbeats 4000000 in
theorem c_X5_needPerson (G : am_G) (l : Launch) (htr : l.stackTraces = false) (h : am_H) (p : Int32) : am_Met G l yX5_needPerson (.code yX5_needPerson cX5_needPerson 1 none) 7 1 6 [.int (p)] h (fun v h' => v = none ∧ h' = h ∧ ∃ j, j < 6 ∧ p = nI j) (fun X h' => X = "java/lang/IllegalArgumentException" ∧ h' = h ∧ ¬ (∃ j, j < 6 ∧ p = nI j)) := by
  refine am_intro rfl htr rfl (Nat.le_of_ble_eq_true rfl) (fun Z hC hR hI => ?_)
  change am_W Z 0 0 0 [.int (p)] [] h
  refine am_iload_n hC dX5_needPerson_0 rfl ?_
  refine am_if_lt (tgt := 10) hC dX5_needPerson_1 (by decide) (fun c_1 => ?_) (fun c_1 => ?_)
  · refine am_throw hC hR (X := "java/lang/IllegalArgumentException") (text := "no such person") (by decide +kernel) tw_313 tw_19 tw_322 xw_RX5_62 ⟨rfl, Nat.le_of_ble_eq_true rfl⟩ (by decide) (by decide) (by decide) dX5_needPerson_10 dX5_needPerson_13 dX5_needPerson_14 dX5_needPerson_16 dX5_needPerson_19 ?_
    exact ⟨rfl, rfl, fun ⟨j, hj, e⟩ => by
      subst e
      first
        | exact nI_pos (by omega) c_1
        | exact c_7 (nI_lt hj (by omega))⟩
  · refine am_iload_n hC dX5_needPerson_4 rfl ?_
    refine am_bipush (v := nI 6) hC dX5_needPerson_5 (by decide) ?_
    refine am_icmp_lt (tgt := 20) hC dX5_needPerson_7 (by decide) (fun c_7 => ?_) (fun c_7 => ?_)
    · refine am_vret hC hR (by decide) (by decide) dX5_needPerson_20 ?_
      obtain ⟨j, hj, e⟩ := nI_of c_1
      refine ⟨rfl, rfl, j, ?_, e⟩
      rw [e] at c_7
      exact (nI_ltI hj (by omega)).mp c_7
    · refine am_throw hC hR (X := "java/lang/IllegalArgumentException") (text := "no such person") (by decide +kernel) tw_313 tw_19 tw_322 xw_RX5_62 ⟨rfl, Nat.le_of_ble_eq_true rfl⟩ (by decide) (by decide) (by decide) dX5_needPerson_10 dX5_needPerson_13 dX5_needPerson_14 dX5_needPerson_16 dX5_needPerson_19 ?_
      exact ⟨rfl, rfl, fun ⟨j, hj, e⟩ => by
        subst e
        first
          | exact nI_pos (by omega) c_1
          | exact c_7 (nI_lt hj (by omega))⟩
set_option maxRecDepth 100000 in
set_option maxHeartbeats 4000000 in
theorem c_X5_needSide (G : am_G) (l : Launch) (htr : l.stackTraces = false) (h : am_H) (p : Int32) : am_Met G l yX5_needSide (.code yX5_needSide cX5_needSide 1 none) 7 1 6 [.int (p)] h (fun v h' => v = none ∧ h' = h ∧ ∃ j, j < 40 ∧ p = nI j) (fun X h' => X = "java/lang/IllegalArgumentException" ∧ h' = h ∧ ¬ (∃ j, j < 40 ∧ p = nI j)) := by
  refine am_intro rfl htr rfl (Nat.le_of_ble_eq_true rfl) (fun Z hC hR hI => ?_)
  change am_W Z 0 0 0 [.int (p)] [] h
  refine am_iload_n hC dX5_needSide_0 rfl ?_
  refine am_if_lt (tgt := 10) hC dX5_needSide_1 (by decide) (fun c_1 => ?_) (fun c_1 => ?_)
  · refine am_throw hC hR (X := "java/lang/IllegalArgumentException") (text := "no such side") (by decide +kernel) tw_313 tw_19 tw_332 xw_RX5_62 ⟨rfl, Nat.le_of_ble_eq_true rfl⟩ (by decide) (by decide) (by decide) dX5_needSide_10 dX5_needSide_13 dX5_needSide_14 dX5_needSide_16 dX5_needSide_19 ?_
    exact ⟨rfl, rfl, fun ⟨j, hj, e⟩ => by
      subst e
      first
        | exact nI_pos (by omega) c_1
        | exact c_7 (nI_lt hj (by omega))⟩
  · refine am_iload_n hC dX5_needSide_4 rfl ?_
    refine am_bipush (v := nI 40) hC dX5_needSide_5 (by decide) ?_
    refine am_icmp_lt (tgt := 20) hC dX5_needSide_7 (by decide) (fun c_7 => ?_) (fun c_7 => ?_)
    · refine am_vret hC hR (by decide) (by decide) dX5_needSide_20 ?_
      obtain ⟨j, hj, e⟩ := nI_of c_1
      refine ⟨rfl, rfl, j, ?_, e⟩
      rw [e] at c_7
      exact (nI_ltI hj (by omega)).mp c_7
    · refine am_throw hC hR (X := "java/lang/IllegalArgumentException") (text := "no such side") (by decide +kernel) tw_313 tw_19 tw_332 xw_RX5_62 ⟨rfl, Nat.le_of_ble_eq_true rfl⟩ (by decide) (by decide) (by decide) dX5_needSide_10 dX5_needSide_13 dX5_needSide_14 dX5_needSide_16 dX5_needSide_19 ?_
      exact ⟨rfl, rfl, fun ⟨j, hj, e⟩ => by
        subst e
        first
          | exact nI_pos (by omega) c_1
          | exact c_7 (nI_lt hj (by omega))⟩
set_option maxRecDepth 100000 in
set_option maxHeartbeats 4000000 in
theorem c_X5_needCell (G : am_G) (l : Launch) (htr : l.stackTraces = false) (h : am_H) (p : Int32) : am_Met G l yX5_needCell (.code yX5_needCell cX5_needCell 1 none) 7 1 6 [.int (p)] h (fun v h' => v = none ∧ h' = h ∧ ∃ j, j < 25 ∧ p = nI j) (fun X h' => X = "java/lang/IllegalArgumentException" ∧ h' = h ∧ ¬ (∃ j, j < 25 ∧ p = nI j)) := by
  refine am_intro rfl htr rfl (Nat.le_of_ble_eq_true rfl) (fun Z hC hR hI => ?_)
  change am_W Z 0 0 0 [.int (p)] [] h
  refine am_iload_n hC dX5_needCell_0 rfl ?_
  refine am_if_lt (tgt := 10) hC dX5_needCell_1 (by decide) (fun c_1 => ?_) (fun c_1 => ?_)
  · refine am_throw hC hR (X := "java/lang/IllegalArgumentException") (text := "no such cell") (by decide +kernel) tw_313 tw_19 tw_349 xw_RX5_62 ⟨rfl, Nat.le_of_ble_eq_true rfl⟩ (by decide) (by decide) (by decide) dX5_needCell_10 dX5_needCell_13 dX5_needCell_14 dX5_needCell_16 dX5_needCell_19 ?_
    exact ⟨rfl, rfl, fun ⟨j, hj, e⟩ => by
      subst e
      first
        | exact nI_pos (by omega) c_1
        | exact c_7 (nI_lt hj (by omega))⟩
  · refine am_iload_n hC dX5_needCell_4 rfl ?_
    refine am_bipush (v := nI 25) hC dX5_needCell_5 (by decide) ?_
    refine am_icmp_lt (tgt := 20) hC dX5_needCell_7 (by decide) (fun c_7 => ?_) (fun c_7 => ?_)
    · refine am_vret hC hR (by decide) (by decide) dX5_needCell_20 ?_
      obtain ⟨j, hj, e⟩ := nI_of c_1
      refine ⟨rfl, rfl, j, ?_, e⟩
      rw [e] at c_7
      exact (nI_ltI hj (by omega)).mp c_7
    · refine am_throw hC hR (X := "java/lang/IllegalArgumentException") (text := "no such cell") (by decide +kernel) tw_313 tw_19 tw_349 xw_RX5_62 ⟨rfl, Nat.le_of_ble_eq_true rfl⟩ (by decide) (by decide) (by decide) dX5_needCell_10 dX5_needCell_13 dX5_needCell_14 dX5_needCell_16 dX5_needCell_19 ?_
      exact ⟨rfl, rfl, fun ⟨j, hj, e⟩ => by
        subst e
        first
          | exact nI_pos (by omega) c_1
          | exact c_7 (nI_lt hj (by omega))⟩
