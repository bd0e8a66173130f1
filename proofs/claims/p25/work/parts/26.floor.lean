/-! ===== the floor: rows are filled, rooms are found ===== -/
theorem mmin_nI {a b : Nat} (ha : a < 2 ^ 31) (hb : b < 2 ^ 31) : (if nI b < nI a then nI b else nI a) = nI (min a b) := by
  by_cases q : b < a
  · rw [if_pos (nI_lt q ha), Nat.min_eq_right (by omega)]
  · rw [if_neg (nI_nlt (by omega) hb), Nat.min_eq_left (by omega)]
theorem mmax_nI {a b : Nat} (ha : a < 2 ^ 31) (hb : b < 2 ^ 31) : (if nI a < nI b then nI b else nI a) = nI (max a b) := by
  by_cases q : a < b
  · rw [if_pos (nI_lt q hb), Nat.max_eq_right (by omega)]
  · rw [if_neg (nI_nlt (by omega) ha), Nat.max_eq_left (by omega)]
set_option maxRecDepth 100000 in
set_option maxHeartbeats 4000000 in
theorem c_fill (G : am_G) (l : Launch) (htr : l.stackTraces = false) (h : am_H) (a N : Nat) (x : Int32) (hka : hk_ h a = 9) (hna : hn_ h a = N) (hN : N ≤ 4096) : am_Met G l yJ7_fill_53178 (.code yJ7_fill_53178 cJ7_fill_53178 4 none) 1 0 0 [.ref (a), .int (x)] h (fun v h' => v = none ∧ am_eq (fun r => r = a) h h' ∧ ∀ k, k < N → hi_ h' a k = x) (am_no) := by
  refine am_intro rfl htr rfl (Nat.le_of_ble_eq_true rfl) (fun Z hC hR hI => ?_)
  change am_W Z 0 0 0 [.ref (a), .int (x), .null, .null] [] h
  have loop : ∀ (m i : Nat) (g : am_H), i + m = N → am_eq (fun r => r = a) h g → am_le h g → (∀ k, k < i → hi_ g a k = x) → am_W Z 0 0 5 [.ref (a), .int (x), .int (nI i), .int (nI N)] [] g := by
    intro m
    induction m with
    | zero =>
      intro i g him e hle hs
      refine am_iload_n hC dJ7_fill_53178_5 rfl ?_
      refine am_iload_n hC dJ7_fill_53178_6 rfl ?_
      refine am_icmp_ge (tgt := 20) hC dJ7_fill_53178_7 (by decide) (fun c_7 => ?_) (fun c_7 => absurd (nI_le (by omega) (by omega)) c_7)
      refine am_vret hC hR (by decide) (by decide) dJ7_fill_53178_20 ?_
      exact ⟨rfl, e, fun k hk => hs k (by omega)⟩
    | succ m ih =>
      intro i g him e hle hs
      have hka1 : hk_ g a = 9 := (hle a (by omega)).1.trans hka
      have hna1 : hn_ g a = N := (hle a (by omega)).2.trans hna
      refine am_iload_n hC dJ7_fill_53178_5 rfl ?_
      refine am_iload_n hC dJ7_fill_53178_6 rfl ?_
      refine am_icmp_ge (tgt := 20) hC dJ7_fill_53178_7 (by decide) (fun c_7 => absurd c_7 (nI_ge (by omega) (by omega))) (fun c_7 => ?_)
      refine am_aload_n hC dJ7_fill_53178_10 rfl ?_
      refine am_iload_n hC dJ7_fill_53178_11 rfl ?_
      refine am_iload_n hC dJ7_fill_53178_12 rfl ?_
      refine am_iast hC (j := i) (N := N) hka1 hna1 rfl (by omega) (by omega) dJ7_fill_53178_13 ?_
      refine am_iinc (v := nI (i + 1)) hC dJ7_fill_53178_14 rfl (nI_1 (i)) (by decide) ?_
      change am_W _ _ _ _ [.ref (a), .int (x), .int (nI (i + 1)), .int (nI N)] _ _
      refine am_goto (tgt := 5) hC dJ7_fill_53178_17 (by decide) ?_
      exact ih (i + 1) _ (by omega) (am_eq_tr e (am_eq_sI rfl)) (am_le_tr hle (am_le_sI _ _ _ _)) (fun k hk => by
        rw [hi_sI]
        by_cases q : k = i
        · rw [if_pos ⟨rfl, q⟩]
        · rw [if_neg (fun z => q z.2)]; exact hs k (by omega))
  refine am_iconst (v := nI 0) hC dJ7_fill_53178_0 (by decide) ?_
  refine am_istore_n hC dJ7_fill_53178_1 (by decide) ?_
  change am_W _ _ _ _ [.ref (a), .int (x), .int (nI 0), .null] _ _
  refine am_aload_n hC dJ7_fill_53178_2 rfl ?_
  refine am_alen hC (by decide) hka hna dJ7_fill_53178_3 ?_
  refine am_istore_n hC dJ7_fill_53178_4 (by decide) ?_
  change am_W _ _ _ _ [.ref (a), .int (x), .int (nI 0), .int (nI N)] _ _
  exact loop N 0 h (by omega) (am_eq_rf _ _) (am_le_rf _) (fun k hk => absurd hk (Nat.not_lt_zero k))
set_option maxRecDepth 100000 in
set_option maxHeartbeats 4000000 in
theorem c_X1_join (G : am_G) (l : Launch) (htr : l.stackTraces = false) (h : am_H) (hF : FC h) (al be : Nat) (hal : al < 25) (hbe : be < 25) : am_Met G l yX1_join (.code yX1_join cX1_join 6 none) 2 0 0 [.ref (7), .int (nI al), .int (nI be)] h (fun v h' => v = none ∧ am_eq (fun r => r = 11) h h' ∧ ∀ c, c < 25 → hi_ h' 11 c = if hi_ h 11 c = nI (max al be) then nI (min al be) else hi_ h 11 c) (am_no) := by
  refine am_intro rfl htr rfl (Nat.le_of_ble_eq_true rfl) (fun Z hC hR hI => ?_)
  change am_W Z 0 0 0 [.ref (7), .int (nI al), .int (nI be), .null, .null, .null] [] h
  have hS : ∀ r, r = 11 → r ≤ 2 ∨ 9 ≤ r := fun r q => by omega
  have loop : ∀ (m i : Nat) (g : am_H), i + m = 25 → am_eq (fun r => r = 11) h g → am_le h g → (∀ c, c < i → hi_ g 11 c = if hi_ h 11 c = nI (max al be) then nI (min al be) else hi_ h 11 c) → (∀ c, i ≤ c → hi_ g 11 c = hi_ h 11 c) → am_W Z 0 0 16 [.ref (7), .int (nI al), .int (nI be), .int (nI (min al be)), .int (nI (max al be)), .int (nI i)] [] g := by
    intro m
    induction m with
    | zero =>
      intro i g him e hle hs hs2
      obtain rfl : i = 25 := by omega
      refine am_iload hC dX1_join_16 rfl ?_
      refine am_bipush (v := nI 25) hC dX1_join_18 (by decide) ?_
      refine am_icmp_ge (tgt := 49) hC dX1_join_20 (by decide) (fun c_20 => ?_) (fun c_20 => absurd (nI_le (by omega) (by omega)) c_20)
      refine am_vret hC hR (by decide) (by decide) dX1_join_49 ?_
      exact ⟨rfl, e, hs⟩
    | succ m ih =>
      intro i g him e hle hs hs2
      have hF := FC_eq hS e hle hF
      refine am_iload hC dX1_join_16 rfl ?_
      refine am_bipush (v := nI 25) hC dX1_join_18 (by decide) ?_
      refine am_icmp_ge (tgt := 49) hC dX1_join_20 (by decide) (fun c_20 => absurd c_20 (nI_ge (by omega) (by omega))) (fun c_20 => ?_)
      refine am_aload_n hC dX1_join_23 rfl ?_
      refine am_get (v := .ref (11)) hC (ci := 2) (N := 4) (j := 1) rfl (kC_7 hF) (by decide) tw_80 (Or.inl rfl) dX1_join_24 (am_rfe (rC_7_1 hF)) ?_
      refine am_iload hC dX1_join_27 rfl ?_
      refine am_ialdE (v := hi_ g 11 i) hC (j := i) (N := 25) (kC_11 hF) (nC_11 hF) rfl (by omega) (by decide) dX1_join_29 rfl ?_
      refine am_iload hC dX1_join_30 rfl ?_
      refine am_icmp_ne (tgt := 43) hC dX1_join_32 (by decide) (fun c_32 => ?_) (fun c_32 => ?_)
      · refine am_iinc (v := nI (i + 1)) hC dX1_join_43 rfl (nI_1 (i)) (by decide) ?_
        change am_W _ _ _ _ [.ref (7), .int (nI al), .int (nI be), .int (nI (min al be)), .int (nI (max al be)), .int (nI (i + 1))] _ _
        refine am_goto (tgt := 16) hC dX1_join_46 (by decide) ?_
        exact ih (i + 1) _ (by omega) e hle (fun c hc => by
          by_cases q : c = i
          · rw [q, if_neg (by rw [← hs2 i (Nat.le_refl i)]; exact c_32)]; exact hs2 i (Nat.le_refl i)
          · exact hs c (by omega)) (fun c hc => hs2 c (by omega))
      · refine am_aload_n hC dX1_join_35 rfl ?_
        refine am_get (v := .ref (11)) hC (ci := 2) (N := 4) (j := 1) rfl (kC_7 hF) (by decide) tw_80 (Or.inl rfl) dX1_join_36 (am_rfe (rC_7_1 hF)) ?_
        refine am_iload hC dX1_join_39 rfl ?_
        refine am_iload_n hC dX1_join_41 rfl ?_
        refine am_iast hC (j := i) (N := 25) (kC_11 hF) (nC_11 hF) rfl (by omega) (by decide) dX1_join_42 ?_
        refine am_iinc (v := nI (i + 1)) hC dX1_join_43 rfl (nI_1 (i)) (by decide) ?_
        change am_W _ _ _ _ [.ref (7), .int (nI al), .int (nI be), .int (nI (min al be)), .int (nI (max al be)), .int (nI (i + 1))] _ _
        refine am_goto (tgt := 16) hC dX1_join_46 (by decide) ?_
        exact ih (i + 1) _ (by omega) (am_eq_tr e (am_eq_sI rfl)) (am_le_tr hle (am_le_sI _ _ _ _)) (fun c hc => by
          rw [hi_sI]
          by_cases q : c = i
          · rw [if_pos ⟨rfl, q⟩, q, ← hs2 i (Nat.le_refl i), if_pos c_32]
          · rw [if_neg (fun z => q z.2)]; exact hs c (by omega)) (fun c hc => by rw [hi_sI, if_neg (fun z => by omega)]; exact hs2 c (by omega))
  refine am_iload_n hC dX1_join_0 rfl ?_
  refine am_iload_n hC dX1_join_1 rfl ?_
  refine am_mmin hC tw_396 tw_265 tw_16 tw_266 (by decide) ⟨rfl, Nat.le_of_ble_eq_true rfl⟩ (by decide) (by decide) dX1_join_2 ?_
  rw [mmin_nI (by omega) (by omega)]
  refine am_istore_n hC dX1_join_5 (by decide) ?_
  change am_W _ _ _ _ [.ref (7), .int (nI al), .int (nI be), .int (nI (min al be)), .null, .null] _ _
  refine am_iload_n hC dX1_join_6 rfl ?_
  refine am_iload_n hC dX1_join_7 rfl ?_
  refine am_mmax hC tw_397 tw_235 tw_16 tw_236 (by decide) ⟨rfl, Nat.le_of_ble_eq_true rfl⟩ (by decide) (by decide) dX1_join_8 ?_
  rw [mmax_nI (by omega) (by omega)]
  refine am_istore hC dX1_join_11 (by decide) ?_
  change am_W _ _ _ _ [.ref (7), .int (nI al), .int (nI be), .int (nI (min al be)), .int (nI (max al be)), .null] _ _
  refine am_iconst (v := nI 0) hC dX1_join_13 (by decide) ?_
  refine am_istore hC dX1_join_14 (by decide) ?_
  change am_W _ _ _ _ [.ref (7), .int (nI al), .int (nI be), .int (nI (min al be)), .int (nI (max al be)), .int (nI 0)] _ _
  exact loop 25 0 h rfl (am_eq_rf _ _) (am_le_rf _) (fun c hc => absurd hc (Nat.not_lt_zero c)) (fun _ _ => rfl)
set_option maxRecDepth 100000 in
set_option maxHeartbeats 4000000 in
theorem c_X1_findRooms (G : am_G) (l : Launch) (htr : l.stackTraces = false) (h : am_H) (hF : FC h) : am_Met G l yX1_findRooms (.code yX1_findRooms cX1_findRooms 2 none) 4 0 0 [.ref (7)] h (fun v h' => v = none ∧ am_eq (fun r => r = 11) h h' ∧ ∃ ro, RoomOK (fun s => hi_ h 9 s) ro ∧ ∀ c, c < 25 → hi_ h' 11 c = nI (ro c)) (am_no) := by
  refine am_intro rfl htr rfl (Nat.le_of_ble_eq_true rfl) (fun Z hC hR hI => ?_)
  change am_W Z 0 0 0 [.ref (7), .null] [] h
  have hS : ∀ r, r = 11 → r ≤ 2 ∨ 9 ≤ r := fun r q => by omega
  have loop2 : ∀ (m i : Nat) (g : am_H) (ro : Nat → Nat), i + m = 40 → am_eq (fun r => r = 11) h g → am_le h g → PR (fun s => hi_ h 9 s) i ro → (∀ c, c < 25 → hi_ g 11 c = nI (ro c)) → am_W Z 0 0 23 [.ref (7), .int (nI i)] [] g := by
    intro m
    induction m with
    | zero =>
      intro i g ro him e hle hp0 hs
      obtain rfl : i = 40 := by omega
      refine am_iload_n hC dX1_findRooms_23 rfl ?_
      refine am_bipush (v := nI 40) hC dX1_findRooms_24 (by decide) ?_
      refine am_icmp_ge (tgt := 82) hC dX1_findRooms_26 (by decide) (fun c_26 => ?_) (fun c_26 => absurd (nI_le (by omega) (by omega)) c_26)
      refine am_vret hC hR (by decide) (by decide) dX1_findRooms_82 ?_
      exact ⟨rfl, e, ro, hp0, hs⟩
    | succ m ih =>
      intro i g ro him e hle hp0 hs
      have hF0 := hF
      have hF := FC_eq hS e hle hF
      have h9 : hi_ g 9 i = hi_ h 9 i := (e 9 (by decide)).2.2.1 i
      have hf := fc_lt (by omega : i < 40)
      have hg := sc_lt (by omega : i < 40)
      have hrf := Room_lt hp0 hf
      have hrg := Room_lt hp0 hg
      refine am_iload_n hC dX1_findRooms_23 rfl ?_
      refine am_bipush (v := nI 40) hC dX1_findRooms_24 (by decide) ?_
      refine am_icmp_ge (tgt := 82) hC dX1_findRooms_26 (by decide) (fun c_26 => absurd c_26 (nI_ge (by omega) (by omega))) (fun c_26 => ?_)
      refine am_aload_n hC dX1_findRooms_29 rfl ?_
      refine am_get (v := .ref (8)) hC (ci := 2) (N := 4) (j := 0) rfl (kC_7 hF) (by decide) tw_79 (Or.inl rfl) dX1_findRooms_30 (am_rfe (rC_7_0 hF)) ?_
      refine am_getN (v := .ref (9)) hC (ci := 5) (N := 2) (j := 0) rfl (kC_8 hF) (by decide) tw_69 dX1_findRooms_33 (am_rfe (rC_8_0 hF)) ?_
      refine am_iload_n hC dX1_findRooms_36 rfl ?_
      refine am_ialdE (v := hi_ h 9 i) hC (j := i) (N := 40) (kC_9 hF) (nC_9 hF) rfl (by omega) (by decide) dX1_findRooms_37 h9 ?_
      refine am_iconst (v := -1) hC dX1_findRooms_38 (by decide) ?_
      refine am_icmp_eq (tgt := 54) hC dX1_findRooms_39 (by decide) (fun c_39 => ?_) (fun c_39 => ?_)
      · have ho : opn (hi_ h 9 i) := Or.inl c_39
        refine am_aload_n hC dX1_findRooms_54 rfl ?_
        refine am_aload_n hC dX1_findRooms_55 rfl ?_
        refine am_get (v := .ref (11)) hC (ci := 2) (N := 4) (j := 1) rfl (kC_7 hF) (by decide) tw_80 (Or.inl rfl) dX1_findRooms_56 (am_rfe (rC_7_1 hF)) ?_
        refine am_iload_n hC dX1_findRooms_59 rfl ?_
        refine am_callSN hC [.int (nI i)] mf_X5_firstCell tw_385 (c_X5_firstCell _ _ (am_tr hC) _ i (by omega)) rfl ⟨rfl, Nat.le_of_ble_eq_true rfl⟩ ⟨by decide, by decide⟩ (by decide) (by decide) dX1_findRooms_60 rfl (fun _ _ q _ => False.elim q) (fun v h' hp hlc => ?_)
        obtain ⟨rfl, q9⟩ := hp
        have q9 := q9.symm
        subst q9
        refine am_ialdE (v := nI (ro (fc_ i))) hC (j := fc_ i) (N := 25) (kC_11 hF) (nC_11 hF) rfl (by omega) (by decide) dX1_findRooms_63 (hs _ hf) ?_
        refine am_aload_n hC dX1_findRooms_64 rfl ?_
        refine am_get (v := .ref (11)) hC (ci := 2) (N := 4) (j := 1) rfl (kC_7 hF) (by decide) tw_80 (Or.inl rfl) dX1_findRooms_65 (am_rfe (rC_7_1 hF)) ?_
        refine am_iload_n hC dX1_findRooms_68 rfl ?_
        refine am_callSN hC [.int (nI i)] mf_X5_secondCell tw_388 (c_X5_secondCell _ _ (am_tr hC) _ i (by omega)) rfl ⟨rfl, Nat.le_of_ble_eq_true rfl⟩ ⟨by decide, by decide⟩ (by decide) (by decide) dX1_findRooms_69 rfl (fun _ _ q _ => False.elim q) (fun v h' hp hlc => ?_)
        obtain ⟨rfl, q9⟩ := hp
        have q9 := q9.symm
        subst q9
        refine am_ialdE (v := nI (ro (sc_ i))) hC (j := sc_ i) (N := 25) (kC_11 hF) (nC_11 hF) rfl (by omega) (by decide) dX1_findRooms_72 (hs _ hg) ?_
        refine am_callV hC (ci := 2) (N := 4) [.int (nI (ro (fc_ i))), .int (nI (ro (sc_ i)))] rfl (kC_7 hF) rfl mf_X1_join tw_392 (c_X1_join _ _ (am_tr hC) _ hF _ _ hrf hrg) rfl ⟨rfl, Nat.le_of_ble_eq_true rfl⟩ ⟨by decide, by decide⟩ (by decide) (by decide) dX1_findRooms_73 rfl (fun _ _ q _ => False.elim q) (fun v h' hp hlc => ?_)
        obtain ⟨rfl, e1, s1⟩ := hp
        refine am_iinc (v := nI (i + 1)) hC dX1_findRooms_76 rfl (nI_1 (i)) (by decide) ?_
        change am_W _ _ _ _ [.ref (7), .int (nI (i + 1))] _ _
        refine am_goto (tgt := 23) hC dX1_findRooms_79 (by decide) ?_
        refine ih (i + 1) _ (fun c => if ro c = max (ro (fc_ i)) (ro (sc_ i)) then min (ro (fc_ i)) (ro (sc_ i)) else ro c) (by omega) (am_eq_tr e e1) (am_le_tr hle hlc) (PR_join hp0 (by omega) ho) (fun c hc => ?_)
        have hrc := Room_lt hp0 hc
        rw [s1 c hc, hs c hc]
        by_cases q : ro c = max (ro (fc_ i)) (ro (sc_ i))
        · rw [if_pos (by rw [q]), if_pos q]
        · rw [if_neg (fun z => q ((nI_eq (by omega) (by omega)).mp z)), if_neg q]
      · refine am_aload_n hC dX1_findRooms_42 rfl ?_
        refine am_get (v := .ref (8)) hC (ci := 2) (N := 4) (j := 0) rfl (kC_7 hF) (by decide) tw_79 (Or.inl rfl) dX1_findRooms_43 (am_rfe (rC_7_0 hF)) ?_
        refine am_getN (v := .ref (9)) hC (ci := 5) (N := 2) (j := 0) rfl (kC_8 hF) (by decide) tw_69 dX1_findRooms_46 (am_rfe (rC_8_0 hF)) ?_
        refine am_iload_n hC dX1_findRooms_49 rfl ?_
        refine am_ialdE (v := hi_ h 9 i) hC (j := i) (N := 40) (kC_9 hF) (nC_9 hF) rfl (by omega) (by decide) dX1_findRooms_50 h9 ?_
        refine am_if_ne (tgt := 76) hC dX1_findRooms_51 (by decide) (fun c_51 => ?_) (fun c_51 => ?_)
        · refine am_iinc (v := nI (i + 1)) hC dX1_findRooms_76 rfl (nI_1 (i)) (by decide) ?_
          change am_W _ _ _ _ [.ref (7), .int (nI (i + 1))] _ _
          refine am_goto (tgt := 23) hC dX1_findRooms_79 (by decide) ?_
          exact ih (i + 1) _ ro (by omega) e hle (PR_skip hp0 (fun z => z.elim c_39 c_51)) hs
        · have ho : opn (hi_ h 9 i) := Or.inr c_51
          refine am_aload_n hC dX1_findRooms_54 rfl ?_
          refine am_aload_n hC dX1_findRooms_55 rfl ?_
          refine am_get (v := .ref (11)) hC (ci := 2) (N := 4) (j := 1) rfl (kC_7 hF) (by decide) tw_80 (Or.inl rfl) dX1_findRooms_56 (am_rfe (rC_7_1 hF)) ?_
          refine am_iload_n hC dX1_findRooms_59 rfl ?_
          refine am_callSN hC [.int (nI i)] mf_X5_firstCell tw_385 (c_X5_firstCell _ _ (am_tr hC) _ i (by omega)) rfl ⟨rfl, Nat.le_of_ble_eq_true rfl⟩ ⟨by decide, by decide⟩ (by decide) (by decide) dX1_findRooms_60 rfl (fun _ _ q _ => False.elim q) (fun v h' hp hlc => ?_)
          obtain ⟨rfl, q9⟩ := hp
          have q9 := q9.symm
          subst q9
          refine am_ialdE (v := nI (ro (fc_ i))) hC (j := fc_ i) (N := 25) (kC_11 hF) (nC_11 hF) rfl (by omega) (by decide) dX1_findRooms_63 (hs _ hf) ?_
          refine am_aload_n hC dX1_findRooms_64 rfl ?_
          refine am_get (v := .ref (11)) hC (ci := 2) (N := 4) (j := 1) rfl (kC_7 hF) (by decide) tw_80 (Or.inl rfl) dX1_findRooms_65 (am_rfe (rC_7_1 hF)) ?_
          refine am_iload_n hC dX1_findRooms_68 rfl ?_
          refine am_callSN hC [.int (nI i)] mf_X5_secondCell tw_388 (c_X5_secondCell _ _ (am_tr hC) _ i (by omega)) rfl ⟨rfl, Nat.le_of_ble_eq_true rfl⟩ ⟨by decide, by decide⟩ (by decide) (by decide) dX1_findRooms_69 rfl (fun _ _ q _ => False.elim q) (fun v h' hp hlc => ?_)
          obtain ⟨rfl, q9⟩ := hp
          have q9 := q9.symm
          subst q9
          refine am_ialdE (v := nI (ro (sc_ i))) hC (j := sc_ i) (N := 25) (kC_11 hF) (nC_11 hF) rfl (by omega) (by decide) dX1_findRooms_72 (hs _ hg) ?_
          refine am_callV hC (ci := 2) (N := 4) [.int (nI (ro (fc_ i))), .int (nI (ro (sc_ i)))] rfl (kC_7 hF) rfl mf_X1_join tw_392 (c_X1_join _ _ (am_tr hC) _ hF _ _ hrf hrg) rfl ⟨rfl, Nat.le_of_ble_eq_true rfl⟩ ⟨by decide, by decide⟩ (by decide) (by decide) dX1_findRooms_73 rfl (fun _ _ q _ => False.elim q) (fun v h' hp hlc => ?_)
          obtain ⟨rfl, e1, s1⟩ := hp
          refine am_iinc (v := nI (i + 1)) hC dX1_findRooms_76 rfl (nI_1 (i)) (by decide) ?_
          change am_W _ _ _ _ [.ref (7), .int (nI (i + 1))] _ _
          refine am_goto (tgt := 23) hC dX1_findRooms_79 (by decide) ?_
          refine ih (i + 1) _ (fun c => if ro c = max (ro (fc_ i)) (ro (sc_ i)) then min (ro (fc_ i)) (ro (sc_ i)) else ro c) (by omega) (am_eq_tr e e1) (am_le_tr hle hlc) (PR_join hp0 (by omega) ho) (fun c hc => ?_)
          have hrc := Room_lt hp0 hc
          rw [s1 c hc, hs c hc]
          by_cases q : ro c = max (ro (fc_ i)) (ro (sc_ i))
          · rw [if_pos (by rw [q]), if_pos q]
          · rw [if_neg (fun z => q ((nI_eq (by omega) (by omega)).mp z)), if_neg q]
  have loop1 : ∀ (m i : Nat) (g : am_H), i + m = 25 → am_eq (fun r => r = 11) h g → am_le h g → (∀ c, c < i → hi_ g 11 c = nI c) → am_W Z 0 0 2 [.ref (7), .int (nI i)] [] g := by
    intro m
    induction m with
    | zero =>
      intro i g him e hle hs
      obtain rfl : i = 25 := by omega
      refine am_iload_n hC dX1_findRooms_2 rfl ?_
      refine am_bipush (v := nI 25) hC dX1_findRooms_3 (by decide) ?_
      refine am_icmp_ge (tgt := 21) hC dX1_findRooms_5 (by decide) (fun c_5 => ?_) (fun c_5 => absurd (nI_le (by omega) (by omega)) c_5)
      refine am_iconst (v := nI 0) hC dX1_findRooms_21 (by decide) ?_
      refine am_istore_n hC dX1_findRooms_22 (by decide) ?_
      change am_W _ _ _ _ [.ref (7), .int (nI 0)] _ _
      exact loop2 40 0 g (fun c => c) rfl e hle (PR_0 _) hs
    | succ m ih =>
      intro i g him e hle hs
      have hF := FC_eq hS e hle hF
      refine am_iload_n hC dX1_findRooms_2 rfl ?_
      refine am_bipush (v := nI 25) hC dX1_findRooms_3 (by decide) ?_
      refine am_icmp_ge (tgt := 21) hC dX1_findRooms_5 (by decide) (fun c_5 => absurd c_5 (nI_ge (by omega) (by omega))) (fun c_5 => ?_)
      refine am_aload_n hC dX1_findRooms_8 rfl ?_
      refine am_get (v := .ref (11)) hC (ci := 2) (N := 4) (j := 1) rfl (kC_7 hF) (by decide) tw_80 (Or.inl rfl) dX1_findRooms_9 (am_rfe (rC_7_1 hF)) ?_
      refine am_iload_n hC dX1_findRooms_12 rfl ?_
      refine am_iload_n hC dX1_findRooms_13 rfl ?_
      refine am_iast hC (j := i) (N := 25) (kC_11 hF) (nC_11 hF) rfl (by omega) (by decide) dX1_findRooms_14 ?_
      refine am_iinc (v := nI (i + 1)) hC dX1_findRooms_15 rfl (nI_1 (i)) (by decide) ?_
      change am_W _ _ _ _ [.ref (7), .int (nI (i + 1))] _ _
      refine am_goto (tgt := 2) hC dX1_findRooms_18 (by decide) ?_
      exact ih (i + 1) _ (by omega) (am_eq_tr e (am_eq_sI rfl)) (am_le_tr hle (am_le_sI _ _ _ _)) (fun k hk => by
        rw [hi_sI]
        by_cases q : k = i
        · rw [if_pos ⟨rfl, q⟩, q]
        · rw [if_neg (fun z => q z.2)]; exact hs k (by omega))
  refine am_iconst (v := nI 0) hC dX1_findRooms_0 (by decide) ?_
  refine am_istore_n hC dX1_findRooms_1 (by decide) ?_
  change am_W _ _ _ _ [.ref (7), .int (nI 0)] _ _
  exact loop1 25 0 h rfl (am_eq_rf _ _) (am_le_rf _) (fun c hc => absurd hc (Nat.not_lt_zero c))
