/-! ===== the model's calls: lend, exits, references, begin ===== -/
theorem MT_th {h : am_H} {n : Nat} {t : Nat → Nat → Int32} {x r : Nat → Nat → Bool} {v : Int32} (hT : MT h n t x r) : MT (am_sI h 14 19 v) n t x r := by
  obtain ⟨a1, a2, a3, a4, a5, a6, a7⟩ := hT
  have e : ∀ a b, a ≠ 14 → hi_ (am_sI h 14 19 v) a b = hi_ h a b := fun a b q => by rw [hi_sI, if_neg (fun z => q z.1)]
  refine ⟨a1, a2, by rw [hi_sI, if_neg (fun z => absurd z.2 (by decide))]; exact a3, fun d hd s hs => ?_, fun d hd c hc => ?_, fun d hd k hk => ?_, a7⟩
  · rw [e _ _ (by decide)]; exact a4 d hd s hs
  · rw [e _ _ (by decide)]; exact a5 d hd c hc
  · rw [e _ _ (by decide)]; exact a6 d hd k hk
set_option maxRecDepth 100000 in
set_option maxHeartbeats 4000000 in
theorem c_X6_lend (G : am_G) (l : Launch) (htr : l.stackTraces = false) (h : am_H) (hM : FM h) (n : Nat) (hn6 : n ≤ 6) (hn0 : hi_ h 14 0 = nI n) (D P O : Int32) : am_Met G l yX6_lend (.code yX6_lend cX6_lend 6 (some .int)) 3 0 0 [.ref (14), .int (D), .int (P), .int (O)] h (fun v h' => ∃ V, v = some (.int V) ∧ ((k3 (IX n D) (IX 6 P && ((decide (O = -1) || IX 6 O) && !decide (P = O))) (decide (hi_ h 18 (dn D) = P))) ≠ 0 → h' = am_sI h 14 19 (nI (k3 (IX n D) (IX 6 P && ((decide (O = -1) || IX 6 O) && !decide (P = O))) (decide (hi_ h 18 (dn D) = P))))) ∧ ((k3 (IX n D) (IX 6 P && ((decide (O = -1) || IX 6 O) && !decide (P = O))) (decide (hi_ h 18 (dn D) = P))) = 0 → V = hi_ h 19 (dn D) ∧ h' = am_sI (am_sI h 14 19 (nI 0)) 19 (dn D) O)) (am_no) := by
  refine am_intro rfl htr rfl (Nat.le_of_ble_eq_true rfl) (fun Z hC hR hI => ?_)
  change am_W Z 0 0 0 [.ref (14), .int (D), .int (P), .int (O), .null, .null] [] h
  have m28 : am_W Z 0 0 28 [.ref (14), .int (D), .int (P), .int (O), .int (b2i (IX 6 P && ((decide (O = -1) || IX 6 O) && !decide (P = O)))), .null] [] h := by
    refine am_aload_n hC dX6_lend_28 rfl ?_
    refine am_aload_n hC dX6_lend_29 rfl ?_
    refine am_iload_n hC dX6_lend_30 rfl ?_
    refine am_callV hC (ci := 7) (N := 20) [.int (D)] rfl (kM_14 hM) rfl mf_X6_isDrawing tw_727 (c_X6_isDrawing _ _ (am_tr hC) h hM n hn6 hn0 D) rfl ⟨rfl, Nat.le_of_ble_eq_true rfl⟩ ⟨by decide, by decide⟩ (by decide) (by decide) dX6_lend_31 rfl (fun _ _ q _ => False.elim q) (fun v h' hp hlc => ?_)
    obtain ⟨z8, z9⟩ := hp
    have z8 := z8.symm
    subst z8
    subst z9
    refine am_if_ne (tgt := 41) hC dX6_lend_34 (by decide) (fun c_34 => ?_) (fun c_34 => ?_)
    · have hD1 := b2i_ne c_34
      obtain ⟨d, hd, rfl⟩ := (IX_iff (by omega)).mp hD1
      refine am_iload hC dX6_lend_41 rfl ?_
      refine am_if_ne (tgt := 50) hC dX6_lend_43 (by decide) (fun c_43 => ?_) (fun c_43 => ?_)
      · refine am_aload_n hC dX6_lend_50 rfl ?_
        refine am_get (v := .ref (18)) hC (ci := 7) (N := 20) (j := 4) rfl (kM_14 hM) (by decide) tw_652 (Or.inl rfl) dX6_lend_51 (am_rfe (rM_4 hM)) ?_
        refine am_iload_n hC dX6_lend_54 rfl ?_
        refine am_ialdE (v := hi_ h 18 d) hC (j := d) (N := 6) (kM_18 hM) (nM_18 hM) rfl (by omega) (by decide) dX6_lend_55 rfl ?_
        refine am_iload_n hC dX6_lend_56 rfl ?_
        refine am_icmp_ne (tgt := 64) hC dX6_lend_57 (by decide) (fun c_57 => ?_) (fun c_57 => ?_)
        · refine am_iconst (v := nI 3) hC dX6_lend_64 (by decide) ?_
          refine am_putI hC (ci := 7) (N := 20) (j := 19) rfl (kM_14 hM) (by decide) rfl rfl rfl tw_667 (Or.inl rfl) dX6_lend_65 ?_
          have hM : FM (am_sI h 14 19 (nI 3)) := hM
          refine am_aload_n hC dX6_lend_68 rfl ?_
          refine am_get (v := .int (nI 3)) hC (ci := 7) (N := 20) (j := 19) rfl (kM_14 hM) (by decide) tw_667 (Or.inl rfl) dX6_lend_69 rfl ?_
          refine am_if_le (tgt := 77) hC dX6_lend_72 (by decide) (fun c_72 => absurd c_72 (by decide)) (fun c_72 => ?_)
          refine am_iconst (v := nI 0) hC dX6_lend_75 (by decide) ?_
          refine am_iret hC hR rfl (by decide) (by decide) dX6_lend_76 ?_
          exact ⟨_, rfl, rfz (k3_3 hD1 (b2i_ne c_43) (decide_eq_false (p := hi_ h 18 (dn (nI d)) = P) (fun z => c_57 (by rw [dn_nI (by omega)] at z; exact z)))) (by decide) rfl⟩
        · refine am_iconst (v := nI 0) hC dX6_lend_60 (by decide) ?_
          refine am_goto (tgt := 65) hC dX6_lend_61 (by decide) ?_
          refine am_putI hC (ci := 7) (N := 20) (j := 19) rfl (kM_14 hM) (by decide) rfl rfl rfl tw_667 (Or.inl rfl) dX6_lend_65 ?_
          have hM : FM (am_sI h 14 19 (nI 0)) := hM
          refine am_aload_n hC dX6_lend_68 rfl ?_
          refine am_get (v := .int (nI 0)) hC (ci := 7) (N := 20) (j := 19) rfl (kM_14 hM) (by decide) tw_667 (Or.inl rfl) dX6_lend_69 rfl ?_
          refine am_if_le (tgt := 77) hC dX6_lend_72 (by decide) (fun c_72 => ?_) (fun c_72 => absurd (by decide) c_72)
          refine am_aload_n hC dX6_lend_77 rfl ?_
          refine am_get (v := .ref (19)) hC (ci := 7) (N := 20) (j := 5) rfl (kM_14 hM) (by decide) tw_653 (Or.inl rfl) dX6_lend_78 (am_rfe (rM_5 hM)) ?_
          refine am_iload_n hC dX6_lend_81 rfl ?_
          refine am_ialdE (v := hi_ (am_sI h 14 19 (nI 0)) 19 d) hC (j := d) (N := 6) (kM_19 hM) (nM_19 hM) rfl (by omega) (by decide) dX6_lend_82 rfl ?_
          refine am_istore hC dX6_lend_83 (by decide) ?_
          change am_W _ _ _ _ [.ref (14), .int (nI d), .int (P), .int (O), .int (b2i (IX 6 P && ((decide (O = -1) || IX 6 O) && !decide (P = O)))), .int (hi_ (am_sI h 14 19 (nI 0)) 19 d)] _ _
          refine am_aload_n hC dX6_lend_85 rfl ?_
          refine am_get (v := .ref (19)) hC (ci := 7) (N := 20) (j := 5) rfl (kM_14 hM) (by decide) tw_653 (Or.inl rfl) dX6_lend_86 (am_rfe (rM_5 hM)) ?_
          refine am_iload_n hC dX6_lend_89 rfl ?_
          refine am_iload_n hC dX6_lend_90 rfl ?_
          refine am_iast hC (j := d) (N := 6) (kM_19 hM) (nM_19 hM) rfl (by omega) (by decide) dX6_lend_91 ?_
          refine am_iload hC dX6_lend_92 rfl ?_
          refine am_iret hC hR rfl (by decide) (by decide) dX6_lend_94 ?_
          have hK : k3 (IX n (nI d)) (IX 6 P && ((decide (O = -1) || IX 6 O) && !decide (P = O))) (decide (hi_ h 18 (dn (nI d)) = P)) = 0 := k3_0 hD1 (b2i_ne c_43) (decide_eq_true (by rw [dn_nI (by omega)]; exact c_57))
          refine ⟨_, rfl, fun z => absurd hK z, fun _ => ⟨?_, ?_⟩⟩
          · rw [dn_nI (by omega)]; rfl
          · rw [dn_nI (by omega)]
      · refine am_iconst (v := nI 2) hC dX6_lend_46 (by decide) ?_
        refine am_goto (tgt := 65) hC dX6_lend_47 (by decide) ?_
        refine am_putI hC (ci := 7) (N := 20) (j := 19) rfl (kM_14 hM) (by decide) rfl rfl rfl tw_667 (Or.inl rfl) dX6_lend_65 ?_
        have hM : FM (am_sI h 14 19 (nI 2)) := hM
        refine am_aload_n hC dX6_lend_68 rfl ?_
        refine am_get (v := .int (nI 2)) hC (ci := 7) (N := 20) (j := 19) rfl (kM_14 hM) (by decide) tw_667 (Or.inl rfl) dX6_lend_69 rfl ?_
        refine am_if_le (tgt := 77) hC dX6_lend_72 (by decide) (fun c_72 => absurd c_72 (by decide)) (fun c_72 => ?_)
        refine am_iconst (v := nI 0) hC dX6_lend_75 (by decide) ?_
        refine am_iret hC hR rfl (by decide) (by decide) dX6_lend_76 ?_
        exact ⟨_, rfl, rfz (k3_2 hD1 (b2i_0.mp c_43)) (by decide) rfl⟩
    · refine am_iconst (v := nI 1) hC dX6_lend_37 (by decide) ?_
      refine am_goto (tgt := 65) hC dX6_lend_38 (by decide) ?_
      refine am_putI hC (ci := 7) (N := 20) (j := 19) rfl (kM_14 hM) (by decide) rfl rfl rfl tw_667 (Or.inl rfl) dX6_lend_65 ?_
      have hM : FM (am_sI h 14 19 (nI 1)) := hM
      refine am_aload_n hC dX6_lend_68 rfl ?_
      refine am_get (v := .int (nI 1)) hC (ci := 7) (N := 20) (j := 19) rfl (kM_14 hM) (by decide) tw_667 (Or.inl rfl) dX6_lend_69 rfl ?_
      refine am_if_le (tgt := 77) hC dX6_lend_72 (by decide) (fun c_72 => absurd c_72 (by decide)) (fun c_72 => ?_)
      refine am_iconst (v := nI 0) hC dX6_lend_75 (by decide) ?_
      refine am_iret hC hR rfl (by decide) (by decide) dX6_lend_76 ?_
      exact ⟨_, rfl, rfz (k3_1 (b2i_0.mp c_34)) (by decide) rfl⟩
  refine am_iload_n hC dX6_lend_0 rfl ?_
  refine am_callS hC [.int (P)] mf_X6_isPerson tw_721 (c_X6_isPerson _ _ (am_tr hC) h P) rfl ⟨rfl, Nat.le_of_ble_eq_true rfl⟩ ⟨by decide, by decide⟩ (by decide) (by decide) dX6_lend_1 rfl (fun _ _ q _ => False.elim q) (fun v h' hp hlc => ?_)
  obtain ⟨z8, z9⟩ := hp
  have z8 := z8.symm
  subst z8
  subst z9
  refine am_if_eq (tgt := 25) hC dX6_lend_4 (by decide) (fun c_4 => ?_) (fun c_4 => ?_)
  · refine am_iconst (v := nI 0) hC dX6_lend_25 (by decide) ?_
    refine am_istore hC dX6_lend_26 (by decide) ?_
    change am_W _ _ _ _ [.ref (14), .int (D), .int (P), .int (O), .int (nI 0), .null] _ _
    have e9 : b2i (IX 6 P && ((decide (O = -1) || IX 6 O) && !decide (P = O))) = nI 0 := by
      first
        | (rw [b2i_0.mp c_4]; rfl)
        | (rw [b2i_0.mp c_13, Bool.false_and, Bool.and_false]; rfl)
        | (rw [decide_eq_true c_18]; simp only [Bool.not_true, Bool.and_false]; rfl)
    rw [e9] at m28
    exact m28
  · refine am_iload_n hC dX6_lend_7 rfl ?_
    refine am_iconst (v := -1) hC dX6_lend_8 (by decide) ?_
    refine am_iconst (v := nI 5) hC dX6_lend_9 (by decide) ?_
    refine am_callS hC [.int (O), .int (-1), .int (nI 5)] mf_X6_isIn tw_724 (c_X6_isIn _ _ (am_tr hC) h O (-1) (nI 5)) rfl ⟨rfl, Nat.le_of_ble_eq_true rfl⟩ ⟨by decide, by decide⟩ (by decide) (by decide) dX6_lend_10 rfl (fun _ _ q _ => False.elim q) (fun v h' hp hlc => ?_)
    obtain ⟨rfl, q9⟩ := hp
    have q9 := q9.symm
    subst q9
    rw [show (if -1 ≤ O ∧ O ≤ nI 5 then (1 : Int32) else 0) = b2i (decide (O = -1) || IX 6 O) from isin_b.trans (congrArg b2i (IXm O))]
    refine am_if_eq (tgt := 25) hC dX6_lend_13 (by decide) (fun c_13 => ?_) (fun c_13 => ?_)
    · refine am_iconst (v := nI 0) hC dX6_lend_25 (by decide) ?_
      refine am_istore hC dX6_lend_26 (by decide) ?_
      change am_W _ _ _ _ [.ref (14), .int (D), .int (P), .int (O), .int (nI 0), .null] _ _
      have e9 : b2i (IX 6 P && ((decide (O = -1) || IX 6 O) && !decide (P = O))) = nI 0 := by
        first
          | (rw [b2i_0.mp c_4]; rfl)
          | (rw [b2i_0.mp c_13, Bool.false_and, Bool.and_false]; rfl)
          | (rw [decide_eq_true c_18]; simp only [Bool.not_true, Bool.and_false]; rfl)
      rw [e9] at m28
      exact m28
    · refine am_iload_n hC dX6_lend_16 rfl ?_
      refine am_iload_n hC dX6_lend_17 rfl ?_
      refine am_icmp_eq (tgt := 25) hC dX6_lend_18 (by decide) (fun c_18 => ?_) (fun c_18 => ?_)
      · refine am_iconst (v := nI 0) hC dX6_lend_25 (by decide) ?_
        refine am_istore hC dX6_lend_26 (by decide) ?_
        change am_W _ _ _ _ [.ref (14), .int (D), .int (P), .int (O), .int (nI 0), .null] _ _
        have e9 : b2i (IX 6 P && ((decide (O = -1) || IX 6 O) && !decide (P = O))) = nI 0 := by
          first
            | (rw [b2i_0.mp c_4]; rfl)
            | (rw [b2i_0.mp c_13, Bool.false_and, Bool.and_false]; rfl)
            | (rw [decide_eq_true c_18]; simp only [Bool.not_true, Bool.and_false]; rfl)
        rw [e9] at m28
        exact m28
      · refine am_iconst (v := nI 1) hC dX6_lend_21 (by decide) ?_
        refine am_goto (tgt := 26) hC dX6_lend_22 (by decide) ?_
        refine am_istore hC dX6_lend_26 (by decide) ?_
        change am_W _ _ _ _ [.ref (14), .int (D), .int (P), .int (O), .int (nI 1), .null] _ _
        have e9 : b2i (IX 6 P && ((decide (O = -1) || IX 6 O) && !decide (P = O))) = nI 1 := by rw [b2i_ne c_4, b2i_ne c_13, decide_eq_false c_18]; rfl
        rw [e9] at m28
        exact m28
set_option maxRecDepth 100000 in
set_option maxHeartbeats 4000000 in
theorem c_X6_setExit (G : am_G) (l : Launch) (htr : l.stackTraces = false) (h : am_H) (hM : FM h) (n : Nat) (hn6 : n ≤ 6) (hn0 : hi_ h 14 0 = nI n) (D P S : Int32) (b : Bool) : am_Met G l yX6_setExit (.code yX6_setExit cX6_setExit 7 (some .boolean)) 3 0 0 [.ref (14), .int (D), .int (P), .int (S), .int (b2i b)] h (fun v h' => ∃ V, v = some (.int V) ∧ ((k3 (IX n D) (IX 6 P && IX 25 S) (decide (chM h (dn D) = P))) ≠ 0 → h' = am_sI h 14 19 (nI (k3 (IX n D) (IX 6 P && IX 25 S) (decide (chM h (dn D) = P))))) ∧ ((k3 (IX n D) (IX 6 P && IX 25 S) (decide (chM h (dn D) = P))) = 0 → V = b2i (bt (hi_ h 16 (dn D)) (dn S)) ∧ h' = am_sI (am_sI h 14 19 (nI 0)) 16 (dn D) (if b = true then hi_ h 16 (dn D) ||| ((nI 1) <<< ((nI (dn S)) &&& 31)) else hi_ h 16 (dn D) &&& (((nI 1) <<< ((nI (dn S)) &&& 31)) ^^^ -1)))) (am_no) := by
  refine am_intro rfl htr rfl (Nat.le_of_ble_eq_true rfl) (fun Z hC hR hI => ?_)
  change am_W Z 0 0 0 [.ref (14), .int (D), .int (P), .int (S), .int (b2i b), .null, .null] [] h
  have m21 : am_W Z 0 0 21 [.ref (14), .int (D), .int (P), .int (S), .int (b2i b), .int (b2i (IX 6 P && IX 25 S)), .null] [] h := by
    refine am_aload_n hC dX6_setExit_21 rfl ?_
    refine am_aload_n hC dX6_setExit_22 rfl ?_
    refine am_iload_n hC dX6_setExit_23 rfl ?_
    refine am_callV hC (ci := 7) (N := 20) [.int (D)] rfl (kM_14 hM) rfl mf_X6_isDrawing tw_727 (c_X6_isDrawing _ _ (am_tr hC) h hM n hn6 hn0 D) rfl ⟨rfl, Nat.le_of_ble_eq_true rfl⟩ ⟨by decide, by decide⟩ (by decide) (by decide) dX6_setExit_24 rfl (fun _ _ q _ => False.elim q) (fun v h' hp hlc => ?_)
    obtain ⟨z8, z9⟩ := hp
    have z8 := z8.symm
    subst z8
    subst z9
    refine am_if_ne (tgt := 34) hC dX6_setExit_27 (by decide) (fun c_27 => ?_) (fun c_27 => ?_)
    · have hD1 := b2i_ne c_27
      obtain ⟨d, hd, rfl⟩ := (IX_iff (by omega)).mp hD1
      refine am_iload hC dX6_setExit_34 rfl ?_
      refine am_if_ne (tgt := 43) hC dX6_setExit_36 (by decide) (fun c_36 => ?_) (fun c_36 => ?_)
      · refine am_aload_n hC dX6_setExit_43 rfl ?_
        refine am_iload_n hC dX6_setExit_44 rfl ?_
        refine am_callV hC (ci := 7) (N := 20) [.int (nI d)] rfl (kM_14 hM) rfl mf_X6_changer tw_731 (c_X6_changer _ _ (am_tr hC) h hM d (by omega)) rfl ⟨rfl, Nat.le_of_ble_eq_true rfl⟩ ⟨by decide, by decide⟩ (by decide) (by decide) dX6_setExit_45 rfl (fun _ _ q _ => False.elim q) (fun v h' hp hlc => ?_)
        obtain ⟨z8, z9⟩ := hp
        have z8 := z8.symm
        subst z8
        subst z9
        refine am_iload_n hC dX6_setExit_48 rfl ?_
        refine am_icmp_ne (tgt := 56) hC dX6_setExit_49 (by decide) (fun c_49 => ?_) (fun c_49 => ?_)
        · refine am_iconst (v := nI 3) hC dX6_setExit_56 (by decide) ?_
          refine am_putI hC (ci := 7) (N := 20) (j := 19) rfl (kM_14 hM) (by decide) rfl rfl rfl tw_667 (Or.inl rfl) dX6_setExit_57 ?_
          have hM : FM (am_sI h 14 19 (nI 3)) := hM
          refine am_aload_n hC dX6_setExit_60 rfl ?_
          refine am_get (v := .int (nI 3)) hC (ci := 7) (N := 20) (j := 19) rfl (kM_14 hM) (by decide) tw_667 (Or.inl rfl) dX6_setExit_61 rfl ?_
          refine am_if_le (tgt := 69) hC dX6_setExit_64 (by decide) (fun c_64 => absurd c_64 (by decide)) (fun c_64 => ?_)
          refine am_iconst (v := nI 0) hC dX6_setExit_67 (by decide) ?_
          refine am_iret hC hR rfl (by decide) (by decide) dX6_setExit_68 ?_
          exact ⟨_, rfl, rfz (k3_3 hD1 (b2i_ne c_36) (decide_eq_false (p := chM h (dn (nI d)) = P) (fun z => c_49 (by rw [dn_nI (by omega)] at z; exact z)))) (by decide) rfl⟩
        · have hS1 := (and_2 (b2i_ne c_36)).2
          obtain ⟨s, hs, rfl⟩ := (IX_iff (by decide)).mp hS1
          refine am_iconst (v := nI 0) hC dX6_setExit_52 (by decide) ?_
          refine am_goto (tgt := 57) hC dX6_setExit_53 (by decide) ?_
          refine am_putI hC (ci := 7) (N := 20) (j := 19) rfl (kM_14 hM) (by decide) rfl rfl rfl tw_667 (Or.inl rfl) dX6_setExit_57 ?_
          have hM : FM (am_sI h 14 19 (nI 0)) := hM
          refine am_aload_n hC dX6_setExit_60 rfl ?_
          refine am_get (v := .int (nI 0)) hC (ci := 7) (N := 20) (j := 19) rfl (kM_14 hM) (by decide) tw_667 (Or.inl rfl) dX6_setExit_61 rfl ?_
          refine am_if_le (tgt := 69) hC dX6_setExit_64 (by decide) (fun c_64 => ?_) (fun c_64 => absurd (by decide) c_64)
          refine am_aload_n hC dX6_setExit_69 rfl ?_
          refine am_get (v := .ref (16)) hC (ci := 7) (N := 20) (j := 2) rfl (kM_14 hM) (by decide) tw_650 (Or.inl rfl) dX6_setExit_70 (am_rfe (rM_2 hM)) ?_
          refine am_iload_n hC dX6_setExit_73 rfl ?_
          refine am_ialdE (v := hi_ (am_sI h 14 19 (nI 0)) 16 d) hC (j := d) (N := 6) (kM_16 hM) (nM_16 hM) rfl (by omega) (by decide) dX6_setExit_74 rfl ?_
          refine am_iload_n hC dX6_setExit_75 rfl ?_
          refine am_ishrE (z := (hi_ (am_sI h 14 19 (nI 0)) 16 d) >>> ((nI s) &&& 31)) hC dX6_setExit_76 rfl ?_
          refine am_iconst (v := nI 1) hC dX6_setExit_77 (by decide) ?_
          refine am_iandE (z := ((hi_ (am_sI h 14 19 (nI 0)) 16 d) >>> ((nI s) &&& 31)) &&& (nI 1)) hC dX6_setExit_78 rfl ?_
          refine am_iconst (v := nI 1) hC dX6_setExit_79 (by decide) ?_
          refine am_icmp_ne (tgt := 87) hC dX6_setExit_80 (by decide) (fun c_80 => ?_) (fun c_80 => ?_)
          · refine am_iconst (v := nI 0) hC dX6_setExit_87 (by decide) ?_
            refine am_istore hC dX6_setExit_88 (by decide) ?_
            change am_W _ _ _ _ [.ref (14), .int (nI d), .int (P), .int (nI s), .int (b2i b), .int (b2i (IX 6 P && IX 25 (nI s))), .int (nI 0)] _ _
            refine am_aload_n hC dX6_setExit_90 rfl ?_
            refine am_get (v := .ref (16)) hC (ci := 7) (N := 20) (j := 2) rfl (kM_14 hM) (by decide) tw_650 (Or.inl rfl) dX6_setExit_91 (am_rfe (rM_2 hM)) ?_
            refine am_iload_n hC dX6_setExit_94 rfl ?_
            refine am_iload hC dX6_setExit_95 rfl ?_
            refine am_if_eq (tgt := 113) hC dX6_setExit_97 (by decide) (fun c_97 => ?_) (fun c_97 => ?_)
            · refine am_aload_n hC dX6_setExit_113 rfl ?_
              refine am_get (v := .ref (16)) hC (ci := 7) (N := 20) (j := 2) rfl (kM_14 hM) (by decide) tw_650 (Or.inl rfl) dX6_setExit_114 (am_rfe (rM_2 hM)) ?_
              refine am_iload_n hC dX6_setExit_117 rfl ?_
              refine am_ialdE (v := hi_ (am_sI h 14 19 (nI 0)) 16 d) hC (j := d) (N := 6) (kM_16 hM) (nM_16 hM) rfl (by omega) (by decide) dX6_setExit_118 rfl ?_
              refine am_iconst (v := nI 1) hC dX6_setExit_119 (by decide) ?_
              refine am_iload_n hC dX6_setExit_120 rfl ?_
              refine am_ishlE (z := (nI 1) <<< ((nI s) &&& 31)) hC dX6_setExit_121 rfl ?_
              refine am_iconst (v := -1) hC dX6_setExit_122 (by decide) ?_
              refine am_ixorE (z := ((nI 1) <<< ((nI s) &&& 31)) ^^^ (-1)) hC dX6_setExit_123 rfl ?_
              refine am_iandE (z := (hi_ (am_sI h 14 19 (nI 0)) 16 d) &&& (((nI 1) <<< ((nI s) &&& 31)) ^^^ (-1))) hC dX6_setExit_124 rfl ?_
              refine am_iast hC (j := d) (N := 6) (kM_16 hM) (nM_16 hM) rfl (by omega) (by decide) dX6_setExit_125 ?_
              refine am_iload hC dX6_setExit_126 rfl ?_
              refine am_iret hC hR rfl (by decide) (by decide) dX6_setExit_128 ?_
              have hK : k3 (IX n (nI d)) (IX 6 P && IX 25 (nI s)) (decide (chM h (dn (nI d)) = P)) = 0 := k3_0 hD1 (b2i_ne c_36) (decide_eq_true (by rw [dn_nI (by omega)]; exact c_49))
              refine ⟨_, rfl, fun z => absurd hK z, fun _ => ⟨?_, ?_⟩⟩
              · rw [dn_nI (by omega), dn_nI (by omega)]
                first
                  | (rw [show bt (hi_ h 16 d) s = true from (tb_ (by omega)).mp c_80]; rfl)
                  | (rw [show bt (hi_ h 16 d) s = false from tb_n (by omega) c_80]; rfl)
              · rw [dn_nI (by omega), dn_nI (by omega)]
                first
                  | (rw [if_pos (b2i_ne c_97)]; rfl)
                  | (rw [if_neg (fun z => by rw [b2i_0.mp c_97] at z; cases z)]; rfl)
            · refine am_aload_n hC dX6_setExit_100 rfl ?_
              refine am_get (v := .ref (16)) hC (ci := 7) (N := 20) (j := 2) rfl (kM_14 hM) (by decide) tw_650 (Or.inl rfl) dX6_setExit_101 (am_rfe (rM_2 hM)) ?_
              refine am_iload_n hC dX6_setExit_104 rfl ?_
              refine am_ialdE (v := hi_ (am_sI h 14 19 (nI 0)) 16 d) hC (j := d) (N := 6) (kM_16 hM) (nM_16 hM) rfl (by omega) (by decide) dX6_setExit_105 rfl ?_
              refine am_iconst (v := nI 1) hC dX6_setExit_106 (by decide) ?_
              refine am_iload_n hC dX6_setExit_107 rfl ?_
              refine am_ishlE (z := (nI 1) <<< ((nI s) &&& 31)) hC dX6_setExit_108 rfl ?_
              refine am_iorE (z := (hi_ (am_sI h 14 19 (nI 0)) 16 d) ||| ((nI 1) <<< ((nI s) &&& 31))) hC dX6_setExit_109 rfl ?_
              refine am_goto (tgt := 125) hC dX6_setExit_110 (by decide) ?_
              refine am_iast hC (j := d) (N := 6) (kM_16 hM) (nM_16 hM) rfl (by omega) (by decide) dX6_setExit_125 ?_
              refine am_iload hC dX6_setExit_126 rfl ?_
              refine am_iret hC hR rfl (by decide) (by decide) dX6_setExit_128 ?_
              have hK : k3 (IX n (nI d)) (IX 6 P && IX 25 (nI s)) (decide (chM h (dn (nI d)) = P)) = 0 := k3_0 hD1 (b2i_ne c_36) (decide_eq_true (by rw [dn_nI (by omega)]; exact c_49))
              refine ⟨_, rfl, fun z => absurd hK z, fun _ => ⟨?_, ?_⟩⟩
              · rw [dn_nI (by omega), dn_nI (by omega)]
                first
                  | (rw [show bt (hi_ h 16 d) s = true from (tb_ (by omega)).mp c_80]; rfl)
                  | (rw [show bt (hi_ h 16 d) s = false from tb_n (by omega) c_80]; rfl)
              · rw [dn_nI (by omega), dn_nI (by omega)]
                first
                  | (rw [if_pos (b2i_ne c_97)]; rfl)
                  | (rw [if_neg (fun z => by rw [b2i_0.mp c_97] at z; cases z)]; rfl)
          · refine am_iconst (v := nI 1) hC dX6_setExit_83 (by decide) ?_
            refine am_goto (tgt := 88) hC dX6_setExit_84 (by decide) ?_
            refine am_istore hC dX6_setExit_88 (by decide) ?_
            change am_W _ _ _ _ [.ref (14), .int (nI d), .int (P), .int (nI s), .int (b2i b), .int (b2i (IX 6 P && IX 25 (nI s))), .int (nI 1)] _ _
            refine am_aload_n hC dX6_setExit_90 rfl ?_
            refine am_get (v := .ref (16)) hC (ci := 7) (N := 20) (j := 2) rfl (kM_14 hM) (by decide) tw_650 (Or.inl rfl) dX6_setExit_91 (am_rfe (rM_2 hM)) ?_
            refine am_iload_n hC dX6_setExit_94 rfl ?_
            refine am_iload hC dX6_setExit_95 rfl ?_
            refine am_if_eq (tgt := 113) hC dX6_setExit_97 (by decide) (fun c_97 => ?_) (fun c_97 => ?_)
            · refine am_aload_n hC dX6_setExit_113 rfl ?_
              refine am_get (v := .ref (16)) hC (ci := 7) (N := 20) (j := 2) rfl (kM_14 hM) (by decide) tw_650 (Or.inl rfl) dX6_setExit_114 (am_rfe (rM_2 hM)) ?_
              refine am_iload_n hC dX6_setExit_117 rfl ?_
              refine am_ialdE (v := hi_ (am_sI h 14 19 (nI 0)) 16 d) hC (j := d) (N := 6) (kM_16 hM) (nM_16 hM) rfl (by omega) (by decide) dX6_setExit_118 rfl ?_
              refine am_iconst (v := nI 1) hC dX6_setExit_119 (by decide) ?_
              refine am_iload_n hC dX6_setExit_120 rfl ?_
              refine am_ishlE (z := (nI 1) <<< ((nI s) &&& 31)) hC dX6_setExit_121 rfl ?_
              refine am_iconst (v := -1) hC dX6_setExit_122 (by decide) ?_
              refine am_ixorE (z := ((nI 1) <<< ((nI s) &&& 31)) ^^^ (-1)) hC dX6_setExit_123 rfl ?_
              refine am_iandE (z := (hi_ (am_sI h 14 19 (nI 0)) 16 d) &&& (((nI 1) <<< ((nI s) &&& 31)) ^^^ (-1))) hC dX6_setExit_124 rfl ?_
              refine am_iast hC (j := d) (N := 6) (kM_16 hM) (nM_16 hM) rfl (by omega) (by decide) dX6_setExit_125 ?_
              refine am_iload hC dX6_setExit_126 rfl ?_
              refine am_iret hC hR rfl (by decide) (by decide) dX6_setExit_128 ?_
              have hK : k3 (IX n (nI d)) (IX 6 P && IX 25 (nI s)) (decide (chM h (dn (nI d)) = P)) = 0 := k3_0 hD1 (b2i_ne c_36) (decide_eq_true (by rw [dn_nI (by omega)]; exact c_49))
              refine ⟨_, rfl, fun z => absurd hK z, fun _ => ⟨?_, ?_⟩⟩
              · rw [dn_nI (by omega), dn_nI (by omega)]
                first
                  | (rw [show bt (hi_ h 16 d) s = true from (tb_ (by omega)).mp c_80]; rfl)
                  | (rw [show bt (hi_ h 16 d) s = false from tb_n (by omega) c_80]; rfl)
              · rw [dn_nI (by omega), dn_nI (by omega)]
                first
                  | (rw [if_pos (b2i_ne c_97)]; rfl)
                  | (rw [if_neg (fun z => by rw [b2i_0.mp c_97] at z; cases z)]; rfl)
            · refine am_aload_n hC dX6_setExit_100 rfl ?_
              refine am_get (v := .ref (16)) hC (ci := 7) (N := 20) (j := 2) rfl (kM_14 hM) (by decide) tw_650 (Or.inl rfl) dX6_setExit_101 (am_rfe (rM_2 hM)) ?_
              refine am_iload_n hC dX6_setExit_104 rfl ?_
              refine am_ialdE (v := hi_ (am_sI h 14 19 (nI 0)) 16 d) hC (j := d) (N := 6) (kM_16 hM) (nM_16 hM) rfl (by omega) (by decide) dX6_setExit_105 rfl ?_
              refine am_iconst (v := nI 1) hC dX6_setExit_106 (by decide) ?_
              refine am_iload_n hC dX6_setExit_107 rfl ?_
              refine am_ishlE (z := (nI 1) <<< ((nI s) &&& 31)) hC dX6_setExit_108 rfl ?_
              refine am_iorE (z := (hi_ (am_sI h 14 19 (nI 0)) 16 d) ||| ((nI 1) <<< ((nI s) &&& 31))) hC dX6_setExit_109 rfl ?_
              refine am_goto (tgt := 125) hC dX6_setExit_110 (by decide) ?_
              refine am_iast hC (j := d) (N := 6) (kM_16 hM) (nM_16 hM) rfl (by omega) (by decide) dX6_setExit_125 ?_
              refine am_iload hC dX6_setExit_126 rfl ?_
              refine am_iret hC hR rfl (by decide) (by decide) dX6_setExit_128 ?_
              have hK : k3 (IX n (nI d)) (IX 6 P && IX 25 (nI s)) (decide (chM h (dn (nI d)) = P)) = 0 := k3_0 hD1 (b2i_ne c_36) (decide_eq_true (by rw [dn_nI (by omega)]; exact c_49))
              refine ⟨_, rfl, fun z => absurd hK z, fun _ => ⟨?_, ?_⟩⟩
              · rw [dn_nI (by omega), dn_nI (by omega)]
                first
                  | (rw [show bt (hi_ h 16 d) s = true from (tb_ (by omega)).mp c_80]; rfl)
                  | (rw [show bt (hi_ h 16 d) s = false from tb_n (by omega) c_80]; rfl)
              · rw [dn_nI (by omega), dn_nI (by omega)]
                first
                  | (rw [if_pos (b2i_ne c_97)]; rfl)
                  | (rw [if_neg (fun z => by rw [b2i_0.mp c_97] at z; cases z)]; rfl)
      · refine am_iconst (v := nI 2) hC dX6_setExit_39 (by decide) ?_
        refine am_goto (tgt := 57) hC dX6_setExit_40 (by decide) ?_
        refine am_putI hC (ci := 7) (N := 20) (j := 19) rfl (kM_14 hM) (by decide) rfl rfl rfl tw_667 (Or.inl rfl) dX6_setExit_57 ?_
        have hM : FM (am_sI h 14 19 (nI 2)) := hM
        refine am_aload_n hC dX6_setExit_60 rfl ?_
        refine am_get (v := .int (nI 2)) hC (ci := 7) (N := 20) (j := 19) rfl (kM_14 hM) (by decide) tw_667 (Or.inl rfl) dX6_setExit_61 rfl ?_
        refine am_if_le (tgt := 69) hC dX6_setExit_64 (by decide) (fun c_64 => absurd c_64 (by decide)) (fun c_64 => ?_)
        refine am_iconst (v := nI 0) hC dX6_setExit_67 (by decide) ?_
        refine am_iret hC hR rfl (by decide) (by decide) dX6_setExit_68 ?_
        exact ⟨_, rfl, rfz (k3_2 hD1 (b2i_0.mp c_36)) (by decide) rfl⟩
    · refine am_iconst (v := nI 1) hC dX6_setExit_30 (by decide) ?_
      refine am_goto (tgt := 57) hC dX6_setExit_31 (by decide) ?_
      refine am_putI hC (ci := 7) (N := 20) (j := 19) rfl (kM_14 hM) (by decide) rfl rfl rfl tw_667 (Or.inl rfl) dX6_setExit_57 ?_
      have hM : FM (am_sI h 14 19 (nI 1)) := hM
      refine am_aload_n hC dX6_setExit_60 rfl ?_
      refine am_get (v := .int (nI 1)) hC (ci := 7) (N := 20) (j := 19) rfl (kM_14 hM) (by decide) tw_667 (Or.inl rfl) dX6_setExit_61 rfl ?_
      refine am_if_le (tgt := 69) hC dX6_setExit_64 (by decide) (fun c_64 => absurd c_64 (by decide)) (fun c_64 => ?_)
      refine am_iconst (v := nI 0) hC dX6_setExit_67 (by decide) ?_
      refine am_iret hC hR rfl (by decide) (by decide) dX6_setExit_68 ?_
      exact ⟨_, rfl, rfz (k3_1 (b2i_0.mp c_27)) (by decide) rfl⟩
  refine am_iload_n hC dX6_setExit_0 rfl ?_
  refine am_callS hC [.int (P)] mf_X6_isPerson tw_721 (c_X6_isPerson _ _ (am_tr hC) h P) rfl ⟨rfl, Nat.le_of_ble_eq_true rfl⟩ ⟨by decide, by decide⟩ (by decide) (by decide) dX6_setExit_1 rfl (fun _ _ q _ => False.elim q) (fun v h' hp hlc => ?_)
  obtain ⟨z8, z9⟩ := hp
  have z8 := z8.symm
  subst z8
  subst z9
  refine am_if_eq (tgt := 18) hC dX6_setExit_4 (by decide) (fun c_4 => ?_) (fun c_4 => ?_)
  · refine am_iconst (v := nI 0) hC dX6_setExit_18 (by decide) ?_
    refine am_istore hC dX6_setExit_19 (by decide) ?_
    change am_W _ _ _ _ [.ref (14), .int (D), .int (P), .int (S), .int (b2i b), .int (nI 0), .null] _ _
    have e9 : b2i (IX 6 P && IX 25 S) = nI 0 := by
      first
        | (rw [b2i_0.mp c_4]; rfl)
        | (rw [b2i_0.mp c_11, Bool.and_false]; rfl)
    rw [e9] at m21
    exact m21
  · refine am_iload_n hC dX6_setExit_7 rfl ?_
    refine am_callS hC [.int (S)] mf_X6_isCell tw_739 (c_X6_isCell _ _ (am_tr hC) h S) rfl ⟨rfl, Nat.le_of_ble_eq_true rfl⟩ ⟨by decide, by decide⟩ (by decide) (by decide) dX6_setExit_8 rfl (fun _ _ q _ => False.elim q) (fun v h' hp hlc => ?_)
    obtain ⟨z8, z9⟩ := hp
    have z8 := z8.symm
    subst z8
    subst z9
    refine am_if_eq (tgt := 18) hC dX6_setExit_11 (by decide) (fun c_11 => ?_) (fun c_11 => ?_)
    · refine am_iconst (v := nI 0) hC dX6_setExit_18 (by decide) ?_
      refine am_istore hC dX6_setExit_19 (by decide) ?_
      change am_W _ _ _ _ [.ref (14), .int (D), .int (P), .int (S), .int (b2i b), .int (nI 0), .null] _ _
      have e9 : b2i (IX 6 P && IX 25 S) = nI 0 := by
        first
          | (rw [b2i_0.mp c_4]; rfl)
          | (rw [b2i_0.mp c_11, Bool.and_false]; rfl)
      rw [e9] at m21
      exact m21
    · refine am_iconst (v := nI 1) hC dX6_setExit_14 (by decide) ?_
      refine am_goto (tgt := 19) hC dX6_setExit_15 (by decide) ?_
      refine am_istore hC dX6_setExit_19 (by decide) ?_
      change am_W _ _ _ _ [.ref (14), .int (D), .int (P), .int (S), .int (b2i b), .int (nI 1), .null] _ _
      have e9 : b2i (IX 6 P && IX 25 S) = nI 1 := by rw [b2i_ne c_4, b2i_ne c_11]; rfl
      rw [e9] at m21
      exact m21
