/-! ===== the model's calls: drawings and locks ===== -/
theorem k3_1 {a b c : Bool} (ha : a = false) : k3 a b c = 1 := if_pos ha
theorem k3_2 {a b c : Bool} (ha : a = true) (hb : b = false) : k3 a b c = 2 := by subst ha; subst hb; rfl
theorem k3_3 {a b c : Bool} (ha : a = true) (hb : b = true) (hc : c = false) : k3 a b c = 3 := by subst ha; subst hb; subst hc; rfl
theorem sI_sI (h : am_H) (r k : Nat) (x y : Int32) : am_sI (am_sI h r k x) r k y = am_sI h r k y := by
  unfold am_sI am_u2
  refine congrArg (fun f => (h.1, h.2.1, f, h.2.2.2.1, h.2.2.2.2)) (funext fun a => funext fun b => ?_)
  show (if a = r ∧ b = k then y else (if a = r ∧ b = k then x else h.2.2.1 a b)) = (if a = r ∧ b = k then y else h.2.2.1 a b)
  by_cases z : a = r ∧ b = k
  · rw [if_pos z, if_pos z]
  · rw [if_neg z, if_neg z, if_neg z]
theorem rfz {K c : Nat} {h h' : am_H} {Q : Prop} (hK : K = c) (hc : c ≠ 0) (e : h' = am_sI h 14 19 (nI c)) : (K ≠ 0 → h' = am_sI h 14 19 (nI K)) ∧ (K = 0 → Q) := ⟨fun _ => by rw [hK]; exact e, fun z => absurd (hK.symm.trans z) hc⟩
theorem and_2 {a b : Bool} (h : (a && b) = true) : a = true ∧ b = true := by rw [Bool.and_eq_true] at h; exact h
theorem IXm (x : Int32) : (decide (-1 ≤ x) && decide (x ≤ nI 5)) = (decide (x = -1) || IX 6 x) := by
  by_cases a : x < 0
  · by_cases b : x = -1
    · rw [b]; rfl
    · rw [decide_eq_false b, show IX 6 x = false by unfold IX; rw [decide_eq_false (Int32.not_le.mpr a)]; rfl, decide_eq_false (fun z => b ?_)]
      · rfl
      · have h1 := Int32.lt_iff_toInt_lt.mp a
        have h2 := Int32.le_iff_toInt_le.mp z
        have h3 : (-1 : Int32).toInt = -1 := by decide
        have h4 : (0 : Int32).toInt = 0 := by decide
        apply Int32.toInt_inj.mp
        omega
  · obtain ⟨j, hj, rfl⟩ := nI_of a
    have h1 : -1 ≤ nI j := Int32.le_iff_toInt_le.mpr (by rw [nI_toInt hj, show (-1 : Int32).toInt = -1 by decide]; omega)
    have h2 : ¬ nI j = -1 := fun z => by
      have := congrArg Int32.toInt z
      rw [nI_toInt hj, show (-1 : Int32).toInt = -1 by decide] at this
      omega
    rw [decide_eq_true h1, decide_eq_false h2]
    show decide (nI j ≤ nI 5) = (decide (0 ≤ nI j) && decide (nI j < nI 6))
    rw [decide_eq_true (Int32.not_lt.mp a)]
    by_cases w : j < 6
    · rw [decide_eq_true (nI_lt w (by decide)), decide_eq_true (nI_le (by omega) (by decide))]; rfl
    · rw [decide_eq_false (nI_nlt (by omega) hj), decide_eq_false (nI_ge (by omega) hj)]; rfl
set_option maxRecDepth 100000 in
set_option maxHeartbeats 4000000 in
theorem c_X6_tell (G : am_G) (l : Launch) (htr : l.stackTraces = false) (h : am_H) (hM : FM h) (n : Nat) (hn6 : n ≤ 6) (hn0 : hi_ h 14 0 = nI n) (D P S W : Int32) : am_Met G l yX6_tell (.code yX6_tell cX6_tell 7 (some .int)) 3 0 0 [.ref (14), .int (D), .int (P), .int (S), .int (W)] h (fun v h' => ∃ V, v = some (.int V) ∧ ((k3 (IX n D) (IX 6 P && IX 40 S && IW W) (decide (chM h (dn D) = P))) ≠ 0 → h' = am_sI h 14 19 (nI (k3 (IX n D) (IX 6 P && IX 40 S && IW W) (decide (chM h (dn D) = P))))) ∧ ((k3 (IX n D) (IX 6 P && IX 40 S && IW W) (decide (chM h (dn D) = P))) = 0 → V = hi_ h 15 (40 * dn D + dn S) ∧ h' = am_sI (am_sI h 14 19 (nI 0)) 15 (40 * dn D + dn S) W)) (am_no) := by
  refine am_intro rfl htr rfl (Nat.le_of_ble_eq_true rfl) (fun Z hC hR hI => ?_)
  change am_W Z 0 0 0 [.ref (14), .int (D), .int (P), .int (S), .int (W), .null, .null] [] h
  have m34 : am_W Z 0 0 34 [.ref (14), .int (D), .int (P), .int (S), .int (W), .int (b2i (IX 6 P && IX 40 S && IW W)), .null] [] h := by
    refine am_aload_n hC dX6_tell_34 rfl ?_
    refine am_aload_n hC dX6_tell_35 rfl ?_
    refine am_iload_n hC dX6_tell_36 rfl ?_
    refine am_callV hC (ci := 7) (N := 20) [.int (D)] rfl (kM_14 hM) rfl mf_X6_isDrawing tw_727 (c_X6_isDrawing _ _ (am_tr hC) h hM n hn6 hn0 D) rfl ⟨rfl, Nat.le_of_ble_eq_true rfl⟩ ⟨by decide, by decide⟩ (by decide) (by decide) dX6_tell_37 rfl (fun _ _ q _ => False.elim q) (fun v h' hp hlc => ?_)
    obtain ⟨z8, z9⟩ := hp
    have z8 := z8.symm
    subst z8
    subst z9
    refine am_if_ne (tgt := 47) hC dX6_tell_40 (by decide) (fun c_40 => ?_) (fun c_40 => ?_)
    · have hD1 := b2i_ne c_40
      obtain ⟨d, hd, rfl⟩ := (IX_iff (by omega)).mp hD1
      refine am_iload hC dX6_tell_47 rfl ?_
      refine am_if_ne (tgt := 56) hC dX6_tell_49 (by decide) (fun c_49 => ?_) (fun c_49 => ?_)
      · refine am_aload_n hC dX6_tell_56 rfl ?_
        refine am_iload_n hC dX6_tell_57 rfl ?_
        refine am_callV hC (ci := 7) (N := 20) [.int (nI d)] rfl (kM_14 hM) rfl mf_X6_changer tw_731 (c_X6_changer _ _ (am_tr hC) h hM d (by omega)) rfl ⟨rfl, Nat.le_of_ble_eq_true rfl⟩ ⟨by decide, by decide⟩ (by decide) (by decide) dX6_tell_58 rfl (fun _ _ q _ => False.elim q) (fun v h' hp hlc => ?_)
        obtain ⟨z8, z9⟩ := hp
        have z8 := z8.symm
        subst z8
        subst z9
        refine am_iload_n hC dX6_tell_61 rfl ?_
        refine am_icmp_ne (tgt := 69) hC dX6_tell_62 (by decide) (fun c_62 => ?_) (fun c_62 => ?_)
        · refine am_iconst (v := nI 3) hC dX6_tell_69 (by decide) ?_
          refine am_putI hC (ci := 7) (N := 20) (j := 19) rfl (kM_14 hM) (by decide) rfl rfl rfl tw_667 (Or.inl rfl) dX6_tell_70 ?_
          have hM : FM (am_sI h 14 19 (nI 3)) := hM
          refine am_aload_n hC dX6_tell_73 rfl ?_
          refine am_get (v := .int (nI 3)) hC (ci := 7) (N := 20) (j := 19) rfl (kM_14 hM) (by decide) tw_667 (Or.inl rfl) dX6_tell_74 rfl ?_
          refine am_if_le (tgt := 82) hC dX6_tell_77 (by decide) (fun c_77 => absurd c_77 (by decide)) (fun c_77 => ?_)
          refine am_iconst (v := nI 0) hC dX6_tell_80 (by decide) ?_
          refine am_iret hC hR rfl (by decide) (by decide) dX6_tell_81 ?_
          exact ⟨_, rfl, rfz (k3_3 hD1 (b2i_ne c_49) (decide_eq_false (p := chM h (dn (nI d)) = P) (fun z => c_62 (by rw [dn_nI (by omega)] at z; exact z)))) (by decide) rfl⟩
        · have hare := and_2 (b2i_ne c_49)
          have hS1 := (and_2 hare.1).2
          obtain ⟨s, hs, rfl⟩ := (IX_iff (by decide)).mp hS1
          refine am_iconst (v := nI 0) hC dX6_tell_65 (by decide) ?_
          refine am_goto (tgt := 70) hC dX6_tell_66 (by decide) ?_
          refine am_putI hC (ci := 7) (N := 20) (j := 19) rfl (kM_14 hM) (by decide) rfl rfl rfl tw_667 (Or.inl rfl) dX6_tell_70 ?_
          have hM : FM (am_sI h 14 19 (nI 0)) := hM
          refine am_aload_n hC dX6_tell_73 rfl ?_
          refine am_get (v := .int (nI 0)) hC (ci := 7) (N := 20) (j := 19) rfl (kM_14 hM) (by decide) tw_667 (Or.inl rfl) dX6_tell_74 rfl ?_
          refine am_if_le (tgt := 82) hC dX6_tell_77 (by decide) (fun c_77 => ?_) (fun c_77 => absurd (by decide) c_77)
          refine am_aload_n hC dX6_tell_82 rfl ?_
          refine am_get (v := .ref (15)) hC (ci := 7) (N := 20) (j := 1) rfl (kM_14 hM) (by decide) tw_649 (Or.inl rfl) dX6_tell_83 (am_rfe (rM_1 hM)) ?_
          refine am_bipush (v := nI 40) hC dX6_tell_86 (by decide) ?_
          refine am_iload_n hC dX6_tell_88 rfl ?_
          refine am_imulE (z := nI (40 * d)) hC dX6_tell_89 (pk_mul (40) (d)) ?_
          refine am_iload_n hC dX6_tell_90 rfl ?_
          refine am_iaddE (z := nI (40 * d + s)) hC dX6_tell_91 (nI_add (40 * d) (s)) ?_
          refine am_ialdE (v := hi_ (am_sI h 14 19 (nI 0)) 15 (40 * d + s)) hC (j := 40 * d + s) (N := 240) (kM_15 hM) (nM_15 hM) rfl (by omega) (by decide) dX6_tell_92 rfl ?_
          refine am_istore hC dX6_tell_93 (by decide) ?_
          change am_W _ _ _ _ [.ref (14), .int (nI d), .int (P), .int (nI s), .int (W), .int (b2i (IX 6 P && IX 40 (nI s) && IW W)), .int (hi_ (am_sI h 14 19 (nI 0)) 15 (40 * d + s))] _ _
          refine am_aload_n hC dX6_tell_95 rfl ?_
          refine am_get (v := .ref (15)) hC (ci := 7) (N := 20) (j := 1) rfl (kM_14 hM) (by decide) tw_649 (Or.inl rfl) dX6_tell_96 (am_rfe (rM_1 hM)) ?_
          refine am_bipush (v := nI 40) hC dX6_tell_99 (by decide) ?_
          refine am_iload_n hC dX6_tell_101 rfl ?_
          refine am_imulE (z := nI (40 * d)) hC dX6_tell_102 (pk_mul (40) (d)) ?_
          refine am_iload_n hC dX6_tell_103 rfl ?_
          refine am_iaddE (z := nI (40 * d + s)) hC dX6_tell_104 (nI_add (40 * d) (s)) ?_
          refine am_iload hC dX6_tell_105 rfl ?_
          refine am_iast hC (j := 40 * d + s) (N := 240) (kM_15 hM) (nM_15 hM) rfl (by omega) (by decide) dX6_tell_107 ?_
          refine am_iload hC dX6_tell_108 rfl ?_
          refine am_iret hC hR rfl (by decide) (by decide) dX6_tell_110 ?_
          have hK := k3_0 hD1 (b2i_ne c_49) (decide_eq_true (show chM h (dn (nI d)) = P by rw [dn_nI (by omega)]; exact c_62))
          refine ⟨_, rfl, fun z => absurd hK z, fun _ => ⟨?_, ?_⟩⟩
          · rw [dn_nI (by omega), dn_nI (by omega)]; rfl
          · rw [dn_nI (by omega), dn_nI (by omega)]
      · refine am_iconst (v := nI 2) hC dX6_tell_52 (by decide) ?_
        refine am_goto (tgt := 70) hC dX6_tell_53 (by decide) ?_
        refine am_putI hC (ci := 7) (N := 20) (j := 19) rfl (kM_14 hM) (by decide) rfl rfl rfl tw_667 (Or.inl rfl) dX6_tell_70 ?_
        have hM : FM (am_sI h 14 19 (nI 2)) := hM
        refine am_aload_n hC dX6_tell_73 rfl ?_
        refine am_get (v := .int (nI 2)) hC (ci := 7) (N := 20) (j := 19) rfl (kM_14 hM) (by decide) tw_667 (Or.inl rfl) dX6_tell_74 rfl ?_
        refine am_if_le (tgt := 82) hC dX6_tell_77 (by decide) (fun c_77 => absurd c_77 (by decide)) (fun c_77 => ?_)
        refine am_iconst (v := nI 0) hC dX6_tell_80 (by decide) ?_
        refine am_iret hC hR rfl (by decide) (by decide) dX6_tell_81 ?_
        exact ⟨_, rfl, rfz (k3_2 hD1 (b2i_0.mp c_49)) (by decide) rfl⟩
    · refine am_iconst (v := nI 1) hC dX6_tell_43 (by decide) ?_
      refine am_goto (tgt := 70) hC dX6_tell_44 (by decide) ?_
      refine am_putI hC (ci := 7) (N := 20) (j := 19) rfl (kM_14 hM) (by decide) rfl rfl rfl tw_667 (Or.inl rfl) dX6_tell_70 ?_
      have hM : FM (am_sI h 14 19 (nI 1)) := hM
      refine am_aload_n hC dX6_tell_73 rfl ?_
      refine am_get (v := .int (nI 1)) hC (ci := 7) (N := 20) (j := 19) rfl (kM_14 hM) (by decide) tw_667 (Or.inl rfl) dX6_tell_74 rfl ?_
      refine am_if_le (tgt := 82) hC dX6_tell_77 (by decide) (fun c_77 => absurd c_77 (by decide)) (fun c_77 => ?_)
      refine am_iconst (v := nI 0) hC dX6_tell_80 (by decide) ?_
      refine am_iret hC hR rfl (by decide) (by decide) dX6_tell_81 ?_
      exact ⟨_, rfl, rfz (k3_1 (b2i_0.mp c_40)) (by decide) rfl⟩
  refine am_iload_n hC dX6_tell_0 rfl ?_
  refine am_callS hC [.int (P)] mf_X6_isPerson tw_721 (c_X6_isPerson _ _ (am_tr hC) h P) rfl ⟨rfl, Nat.le_of_ble_eq_true rfl⟩ ⟨by decide, by decide⟩ (by decide) (by decide) dX6_tell_1 rfl (fun _ _ q _ => False.elim q) (fun v h' hp hlc => ?_)
  obtain ⟨z8, z9⟩ := hp
  have z8 := z8.symm
  subst z8
  subst z9
  refine am_if_eq (tgt := 31) hC dX6_tell_4 (by decide) (fun c_4 => ?_) (fun c_4 => ?_)
  · refine am_iconst (v := nI 0) hC dX6_tell_31 (by decide) ?_
    refine am_istore hC dX6_tell_32 (by decide) ?_
    change am_W _ _ _ _ [.ref (14), .int (D), .int (P), .int (S), .int (W), .int (nI 0), .null] _ _
    have e9 : b2i (IX 6 P && IX 40 S && IW W) = nI 0 := by
      first
        | (rw [b2i_0.mp c_4]; rfl)
        | (rw [b2i_0.mp c_14, Bool.and_false]; rfl)
        | (rw [b2i_0.mp c_24, Bool.and_false]; rfl)
    rw [e9] at m34
    exact m34
  · refine am_iload_n hC dX6_tell_7 rfl ?_
    refine am_iconst (v := nI 0) hC dX6_tell_8 (by decide) ?_
    refine am_bipush (v := nI 39) hC dX6_tell_9 (by decide) ?_
    refine am_callS hC [.int (S), .int (nI 0), .int (nI 39)] mf_X6_isIn tw_724 (c_X6_isIn _ _ (am_tr hC) h S (nI 0) (nI 39)) rfl ⟨rfl, Nat.le_of_ble_eq_true rfl⟩ ⟨by decide, by decide⟩ (by decide) (by decide) dX6_tell_11 rfl (fun _ _ q _ => False.elim q) (fun v h' hp hlc => ?_)
    obtain ⟨rfl, q9⟩ := hp
    have q9 := q9.symm
    subst q9
    rw [show (if nI 0 ≤ S ∧ S ≤ nI 39 then (1 : Int32) else 0) = b2i (IX 40 S) from IX_b (n := 40) (by decide)]
    refine am_if_eq (tgt := 31) hC dX6_tell_14 (by decide) (fun c_14 => ?_) (fun c_14 => ?_)
    · refine am_iconst (v := nI 0) hC dX6_tell_31 (by decide) ?_
      refine am_istore hC dX6_tell_32 (by decide) ?_
      change am_W _ _ _ _ [.ref (14), .int (D), .int (P), .int (S), .int (W), .int (nI 0), .null] _ _
      have e9 : b2i (IX 6 P && IX 40 S && IW W) = nI 0 := by
        first
          | (rw [b2i_0.mp c_4]; rfl)
          | (rw [b2i_0.mp c_14, Bool.and_false]; rfl)
          | (rw [b2i_0.mp c_24, Bool.and_false]; rfl)
      rw [e9] at m34
      exact m34
    · refine am_iload hC dX6_tell_17 rfl ?_
      refine am_iconst (v := -1) hC dX6_tell_19 (by decide) ?_
      refine am_iconst (v := nI 2) hC dX6_tell_20 (by decide) ?_
      refine am_callS hC [.int (W), .int (-1), .int (nI 2)] mf_X6_isIn tw_724 (c_X6_isIn _ _ (am_tr hC) h W (-1) (nI 2)) rfl ⟨rfl, Nat.le_of_ble_eq_true rfl⟩ ⟨by decide, by decide⟩ (by decide) (by decide) dX6_tell_21 rfl (fun _ _ q _ => False.elim q) (fun v h' hp hlc => ?_)
      obtain ⟨rfl, q9⟩ := hp
      have q9 := q9.symm
      subst q9
      rw [show (if -1 ≤ W ∧ W ≤ nI 2 then (1 : Int32) else 0) = b2i (IW W) from isin_b]
      refine am_if_eq (tgt := 31) hC dX6_tell_24 (by decide) (fun c_24 => ?_) (fun c_24 => ?_)
      · refine am_iconst (v := nI 0) hC dX6_tell_31 (by decide) ?_
        refine am_istore hC dX6_tell_32 (by decide) ?_
        change am_W _ _ _ _ [.ref (14), .int (D), .int (P), .int (S), .int (W), .int (nI 0), .null] _ _
        have e9 : b2i (IX 6 P && IX 40 S && IW W) = nI 0 := by
          first
            | (rw [b2i_0.mp c_4]; rfl)
            | (rw [b2i_0.mp c_14, Bool.and_false]; rfl)
            | (rw [b2i_0.mp c_24, Bool.and_false]; rfl)
        rw [e9] at m34
        exact m34
      · refine am_iconst (v := nI 1) hC dX6_tell_27 (by decide) ?_
        refine am_goto (tgt := 32) hC dX6_tell_28 (by decide) ?_
        refine am_istore hC dX6_tell_32 (by decide) ?_
        change am_W _ _ _ _ [.ref (14), .int (D), .int (P), .int (S), .int (W), .int (nI 1), .null] _ _
        have e9 : b2i (IX 6 P && IX 40 S && IW W) = nI 1 := by rw [b2i_ne c_4, b2i_ne c_14, b2i_ne c_24]; rfl
        rw [e9] at m34
        exact m34
