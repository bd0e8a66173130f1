/-! ===== exits over references, who leads to whom ===== -/
theorem b2i_0 {b : Bool} : b2i b = 0 ↔ b = false := by cases b <;> decide
theorem b2i_1 {b : Bool} : b2i b = 1 ↔ b = true := by cases b <;> decide
theorem nar_b2i (b : Bool) : narrow .boolean (.int (b2i b)) = .int (b2i b) := by cases b <;> rfl
theorem any6_skip {g : Nat → Bool} {i m : Nat} (h : g i = false) : any6 g i (m + 1) = any6 g (i + 1) m := by
  show (g i || any6 g (i + 1) m) = _
  rw [h]; rfl
theorem any6_hit {g : Nat → Bool} {i m : Nat} (h : g i = true) : any6 g i (m + 1) = true := by
  show (g i || any6 g (i + 1) m) = _
  rw [h]; rfl
set_option maxRecDepth 100000 in
set_option maxHeartbeats 4000000 in
theorem c_X0_exitIn (G : am_G) (l : Launch) (htr : l.stackTraces = false) (h : am_H) (n : Nat) (hD : DL h n) (hn6 : n ≤ 6) (hB : XB h n) (c : Nat) (hc : c < 25) : ∀ (f q d : Nat), f + q = 6 → d < n → am_Met G l yX0_exitIn (.code yX0_exitIn cX0_exitIn 7 (some .boolean)) (1 + f) 0 0 [.ref (100 + 4 * d), .int (nI c), .int (nI q)] h (fun v h' => v = some (.int (b2i (exF (xC h) (rC h) (f) d c))) ∧ h' = h) am_no := by
  intro f
  induction f generalizing G l with
  | zero =>
    intro q d hfq hd
    refine am_intro rfl htr rfl (Nat.le_of_ble_eq_true rfl) (fun Z hC hR hI => ?_)
    change am_W Z 0 0 0 [.ref (100 + 4 * d), .int (nI c), .int (nI q), .null, .null, .null, .null] [] h
    refine am_aload_n hC dX0_exitIn_0 rfl ?_
    refine am_get (v := .ref (102 + 4 * d)) hC (ci := 1) (N := 5) (j := 1) rfl (dk0 hD hd) (by decide) tw_196 (Or.inl rfl) dX0_exitIn_1 (am_rfe (dr1 hD hd)) ?_
    refine am_iload_n hC dX0_exitIn_4 rfl ?_
    refine am_zaldE (v := b2i (xC h d c)) hC (j := c) (N := 25) (dk2 hD hd) (dn2 hD hd) rfl (by omega) (by decide) dX0_exitIn_5 (hB d hd c hc) ?_
    refine am_if_ne (tgt := 15) hC dX0_exitIn_6 (by decide) (fun c_6 => ?_) (fun c_6 => ?_)
    · refine am_aload_n hC dX0_exitIn_15 rfl ?_
      refine am_get (v := .ref (102 + 4 * d)) hC (ci := 1) (N := 5) (j := 1) rfl (dk0 hD hd) (by decide) tw_196 (Or.inl rfl) dX0_exitIn_16 (am_rfe (dr1 hD hd)) ?_
      refine am_iload_n hC dX0_exitIn_19 rfl ?_
      refine am_zaldE (v := b2i (xC h d c)) hC (j := c) (N := 25) (dk2 hD hd) (dn2 hD hd) rfl (by omega) (by decide) dX0_exitIn_20 (hB d hd c hc) ?_
      refine am_iret hC hR (nar_b2i _) (by decide) (by decide) dX0_exitIn_21 ?_
      exact ⟨rfl, rfl⟩
    · refine am_iload_n hC dX0_exitIn_9 rfl ?_
      refine am_bipush (v := nI 6) hC dX0_exitIn_10 (by decide) ?_
      refine am_icmp_lt (tgt := 22) hC dX0_exitIn_12 (by decide) (fun c_12 => absurd c_12 (nI_nlt (by omega) (by omega))) (fun c_12 => ?_)
      refine am_aload_n hC dX0_exitIn_15 rfl ?_
      refine am_get (v := .ref (102 + 4 * d)) hC (ci := 1) (N := 5) (j := 1) rfl (dk0 hD hd) (by decide) tw_196 (Or.inl rfl) dX0_exitIn_16 (am_rfe (dr1 hD hd)) ?_
      refine am_iload_n hC dX0_exitIn_19 rfl ?_
      refine am_zaldE (v := b2i (xC h d c)) hC (j := c) (N := 25) (dk2 hD hd) (dn2 hD hd) rfl (by omega) (by decide) dX0_exitIn_20 (hB d hd c hc) ?_
      refine am_iret hC hR (nar_b2i _) (by decide) (by decide) dX0_exitIn_21 ?_
      exact ⟨rfl, rfl⟩
  | succ f ih =>
    intro q d hfq hd
    refine am_intro rfl htr rfl (Nat.le_of_ble_eq_true rfl) (fun Z hC hR hI => ?_)
    change am_W Z 0 0 0 [.ref (100 + 4 * d), .int (nI c), .int (nI q), .null, .null, .null, .null] [] h
    have ih' : ∀ i, i < n → am_Met Z.1 Z.2.2.1 yX0_exitIn (.code yX0_exitIn cX0_exitIn 7 (some .boolean)) (1 + f) 0 0 [.ref (100 + 4 * i), .int (nI c), .int (nI (q + 1))] h (fun v h' => v = some (.int (b2i (exF (xC h) (rC h) (f) i c))) ∧ h' = h) am_no := fun i hi => ih _ _ (am_tr hC) (q + 1) i (by omega) hi
    have loop : ∀ (m i : Nat), i + m = 6 → exF (xC h) (rC h) (f + 1) d c = any6 (fun k => rC h d k && exF (xC h) (rC h) f k c) i m → am_W Z 0 0 34 [.ref (100 + 4 * d), .int (nI c), .int (nI q), .ref (103 + 4 * d), .int (nI 6), .int (nI i), .null] [] h := by
      intro m
      induction m with
      | zero =>
        intro i him hq
        obtain rfl : i = 6 := by omega
        refine am_iload hC dX0_exitIn_34 rfl ?_
        refine am_iload hC dX0_exitIn_36 rfl ?_
        refine am_icmp_ge (tgt := 72) hC dX0_exitIn_38 (by decide) (fun c_38 => ?_) (fun c_38 => absurd (nI_le (by omega) (by omega)) c_38)
        refine am_iconst (v := nI 0) hC dX0_exitIn_72 (by decide) ?_
        refine am_iret hC hR rfl (by decide) (by decide) dX0_exitIn_73 ?_
        exact ⟨by rw [hq]; rfl, rfl⟩
      | succ m ihm =>
        intro i him hq
        refine am_iload hC dX0_exitIn_34 rfl ?_
        refine am_iload hC dX0_exitIn_36 rfl ?_
        refine am_icmp_ge (tgt := 72) hC dX0_exitIn_38 (by decide) (fun c_38 => absurd c_38 (nI_ge (by omega) (by omega))) (fun c_38 => ?_)
        refine am_aload_n hC dX0_exitIn_41 rfl ?_
        refine am_iload hC dX0_exitIn_42 rfl ?_
        refine am_aaldE (v := .ref (hr_ h (103 + 4 * d) i)) hC (j := i) (N := 6) (by decide) (dk3 hD hd) (dn3 hD hd) rfl (by omega) (by decide) dX0_exitIn_44 rfl ?_
        refine am_astore hC dX0_exitIn_45 (by decide) ?_
        change am_W _ _ _ _ [.ref (100 + 4 * d), .int (nI c), .int (nI q), .ref (103 + 4 * d), .int (nI 6), .int (nI i), .ref (hr_ h (103 + 4 * d) i)] _ _
        refine am_aload hC dX0_exitIn_47 rfl ?_
        refine am_ifnull (tgt := 66) hC dX0_exitIn_49 (by decide) (fun c_49 => ?_) (fun c_49 => ?_)
        · have hq1 := hq.trans (any6_skip (show (rC h d i && exF (xC h) (rC h) f i c) = false by rw [show rC h d i = false from decide_eq_false (fun z => z c_49)]; rfl))
          refine am_iinc (v := nI (i + 1)) hC dX0_exitIn_66 rfl (nI_1 (i)) (by decide) ?_
          change am_W _ _ _ _ [.ref (100 + 4 * d), .int (nI c), .int (nI q), .ref (103 + 4 * d), .int (nI 6), .int (nI (i + 1)), .ref (hr_ h (103 + 4 * d) i)] _ _
          refine am_goto (tgt := 34) hC dX0_exitIn_69 (by decide) ?_
          exact am_fgt (ls' := [.ref (100 + 4 * d), .int (nI c), .int (nI q), .ref (103 + 4 * d), .int (nI 6), .int (nI (i + 1)), .null]) ⟨Or.inl rfl, ⟨Or.inl rfl, ⟨Or.inl rfl, ⟨Or.inl rfl, ⟨Or.inl rfl, ⟨Or.inl rfl, ⟨Or.inr rfl, trivial⟩⟩⟩⟩⟩⟩⟩ (ihm (i + 1) (by omega) hq1)
        · obtain ⟨hin, e2⟩ := (dro hD hd (by omega : i < 6)).resolve_left c_49
          rw [e2]
          refine am_aload hC dX0_exitIn_52 rfl ?_
          refine am_iload_n hC dX0_exitIn_54 rfl ?_
          refine am_iload_n hC dX0_exitIn_55 rfl ?_
          refine am_iconst (v := nI 1) hC dX0_exitIn_56 (by decide) ?_
          refine am_iaddE (z := nI (q + 1)) hC dX0_exitIn_57 (nI_add (q) (1)) ?_
          refine am_callS hC [.ref (100 + 4 * i), .int (nI c), .int (nI (q + 1))] mf_X0_exitIn tw_378 (ih' i hin) rfl ⟨rfl, Nat.le_of_ble_eq_true rfl⟩ ⟨by omega, by decide⟩ (by decide) (by decide) dX0_exitIn_58 rfl (fun _ _ q _ => False.elim q) (fun v h' hp hlc => ?_)
          obtain ⟨rfl, rfl⟩ := hp
          refine am_if_eq (tgt := 66) hC dX0_exitIn_61 (by decide) (fun c_61 => ?_) (fun c_61 => ?_)
          · have hq1 := hq.trans (any6_skip (show (rC h' d i && exF (xC h') (rC h') f i c) = false by rw [b2i_0.mp c_61, Bool.and_false]))
            refine am_iinc (v := nI (i + 1)) hC dX0_exitIn_66 rfl (nI_1 (i)) (by decide) ?_
            change am_W _ _ _ _ [.ref (100 + 4 * d), .int (nI c), .int (nI q), .ref (103 + 4 * d), .int (nI 6), .int (nI (i + 1)), .ref (100 + 4 * i)] _ _
            refine am_goto (tgt := 34) hC dX0_exitIn_69 (by decide) ?_
            exact am_fgt (ls' := [.ref (100 + 4 * d), .int (nI c), .int (nI q), .ref (103 + 4 * d), .int (nI 6), .int (nI (i + 1)), .null]) ⟨Or.inl rfl, ⟨Or.inl rfl, ⟨Or.inl rfl, ⟨Or.inl rfl, ⟨Or.inl rfl, ⟨Or.inl rfl, ⟨Or.inr rfl, trivial⟩⟩⟩⟩⟩⟩⟩ (ihm (i + 1) (by omega) hq1)
          · have hq1 := hq.trans (any6_hit (show (rC h' d i && exF (xC h') (rC h') f i c) = true by rw [show rC h' d i = true from decide_eq_true c_49, Bool.true_and]; exact Bool.not_eq_false _ ▸ (fun z => c_61 (b2i_0.mpr z))))
            refine am_iconst (v := nI 1) hC dX0_exitIn_64 (by decide) ?_
            refine am_iret hC hR rfl (by decide) (by decide) dX0_exitIn_65 ?_
            exact ⟨by rw [hq1]; rfl, rfl⟩
    refine am_aload_n hC dX0_exitIn_0 rfl ?_
    refine am_get (v := .ref (102 + 4 * d)) hC (ci := 1) (N := 5) (j := 1) rfl (dk0 hD hd) (by decide) tw_196 (Or.inl rfl) dX0_exitIn_1 (am_rfe (dr1 hD hd)) ?_
    refine am_iload_n hC dX0_exitIn_4 rfl ?_
    refine am_zaldE (v := b2i (xC h d c)) hC (j := c) (N := 25) (dk2 hD hd) (dn2 hD hd) rfl (by omega) (by decide) dX0_exitIn_5 (hB d hd c hc) ?_
    refine am_if_ne (tgt := 15) hC dX0_exitIn_6 (by decide) (fun c_6 => ?_) (fun c_6 => ?_)
    · refine am_aload_n hC dX0_exitIn_15 rfl ?_
      refine am_get (v := .ref (102 + 4 * d)) hC (ci := 1) (N := 5) (j := 1) rfl (dk0 hD hd) (by decide) tw_196 (Or.inl rfl) dX0_exitIn_16 (am_rfe (dr1 hD hd)) ?_
      refine am_iload_n hC dX0_exitIn_19 rfl ?_
      refine am_zaldE (v := b2i (xC h d c)) hC (j := c) (N := 25) (dk2 hD hd) (dn2 hD hd) rfl (by omega) (by decide) dX0_exitIn_20 (hB d hd c hc) ?_
      refine am_iret hC hR (nar_b2i _) (by decide) (by decide) dX0_exitIn_21 ?_
      refine ⟨?_, rfl⟩
      have hx : xC h d c = true := Bool.not_eq_false _ ▸ (fun z => c_6 (b2i_0.mpr z))
      show _ = some (Value.int (b2i (xC h d c || _)))
      rw [hx]
      rfl
    · refine am_iload_n hC dX0_exitIn_9 rfl ?_
      refine am_bipush (v := nI 6) hC dX0_exitIn_10 (by decide) ?_
      refine am_icmp_lt (tgt := 22) hC dX0_exitIn_12 (by decide) (fun c_12 => ?_) (fun c_12 => absurd (nI_lt (by omega) (by omega)) c_12)
      refine am_aload_n hC dX0_exitIn_22 rfl ?_
      refine am_get (v := .ref (103 + 4 * d)) hC (ci := 1) (N := 5) (j := 2) rfl (dk0 hD hd) (by decide) tw_198 (Or.inl rfl) dX0_exitIn_23 (am_rfe (dr2 hD hd)) ?_
      refine am_astore_n hC dX0_exitIn_26 (by decide) ?_
      change am_W _ _ _ _ [.ref (100 + 4 * d), .int (nI c), .int (nI q), .ref (103 + 4 * d), .null, .null, .null] _ _
      refine am_aload_n hC dX0_exitIn_27 rfl ?_
      refine am_alen hC (by decide) (dk3 hD hd) (dn3 hD hd) dX0_exitIn_28 ?_
      refine am_istore hC dX0_exitIn_29 (by decide) ?_
      change am_W _ _ _ _ [.ref (100 + 4 * d), .int (nI c), .int (nI q), .ref (103 + 4 * d), .int (nI 6), .null, .null] _ _
      refine am_iconst (v := nI 0) hC dX0_exitIn_31 (by decide) ?_
      refine am_istore hC dX0_exitIn_32 (by decide) ?_
      change am_W _ _ _ _ [.ref (100 + 4 * d), .int (nI c), .int (nI q), .ref (103 + 4 * d), .int (nI 6), .int (nI 0), .null] _ _
      have hq0 : exF (xC h) (rC h) (f + 1) d c = any6 (fun k => rC h d k && exF (xC h) (rC h) f k c) 0 6 := by
        show (xC h d c || _) = _
        rw [b2i_0.mp c_6]
        rfl
      exact am_fgt (ls' := [.ref (100 + 4 * d), .int (nI c), .int (nI q), .ref (103 + 4 * d), .int (nI 6), .int (nI 0), .null]) ⟨Or.inl rfl, ⟨Or.inl rfl, ⟨Or.inl rfl, ⟨Or.inl rfl, ⟨Or.inl rfl, ⟨Or.inl rfl, ⟨Or.inr rfl, trivial⟩⟩⟩⟩⟩⟩⟩ (loop 6 0 rfl hq0)
set_option maxRecDepth 100000 in
set_option maxHeartbeats 4000000 in
theorem c_X0_leads (G : am_G) (l : Launch) (htr : l.stackTraces = false) (h : am_H) (n : Nat) (hD : DL h n) (hn6 : n ≤ 6) (e : Nat) (he : e < n) : ∀ (f q d : Nat), f + q = 6 → d < n → am_Met G l yX0_leads (.code yX0_leads cX0_leads 7 (some .boolean)) (1 + f) 0 0 [.ref (100 + 4 * d), .ref (100 + 4 * e), .int (nI q)] h (fun v h' => v = some (.int (b2i (ldF (rC h) (f) d e))) ∧ h' = h) am_no := by
  intro f
  induction f generalizing G l with
  | zero =>
    intro q d hfq hd
    refine am_intro rfl htr rfl (Nat.le_of_ble_eq_true rfl) (fun Z hC hR hI => ?_)
    change am_W Z 0 0 0 [.ref (100 + 4 * d), .ref (100 + 4 * e), .int (nI q), .null, .null, .null, .null] [] h
    refine am_aload_n hC dX0_leads_0 rfl ?_
    refine am_aload_n hC dX0_leads_1 rfl ?_
    refine am_acmp_eq (tgt := 11) hC (Or.inr ⟨by omega, by omega⟩) dX0_leads_2 (by decide) (fun c_2 => ?_) (fun c_2 => ?_)
    · refine am_aload_n hC dX0_leads_11 rfl ?_
      refine am_aload_n hC dX0_leads_12 rfl ?_
      refine am_acmp_ne (tgt := 20) hC (Or.inr ⟨by omega, by omega⟩) dX0_leads_13 (by decide) (fun c_13 => ?_) (fun c_13 => ?_)
      · refine am_iconst (v := nI 0) hC dX0_leads_20 (by decide) ?_
        refine am_iret hC hR rfl (by decide) (by decide) dX0_leads_21 ?_
        refine ⟨?_, rfl⟩
        show _ = some (Value.int (b2i (decide (d = e))))
        first | (rw [decide_eq_true (by omega : d = e)]; rfl) | (rw [decide_eq_false (by omega : ¬ d = e)]; rfl) | (exfalso; omega)
      · refine am_iconst (v := nI 1) hC dX0_leads_16 (by decide) ?_
        refine am_goto (tgt := 21) hC dX0_leads_17 (by decide) ?_
        refine am_iret hC hR rfl (by decide) (by decide) dX0_leads_21 ?_
        refine ⟨?_, rfl⟩
        show _ = some (Value.int (b2i (decide (d = e))))
        first | (rw [decide_eq_true (by omega : d = e)]; rfl) | (rw [decide_eq_false (by omega : ¬ d = e)]; rfl) | (exfalso; omega)
    · refine am_iload_n hC dX0_leads_5 rfl ?_
      refine am_bipush (v := nI 6) hC dX0_leads_6 (by decide) ?_
      refine am_icmp_lt (tgt := 22) hC dX0_leads_8 (by decide) (fun c_8 => absurd c_8 (nI_nlt (by omega) (by omega))) (fun c_8 => ?_)
      refine am_aload_n hC dX0_leads_11 rfl ?_
      refine am_aload_n hC dX0_leads_12 rfl ?_
      refine am_acmp_ne (tgt := 20) hC (Or.inr ⟨by omega, by omega⟩) dX0_leads_13 (by decide) (fun c_13 => ?_) (fun c_13 => ?_)
      · refine am_iconst (v := nI 0) hC dX0_leads_20 (by decide) ?_
        refine am_iret hC hR rfl (by decide) (by decide) dX0_leads_21 ?_
        refine ⟨?_, rfl⟩
        show _ = some (Value.int (b2i (decide (d = e))))
        first | (rw [decide_eq_true (by omega : d = e)]; rfl) | (rw [decide_eq_false (by omega : ¬ d = e)]; rfl) | (exfalso; omega)
      · refine am_iconst (v := nI 1) hC dX0_leads_16 (by decide) ?_
        refine am_goto (tgt := 21) hC dX0_leads_17 (by decide) ?_
        refine am_iret hC hR rfl (by decide) (by decide) dX0_leads_21 ?_
        refine ⟨?_, rfl⟩
        show _ = some (Value.int (b2i (decide (d = e))))
        first | (rw [decide_eq_true (by omega : d = e)]; rfl) | (rw [decide_eq_false (by omega : ¬ d = e)]; rfl) | (exfalso; omega)
  | succ f ih =>
    intro q d hfq hd
    refine am_intro rfl htr rfl (Nat.le_of_ble_eq_true rfl) (fun Z hC hR hI => ?_)
    change am_W Z 0 0 0 [.ref (100 + 4 * d), .ref (100 + 4 * e), .int (nI q), .null, .null, .null, .null] [] h
    have ih' : ∀ i, i < n → am_Met Z.1 Z.2.2.1 yX0_leads (.code yX0_leads cX0_leads 7 (some .boolean)) (1 + f) 0 0 [.ref (100 + 4 * i), .ref (100 + 4 * e), .int (nI (q + 1))] h (fun v h' => v = some (.int (b2i (ldF (rC h) (f) i e))) ∧ h' = h) am_no := fun i hi => ih _ _ (am_tr hC) (q + 1) i (by omega) hi
    have loop : ∀ (m i : Nat), i + m = 6 → ldF (rC h) (f + 1) d e = any6 (fun k => rC h d k && ldF (rC h) f k e) i m → am_W Z 0 0 34 [.ref (100 + 4 * d), .ref (100 + 4 * e), .int (nI q), .ref (103 + 4 * d), .int (nI 6), .int (nI i), .null] [] h := by
      intro m
      induction m with
      | zero =>
        intro i him hq
        obtain rfl : i = 6 := by omega
        refine am_iload hC dX0_leads_34 rfl ?_
        refine am_iload hC dX0_leads_36 rfl ?_
        refine am_icmp_ge (tgt := 72) hC dX0_leads_38 (by decide) (fun c_38 => ?_) (fun c_38 => absurd (nI_le (by omega) (by omega)) c_38)
        refine am_iconst (v := nI 0) hC dX0_leads_72 (by decide) ?_
        refine am_iret hC hR rfl (by decide) (by decide) dX0_leads_73 ?_
        exact ⟨by rw [hq]; rfl, rfl⟩
      | succ m ihm =>
        intro i him hq
        refine am_iload hC dX0_leads_34 rfl ?_
        refine am_iload hC dX0_leads_36 rfl ?_
        refine am_icmp_ge (tgt := 72) hC dX0_leads_38 (by decide) (fun c_38 => absurd c_38 (nI_ge (by omega) (by omega))) (fun c_38 => ?_)
        refine am_aload_n hC dX0_leads_41 rfl ?_
        refine am_iload hC dX0_leads_42 rfl ?_
        refine am_aaldE (v := .ref (hr_ h (103 + 4 * d) i)) hC (j := i) (N := 6) (by decide) (dk3 hD hd) (dn3 hD hd) rfl (by omega) (by decide) dX0_leads_44 rfl ?_
        refine am_astore hC dX0_leads_45 (by decide) ?_
        change am_W _ _ _ _ [.ref (100 + 4 * d), .ref (100 + 4 * e), .int (nI q), .ref (103 + 4 * d), .int (nI 6), .int (nI i), .ref (hr_ h (103 + 4 * d) i)] _ _
        refine am_aload hC dX0_leads_47 rfl ?_
        refine am_ifnull (tgt := 66) hC dX0_leads_49 (by decide) (fun c_49 => ?_) (fun c_49 => ?_)
        · have hq1 := hq.trans (any6_skip (show (rC h d i && ldF (rC h) f i e) = false by rw [show rC h d i = false from decide_eq_false (fun z => z c_49)]; rfl))
          refine am_iinc (v := nI (i + 1)) hC dX0_leads_66 rfl (nI_1 (i)) (by decide) ?_
          change am_W _ _ _ _ [.ref (100 + 4 * d), .ref (100 + 4 * e), .int (nI q), .ref (103 + 4 * d), .int (nI 6), .int (nI (i + 1)), .ref (hr_ h (103 + 4 * d) i)] _ _
          refine am_goto (tgt := 34) hC dX0_leads_69 (by decide) ?_
          exact am_fgt (ls' := [.ref (100 + 4 * d), .ref (100 + 4 * e), .int (nI q), .ref (103 + 4 * d), .int (nI 6), .int (nI (i + 1)), .null]) ⟨Or.inl rfl, ⟨Or.inl rfl, ⟨Or.inl rfl, ⟨Or.inl rfl, ⟨Or.inl rfl, ⟨Or.inl rfl, ⟨Or.inr rfl, trivial⟩⟩⟩⟩⟩⟩⟩ (ihm (i + 1) (by omega) hq1)
        · obtain ⟨hin, e2⟩ := (dro hD hd (by omega : i < 6)).resolve_left c_49
          rw [e2]
          refine am_aload hC dX0_leads_52 rfl ?_
          refine am_aload_n hC dX0_leads_54 rfl ?_
          refine am_iload_n hC dX0_leads_55 rfl ?_
          refine am_iconst (v := nI 1) hC dX0_leads_56 (by decide) ?_
          refine am_iaddE (z := nI (q + 1)) hC dX0_leads_57 (nI_add (q) (1)) ?_
          refine am_callS hC [.ref (100 + 4 * i), .ref (100 + 4 * e), .int (nI (q + 1))] mf_X0_leads tw_458 (ih' i hin) rfl ⟨rfl, Nat.le_of_ble_eq_true rfl⟩ ⟨by omega, by decide⟩ (by decide) (by decide) dX0_leads_58 rfl (fun _ _ q _ => False.elim q) (fun v h' hp hlc => ?_)
          obtain ⟨rfl, rfl⟩ := hp
          refine am_if_eq (tgt := 66) hC dX0_leads_61 (by decide) (fun c_61 => ?_) (fun c_61 => ?_)
          · have hq1 := hq.trans (any6_skip (show (rC h' d i && ldF (rC h') f i e) = false by rw [b2i_0.mp c_61, Bool.and_false]))
            refine am_iinc (v := nI (i + 1)) hC dX0_leads_66 rfl (nI_1 (i)) (by decide) ?_
            change am_W _ _ _ _ [.ref (100 + 4 * d), .ref (100 + 4 * e), .int (nI q), .ref (103 + 4 * d), .int (nI 6), .int (nI (i + 1)), .ref (100 + 4 * i)] _ _
            refine am_goto (tgt := 34) hC dX0_leads_69 (by decide) ?_
            exact am_fgt (ls' := [.ref (100 + 4 * d), .ref (100 + 4 * e), .int (nI q), .ref (103 + 4 * d), .int (nI 6), .int (nI (i + 1)), .null]) ⟨Or.inl rfl, ⟨Or.inl rfl, ⟨Or.inl rfl, ⟨Or.inl rfl, ⟨Or.inl rfl, ⟨Or.inl rfl, ⟨Or.inr rfl, trivial⟩⟩⟩⟩⟩⟩⟩ (ihm (i + 1) (by omega) hq1)
          · have hq1 := hq.trans (any6_hit (show (rC h' d i && ldF (rC h') f i e) = true by rw [show rC h' d i = true from decide_eq_true c_49, Bool.true_and]; exact Bool.not_eq_false _ ▸ (fun z => c_61 (b2i_0.mpr z))))
            refine am_iconst (v := nI 1) hC dX0_leads_64 (by decide) ?_
            refine am_iret hC hR rfl (by decide) (by decide) dX0_leads_65 ?_
            exact ⟨by rw [hq1]; rfl, rfl⟩
    refine am_aload_n hC dX0_leads_0 rfl ?_
    refine am_aload_n hC dX0_leads_1 rfl ?_
    refine am_acmp_eq (tgt := 11) hC (Or.inr ⟨by omega, by omega⟩) dX0_leads_2 (by decide) (fun c_2 => ?_) (fun c_2 => ?_)
    · refine am_aload_n hC dX0_leads_11 rfl ?_
      refine am_aload_n hC dX0_leads_12 rfl ?_
      refine am_acmp_ne (tgt := 20) hC (Or.inr ⟨by omega, by omega⟩) dX0_leads_13 (by decide) (fun c_13 => ?_) (fun c_13 => ?_)
      · refine am_iconst (v := nI 0) hC dX0_leads_20 (by decide) ?_
        refine am_iret hC hR rfl (by decide) (by decide) dX0_leads_21 ?_
        refine ⟨?_, rfl⟩
        show _ = some (Value.int (b2i (decide (d = e) || _)))
        first | (rw [decide_eq_true (by omega : d = e)]; rfl) | (exfalso; omega)
      · refine am_iconst (v := nI 1) hC dX0_leads_16 (by decide) ?_
        refine am_goto (tgt := 21) hC dX0_leads_17 (by decide) ?_
        refine am_iret hC hR rfl (by decide) (by decide) dX0_leads_21 ?_
        refine ⟨?_, rfl⟩
        show _ = some (Value.int (b2i (decide (d = e) || _)))
        first | (rw [decide_eq_true (by omega : d = e)]; rfl) | (exfalso; omega)
    · refine am_iload_n hC dX0_leads_5 rfl ?_
      refine am_bipush (v := nI 6) hC dX0_leads_6 (by decide) ?_
      refine am_icmp_lt (tgt := 22) hC dX0_leads_8 (by decide) (fun c_8 => ?_) (fun c_8 => absurd (nI_lt (by omega) (by omega)) c_8)
      refine am_aload_n hC dX0_leads_22 rfl ?_
      refine am_get (v := .ref (103 + 4 * d)) hC (ci := 1) (N := 5) (j := 2) rfl (dk0 hD hd) (by decide) tw_198 (Or.inl rfl) dX0_leads_23 (am_rfe (dr2 hD hd)) ?_
      refine am_astore_n hC dX0_leads_26 (by decide) ?_
      change am_W _ _ _ _ [.ref (100 + 4 * d), .ref (100 + 4 * e), .int (nI q), .ref (103 + 4 * d), .null, .null, .null] _ _
      refine am_aload_n hC dX0_leads_27 rfl ?_
      refine am_alen hC (by decide) (dk3 hD hd) (dn3 hD hd) dX0_leads_28 ?_
      refine am_istore hC dX0_leads_29 (by decide) ?_
      change am_W _ _ _ _ [.ref (100 + 4 * d), .ref (100 + 4 * e), .int (nI q), .ref (103 + 4 * d), .int (nI 6), .null, .null] _ _
      refine am_iconst (v := nI 0) hC dX0_leads_31 (by decide) ?_
      refine am_istore hC dX0_leads_32 (by decide) ?_
      change am_W _ _ _ _ [.ref (100 + 4 * d), .ref (100 + 4 * e), .int (nI q), .ref (103 + 4 * d), .int (nI 6), .int (nI 0), .null] _ _
      have hq0 : ldF (rC h) (f + 1) d e = any6 (fun k => rC h d k && ldF (rC h) f k e) 0 6 := by
        show (decide (d = e) || _) = _
        rw [decide_eq_false (by omega : ¬ d = e)]
        rfl
      exact am_fgt (ls' := [.ref (100 + 4 * d), .ref (100 + 4 * e), .int (nI q), .ref (103 + 4 * d), .int (nI 6), .int (nI 0), .null]) ⟨Or.inl rfl, ⟨Or.inl rfl, ⟨Or.inl rfl, ⟨Or.inl rfl, ⟨Or.inl rfl, ⟨Or.inl rfl, ⟨Or.inr rfl, trivial⟩⟩⟩⟩⟩⟩⟩ (loop 6 0 rfl hq0)
set_option maxRecDepth 100000 in
set_option maxHeartbeats 4000000 in
theorem c_X0_sideNow (G : am_G) (l : Launch) (htr : l.stackTraces = false) (h : am_H) (n : Nat) (hD : DL h n) (hn6 : n ≤ 6) (d : Nat) (hd : d < n) (s : Nat) (hs : s < 40) : am_Met G l yX0_sideNow (.code yX0_sideNow cX0_sideNow 2 (some .int)) 8 0 0 [.ref (100 + 4 * d), .int (nI s)] h (fun v h' => v = some (.int (sdF (tC h) (rC h) 6 d s)) ∧ h' = h) (am_no) := by
  refine am_intro rfl htr rfl (Nat.le_of_ble_eq_true rfl) (fun Z hC hR hI => ?_)
  change am_W Z 0 0 0 [.ref (100 + 4 * d), .int (nI s)] [] h
  refine am_aload_n hC dX0_sideNow_0 rfl ?_
  refine am_iload_n hC dX0_sideNow_1 rfl ?_
  refine am_iconst (v := nI 0) hC dX0_sideNow_2 (by decide) ?_
  refine am_callS hC [.ref (100 + 4 * d), .int (nI s), .int (nI 0)] mf_X0_sideIn tw_358 (c_X0_sideIn _ _ (am_tr hC) h n hD hn6 s hs 6 0 d rfl hd) rfl ⟨rfl, Nat.le_of_ble_eq_true rfl⟩ ⟨by decide, by decide⟩ (by decide) (by decide) dX0_sideNow_3 rfl (fun _ _ q _ => False.elim q) (fun v h' hp hlc => ?_)
  obtain ⟨rfl, rfl⟩ := hp
  refine am_iret hC hR rfl (by decide) (by decide) dX0_sideNow_6 ?_
  exact ⟨rfl, rfl⟩
set_option maxRecDepth 100000 in
set_option maxHeartbeats 4000000 in
theorem c_X0_exitNow (G : am_G) (l : Launch) (htr : l.stackTraces = false) (h : am_H) (n : Nat) (hD : DL h n) (hn6 : n ≤ 6) (d : Nat) (hd : d < n) (hB : XB h n) (c : Nat) (hc : c < 25) : am_Met G l yX0_exitNow (.code yX0_exitNow cX0_exitNow 2 (some .boolean)) 8 0 0 [.ref (100 + 4 * d), .int (nI c)] h (fun v h' => v = some (.int (b2i (exF (xC h) (rC h) 6 d c))) ∧ h' = h) (am_no) := by
  refine am_intro rfl htr rfl (Nat.le_of_ble_eq_true rfl) (fun Z hC hR hI => ?_)
  change am_W Z 0 0 0 [.ref (100 + 4 * d), .int (nI c)] [] h
  refine am_aload_n hC dX0_exitNow_0 rfl ?_
  refine am_iload_n hC dX0_exitNow_1 rfl ?_
  refine am_iconst (v := nI 0) hC dX0_exitNow_2 (by decide) ?_
  refine am_callS hC [.ref (100 + 4 * d), .int (nI c), .int (nI 0)] mf_X0_exitIn tw_378 (c_X0_exitIn _ _ (am_tr hC) h n hD hn6 hB c hc 6 0 d rfl hd) rfl ⟨rfl, Nat.le_of_ble_eq_true rfl⟩ ⟨by decide, by decide⟩ (by decide) (by decide) dX0_exitNow_3 rfl (fun _ _ q _ => False.elim q) (fun v h' hp hlc => ?_)
  obtain ⟨rfl, rfl⟩ := hp
  refine am_iret hC hR (nar_b2i _) (by decide) (by decide) dX0_exitNow_6 ?_
  exact ⟨rfl, rfl⟩
set_option maxRecDepth 100000 in
set_option maxHeartbeats 4000000 in
theorem c_X0_leadsTo (G : am_G) (l : Launch) (htr : l.stackTraces = false) (h : am_H) (n : Nat) (hD : DL h n) (hn6 : n ≤ 6) (d : Nat) (hd : d < n) (e : Nat) (he : e < n) : am_Met G l yX0_leadsTo (.code yX0_leadsTo cX0_leadsTo 2 (some .boolean)) 8 0 0 [.ref (100 + 4 * d), .ref (100 + 4 * e)] h (fun v h' => v = some (.int (b2i (ldF (rC h) 6 d e))) ∧ h' = h) (am_no) := by
  refine am_intro rfl htr rfl (Nat.le_of_ble_eq_true rfl) (fun Z hC hR hI => ?_)
  change am_W Z 0 0 0 [.ref (100 + 4 * d), .ref (100 + 4 * e)] [] h
  refine am_aload_n hC dX0_leadsTo_0 rfl ?_
  refine am_aload_n hC dX0_leadsTo_1 rfl ?_
  refine am_iconst (v := nI 0) hC dX0_leadsTo_2 (by decide) ?_
  refine am_callS hC [.ref (100 + 4 * d), .ref (100 + 4 * e), .int (nI 0)] mf_X0_leads tw_458 (c_X0_leads _ _ (am_tr hC) h n hD hn6 e he 6 0 d rfl hd) rfl ⟨rfl, Nat.le_of_ble_eq_true rfl⟩ ⟨by decide, by decide⟩ (by decide) (by decide) dX0_leadsTo_3 rfl (fun _ _ q _ => False.elim q) (fun v h' hp hlc => ?_)
  obtain ⟨rfl, rfl⟩ := hp
  refine am_iret hC hR (nar_b2i _) (by decide) (by decide) dX0_leadsTo_6 ?_
  exact ⟨rfl, rfl⟩
