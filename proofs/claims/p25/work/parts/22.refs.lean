/-! ===== what a drawing is over its references: the class's recursion ===== -/
/-- the first of g i, g (i + 1), .., m of them, that isn't -1 -/
def fst6 (g : Nat → Int32) : Nat → Nat → Int32
  | _, 0 => -1
  | i, m + 1 => if g i = -1 then fst6 g (i + 1) m else g i
theorem fst6_skip {g : Nat → Int32} {i m : Nat} (h : g i = -1) : fst6 g i (m + 1) = fst6 g (i + 1) m := if_pos h
theorem fst6_hit {g : Nat → Int32} {i m : Nat} (h : ¬ g i = -1) : fst6 g i (m + 1) = g i := if_neg h
/-- what side s is in drawing d, over at most f references: t: what is told; r: who refers to whom -/
def sdF (t : Nat → Nat → Int32) (r : Nat → Nat → Bool) : Nat → Nat → Nat → Int32
  | 0, d, s => t d s
  | f + 1, d, s => if t d s = -1 then fst6 (fun k => if r d k = true then sdF t r f k s else -1) 0 6 else t d s
def any6 (g : Nat → Bool) : Nat → Nat → Bool
  | _, 0 => false
  | i, m + 1 => g i || any6 g (i + 1) m
/-- whether cell c has an exit in drawing d, over at most f references -/
def exF (x : Nat → Nat → Bool) (r : Nat → Nat → Bool) : Nat → Nat → Nat → Bool
  | 0, d, c => x d c
  | f + 1, d, c => x d c || any6 (fun k => r d k && exF x r f k c) 0 6
/-- whether drawing d leads to e, over at most f references -/
def ldF (r : Nat → Nat → Bool) : Nat → Nat → Nat → Bool
  | 0, d, e => decide (d = e)
  | f + 1, d, e => decide (d = e) || any6 (fun k => r d k && ldF r f k e) 0 6
/-- what the class's drawings hold -/
def tC (h : am_H) (d s : Nat) : Int32 := hi_ h (101 + 4 * d) s
def xC (h : am_H) (d c : Nat) : Bool := decide (hi_ h (102 + 4 * d) c ≠ 0)
def rC (h : am_H) (d k : Nat) : Bool := decide (hr_ h (103 + 4 * d) k ≠ 0)
def b2i (b : Bool) : Int32 := if b = true then 1 else 0
/-- exits are 0 or 1 -/
def XB (h : am_H) (n : Nat) : Prop := ∀ d, d < n → ∀ c, c < 25 → hi_ h (102 + 4 * d) c = b2i (xC h d c)
set_option maxRecDepth 100000 in
set_option maxHeartbeats 4000000 in
theorem c_X0_sideIn (G : am_G) (l : Launch) (htr : l.stackTraces = false) (h : am_H) (n : Nat) (hD : DL h n) (hn6 : n ≤ 6) (s : Nat) (hs : s < 40) : ∀ (f q d : Nat), f + q = 6 → d < n → am_Met G l yX0_sideIn (.code yX0_sideIn cX0_sideIn 8 (some .int)) (1 + f) 0 0 [.ref (100 + 4 * d), .int (nI s), .int (nI q)] h (fun v h' => v = some (.int (sdF (tC h) (rC h) f d s)) ∧ h' = h) am_no := by
  intro f
  induction f generalizing G l with
  | zero =>
    intro q d hfq hd
    refine am_intro rfl htr rfl (Nat.le_of_ble_eq_true rfl) (fun Z hC hR hI => ?_)
    change am_W Z 0 0 0 [.ref (100 + 4 * d), .int (nI s), .int (nI q), .null, .null, .null, .null, .null] [] h
    refine am_aload_n hC dX0_sideIn_0 rfl ?_
    refine am_get (v := .ref (101 + 4 * d)) hC (ci := 1) (N := 5) (j := 0) rfl (dk0 hD hd) (by decide) tw_194 (Or.inl rfl) dX0_sideIn_1 (am_rfe (dr0 hD hd)) ?_
    refine am_iload_n hC dX0_sideIn_4 rfl ?_
    refine am_ialdE (v := tC h d s) hC (j := s) (N := 40) (dk1 hD hd) (dn1 hD hd) rfl (by omega) (by decide) dX0_sideIn_5 rfl ?_
    refine am_iconst (v := -1) hC dX0_sideIn_6 (by decide) ?_
    refine am_icmp_ne (tgt := 16) hC dX0_sideIn_7 (by decide) (fun c_7 => ?_) (fun c_7 => ?_)
    · refine am_aload_n hC dX0_sideIn_16 rfl ?_
      refine am_get (v := .ref (101 + 4 * d)) hC (ci := 1) (N := 5) (j := 0) rfl (dk0 hD hd) (by decide) tw_194 (Or.inl rfl) dX0_sideIn_17 (am_rfe (dr0 hD hd)) ?_
      refine am_iload_n hC dX0_sideIn_20 rfl ?_
      refine am_ialdE (v := tC h d s) hC (j := s) (N := 40) (dk1 hD hd) (dn1 hD hd) rfl (by omega) (by decide) dX0_sideIn_21 rfl ?_
      refine am_iret hC hR rfl (by decide) (by decide) dX0_sideIn_22 ?_
      exact ⟨rfl, rfl⟩
    · refine am_iload_n hC dX0_sideIn_10 rfl ?_
      refine am_bipush (v := nI 6) hC dX0_sideIn_11 (by decide) ?_
      refine am_icmp_lt (tgt := 23) hC dX0_sideIn_13 (by decide) (fun c_13 => absurd c_13 (nI_nlt (by omega) (by omega))) (fun c_13 => ?_)
      refine am_aload_n hC dX0_sideIn_16 rfl ?_
      refine am_get (v := .ref (101 + 4 * d)) hC (ci := 1) (N := 5) (j := 0) rfl (dk0 hD hd) (by decide) tw_194 (Or.inl rfl) dX0_sideIn_17 (am_rfe (dr0 hD hd)) ?_
      refine am_iload_n hC dX0_sideIn_20 rfl ?_
      refine am_ialdE (v := tC h d s) hC (j := s) (N := 40) (dk1 hD hd) (dn1 hD hd) rfl (by omega) (by decide) dX0_sideIn_21 rfl ?_
      refine am_iret hC hR rfl (by decide) (by decide) dX0_sideIn_22 ?_
      exact ⟨rfl, rfl⟩
  | succ f ih =>
    intro q d hfq hd
    refine am_intro rfl htr rfl (Nat.le_of_ble_eq_true rfl) (fun Z hC hR hI => ?_)
    change am_W Z 0 0 0 [.ref (100 + 4 * d), .int (nI s), .int (nI q), .null, .null, .null, .null, .null] [] h
    have ih' : ∀ i, i < n → am_Met Z.1 Z.2.2.1 yX0_sideIn (.code yX0_sideIn cX0_sideIn 8 (some .int)) (1 + f) 0 0 [.ref (100 + 4 * i), .int (nI s), .int (nI (q + 1))] h (fun v h' => v = some (.int (sdF (tC h) (rC h) f i s)) ∧ h' = h) am_no := fun i hi => ih _ _ (am_tr hC) (q + 1) i (by omega) hi
    have loop : ∀ (m i : Nat), i + m = 6 → sdF (tC h) (rC h) (f + 1) d s = fst6 (fun k => if rC h d k = true then sdF (tC h) (rC h) f k s else -1) i m → am_W Z 0 0 35 [.ref (100 + 4 * d), .int (nI s), .int (nI q), .ref (103 + 4 * d), .int (nI 6), .int (nI i), .null, .null] [] h := by
      intro m
      induction m with
      | zero =>
        intro i him hq
        obtain rfl : i = 6 := by omega
        refine am_iload hC dX0_sideIn_35 rfl ?_
        refine am_iload hC dX0_sideIn_37 rfl ?_
        refine am_icmp_ge (tgt := 83) hC dX0_sideIn_39 (by decide) (fun c_39 => ?_) (fun c_39 => absurd (nI_le (by omega) (by omega)) c_39)
        refine am_iconst (v := -1) hC dX0_sideIn_83 (by decide) ?_
        refine am_iret hC hR rfl (by decide) (by decide) dX0_sideIn_84 ?_
        exact ⟨by rw [hq]; rfl, rfl⟩
      | succ m ihm =>
        intro i him hq
        refine am_iload hC dX0_sideIn_35 rfl ?_
        refine am_iload hC dX0_sideIn_37 rfl ?_
        refine am_icmp_ge (tgt := 83) hC dX0_sideIn_39 (by decide) (fun c_39 => absurd c_39 (nI_ge (by omega) (by omega))) (fun c_39 => ?_)
        refine am_aload_n hC dX0_sideIn_42 rfl ?_
        refine am_iload hC dX0_sideIn_43 rfl ?_
        refine am_aaldE (v := .ref (hr_ h (103 + 4 * d) i)) hC (j := i) (N := 6) (by decide) (dk3 hD hd) (dn3 hD hd) rfl (by omega) (by decide) dX0_sideIn_45 rfl ?_
        refine am_astore hC dX0_sideIn_46 (by decide) ?_
        change am_W _ _ _ _ [.ref (100 + 4 * d), .int (nI s), .int (nI q), .ref (103 + 4 * d), .int (nI 6), .int (nI i), .ref (hr_ h (103 + 4 * d) i), .null] _ _
        refine am_aload hC dX0_sideIn_48 rfl ?_
        refine am_ifnonnull (tgt := 57) hC dX0_sideIn_50 (by decide) (fun c_50 => ?_) (fun c_50 => ?_)
        · obtain ⟨hin, e2⟩ := (dro hD hd (by omega : i < 6)).resolve_left c_50
          rw [e2]
          refine am_aload hC dX0_sideIn_57 rfl ?_
          refine am_iload_n hC dX0_sideIn_59 rfl ?_
          refine am_iload_n hC dX0_sideIn_60 rfl ?_
          refine am_iconst (v := nI 1) hC dX0_sideIn_61 (by decide) ?_
          refine am_iaddE (z := nI (q + 1)) hC dX0_sideIn_62 (nI_add (q) (1)) ?_
          refine am_callS hC [.ref (100 + 4 * i), .int (nI s), .int (nI (q + 1))] mf_X0_sideIn tw_358 (ih' i hin) rfl ⟨rfl, Nat.le_of_ble_eq_true rfl⟩ ⟨by omega, by decide⟩ (by decide) (by decide) dX0_sideIn_63 rfl (fun _ _ q _ => False.elim q) (fun v h' hp hlc => ?_)
          obtain ⟨rfl, rfl⟩ := hp
          refine am_istore hC dX0_sideIn_66 (by decide) ?_
          change am_W _ _ _ _ [.ref (100 + 4 * d), .int (nI s), .int (nI q), .ref (103 + 4 * d), .int (nI 6), .int (nI i), .ref (100 + 4 * i), .int (sdF (tC h') (rC h') f i s)] _ _
          refine am_iload hC dX0_sideIn_68 rfl ?_
          refine am_iconst (v := -1) hC dX0_sideIn_70 (by decide) ?_
          refine am_icmp_eq (tgt := 77) hC dX0_sideIn_71 (by decide) (fun c_71 => ?_) (fun c_71 => ?_)
          · have hq1 := hq.trans (fst6_skip (show (if rC h' d i = true then sdF (tC h') (rC h') f i s else -1) = -1 from (if_pos (decide_eq_true c_50)).trans c_71))
            refine am_iinc (v := nI (i + 1)) hC dX0_sideIn_77 rfl (nI_1 (i)) (by decide) ?_
            change am_W _ _ _ _ [.ref (100 + 4 * d), .int (nI s), .int (nI q), .ref (103 + 4 * d), .int (nI 6), .int (nI (i + 1)), .ref (100 + 4 * i), .int (sdF (tC h') (rC h') f i s)] _ _
            refine am_goto (tgt := 35) hC dX0_sideIn_80 (by decide) ?_
            exact am_fgt (ls' := [.ref (100 + 4 * d), .int (nI s), .int (nI q), .ref (103 + 4 * d), .int (nI 6), .int (nI (i + 1)), .null, .null]) ⟨Or.inl rfl, ⟨Or.inl rfl, ⟨Or.inl rfl, ⟨Or.inl rfl, ⟨Or.inl rfl, ⟨Or.inl rfl, ⟨Or.inr rfl, ⟨Or.inr rfl, trivial⟩⟩⟩⟩⟩⟩⟩⟩ (ihm (i + 1) (by omega) hq1)
          · refine am_iload hC dX0_sideIn_74 rfl ?_
            refine am_iret hC hR rfl (by decide) (by decide) dX0_sideIn_76 ?_
            have hg : (if rC h' d i = true then sdF (tC h') (rC h') f i s else -1) = sdF (tC h') (rC h') f i s := if_pos (decide_eq_true c_50)
            refine ⟨?_, rfl⟩
            rw [hq, fst6_hit (by show ¬ (if rC h' d i = true then sdF (tC h') (rC h') f i s else -1) = -1; rw [hg]; exact c_71)]
            exact congrArg (fun z => some (Value.int z)) hg.symm
        · refine am_iconst (v := -1) hC dX0_sideIn_53 (by decide) ?_
          refine am_goto (tgt := 66) hC dX0_sideIn_54 (by decide) ?_
          refine am_istore hC dX0_sideIn_66 (by decide) ?_
          change am_W _ _ _ _ [.ref (100 + 4 * d), .int (nI s), .int (nI q), .ref (103 + 4 * d), .int (nI 6), .int (nI i), .ref (hr_ h (103 + 4 * d) i), .int (-1)] _ _
          refine am_iload hC dX0_sideIn_68 rfl ?_
          refine am_iconst (v := -1) hC dX0_sideIn_70 (by decide) ?_
          refine am_icmp_eq (tgt := 77) hC dX0_sideIn_71 (by decide) (fun c_71 => ?_) (fun c_71 => absurd rfl c_71)
          have hq1 := hq.trans (fst6_skip (show (if rC h d i = true then sdF (tC h) (rC h) f i s else -1) = -1 from if_neg (fun z => (of_decide_eq_true z) c_50)))
          refine am_iinc (v := nI (i + 1)) hC dX0_sideIn_77 rfl (nI_1 (i)) (by decide) ?_
          change am_W _ _ _ _ [.ref (100 + 4 * d), .int (nI s), .int (nI q), .ref (103 + 4 * d), .int (nI 6), .int (nI (i + 1)), .ref (hr_ h (103 + 4 * d) i), .int (-1)] _ _
          refine am_goto (tgt := 35) hC dX0_sideIn_80 (by decide) ?_
          exact am_fgt (ls' := [.ref (100 + 4 * d), .int (nI s), .int (nI q), .ref (103 + 4 * d), .int (nI 6), .int (nI (i + 1)), .null, .null]) ⟨Or.inl rfl, ⟨Or.inl rfl, ⟨Or.inl rfl, ⟨Or.inl rfl, ⟨Or.inl rfl, ⟨Or.inl rfl, ⟨Or.inr rfl, ⟨Or.inr rfl, trivial⟩⟩⟩⟩⟩⟩⟩⟩ (ihm (i + 1) (by omega) hq1)
    refine am_aload_n hC dX0_sideIn_0 rfl ?_
    refine am_get (v := .ref (101 + 4 * d)) hC (ci := 1) (N := 5) (j := 0) rfl (dk0 hD hd) (by decide) tw_194 (Or.inl rfl) dX0_sideIn_1 (am_rfe (dr0 hD hd)) ?_
    refine am_iload_n hC dX0_sideIn_4 rfl ?_
    refine am_ialdE (v := tC h d s) hC (j := s) (N := 40) (dk1 hD hd) (dn1 hD hd) rfl (by omega) (by decide) dX0_sideIn_5 rfl ?_
    refine am_iconst (v := -1) hC dX0_sideIn_6 (by decide) ?_
    refine am_icmp_ne (tgt := 16) hC dX0_sideIn_7 (by decide) (fun c_7 => ?_) (fun c_7 => ?_)
    · refine am_aload_n hC dX0_sideIn_16 rfl ?_
      refine am_get (v := .ref (101 + 4 * d)) hC (ci := 1) (N := 5) (j := 0) rfl (dk0 hD hd) (by decide) tw_194 (Or.inl rfl) dX0_sideIn_17 (am_rfe (dr0 hD hd)) ?_
      refine am_iload_n hC dX0_sideIn_20 rfl ?_
      refine am_ialdE (v := tC h d s) hC (j := s) (N := 40) (dk1 hD hd) (dn1 hD hd) rfl (by omega) (by decide) dX0_sideIn_21 rfl ?_
      refine am_iret hC hR rfl (by decide) (by decide) dX0_sideIn_22 ?_
      refine ⟨?_, rfl⟩
      unfold sdF
      rw [if_neg c_7]
    · refine am_iload_n hC dX0_sideIn_10 rfl ?_
      refine am_bipush (v := nI 6) hC dX0_sideIn_11 (by decide) ?_
      refine am_icmp_lt (tgt := 23) hC dX0_sideIn_13 (by decide) (fun c_13 => ?_) (fun c_13 => absurd (nI_lt (by omega) (by omega)) c_13)
      refine am_aload_n hC dX0_sideIn_23 rfl ?_
      refine am_get (v := .ref (103 + 4 * d)) hC (ci := 1) (N := 5) (j := 2) rfl (dk0 hD hd) (by decide) tw_198 (Or.inl rfl) dX0_sideIn_24 (am_rfe (dr2 hD hd)) ?_
      refine am_astore_n hC dX0_sideIn_27 (by decide) ?_
      change am_W _ _ _ _ [.ref (100 + 4 * d), .int (nI s), .int (nI q), .ref (103 + 4 * d), .null, .null, .null, .null] _ _
      refine am_aload_n hC dX0_sideIn_28 rfl ?_
      refine am_alen hC (by decide) (dk3 hD hd) (dn3 hD hd) dX0_sideIn_29 ?_
      refine am_istore hC dX0_sideIn_30 (by decide) ?_
      change am_W _ _ _ _ [.ref (100 + 4 * d), .int (nI s), .int (nI q), .ref (103 + 4 * d), .int (nI 6), .null, .null, .null] _ _
      refine am_iconst (v := nI 0) hC dX0_sideIn_32 (by decide) ?_
      refine am_istore hC dX0_sideIn_33 (by decide) ?_
      change am_W _ _ _ _ [.ref (100 + 4 * d), .int (nI s), .int (nI q), .ref (103 + 4 * d), .int (nI 6), .int (nI 0), .null, .null] _ _
      have hq0 : sdF (tC h) (rC h) (f + 1) d s = fst6 (fun k => if rC h d k = true then sdF (tC h) (rC h) f k s else -1) 0 6 := by
        show (if _ then _ else _) = _
        rw [if_pos c_7]
      exact am_fgt (ls' := [.ref (100 + 4 * d), .int (nI s), .int (nI q), .ref (103 + 4 * d), .int (nI 6), .int (nI 0), .null, .null]) ⟨Or.inl rfl, ⟨Or.inl rfl, ⟨Or.inl rfl, ⟨Or.inl rfl, ⟨Or.inl rfl, ⟨Or.inl rfl, ⟨Or.inr rfl, ⟨Or.inr rfl, trivial⟩⟩⟩⟩⟩⟩⟩⟩ (loop 6 0 rfl hq0)
