/-! ===== states: taken from a drawing, compared with it ===== -/
theorem fst6_congr {g g' : Nat → Int32} : ∀ (m i : Nat), (∀ k, i ≤ k → k < i + m → g k = g' k) → fst6 g i m = fst6 g' i m
  | 0, _, _ => rfl
  | m + 1, i, h => by
    show (if g i = -1 then _ else _) = (if g' i = -1 then _ else _)
    rw [h i (Nat.le_refl _) (by omega), fst6_congr m (i + 1) (fun k h1 h2 => h k (by omega) (by omega))]
theorem any6_congr {g g' : Nat → Bool} : ∀ (m i : Nat), (∀ k, i ≤ k → k < i + m → g k = g' k) → any6 g i m = any6 g' i m
  | 0, _, _ => rfl
  | m + 1, i, h => by
    show (g i || _) = (g' i || _)
    rw [h i (Nat.le_refl _) (by omega), any6_congr m (i + 1) (fun k h1 h2 => h k (by omega) (by omega))]
theorem sdF_congr {t t' : Nat → Nat → Int32} {r r' : Nat → Nat → Bool} {n s : Nat} (hc : ∀ d, d < n → ∀ k, k < 6 → r d k = true → k < n) (ht : ∀ d, d < n → t d s = t' d s) (hr : ∀ d, d < n → ∀ k, k < 6 → r d k = r' d k) : ∀ (f d : Nat), d < n → sdF t r f d s = sdF t' r' f d s
  | 0, d, hd => ht d hd
  | f + 1, d, hd => by
    show (if t d s = -1 then _ else _) = (if t' d s = -1 then _ else _)
    rw [ht d hd]
    congr 1
    refine fst6_congr 6 0 (fun k _ hk => ?_)
    rw [hr d hd k (by omega)]
    by_cases q : r' d k = true
    · rw [if_pos q, if_pos q]
      exact sdF_congr hc ht hr f k (hc d hd k (by omega) (by rw [hr d hd k (by omega)]; exact q))
    · rw [if_neg q, if_neg q]
theorem exF_congr {t t' : Nat → Nat → Bool} {r r' : Nat → Nat → Bool} {n s : Nat} (hc : ∀ d, d < n → ∀ k, k < 6 → r d k = true → k < n) (ht : ∀ d, d < n → t d s = t' d s) (hr : ∀ d, d < n → ∀ k, k < 6 → r d k = r' d k) : ∀ (f d : Nat), d < n → exF t r f d s = exF t' r' f d s
  | 0, d, hd => ht d hd
  | f + 1, d, hd => by
    show (t d s || _) = (t' d s || _)
    rw [ht d hd]
    congr 1
    refine any6_congr 6 0 (fun k _ hk => ?_)
    rw [hr d hd k (by omega)]
    cases q : r' d k with
    | false => rfl
    | true => rw [exF_congr hc ht hr f k (hc d hd k (by omega) (by rw [hr d hd k (by omega)]; exact q))]
theorem ldF_congr {r r' : Nat → Nat → Bool} {n e : Nat} (hc : ∀ d, d < n → ∀ k, k < 6 → r d k = true → k < n) (hr : ∀ d, d < n → ∀ k, k < 6 → r d k = r' d k) : ∀ (f d : Nat), d < n → ldF r f d e = ldF r' f d e
  | 0, d, hd => rfl
  | f + 1, d, hd => by
    show (decide (d = e) || _) = (decide (d = e) || _)
    congr 1
    refine any6_congr 6 0 (fun k _ hk => ?_)
    rw [hr d hd k (by omega)]
    cases q : r' d k with
    | false => rfl
    | true => rw [ldF_congr hc hr f k (hc d hd k (by omega) (by rw [hr d hd k (by omega)]; exact q))]
theorem rC_lt {h : am_H} {n : Nat} (hD : DL h n) : ∀ d, d < n → ∀ k, k < 6 → rC h d k = true → k < n := fun d hd k hk q => by
  rcases dro hD hd hk with e | e
  · exact absurd e (of_decide_eq_true q)
  · exact e.1
/-- a place of no drawing -/
def offD (r : Nat) : Prop := r < 100 ∨ 124 ≤ r
theorem rC_eq {S : Nat → Prop} {h h' : am_H} {n : Nat} (hS : ∀ r, S r → offD r) (e : am_eq S h h') (hn6 : n ≤ 6) : ∀ d, d < n → ∀ k, k < 6 → rC h' d k = rC h d k := fun d hd k hk => by
  unfold rC
  rw [(e (103 + 4 * d) (fun z => by have := hS _ z; unfold offD at this; omega)).2.2.2.1]
theorem sdF_eq {S : Nat → Prop} {h h' : am_H} {n : Nat} (hS : ∀ r, S r → offD r) (e : am_eq S h h') (hD : DL h n) (hn6 : n ≤ 6) {f d s : Nat} (hd : d < n) : sdF (tC h') (rC h') f d s = sdF (tC h) (rC h) f d s :=
  (sdF_congr (rC_lt hD) (fun d hd => ((e (101 + 4 * d) (fun z => by have := hS _ z; unfold offD at this; omega)).2.2.1 s).symm) (fun d hd k hk => (rC_eq hS e hn6 d hd k hk).symm) f d hd).symm
theorem xC_eq {S : Nat → Prop} {h h' : am_H} {n : Nat} (hS : ∀ r, S r → offD r) (e : am_eq S h h') (hn6 : n ≤ 6) (c : Nat) : ∀ d, d < n → xC h' d c = xC h d c := fun d hd => by
  unfold xC
  rw [(e (102 + 4 * d) (fun z => by have := hS _ z; unfold offD at this; omega)).2.2.1 c]
theorem exF_eq {S : Nat → Prop} {h h' : am_H} {n : Nat} (hS : ∀ r, S r → offD r) (e : am_eq S h h') (hD : DL h n) (hn6 : n ≤ 6) {f d s : Nat} (hd : d < n) : exF (xC h') (rC h') f d s = exF (xC h) (rC h) f d s :=
  (exF_congr (rC_lt hD) (fun d hd => (xC_eq hS e hn6 s d hd).symm) (fun d hd k hk => (rC_eq hS e hn6 d hd k hk).symm) f d hd).symm
theorem XB_eq {S : Nat → Prop} {h h' : am_H} {n : Nat} (hS : ∀ r, S r → offD r) (e : am_eq S h h') (hn6 : n ≤ 6) (hB : XB h n) : XB h' n := fun d hd c hc => by
  rw [xC_eq hS e hn6 c d hd, (e (102 + 4 * d) (fun z => by have := hS _ z; unfold offD at this; omega)).2.2.1 c]
  exact hB d hd c hc
theorem DL_off {S : Nat → Prop} {h h' : am_H} {n : Nat} (hS : ∀ r, S r → offD r) (e : am_eq S h h') (hn6 : n ≤ 6) (hD : DL h n) : DL h' n := DL_eq hn6 hS e hD
/-- a State: its object a, its sides b, its exits c -/
def ST (h : am_H) (a b c : Nat) : Prop := (hk_ h a = 6 ∧ hr_ h a 0 = b ∧ hr_ h a 1 = c ∧ hk_ h b = 9 ∧ hn_ h b = 40 ∧ hk_ h c = 10 ∧ hn_ h c = 25) ∧ b ≠ c ∧ a ≠ b ∧ a ≠ c ∧ offD b ∧ offD c
theorem ST_eq {S : Nat → Prop} {h h' : am_H} {a b c : Nat} (ha : ¬ S a) (e : am_eq S h h') (hle : am_le h h') (hT : ST h a b c) : ST h' a b c := by
  obtain ⟨⟨h1, h2, h3, h4, h5, h6, h7⟩, h8⟩ := hT
  have ea := e a ha
  have eb := hle b (by omega)
  have ec := hle c (by omega)
  exact ⟨⟨ea.1.trans h1, (ea.2.2.2.1 0).trans h2, (ea.2.2.2.1 1).trans h3, eb.1.trans h4, eb.2.trans h5, ec.1.trans h6, ec.2.trans h7⟩, h8⟩
set_option maxRecDepth 100000 in
set_option maxHeartbeats 4000000 in
theorem c_X4_takeFrom (G : am_G) (l : Launch) (htr : l.stackTraces = false) (h : am_H) (n : Nat) (hD : DL h n) (hn6 : n ≤ 6) (hB : XB h n) (a b c : Nat) (hT : ST h a b c) (d : Nat) (hd : d < n) : am_Met G l yX4_takeFrom (.code yX4_takeFrom cX4_takeFrom 3 none) 9 0 0 [.ref (a), .ref (100 + 4 * d)] h (fun v h' => v = none ∧ am_eq (fun r => r = b ∨ r = c) h h' ∧ (∀ s, s < 40 → hi_ h' b s = sdF (tC h) (rC h) 6 d s) ∧ ∀ k, k < 25 → hi_ h' c k = b2i (exF (xC h) (rC h) 6 d k)) (am_no) := by
  refine am_intro rfl htr rfl (Nat.le_of_ble_eq_true rfl) (fun Z hC hR hI => ?_)
  change am_W Z 0 0 0 [.ref (a), .ref (100 + 4 * d), .null] [] h
  have hSb : ∀ r, (r = b ∨ r = c) → offD r := fun r hr => by
    rcases hr with rfl | rfl
    · exact hT.2.2.2.2.1
    · exact hT.2.2.2.2.2
  have loop2 : ∀ (m i : Nat) (g : am_H), i + m = 25 → am_eq (fun r => r = b ∨ r = c) h g → am_le h g → (∀ s, s < 40 → hi_ g b s = sdF (tC h) (rC h) 6 d s) → (∀ k, k < i → hi_ g c k = b2i (exF (xC h) (rC h) 6 d k)) → am_W Z 0 0 27 [.ref (a), .ref (100 + 4 * d), .int (nI i)] [] g := by
    intro m
    induction m with
    | zero =>
      intro i g him e hle hs1 hs2
      obtain rfl : i = 25 := by omega
      refine am_iload_n hC dX4_takeFrom_27 rfl ?_
      refine am_bipush (v := nI 25) hC dX4_takeFrom_28 (by decide) ?_
      refine am_icmp_ge (tgt := 50) hC dX4_takeFrom_30 (by decide) (fun c_30 => ?_) (fun c_30 => absurd (nI_le (by omega) (by omega)) c_30)
      refine am_vret hC hR (by decide) (by decide) dX4_takeFrom_50 ?_
      exact ⟨rfl, e, hs1, fun k hk => hs2 k hk⟩
    | succ m ih =>
      intro i g him e hle hs1 hs2
      replace hT := ST_eq (fun z => by rcases z with z | z; exact hT.2.2.1 z; exact hT.2.2.2.1 z) e hle hT
      have hD0 := hD
      replace hD := DL_off hSb e hn6 hD
      replace hB := XB_eq hSb e hn6 hB
      refine am_iload_n hC dX4_takeFrom_27 rfl ?_
      refine am_bipush (v := nI 25) hC dX4_takeFrom_28 (by decide) ?_
      refine am_icmp_ge (tgt := 50) hC dX4_takeFrom_30 (by decide) (fun c_30 => absurd c_30 (nI_ge (by omega) (by omega))) (fun c_30 => ?_)
      refine am_aload_n hC dX4_takeFrom_33 rfl ?_
      refine am_get (v := .ref (c)) hC (ci := 5) (N := 2) (j := 1) rfl hT.1.1 (by decide) tw_70 (Or.inl rfl) dX4_takeFrom_34 (am_rfe hT.1.2.2.1) ?_
      refine am_iload_n hC dX4_takeFrom_37 rfl ?_
      refine am_aload_n hC dX4_takeFrom_38 rfl ?_
      refine am_iload_n hC dX4_takeFrom_39 rfl ?_
      refine am_callVN hC (ci := 1) (N := 5) [.int (nI i)] rfl (dk0 hD hd) rfl mf_X0_exitNow tw_374 (c_X0_exitNow _ _ (am_tr hC) _ n hD hn6 d hd hB i (by omega)) rfl ⟨rfl, Nat.le_of_ble_eq_true rfl⟩ ⟨by decide, by decide⟩ (by decide) (by decide) dX4_takeFrom_40 rfl (fun _ _ q _ => False.elim q) (fun v h' hp hlc => ?_)
      obtain ⟨rfl, q9⟩ := hp
      have q9 := q9.symm
      subst q9
      rw [exF_eq hSb e hD0 hn6 hd]
      refine am_zast hC (j := i) (N := 25) hT.1.2.2.2.2.2.1 hT.1.2.2.2.2.2.2 rfl (by omega) (by decide) (nar_b2i _) dX4_takeFrom_43 ?_
      refine am_iinc (v := nI (i + 1)) hC dX4_takeFrom_44 rfl (nI_1 (i)) (by decide) ?_
      change am_W _ _ _ _ [.ref (a), .ref (100 + 4 * d), .int (nI (i + 1))] _ _
      refine am_goto (tgt := 27) hC dX4_takeFrom_47 (by decide) ?_
      exact ih (i + 1) _ (by omega) (am_eq_tr e (am_eq_sI (Or.inr rfl))) (am_le_tr hle (am_le_sI _ _ _ _)) (fun s hs => by rw [hi_sI, if_neg (fun z => hT.2.1 z.1)]; exact hs1 s hs) (fun k hk => by
        rw [hi_sI]
        by_cases q : k = i
        · rw [if_pos ⟨rfl, q⟩, q]
        · rw [if_neg (fun z => q z.2)]; exact hs2 k (by omega))
  have loop1 : ∀ (m i : Nat) (g : am_H), i + m = 40 → am_eq (fun r => r = b ∨ r = c) h g → am_le h g → (∀ s, s < i → hi_ g b s = sdF (tC h) (rC h) 6 d s) → am_W Z 0 0 2 [.ref (a), .ref (100 + 4 * d), .int (nI i)] [] g := by
    intro m
    induction m with
    | zero =>
      intro i g him e hle hs1
      obtain rfl : i = 40 := by omega
      refine am_iload_n hC dX4_takeFrom_2 rfl ?_
      refine am_bipush (v := nI 40) hC dX4_takeFrom_3 (by decide) ?_
      refine am_icmp_ge (tgt := 25) hC dX4_takeFrom_5 (by decide) (fun c_5 => ?_) (fun c_5 => absurd (nI_le (by omega) (by omega)) c_5)
      refine am_iconst (v := nI 0) hC dX4_takeFrom_25 (by decide) ?_
      refine am_istore_n hC dX4_takeFrom_26 (by decide) ?_
      change am_W _ _ _ _ [.ref (a), .ref (100 + 4 * d), .int (nI 0)] _ _
      exact loop2 25 0 g rfl e hle (fun s hs => hs1 s (by omega)) (fun k hk => absurd hk (Nat.not_lt_zero k))
    | succ m ih =>
      intro i g him e hle hs1
      replace hT := ST_eq (fun z => by rcases z with z | z; exact hT.2.2.1 z; exact hT.2.2.2.1 z) e hle hT
      have hD0 := hD
      replace hD := DL_off hSb e hn6 hD
      refine am_iload_n hC dX4_takeFrom_2 rfl ?_
      refine am_bipush (v := nI 40) hC dX4_takeFrom_3 (by decide) ?_
      refine am_icmp_ge (tgt := 25) hC dX4_takeFrom_5 (by decide) (fun c_5 => absurd c_5 (nI_ge (by omega) (by omega))) (fun c_5 => ?_)
      refine am_aload_n hC dX4_takeFrom_8 rfl ?_
      refine am_get (v := .ref (b)) hC (ci := 5) (N := 2) (j := 0) rfl hT.1.1 (by decide) tw_68 (Or.inl rfl) dX4_takeFrom_9 (am_rfe hT.1.2.1) ?_
      refine am_iload_n hC dX4_takeFrom_12 rfl ?_
      refine am_aload_n hC dX4_takeFrom_13 rfl ?_
      refine am_iload_n hC dX4_takeFrom_14 rfl ?_
      refine am_callVN hC (ci := 1) (N := 5) [.int (nI i)] rfl (dk0 hD hd) rfl mf_X0_sideNow tw_373 (c_X0_sideNow _ _ (am_tr hC) _ n hD hn6 d hd i (by omega)) rfl ⟨rfl, Nat.le_of_ble_eq_true rfl⟩ ⟨by decide, by decide⟩ (by decide) (by decide) dX4_takeFrom_15 rfl (fun _ _ q _ => False.elim q) (fun v h' hp hlc => ?_)
      obtain ⟨rfl, q9⟩ := hp
      have q9 := q9.symm
      subst q9
      rw [sdF_eq hSb e hD0 hn6 hd]
      refine am_iast hC (j := i) (N := 40) hT.1.2.2.2.1 hT.1.2.2.2.2.1 rfl (by omega) (by decide) dX4_takeFrom_18 ?_
      refine am_iinc (v := nI (i + 1)) hC dX4_takeFrom_19 rfl (nI_1 (i)) (by decide) ?_
      change am_W _ _ _ _ [.ref (a), .ref (100 + 4 * d), .int (nI (i + 1))] _ _
      refine am_goto (tgt := 2) hC dX4_takeFrom_22 (by decide) ?_
      exact ih (i + 1) _ (by omega) (am_eq_tr e (am_eq_sI (Or.inl rfl))) (am_le_tr hle (am_le_sI _ _ _ _)) (fun k hk => by
        rw [hi_sI]
        by_cases q : k = i
        · rw [if_pos ⟨rfl, q⟩, q]
        · rw [if_neg (fun z => q z.2)]; exact hs1 k (by omega))
  refine am_iconst (v := nI 0) hC dX4_takeFrom_0 (by decide) ?_
  refine am_istore_n hC dX4_takeFrom_1 (by decide) ?_
  change am_W _ _ _ _ [.ref (a), .ref (100 + 4 * d), .int (nI 0)] _ _
  exact loop1 40 0 h rfl (am_eq_rf _ _) (am_le_rf _) (fun s hs => absurd hs (Nat.not_lt_zero s))
set_option maxRecDepth 100000 in
set_option maxHeartbeats 4000000 in
theorem c_X4_isThatOf (G : am_G) (l : Launch) (htr : l.stackTraces = false) (h : am_H) (n : Nat) (hD : DL h n) (hn6 : n ≤ 6) (hB : XB h n) (a b c : Nat) (hT : ST h a b c) (d : Nat) (hd : d < n) : am_Met G l yX4_isThatOf (.code yX4_isThatOf cX4_isThatOf 3 (some .boolean)) 9 0 0 [.ref (a), .ref (100 + 4 * d)] h (fun v h' => h' = h ∧ ∃ R : Bool, v = some (.int (b2i R)) ∧ (R = true ↔ (∀ s, s < 40 → hi_ h b s = sdF (tC h) (rC h) 6 d s) ∧ ∀ k, k < 25 → hi_ h c k = b2i (exF (xC h) (rC h) 6 d k))) (am_no) := by
  refine am_intro rfl htr rfl (Nat.le_of_ble_eq_true rfl) (fun Z hC hR hI => ?_)
  change am_W Z 0 0 0 [.ref (a), .ref (100 + 4 * d), .null] [] h
  have loop2 : ∀ (m i : Nat), i + m = 25 → (∀ s, s < 40 → hi_ h b s = sdF (tC h) (rC h) 6 d s) → (∀ k, k < i → hi_ h c k = b2i (exF (xC h) (rC h) 6 d k)) → am_W Z 0 0 32 [.ref (a), .ref (100 + 4 * d), .int (nI i)] [] h := by
    intro m
    induction m with
    | zero =>
      intro i him hs1 hs2
      obtain rfl : i = 25 := by omega
      refine am_iload_n hC dX4_isThatOf_32 rfl ?_
      refine am_bipush (v := nI 25) hC dX4_isThatOf_33 (by decide) ?_
      refine am_icmp_ge (tgt := 60) hC dX4_isThatOf_35 (by decide) (fun c_35 => ?_) (fun c_35 => absurd (nI_le (by omega) (by omega)) c_35)
      refine am_iconst (v := nI 1) hC dX4_isThatOf_60 (by decide) ?_
      refine am_iret hC hR rfl (by decide) (by decide) dX4_isThatOf_61 ?_
      exact ⟨rfl, true, rfl, fun _ => ⟨hs1, hs2⟩, fun _ => rfl⟩
    | succ m ih =>
      intro i him hs1 hs2
      refine am_iload_n hC dX4_isThatOf_32 rfl ?_
      refine am_bipush (v := nI 25) hC dX4_isThatOf_33 (by decide) ?_
      refine am_icmp_ge (tgt := 60) hC dX4_isThatOf_35 (by decide) (fun c_35 => absurd c_35 (nI_ge (by omega) (by omega))) (fun c_35 => ?_)
      refine am_aload_n hC dX4_isThatOf_38 rfl ?_
      refine am_get (v := .ref (c)) hC (ci := 5) (N := 2) (j := 1) rfl hT.1.1 (by decide) tw_70 (Or.inl rfl) dX4_isThatOf_39 (am_rfe hT.1.2.2.1) ?_
      refine am_iload_n hC dX4_isThatOf_42 rfl ?_
      refine am_zaldE (v := hi_ h c i) hC (j := i) (N := 25) hT.1.2.2.2.2.2.1 hT.1.2.2.2.2.2.2 rfl (by omega) (by decide) dX4_isThatOf_43 rfl ?_
      refine am_aload_n hC dX4_isThatOf_44 rfl ?_
      refine am_iload_n hC dX4_isThatOf_45 rfl ?_
      refine am_callVN hC (ci := 1) (N := 5) [.int (nI i)] rfl (dk0 hD hd) rfl mf_X0_exitNow tw_374 (c_X0_exitNow _ _ (am_tr hC) h n hD hn6 d hd hB i (by omega)) rfl ⟨rfl, Nat.le_of_ble_eq_true rfl⟩ ⟨by decide, by decide⟩ (by decide) (by decide) dX4_isThatOf_46 rfl (fun _ _ q _ => False.elim q) (fun v h' hp hlc => ?_)
      obtain ⟨rfl, q9⟩ := hp
      have q9 := q9.symm
      subst q9
      refine am_icmp_eq (tgt := 54) hC dX4_isThatOf_49 (by decide) (fun c_49 => ?_) (fun c_49 => ?_)
      · refine am_iinc (v := nI (i + 1)) hC dX4_isThatOf_54 rfl (nI_1 (i)) (by decide) ?_
        change am_W _ _ _ _ [.ref (a), .ref (100 + 4 * d), .int (nI (i + 1))] _ _
        refine am_goto (tgt := 32) hC dX4_isThatOf_57 (by decide) ?_
        exact ih (i + 1) (by omega) hs1 (fun k hk => by
          by_cases q : k = i
          · rw [q]; exact c_49
          · exact hs2 k (by omega))
      · refine am_iconst (v := nI 0) hC dX4_isThatOf_52 (by decide) ?_
        refine am_iret hC hR rfl (by decide) (by decide) dX4_isThatOf_53 ?_
        exact ⟨rfl, false, rfl, fun q => Bool.noConfusion q, fun q => absurd (q.2 i (by omega)) c_49⟩
  have loop1 : ∀ (m i : Nat), i + m = 40 → (∀ s, s < i → hi_ h b s = sdF (tC h) (rC h) 6 d s) → am_W Z 0 0 2 [.ref (a), .ref (100 + 4 * d), .int (nI i)] [] h := by
    intro m
    induction m with
    | zero =>
      intro i him hs1
      obtain rfl : i = 40 := by omega
      refine am_iload_n hC dX4_isThatOf_2 rfl ?_
      refine am_bipush (v := nI 40) hC dX4_isThatOf_3 (by decide) ?_
      refine am_icmp_ge (tgt := 30) hC dX4_isThatOf_5 (by decide) (fun c_5 => ?_) (fun c_5 => absurd (nI_le (by omega) (by omega)) c_5)
      refine am_iconst (v := nI 0) hC dX4_isThatOf_30 (by decide) ?_
      refine am_istore_n hC dX4_isThatOf_31 (by decide) ?_
      change am_W _ _ _ _ [.ref (a), .ref (100 + 4 * d), .int (nI 0)] _ _
      exact loop2 25 0 rfl (fun s hs => hs1 s (by omega)) (fun k hk => absurd hk (Nat.not_lt_zero k))
    | succ m ih =>
      intro i him hs1
      refine am_iload_n hC dX4_isThatOf_2 rfl ?_
      refine am_bipush (v := nI 40) hC dX4_isThatOf_3 (by decide) ?_
      refine am_icmp_ge (tgt := 30) hC dX4_isThatOf_5 (by decide) (fun c_5 => absurd c_5 (nI_ge (by omega) (by omega))) (fun c_5 => ?_)
      refine am_aload_n hC dX4_isThatOf_8 rfl ?_
      refine am_get (v := .ref (b)) hC (ci := 5) (N := 2) (j := 0) rfl hT.1.1 (by decide) tw_68 (Or.inl rfl) dX4_isThatOf_9 (am_rfe hT.1.2.1) ?_
      refine am_iload_n hC dX4_isThatOf_12 rfl ?_
      refine am_ialdE (v := hi_ h b i) hC (j := i) (N := 40) hT.1.2.2.2.1 hT.1.2.2.2.2.1 rfl (by omega) (by decide) dX4_isThatOf_13 rfl ?_
      refine am_aload_n hC dX4_isThatOf_14 rfl ?_
      refine am_iload_n hC dX4_isThatOf_15 rfl ?_
      refine am_callVN hC (ci := 1) (N := 5) [.int (nI i)] rfl (dk0 hD hd) rfl mf_X0_sideNow tw_373 (c_X0_sideNow _ _ (am_tr hC) h n hD hn6 d hd i (by omega)) rfl ⟨rfl, Nat.le_of_ble_eq_true rfl⟩ ⟨by decide, by decide⟩ (by decide) (by decide) dX4_isThatOf_16 rfl (fun _ _ q _ => False.elim q) (fun v h' hp hlc => ?_)
      obtain ⟨rfl, q9⟩ := hp
      have q9 := q9.symm
      subst q9
      refine am_icmp_eq (tgt := 24) hC dX4_isThatOf_19 (by decide) (fun c_19 => ?_) (fun c_19 => ?_)
      · refine am_iinc (v := nI (i + 1)) hC dX4_isThatOf_24 rfl (nI_1 (i)) (by decide) ?_
        change am_W _ _ _ _ [.ref (a), .ref (100 + 4 * d), .int (nI (i + 1))] _ _
        refine am_goto (tgt := 2) hC dX4_isThatOf_27 (by decide) ?_
        exact ih (i + 1) (by omega) (fun k hk => by
          by_cases q : k = i
          · rw [q]; exact c_19
          · exact hs1 k (by omega))
      · refine am_iconst (v := nI 0) hC dX4_isThatOf_22 (by decide) ?_
        refine am_iret hC hR rfl (by decide) (by decide) dX4_isThatOf_23 ?_
        exact ⟨rfl, false, rfl, fun q => Bool.noConfusion q, fun q => absurd (q.1 i (by omega)) c_19⟩
  refine am_iconst (v := nI 0) hC dX4_isThatOf_0 (by decide) ?_
  refine am_istore_n hC dX4_isThatOf_1 (by decide) ?_
  change am_W _ _ _ _ [.ref (a), .ref (100 + 4 * d), .int (nI 0)] _ _
  exact loop1 40 0 rfl (fun s hs => absurd hs (Nat.not_lt_zero s))
