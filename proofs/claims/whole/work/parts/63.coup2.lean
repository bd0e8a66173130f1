/-! ===== the coupling is kept by what doesn't concern it ===== -/
theorem MT_cg {h : am_H} {n : Nat} {t t' : Nat → Nat → Int32} {x x' r r' : Nat → Nat → Bool} (ht : ∀ d, d < n → ∀ s, s < 40 → t' d s = t d s) (hx : ∀ d, d < n → ∀ c, c < 32 → x' d c = x d c) (hr : ∀ d, d < n → ∀ k, k < 31 → r' d k = r d k) (hT : MT h n t x r) : MT h n t' x' r' := by
  obtain ⟨a, b, c, d1, e, f, rk, g⟩ := hT
  refine ⟨a, b, c, fun d hd s hs => by rw [ht d hd s hs]; exact d1 d hd s hs, fun d hd c hc => by rw [hx d hd c hc]; exact e d hd c hc, fun d hd k hk => by rw [hr d hd k hk]; exact f d hd k hk, rk, fun d hd k hk q => g d hd k hk ?_⟩
  rw [← hr d hd k (by omega)]; exact q
theorem MT_g {S : Nat → Prop} {g g' h : am_H} {n : Nat} (hS : ∀ d, d < n → ¬ S (101 + 4 * d) ∧ ¬ S (102 + 4 * d) ∧ ¬ S (103 + 4 * d)) (e : am_eq S g g') (hT : MT h n (tC g) (xX g) (rX g)) : MT h n (tC g') (xX g') (rX g') :=
  MT_cg (fun d hd s _ => (e _ (hS d hd).1).2.2.1 s) (fun d hd c _ => by unfold xX xC; rw [(e _ (hS d hd).2.1).2.2.1 c]) (fun d hd k _ => by unfold rX rC; rw [(e _ (hS d hd).2.2).2.2.2.1 k]) hT
theorem MIl_eq {S T : Nat → Prop} {g g' h h' : am_H} {n : Nat} (hS : ∀ d, d < n → ¬ S (100 + 4 * d)) (hT : ¬ T 18 ∧ ¬ T 19) (e : am_eq S g g') (e' : am_eq T h h') (m : MIl g h n) : MIl g' h' n := fun d hd => by
  rw [(e _ (hS d hd)).2.2.1, (e _ (hS d hd)).2.2.1, (e' _ hT.1).2.2.1, (e' _ hT.2).2.2.1]
  exact m d hd
theorem MIz_eq {T : Nat → Prop} {h h' : am_H} {n : Nat} (hT : ¬ T 16 ∧ ¬ T 17) (e' : am_eq T h h') (m : MIz h n) : MIz h' n := fun d hd h6 => by
  rw [(e' _ hT.1).2.2.1, (e' _ hT.2).2.2.1]
  exact m d hd h6
theorem MIp_eq {S T : Nat → Prop} {g g' h h' : am_H} {np : Nat} (hS : ∀ i, i < np → ¬ S (200 + 4 * i) ∧ ¬ S (202 + 4 * i) ∧ ¬ S (203 + 4 * i)) (hT : ¬ T 25 ∧ ¬ T 26 ∧ ¬ T 27) (e : am_eq S g g') (e' : am_eq T h h') (m : MIp g h np) : MIp g' h' np := fun i hi => by
  obtain ⟨s0, s2, s3⟩ := hS i hi
  obtain ⟨m1, m2, m3, m4⟩ := m i hi
  have ep : pdH g' i = pdH g i := by unfold pdH; rw [(e _ s0).2.2.2.1]
  refine ⟨by rw [(e' _ hT.1).2.2.1, ep]; exact m1, fun s hs => by rw [(e' _ hT.2.1).2.2.1, (e _ s2).2.2.1]; exact m2 s hs, fun c hc => by rw [(e' _ hT.2.2).2.2.1, (e _ s3).2.2.1]; exact m3 c hc, fun c hc => by rw [(e _ s3).2.2.1]; exact m4 c hc⟩
theorem MIq_eq {S T : Nat → Prop} {g g' h h' : am_H} {nq : Nat} (hS : ∀ i, i < nq → ¬ S (300 + 4 * i) ∧ ¬ S (302 + 4 * i) ∧ ¬ S (303 + 4 * i)) (hT : ¬ T 29 ∧ ¬ T 30 ∧ ¬ T 31 ∧ ¬ T 32) (e : am_eq S g g') (e' : am_eq T h h') (m : MIq g h nq) : MIq g' h' nq := fun i hi => by
  obtain ⟨s0, s2, s3⟩ := hS i hi
  obtain ⟨m1, m2, m3, m4, m5, m6⟩ := m i hi
  have ep : qdH g' i = qdH g i := by unfold qdH; rw [(e _ s0).2.2.2.1]
  refine ⟨by rw [(e' _ hT.1).2.2.1, ep]; exact m1, fun s hs => by rw [(e' _ hT.2.1).2.2.1, (e _ s2).2.2.1]; exact m2 s hs, fun c hc => by rw [(e' _ hT.2.2.1).2.2.1, (e _ s3).2.2.1]; exact m3 c hc, fun c hc => by rw [(e _ s3).2.2.1]; exact m4 c hc, by rw [(e' _ hT.2.2.2).2.2.1, (e _ s0).2.2.1]; exact m5, by rw [(e' _ hT.2.2.2).2.2.1]; exact m6⟩
theorem am_eq_F (g : am_H) : am_eq (fun _ => False) g g := am_eq_rf _ g
/-- the class's rows the same -/
theorem MI_g {S : Nat → Prop} {g g' h : am_H} {n np nq : Nat} (hS : ∀ r, S r → r < 100 ∨ 420 ≤ r) (hp : np ≤ 20) (hq : nq ≤ 30) (e : am_eq S g g') (m : MI g h n np nq) : MI g' h n np nq := by
  obtain ⟨m1, m2, m3, m4, m5, m6⟩ := m
  have n6 := m1.2.1
  have w : ∀ r, 100 ≤ r → r < 420 → ¬ S r := fun r a b z => by have := hS r z; omega
  exact ⟨MT_g (fun d hd => ⟨w _ (by omega) (by omega), w _ (by omega) (by omega), w _ (by omega) (by omega)⟩) e m1, m2, MIl_eq (fun d hd => w _ (by omega) (by omega)) ⟨id, id⟩ e (am_eq_F h) m3, m4, MIp_eq (fun i hi => ⟨w _ (by omega) (by omega), w _ (by omega) (by omega), w _ (by omega) (by omega)⟩) ⟨id, id, id⟩ e (am_eq_F h) m5, MIq_eq (fun i hi => ⟨w _ (by omega) (by omega), w _ (by omega) (by omega), w _ (by omega) (by omega)⟩) ⟨id, id, id, id⟩ e (am_eq_F h) m6⟩
/-- the model's rows the same -/
theorem MI_h {S : Nat → Prop} {g h h' : am_H} {n np nq : Nat} (hS : ∀ r, S r → r < 14 ∨ (20 ≤ r ∧ r < 25) ∨ 32 < r) (e : am_eq S h h') (hle : am_le h h') (m : MI g h n np nq) : MI g h' n np nq := by
  obtain ⟨m1, m2, m3, m4, m5, m6⟩ := m
  have w : ∀ r, 14 ≤ r → r < 20 ∨ 25 ≤ r → r ≤ 32 → ¬ S r := fun r a b c z => by have := hS r z; omega
  have W := fun r a b c => w r a b c
  refine ⟨MT_eq (fun q hq => by have := hS q hq; omega) e hle m1, ?_, MIl_eq (fun _ _ => id) ⟨w _ (by decide) (by decide) (by decide), w _ (by decide) (by decide) (by decide)⟩ (am_eq_F g) e m3, MIz_eq ⟨w _ (by decide) (by decide) (by decide), w _ (by decide) (by decide) (by decide)⟩ e m4, MIp_eq (fun _ _ => ⟨id, id, id⟩) ⟨w _ (by decide) (by decide) (by decide), w _ (by decide) (by decide) (by decide), w _ (by decide) (by decide) (by decide)⟩ (am_eq_F g) e m5, MIq_eq (fun _ _ => ⟨id, id, id⟩) ⟨w _ (by decide) (by decide) (by decide), w _ (by decide) (by decide) (by decide), w _ (by decide) (by decide) (by decide), w _ (by decide) (by decide) (by decide)⟩ (am_eq_F g) e m6⟩
  have e14 := e 14 (w _ (by decide) (by decide) (by decide))
  rw [e14.2.2.1, e14.2.2.1]
  exact m2
theorem MI_th {g h : am_H} {n np nq : Nat} {v : Int32} (m : MI g h n np nq) : MI g (am_sI h 14 19 v) n np nq := by
  obtain ⟨m1, m2, m3, m4, m5, m6⟩ := m
  have e : am_eq (fun q => q = 14) h (am_sI h 14 19 v) := am_eq_sI rfl
  refine ⟨MT_th m1, ?_, MIl_eq (fun _ _ => id) ⟨by decide, by decide⟩ (am_eq_F g) e m3, MIz_eq ⟨by decide, by decide⟩ e m4, MIp_eq (fun _ _ => ⟨id, id, id⟩) ⟨by decide, by decide, by decide⟩ (am_eq_F g) e m5, MIq_eq (fun _ _ => ⟨id, id, id⟩) ⟨by decide, by decide, by decide, by decide⟩ (am_eq_F g) e m6⟩
  rw [hi_sI, if_neg (by decide), hi_sI, if_neg (by decide)]
  exact m2
/-! ===== and by the calls ===== -/
theorem FM_sI {h : am_H} {r k : Nat} {x : Int32} (hM : FM h) : FM (am_sI h r k x) := hM
theorem MI_tell {g h : am_H} {n np nq d s : Nat} {W : Int32} (hd : d < n) (hs : s < 40) (hW : OKs W) (hp : np ≤ 20) (hq : nq ≤ 30) (m : MI g h n np nq) : MI (am_sI g (101 + 4 * d) s W) (am_sI h 15 (40 * d + s) W) n np nq := by
  obtain ⟨⟨a1, a2, a3, a4, a5, a6, a7⟩, m2, m3, m4, m5, m6⟩ := m
  have e : am_eq (fun q => q = 101 + 4 * d) g (am_sI g (101 + 4 * d) s W) := am_eq_sI rfl
  have e' : am_eq (fun q => q = 15) h (am_sI h 15 (40 * d + s) W) := am_eq_sI rfl
  refine ⟨⟨a1, a2, ?_, fun d' hd' s' hs' => ?_, fun d' hd' c hc => ?_, fun d' hd' k hk => ?_, a7⟩, ?_, MIl_eq (fun d' _ => by omega) ⟨by decide, by decide⟩ e e' m3, MIz_eq ⟨by decide, by decide⟩ e' m4, MIp_eq (fun i _ => ⟨by omega, by omega, by omega⟩) ⟨by decide, by decide, by decide⟩ e e' m5, MIq_eq (fun i _ => ⟨by omega, by omega, by omega⟩) ⟨by decide, by decide, by decide, by decide⟩ e e' m6⟩
  · rw [hi_sI, if_neg (by omega)]; exact a3
  · unfold tC
    rw [hi_sI, hi_sI]
    by_cases z : d' = d ∧ s' = s
    · rw [if_pos ⟨rfl, by rw [z.1, z.2]⟩, if_pos ⟨by rw [z.1], z.2⟩]
      exact ⟨rfl, hW⟩
    · rw [if_neg (by omega), if_neg (by omega)]
      exact a4 d' hd' s' hs'
  · rw [hi_sI, if_neg (by omega)]
    have q := a5 d' hd' c hc
    unfold xX xC at q ⊢
    rw [hi_sI, if_neg (by omega)]
    exact q
  · rw [hi_sI, if_neg (by omega)]; exact a6 d' hd' k hk
  · rw [hi_sI, if_neg (by omega), hi_sI, if_neg (by omega)]; exact m2
theorem MI_exit {g h : am_H} {n np nq d c : Nat} {b : Bool} (hd : d < n) (hc : c < 25) (hp : np ≤ 20) (hq : nq ≤ 30) (m : MI g h n np nq) : MI (am_sI g (102 + 4 * d) c (b2i b)) (am_sI h 16 d (if b = true then hi_ h 16 d ||| ((nI 1) <<< ((nI c) &&& 31)) else hi_ h 16 d &&& (((nI 1) <<< ((nI c) &&& 31)) ^^^ -1))) n np nq := by
  obtain ⟨⟨a1, a2, a3, a4, a5, a6, a7⟩, m2, m3, m4, m5, m6⟩ := m
  generalize hY : (if b = true then hi_ h 16 d ||| ((nI 1) <<< ((nI c) &&& 31)) else hi_ h 16 d &&& (((nI 1) <<< ((nI c) &&& 31)) ^^^ -1)) = Y
  have e : am_eq (fun q => q = 102 + 4 * d) g (am_sI g (102 + 4 * d) c (b2i b)) := am_eq_sI rfl
  have e' : am_eq (fun q => q = 16) h (am_sI h 16 d Y) := am_eq_sI rfl
  refine ⟨⟨a1, a2, ?_, fun d' hd' s' hs' => ?_, fun d' hd' c' hc' => ?_, fun d' hd' k hk => ?_, a7⟩, ?_, MIl_eq (fun d' _ => by omega) ⟨by decide, by decide⟩ e e' m3, fun d' hd' h6 => ?_, MIp_eq (fun i _ => ⟨by omega, by omega, by omega⟩) ⟨by decide, by decide, by decide⟩ e e' m5, MIq_eq (fun i _ => ⟨by omega, by omega, by omega⟩) ⟨by decide, by decide, by decide, by decide⟩ e e' m6⟩
  · rw [hi_sI, if_neg (by omega)]; exact a3
  · rw [hi_sI, if_neg (by omega)]
    have q := a4 d' hd' s' hs'
    unfold tC at q ⊢
    rw [hi_sI, if_neg (by omega)]
    exact q
  · have q := a5 d' hd' c' hc'
    unfold xX xC at q ⊢
    rw [hi_sI, hi_sI]
    by_cases zd : d' = d
    · subst zd
      rw [if_pos ⟨rfl, rfl⟩, ← hY]
      have key : bt (if b = true then hi_ h 16 d' ||| ((nI 1) <<< ((nI c) &&& 31)) else hi_ h 16 d' &&& (((nI 1) <<< ((nI c) &&& 31)) ^^^ -1)) c' = if c' = c then b else bt (hi_ h 16 d') c' := by
        cases b
        · rw [if_neg (by decide), b_clr (by omega) hc']
          by_cases z : c' = c
          · rw [if_pos z, decide_eq_true z]; simp
          · rw [if_neg z, decide_eq_false z]; simp
        · rw [if_pos rfl, b_set (by omega) hc']
          by_cases z : c' = c
          · rw [if_pos z, decide_eq_true z]; simp
          · rw [if_neg z, decide_eq_false z]; simp
      rw [key]
      by_cases z : c' = c
      · rw [if_pos z, if_pos ⟨rfl, z⟩, decide_eq_true (show c' < 25 by omega)]
        cases b <;> rfl
      · rw [if_neg z, if_neg (fun w => z w.2)]
        exact q
    · rw [if_neg (fun w => zd w.2), if_neg (by omega)]
      exact q
  · rw [hi_sI, if_neg (by omega)]; exact a6 d' hd' k hk
  · rw [hi_sI, if_neg (by omega), hi_sI, if_neg (by omega)]; exact m2
  · rw [hi_sI, if_neg (by omega), hi_sI, if_neg (by omega)]; exact m4 d' hd' h6
/-- a reference that closes no ring -/
theorem AC_add {n d o : Nat} {r r' : Nat → Nat → Bool} (hn6 : n ≤ 6) (hd : d < n) (ho : o < n) (ha : AC n r) (hl : ldF r 6 o d = false) (h : ∀ a, a < n → ∀ k, k < 6 → r' a k = true → r a k = true ∨ (a = d ∧ k = o)) : AC n r' := by
  obtain ⟨rk, hrk⟩ := ha
  obtain ⟨D, hD⟩ := Dist_ex 6 (fun q => q = o) (rad r n)
  have hlt : ∀ a, a < n → ∀ k, k < 6 → r a k = true → k < n := fun a ha k hk q => (hrk a ha k hk q).1
  have hdn : D d = none := by
    cases e : D d with
    | none => rfl
    | some k =>
      have := (ld_D hn6 ho hlt hD d hd).mpr (by rw [e]; exact fun z => nomatch z)
      rw [hl] at this
      exact absurd this (by decide)
  have hoo : D o = some 0 := hD.1 o (by omega) rfl
  refine ⟨fun x => match D x with | none => rk x + rk o + 1 | some _ => rk x, fun a ha k hk q => ?_⟩
  rcases h a ha k hk q with h | ⟨rfl, rfl⟩
  · obtain ⟨k6, hlk⟩ := hrk a ha k hk h
    refine ⟨k6, ?_⟩
    cases ea : D a with
    | none =>
      cases ek : D k with
      | none => simp only [ea, ek]; omega
      | some j => simp only [ea, ek]; omega
    | some j =>
      obtain ⟨j', ej, -⟩ := hD.2.2 a k (by omega) (by omega) ⟨ha, k6, h⟩ j ea
      simp only [ea, ej]
      exact hlk
  · refine ⟨ho, ?_⟩
    simp only [hdn, hoo]
    omega
theorem rX_lt {g h : am_H} {n : Nat} {t : Nat → Nat → Int32} {x : Nat → Nat → Bool} (hT : MT h n t x (rX g)) : ∀ a, a < n → ∀ k, rX g a k = true → k < n := fun a ha k q => by
  obtain ⟨-, -, -, -, -, -, rk, w⟩ := hT
  have h6 : k < 6 := by
    unfold rX at q
    rw [Bool.and_eq_true, decide_eq_true_iff] at q
    exact q.1
  exact (w a ha k h6 q).1
theorem MI_ref {g h : am_H} {n np nq d o : Nat} {b : Bool} (hd : d < n) (ho : o < n) (hp : np ≤ 20) (hq : nq ≤ 30) (hb : b = true → ldF (rX g) 6 o d = false) (m : MI g h n np nq) : MI (am_sR g (103 + 4 * d) o (if b = true then 100 + 4 * o else 0)) (am_sI h 17 d (if b = true then hi_ h 17 d ||| ((nI 1) <<< ((nI o) &&& 31)) else hi_ h 17 d &&& (((nI 1) <<< ((nI o) &&& 31)) ^^^ -1))) n np nq := by
  obtain ⟨⟨a1, a2, a3, a4, a5, a6, a7⟩, m2, m3, m4, m5, m6⟩ := m
  generalize hY : (if b = true then hi_ h 17 d ||| ((nI 1) <<< ((nI o) &&& 31)) else hi_ h 17 d &&& (((nI 1) <<< ((nI o) &&& 31)) ^^^ -1)) = Y
  have e : am_eq (fun q => q = 103 + 4 * d) g (am_sR g (103 + 4 * d) o (if b = true then 100 + 4 * o else 0)) := am_eq_sR rfl
  have e' : am_eq (fun q => q = 17) h (am_sI h 17 d Y) := am_eq_sI rfl
  have hr : ∀ a k, rX (am_sR g (103 + 4 * d) o (if b = true then 100 + 4 * o else 0)) a k = if a = d ∧ k = o then b else rX g a k := fun a k => by
    unfold rX rC
    rw [hr_sR]
    by_cases z : a = d ∧ k = o
    · rw [if_pos z, if_pos ⟨by rw [z.1], z.2⟩, decide_eq_true (show k < 6 by omega)]
      cases b
      · rfl
      · rw [if_pos rfl, decide_eq_true (show 100 + 4 * o ≠ 0 by omega)]; rfl
    · rw [if_neg z, if_neg (by omega)]
  refine ⟨⟨a1, a2, ?_, fun d' hd' s' hs' => ?_, fun d' hd' c' hc' => ?_, fun d' hd' k hk => ?_, ?_⟩, ?_, MIl_eq (fun d' _ => by omega) ⟨by decide, by decide⟩ e e' m3, fun d' hd' h6 => ?_, MIp_eq (fun i _ => ⟨by omega, by omega, by omega⟩) ⟨by decide, by decide, by decide⟩ e e' m5, MIq_eq (fun i _ => ⟨by omega, by omega, by omega⟩) ⟨by decide, by decide, by decide, by decide⟩ e e' m6⟩
  · rw [hi_sI, if_neg (by omega)]; exact a3
  · rw [hi_sI, if_neg (by omega)]; exact a4 d' hd' s' hs'
  · rw [hi_sI, if_neg (by omega)]; exact a5 d' hd' c' hc'
  · have q := a6 d' hd' k hk
    rw [hr, hi_sI]
    by_cases zd : d' = d
    · subst zd
      rw [if_pos ⟨rfl, rfl⟩, ← hY]
      have key : bt (if b = true then hi_ h 17 d' ||| ((nI 1) <<< ((nI o) &&& 31)) else hi_ h 17 d' &&& (((nI 1) <<< ((nI o) &&& 31)) ^^^ -1)) k = if k = o then b else bt (hi_ h 17 d') k := by
        cases b
        · rw [if_neg (by decide), b_clr (by omega) (by omega)]
          by_cases z : k = o
          · rw [if_pos z, decide_eq_true z]; simp
          · rw [if_neg z, decide_eq_false z]; simp
        · rw [if_pos rfl, b_set (by omega) (by omega)]
          by_cases z : k = o
          · rw [if_pos z, decide_eq_true z]; simp
          · rw [if_neg z, decide_eq_false z]; simp
      rw [key]
      by_cases z : k = o
      · rw [if_pos z, if_pos ⟨rfl, z⟩]
      · rw [if_neg z, if_neg (fun w => z w.2)]
        exact q
    · rw [if_neg (fun w => zd w.2), if_neg (fun w => zd w.1)]
      exact q
  · by_cases hbb : b = true
    · refine AC_add a2 hd ho a7 (hb hbb) (fun a ha k hk q => ?_)
      rw [hr] at q
      by_cases z : a = d ∧ k = o
      · exact Or.inr z
      · rw [if_neg z] at q; exact Or.inl q
    · obtain ⟨rk, w⟩ := a7
      refine ⟨rk, fun a ha k hk q => w a ha k hk ?_⟩
      rw [hr] at q
      by_cases z : a = d ∧ k = o
      · rw [if_pos z] at q; exact absurd q hbb
      · rw [if_neg z] at q; exact q
  · rw [hi_sI, if_neg (by omega), hi_sI, if_neg (by omega)]; exact m2
  · rw [hi_sI, if_neg (by omega), hi_sI, if_neg (by omega)]; exact m4 d' hd' h6
theorem MI_lock {g h : am_H} {n np nq d : Nat} {P : Int32} (hd : d < n) (hP : OKs P) (hp : np ≤ 20) (hq : nq ≤ 30) (m : MI g h n np nq) : MI (am_sI g (100 + 4 * d) 3 P) (am_sI h 18 d P) n np nq := by
  obtain ⟨m1, m2, m3, m4, m5, m6⟩ := m
  have n6 := m1.2.1
  have e : am_eq (fun q => q = 100 + 4 * d) g (am_sI g (100 + 4 * d) 3 P) := am_eq_sI rfl
  have e' : am_eq (fun q => q = 18) h (am_sI h 18 d P) := am_eq_sI rfl
  refine ⟨MT_g (fun d' _ => ⟨by omega, by omega, by omega⟩) e (MT_eq (fun q z => by omega) e' (am_le_sI _ _ _ _) m1), ?_, fun d' hd' => ?_, MIz_eq ⟨by decide, by decide⟩ e' m4, ?_, MIq_eq (fun i _ => ⟨by omega, by omega, by omega⟩) ⟨by decide, by decide, by decide, by decide⟩ e e' m6⟩
  · rw [hi_sI, if_neg (by omega), hi_sI, if_neg (by omega)]; exact m2
  · obtain ⟨w1, w2, w3, w4⟩ := m3 d' hd'
    rw [hi_sI, hi_sI, hi_sI, if_neg (show ¬ (19 = 18 ∧ d' = d) by omega), hi_sI, if_neg (show ¬ (100 + 4 * d' = 100 + 4 * d ∧ 4 = 3) by omega)]
    by_cases z : d' = d
    · rw [if_pos ⟨rfl, z⟩, if_pos ⟨by rw [z], rfl⟩]
      exact ⟨rfl, w2, hP, w4⟩
    · rw [if_neg (fun w => z w.2), if_neg (by omega)]
      exact ⟨w1, w2, w3, w4⟩
  · exact MIp_eq (fun i _ => ⟨by omega, by omega, by omega⟩) ⟨by decide, by decide, by decide⟩ e e' m5
theorem MI_lend {g h : am_H} {n np nq d : Nat} {P : Int32} (hd : d < n) (hP : OKs P) (hp : np ≤ 20) (hq : nq ≤ 30) (m : MI g h n np nq) : MI (am_sI g (100 + 4 * d) 4 P) (am_sI h 19 d P) n np nq := by
  obtain ⟨m1, m2, m3, m4, m5, m6⟩ := m
  have n6 := m1.2.1
  have e : am_eq (fun q => q = 100 + 4 * d) g (am_sI g (100 + 4 * d) 4 P) := am_eq_sI rfl
  have e' : am_eq (fun q => q = 19) h (am_sI h 19 d P) := am_eq_sI rfl
  refine ⟨MT_g (fun d' _ => ⟨by omega, by omega, by omega⟩) e (MT_eq (fun q z => by omega) e' (am_le_sI _ _ _ _) m1), ?_, fun d' hd' => ?_, MIz_eq ⟨by decide, by decide⟩ e' m4, MIp_eq (fun i _ => ⟨by omega, by omega, by omega⟩) ⟨by decide, by decide, by decide⟩ e e' m5, MIq_eq (fun i _ => ⟨by omega, by omega, by omega⟩) ⟨by decide, by decide, by decide, by decide⟩ e e' m6⟩
  · rw [hi_sI, if_neg (by omega), hi_sI, if_neg (by omega)]; exact m2
  · obtain ⟨w1, w2, w3, w4⟩ := m3 d' hd'
    rw [hi_sI, if_neg (show ¬ (18 = 19 ∧ d' = d) by omega), hi_sI, if_neg (show ¬ (100 + 4 * d' = 100 + 4 * d ∧ 3 = 4) by omega), hi_sI, hi_sI]
    by_cases z : d' = d
    · rw [if_pos ⟨rfl, z⟩, if_pos ⟨by rw [z], rfl⟩]
      exact ⟨w1, rfl, w3, hP⟩
    · rw [if_neg (fun w => z w.2), if_neg (by omega)]
      exact ⟨w1, w2, w3, w4⟩
