/-! ===== what is answered agrees; begin, grant, print keep the coupling ===== -/
theorem rX_rC {g : am_H} {d k : Nat} (hk : k < 6) : rX g d k = rC g d k := by unfold rX; rw [decide_eq_true hk]; rfl
theorem sdX {g : am_H} {n : Nat} (hD : DL g n) {d : Nat} (hd : d < n) (s : Nat) : sdF (tC g) (rX g) 6 d s = sdH g d s :=
  (sdF_congr (t := tC g) (t' := tC g) (r := rC g) (r' := rX g) (n := n) (s := s) (rC_lt hD) (fun _ _ => rfl) (fun d _ k hk => (rX_rC hk).symm) 6 d hd).symm
theorem sdXf {g : am_H} {n : Nat} (hD : DL g n) {d : Nat} (hd : d < n) : (fun s => sdF (tC g) (rX g) 6 d s) = sdH g d := funext fun s => sdX hD hd s
theorem exX {g : am_H} {n : Nat} (hD : DL g n) {d : Nat} (hd : d < n) {c : Nat} (hc : c < 25) : exF (xX g) (rX g) 6 d c = exH g d c :=
  (exF_congr (t := xC g) (t' := xX g) (r := rC g) (r' := rX g) (n := n) (s := c) (rC_lt hD) (fun d _ => by unfold xX; rw [decide_eq_true hc]; rfl) (fun d _ k hk => (rX_rC hk).symm) 6 d hd).symm
theorem exX0 {g : am_H} {c : Nat} (hc : ¬ c < 25) : ∀ f d, exF (xX g) (rX g) f d c = false := fun f => by
  induction f with
  | zero => intro d; show xX g d c = false; unfold xX; rw [decide_eq_false hc]; rfl
  | succ f ih =>
    intro d
    show (xX g d c || any6 (fun k => rX g d k && exF (xX g) (rX g) f k c) 0 6) = false
    rw [any6_none 6 0 (fun k _ _ => by show (rX g d k && exF (xX g) (rX g) f k c) = false; rw [ih k, Bool.and_false])]
    unfold xX
    rw [decide_eq_false hc]
    rfl
theorem exX' {g : am_H} {n : Nat} (hD : DL g n) {d : Nat} (hd : d < n) (c : Nat) : exF (xX g) (rX g) 6 d c = (decide (c < 25) && exH g d c) := by
  by_cases hc : c < 25
  · rw [exX hD hd hc, decide_eq_true hc]; rfl
  · rw [exX0 hc, decide_eq_false hc]; rfl
theorem exR_X {g : am_H} {n : Nat} (hD : DL g n) {d : Nat} (hd : d < n) (ro : Nat → Nat) : exR (fun c => exF (xX g) (rX g) 6 d c) ro = exR (exH g d) ro := funext fun r => propext ⟨fun ⟨c, hc, a, b⟩ => ⟨c, hc, a, by rw [← exX hD hd hc]; exact b⟩, fun ⟨c, hc, a, b⟩ => ⟨c, hc, a, by show exF (xX g) (rX g) 6 d c = true; rw [exX hD hd hc]; exact b⟩⟩
theorem VD_X {g : am_H} {n : Nat} (hD : DL g n) {d : Nat} (hd : d < n) {c : Nat} {v : Int32} (h : VD (fun s => sdF (tC g) (rX g) 6 d s) (fun c => exF (xX g) (rX g) 6 d c) c v) : VD (sdH g d) (exH g d) c v := by
  obtain ⟨ro, D, a, b, e⟩ := h
  rw [sdXf hD hd] at a b
  rw [exR_X hD hd] at b
  exact ⟨ro, D, a, b, e⟩
theorem VH_X {g : am_H} {n : Nat} (hD : DL g n) {d : Nat} (hd : d < n) {c : Nat} {v : Int32} (h : VH (fun s => sdF (tC g) (rX g) 6 d s) (fun c => exF (xX g) (rX g) 6 d c) c v) : VH (sdH g d) (exH g d) c v := by
  obtain ⟨ro, D, a, b, e1, e2⟩ := h
  rw [sdXf hD hd] at a b e2
  rw [exR_X hD hd] at b
  exact ⟨ro, D, a, b, e1, e2⟩
theorem VW_X {g : am_H} {n : Nat} (hD : DL g n) {d : Nat} (hd : d < n) {R : Bool} (h : VW (fun s => sdF (tC g) (rX g) 6 d s) (fun c => exF (xX g) (rX g) 6 d c) R) : VW (sdH g d) (exH g d) R := by
  obtain ⟨ro, D, a, b, e⟩ := h
  rw [sdXf hD hd] at a b
  rw [exR_X hD hd] at b
  exact ⟨ro, D, a, b, e⟩
theorem b2i_dn (b : Bool) : decide (b2i b ≠ 0) = b := by cases b <;> rfl
theorem b2i_ij {a b : Bool} (h : b2i a = b2i b) : a = b := by cases a <;> cases b <;> first | rfl | exact absurd h (by decide)
/-- a state that is held -/
theorem MK_KP {g h : am_H} {n a b ko ks i d : Nat} (hD : DL g n) (hd : d < n) (m2 : ∀ s, s < 40 → hi_ h ks (40 * i + s) = hi_ g a s) (m3 : ∀ c, c < 32 → bt (hi_ h ko i) c = (decide (c < 25) && decide (hi_ g b c ≠ 0))) (m4 : ∀ c, c < 25 → hi_ g b c = b2i (decide (hi_ g b c ≠ 0))) : MK h (tC g) (xX g) (rX g) ko ks i d ↔ KP g a b d := by
  constructor
  · rintro ⟨k1, k2⟩
    refine ⟨fun s hs => by rw [← m2 s hs, k2 s hs, sdX hD hd], fun c hc => ?_⟩
    have q := m3 c (by omega)
    rw [k1 c (by omega), exX hD hd hc, decide_eq_true hc, Bool.true_and] at q
    rw [m4 c hc, ← q]
  · rintro ⟨k1, k2⟩
    refine ⟨fun c hc => ?_, fun s hs => by rw [m2 s hs, k1 s hs, sdX hD hd]⟩
    rw [m3 c hc, exX' hD hd]
    by_cases hc5 : c < 25
    · rw [k2 c hc5, b2i_dn]
    · rw [decide_eq_false hc5]; rfl
theorem MT_of {h h' : am_H} {n : Nat} {t : Nat → Nat → Int32} {x r : Nat → Nat → Bool} (hM : FM h') (h0 : hi_ h' 14 0 = hi_ h 14 0) (h5 : ∀ k, hi_ h' 15 k = hi_ h 15 k) (h6 : ∀ k, hi_ h' 16 k = hi_ h 16 k) (h7 : ∀ k, hi_ h' 17 k = hi_ h 17 k) (hT : MT h n t x r) : MT h' n t x r := by
  obtain ⟨-, b, c, d1, e, f, g⟩ := hT
  exact ⟨hM, b, by rw [h0]; exact c, fun d hd s hs => by rw [h5]; exact d1 d hd s hs, fun d hd c hc => by rw [h6]; exact e d hd c hc, fun d hd k hk => by rw [h7]; exact f d hd k hk, g⟩
theorem MI_begin {g g' h h' : am_H} {n np nq : Nat} (hn : n < 6) (hp : np ≤ 20) (hq : nq ≤ 30) (eg : am_eq (SB n) g g') (hN : ND g' n) (m : MI g h n np nq) (e : am_eq (fun q => q = 14 ∨ q = 15 ∨ q = 18 ∨ q = 19) h h') (hM : FM h') (h0 : hi_ h' 14 0 = nI (n + 1)) (hj : ∀ j, j ≠ 0 → j ≠ 19 → hi_ h' 14 j = hi_ h 14 j) (hs : ∀ s, s < 40 → hi_ h' 15 (40 * n + s) = -1) (hb : ∀ b, b < 40 * n → hi_ h' 15 b = hi_ h 15 b) (l1 : hi_ h' 18 n = -1) (l2 : hi_ h' 19 n = -1) (lb : ∀ b, b ≠ n → hi_ h' 18 b = hi_ h 18 b ∧ hi_ h' 19 b = hi_ h 19 b) : MI g' h' (n + 1) np nq := by
  obtain ⟨⟨a1, a2, a3, a4, a5, a6, rk, a7⟩, m2, m3, m4, m5, m6⟩ := m
  obtain ⟨n1, n2, n3, n4, n5⟩ := hN
  have w : ∀ r, 100 ≤ r → r < 420 → r < 100 + 4 * n ∨ 104 + 4 * n ≤ r → ¬ SB n r := fun r a b c z => by unfold SB SL at z; omega
  have e16 := (e 16 (by decide)).2.2.1
  have e17 := (e 17 (by decide)).2.2.1
  have et : ∀ d, d < n → ∀ s, tC g' d s = tC g d s := fun d hd s => (eg _ (w _ (by omega) (by omega) (by omega))).2.2.1 s
  have ex : ∀ d, d < n → ∀ c, xX g' d c = xX g d c := fun d hd c => by unfold xX xC; rw [(eg (102 + 4 * d) (w _ (by omega) (by omega) (by omega))).2.2.1 c]
  have er : ∀ d, d < n → ∀ c, rX g' d c = rX g d c := fun d hd c => by unfold rX rC; rw [(eg (103 + 4 * d) (w _ (by omega) (by omega) (by omega))).2.2.2.1 c]
  have rn : ∀ k, rX g' n k = false := fun k => by unfold rX; rw [n3 k, Bool.and_false]
  refine ⟨⟨hM, by omega, h0, fun d hd s hs' => ?_, fun d hd c hc => ?_, fun d hd k hk => ?_, rk, fun d hd k hk q => ?_⟩, ?_, fun d hd => ?_, fun d hd h6 => ?_, MIp_eq (fun i hi => ⟨w _ (by omega) (by omega) (by omega), w _ (by omega) (by omega) (by omega), w _ (by omega) (by omega) (by omega)⟩) ⟨by decide, by decide, by decide⟩ eg e m5, MIq_eq (fun i hi => ⟨w _ (by omega) (by omega) (by omega), w _ (by omega) (by omega) (by omega), w _ (by omega) (by omega) (by omega)⟩) ⟨by decide, by decide, by decide, by decide⟩ eg e m6⟩
  · by_cases z : d = n
    · subst z
      rw [hs s hs', n1 s hs']
      exact ⟨rfl, Or.inl rfl⟩
    · rw [hb _ (by omega), et d (by omega)]
      exact a4 d (by omega) s hs'
  · rw [e16]
    by_cases z : d = n
    · subst z
      rw [(m4 d (Nat.le_refl d) hn).1, b_0]
      unfold xX
      by_cases c5 : c < 25
      · rw [n2 c c5, Bool.and_false]
      · rw [decide_eq_false c5]; rfl
    · rw [ex d (by omega)]
      exact a5 d (by omega) c hc
  · rw [e17]
    by_cases z : d = n
    · subst z
      rw [(m4 d (Nat.le_refl d) hn).2, b_0, rn]
    · rw [er d (by omega)]
      exact a6 d (by omega) k hk
  · by_cases z : d = n
    · rw [z, rn] at q
      exact absurd q (by decide)
    · rw [er d (by omega)] at q
      have := a7 d (by omega) k hk q
      exact ⟨by omega, this.2⟩
  · rw [hj _ (by decide) (by decide), hj _ (by decide) (by decide)]
    exact m2
  · by_cases z : d = n
    · subst z
      rw [l1, l2, n4, n5]
      exact ⟨rfl, rfl, Or.inl rfl, Or.inl rfl⟩
    · rw [(lb d z).1, (lb d z).2, (eg (100 + 4 * d) (w _ (by omega) (by omega) (by omega))).2.2.1, (eg (100 + 4 * d) (w _ (by omega) (by omega) (by omega))).2.2.1]
      exact m3 d (by omega)
  · rw [e16, e17]
    exact m4 d (by omega) h6
theorem MI_grant {g g' h h' : am_H} {n np nq d : Nat} (hp : np < 20) (hq : nq ≤ 30) (hd : d < n) (hD : DL g n) (eg : am_eq (SG np) g g') (pd : pdH g' np = d) (w2 : ∀ s, s < 40 → hi_ g' (202 + 4 * np) s = sdH g d s) (w3 : ∀ k, k < 25 → hi_ g' (203 + 4 * np) k = b2i (exH g d k)) (m : MI g h n np nq) (e : am_eq (fun q => q = 14 ∨ S4 q ∨ S7 q) h h') (hM : FM h') (h10 : hi_ h' 14 10 = nI (np + 1)) (hj : ∀ j, j ≠ 10 → j ≠ 19 → hi_ h' 14 j = hi_ h 14 j) (p1 : hi_ h' 25 np = nI d) (p3 : ∀ c, c < 32 → bt (hi_ h' 27 np) c = exF (xX g) (rX g) 6 d c) (pb : ∀ b, b ≠ np → hi_ h' 25 b = hi_ h 25 b ∧ hi_ h' 27 b = hi_ h 27 b) (p2 : ∀ s, s < 40 → hi_ h' 26 (40 * np + s) = sdF (tC g) (rX g) 6 d s) (p2b : ∀ b, b < 40 * np → hi_ h' 26 b = hi_ h 26 b) : MI g' h' n (np + 1) nq := by
  obtain ⟨m1, m2, m3, m4, m5, m6⟩ := m
  have n6 := m1.2.1
  have w : ∀ r, 100 ≤ r → r < 420 → r < 200 + 4 * np ∨ 204 + 4 * np ≤ r → ¬ SG np r := fun r a b c z => by unfold SG SL FS at z; omega
  have v : ∀ r, r = 15 ∨ r = 16 ∨ r = 17 ∨ r = 18 ∨ r = 19 ∨ (29 ≤ r ∧ r ≤ 32) → ¬ (r = 14 ∨ S4 r ∨ S7 r) := fun r a z => by unfold S4 S7 at z; omega
  refine ⟨MT_g (fun d' hd' => ⟨w _ (by omega) (by omega) (by omega), w _ (by omega) (by omega) (by omega), w _ (by omega) (by omega) (by omega)⟩) eg (MT_of hM (hj 0 (by decide) (by decide)) (e 15 (v _ (by omega))).2.2.1 (e 16 (v _ (by omega))).2.2.1 (e 17 (v _ (by omega))).2.2.1 m1), ⟨h10, by rw [hj _ (by decide) (by decide)]; exact m2.2⟩, MIl_eq (fun d' hd' => w _ (by omega) (by omega) (by omega)) ⟨v _ (by omega), v _ (by omega)⟩ eg e m3, MIz_eq ⟨v _ (by omega), v _ (by omega)⟩ e m4, fun i hi => ?_, MIq_eq (fun i hi => ⟨w _ (by omega) (by omega) (by omega), w _ (by omega) (by omega) (by omega), w _ (by omega) (by omega) (by omega)⟩) ⟨v _ (by omega), v _ (by omega), v _ (by omega), v _ (by omega)⟩ eg e m6⟩
  by_cases z : i = np
  · subst z
    refine ⟨by rw [p1, pd], fun s hs => by rw [p2 s hs, w2 s hs, sdX hD hd], fun c hc => ?_, fun c hc => by rw [w3 c hc, b2i_dn]⟩
    rw [p3 c hc, exX' hD hd]
    by_cases c5 : c < 25
    · rw [w3 c c5, b2i_dn]
    · rw [decide_eq_false c5]; rfl
  · have hi' : i < np := by omega
    obtain ⟨q1, q2, q3, q4⟩ := m5 i hi'
    have ep : pdH g' i = pdH g i := by unfold pdH; rw [(eg (200 + 4 * i) (w _ (by omega) (by omega) (by omega))).2.2.2.1]
    have e2 := (eg (202 + 4 * i) (w _ (by omega) (by omega) (by omega))).2.2.1
    have e3 := (eg (203 + 4 * i) (w _ (by omega) (by omega) (by omega))).2.2.1
    exact ⟨by rw [(pb i z).1, ep]; exact q1, fun s hs => by rw [p2b _ (by omega), e2]; exact q2 s hs, fun c hc => by rw [(pb i z).2, e3]; exact q3 c hc, fun c hc => by rw [e3]; exact q4 c hc⟩
theorem MI_print {g g' h h' : am_H} {n np nq d : Nat} (hp : np ≤ 20) (hq : nq < 30) (hd : d < n) (hD : DL g n) (eg : am_eq (SP nq) g g') (pd : qdH g' nq = d) (w2 : ∀ s, s < 40 → hi_ g' (302 + 4 * nq) s = sdH g d s) (w3 : ∀ k, k < 25 → hi_ g' (303 + 4 * nq) k = b2i (exH g d k)) (m : MI g h n np nq) (e : am_eq (fun q => q = 14 ∨ S4 q ∨ S8 q) h h') (hM : FM h') (h14 : hi_ h' 14 14 = nI (nq + 1)) (hj : ∀ j, j ≠ 14 → j ≠ 19 → hi_ h' 14 j = hi_ h 14 j) (p1 : hi_ h' 29 nq = nI d) (p3 : ∀ c, c < 32 → bt (hi_ h' 31 nq) c = exF (xX g) (rX g) 6 d c) (pb : ∀ b, b ≠ nq → hi_ h' 29 b = hi_ h 29 b ∧ hi_ h' 31 b = hi_ h 31 b ∧ hi_ h' 32 b = hi_ h 32 b) (p2 : ∀ s, s < 40 → hi_ h' 30 (40 * nq + s) = sdF (tC g) (rX g) 6 d s) (p2b : ∀ b, b < 40 * nq → hi_ h' 30 b = hi_ h 30 b) (p4 : hi_ h' 32 nq = hi_ g' (300 + 4 * nq) 2) (p5 : OKs (hi_ h' 32 nq)) : MI g' h' n np (nq + 1) := by
  obtain ⟨m1, m2, m3, m4, m5, m6⟩ := m
  have n6 := m1.2.1
  have w : ∀ r, 100 ≤ r → r < 420 → r < 300 + 4 * nq ∨ 304 + 4 * nq ≤ r → ¬ SP nq r := fun r a b c z => by unfold SP SL at z; omega
  have v : ∀ r, r = 15 ∨ r = 16 ∨ r = 17 ∨ r = 18 ∨ r = 19 ∨ (25 ≤ r ∧ r ≤ 28) → ¬ (r = 14 ∨ S4 r ∨ S8 r) := fun r a z => by unfold S4 S8 at z; omega
  refine ⟨MT_g (fun d' hd' => ⟨w _ (by omega) (by omega) (by omega), w _ (by omega) (by omega) (by omega), w _ (by omega) (by omega) (by omega)⟩) eg (MT_of hM (hj 0 (by decide) (by decide)) (e 15 (v _ (by omega))).2.2.1 (e 16 (v _ (by omega))).2.2.1 (e 17 (v _ (by omega))).2.2.1 m1), ⟨by rw [hj _ (by decide) (by decide)]; exact m2.1, h14⟩, MIl_eq (fun d' hd' => w _ (by omega) (by omega) (by omega)) ⟨v _ (by omega), v _ (by omega)⟩ eg e m3, MIz_eq ⟨v _ (by omega), v _ (by omega)⟩ e m4, MIp_eq (fun i hi => ⟨w _ (by omega) (by omega) (by omega), w _ (by omega) (by omega) (by omega), w _ (by omega) (by omega) (by omega)⟩) ⟨v _ (by omega), v _ (by omega), v _ (by omega)⟩ eg e m5, fun i hi => ?_⟩
  by_cases z : i = nq
  · subst z
    refine ⟨by rw [p1, pd], fun s hs => by rw [p2 s hs, w2 s hs, sdX hD hd], fun c hc => ?_, fun c hc => by rw [w3 c hc, b2i_dn], p4, p5⟩
    rw [p3 c hc, exX' hD hd]
    by_cases c5 : c < 25
    · rw [w3 c c5, b2i_dn]
    · rw [decide_eq_false c5]; rfl
  · have hi' : i < nq := by omega
    obtain ⟨q1, q2, q3, q4, q5, q6⟩ := m6 i hi'
    have ep : qdH g' i = qdH g i := by unfold qdH; rw [(eg (300 + 4 * i) (w _ (by omega) (by omega) (by omega))).2.2.2.1]
    have e2 := (eg (302 + 4 * i) (w _ (by omega) (by omega) (by omega))).2.2.1
    have e3 := (eg (303 + 4 * i) (w _ (by omega) (by omega) (by omega))).2.2.1
    have e0 := (eg (300 + 4 * i) (w _ (by omega) (by omega) (by omega))).2.2.1
    exact ⟨by rw [(pb i z).1, ep]; exact q1, fun s hs => by rw [p2b _ (by omega), e2]; exact q2 s hs, fun c hc => by rw [(pb i z).2.1, e3]; exact q3 c hc, fun c hc => by rw [e3]; exact q4 c hc, by rw [(pb i z).2.2, e0]; exact q5, by rw [(pb i z).2.2]; exact q6⟩
