/-! ===== references: ranks, fuel, fixed points ===== -/
/-- no chain of references from d is longer than j -/
def gd (r : Nat → Nat → Bool) : Nat → Nat → Prop
  | 0, d => ∀ k, k < 6 → r d k = false
  | j + 1, d => ∀ k, k < 6 → r d k = true → gd r j k
theorem gd_mono {r : Nat → Nat → Bool} : ∀ (j d : Nat), gd r j d → gd r (j + 1) d
  | 0, d, h => fun k hk z => by rw [h k hk] at z; cases z
  | j + 1, d, h => fun k hk z => gd_mono j k (h k hk z)
theorem gd_le {r : Nat → Nat → Bool} {i d : Nat} (h : gd r i d) : ∀ j, i ≤ j → gd r j d := fun j hj => by
  induction j with
  | zero => rwa [Nat.le_zero.mp hj] at h
  | succ j ih =>
    rcases Nat.lt_or_eq_of_le hj with z | z
    · exact gd_mono j d (ih (by omega))
    · rwa [z] at h
theorem gd_chain {r : Nat → Nat → Bool} : ∀ (j d : Nat), ¬ gd r j d → ∃ f : Nat → Nat, f 0 = d ∧ ∀ i, i ≤ j → f (i + 1) < 6 ∧ r (f i) (f (i + 1)) = true
  | 0, d, h => by
    obtain ⟨k, h⟩ := Classical.not_forall.mp h
    obtain ⟨hk, h⟩ := Classical.not_imp.mp h
    refine ⟨fun i => if i = 0 then d else k, rfl, fun i hi => ?_⟩
    obtain rfl : i = 0 := by omega
    refine ⟨hk, ?_⟩
    show r d k = true
    cases e : r d k
    · exact absurd e h
    · rfl
  | j + 1, d, h => by
    obtain ⟨k, h⟩ := Classical.not_forall.mp h
    obtain ⟨hk, h⟩ := Classical.not_imp.mp h
    obtain ⟨hr, h⟩ := Classical.not_imp.mp h
    obtain ⟨f, f0, f1⟩ := gd_chain j k h
    refine ⟨fun i => if i = 0 then d else f (i - 1), rfl, fun i hi => ?_⟩
    by_cases z : i = 0
    · subst z
      show f 0 < 6 ∧ r d (f 0) = true
      rw [f0]
      exact ⟨hk, hr⟩
    · obtain ⟨i', rfl⟩ : ∃ i', i = i' + 1 := ⟨i - 1, by omega⟩
      show f (i' + 1) < 6 ∧ r (f i') (f (i' + 1)) = true
      exact f1 i' (by omega)
/-- references never go in a circle -/
def AC (n : Nat) (r : Nat → Nat → Bool) : Prop := ∃ rk : Nat → Nat, ∀ d, d < n → ∀ k, k < 6 → r d k = true → k < n ∧ rk k < rk d
theorem gd_all {n : Nat} {r : Nat → Nat → Bool} (hn : n ≤ 6) (h : AC n r) (d : Nat) (hd : d < n) : gd r 5 d := by
  refine Classical.byContradiction fun q => ?_
  obtain ⟨f, f0, f1⟩ := gd_chain 5 d q
  obtain ⟨rk, hr⟩ := h
  have hf : ∀ i, i ≤ 6 → f i < n := fun i => by
    induction i with
    | zero => intro _; rw [f0]; exact hd
    | succ i ih =>
      intro hi
      have := f1 i (by omega)
      exact (hr _ (ih (by omega)) _ this.1 this.2).1
  have hk : ∀ i j, i < j → j ≤ 6 → rk (f j) < rk (f i) := fun i j => by
    induction j with
    | zero => intro q; omega
    | succ j ih =>
      intro h1 h2
      have := f1 j (by omega)
      have := (hr _ (hf j (by omega)) _ this.1 this.2).2
      rcases Nat.lt_or_eq_of_le (Nat.le_of_lt_succ h1) with z | z
      · have := ih z (by omega)
        omega
      · rw [z]; exact this
  obtain ⟨i, j, h1, h2, h3⟩ := ph_ 6 f (fun i hi => by have := hf i hi; omega)
  have := hk i j h1 h2
  rw [h3] at this
  omega
theorem fst6_none {g : Nat → Int32} : ∀ (m i : Nat), (∀ k, i ≤ k → k < i + m → g k = -1) → fst6 g i m = -1
  | 0, _, _ => rfl
  | m + 1, i, h => by rw [fst6_skip (h i (by omega) (by omega))]; exact fst6_none m (i + 1) (fun k h1 h2 => h k (by omega) (by omega))
theorem fst6_app {g : Nat → Int32} : ∀ (a i b : Nat), (∀ k, i + a ≤ k → k < i + a + b → g k = -1) → fst6 g i (a + b) = fst6 g i a
  | 0, i, b, h => by rw [Nat.zero_add]; exact fst6_none b i (fun k h1 h2 => h k (by omega) (by omega))
  | a + 1, i, b, h => by
    rw [show a + 1 + b = (a + b) + 1 by omega]
    show (if g i = -1 then fst6 g (i + 1) (a + b) else g i) = (if g i = -1 then fst6 g (i + 1) a else g i)
    rw [fst6_app a (i + 1) b (fun k h1 h2 => h k (by omega) (by omega))]
theorem any6_none {g : Nat → Bool} : ∀ (m i : Nat), (∀ k, i ≤ k → k < i + m → g k = false) → any6 g i m = false
  | 0, _, _ => rfl
  | m + 1, i, h => by rw [any6_skip (h i (by omega) (by omega))]; exact any6_none m (i + 1) (fun k h1 h2 => h k (by omega) (by omega))
theorem any6_ex {g : Nat → Bool} : ∀ (m i : Nat), any6 g i m = true ↔ ∃ k, i ≤ k ∧ k < i + m ∧ g k = true
  | 0, i => ⟨(fun h => nomatch h), (fun ⟨k, h1, h2, _⟩ => absurd h2 (by omega))⟩
  | m + 1, i => by
    show (g i || any6 g (i + 1) m) = true ↔ _
    rw [Bool.or_eq_true, any6_ex m (i + 1)]
    constructor
    · rintro (h | ⟨k, h1, h2, h3⟩)
      · exact ⟨i, by omega, by omega, h⟩
      · exact ⟨k, by omega, by omega, h3⟩
    · rintro ⟨k, h1, h2, h3⟩
      rcases Nat.lt_or_eq_of_le h1 with z | z
      · exact Or.inr ⟨k, by omega, by omega, h3⟩
      · subst z
        exact Or.inl h3
theorem sd_fuel {t : Nat → Nat → Int32} {r : Nat → Nat → Bool} {s : Nat} : ∀ (j d f : Nat), gd r j d → j ≤ f → sdF t r f d s = sdF t r j d s
  | 0, d, 0, _, _ => rfl
  | 0, d, f + 1, h, _ => by
    show (if t d s = -1 then _ else _) = t d s
    by_cases z : t d s = -1
    · rw [if_pos z, z, fst6_none 6 0 (fun k _ hk => by rw [h k (by omega)]; rfl)]
    · rw [if_neg z]
  | j + 1, d, 0, _, hj => absurd hj (by omega)
  | j + 1, d, f + 1, h, hj => by
    show (if t d s = -1 then _ else _) = (if t d s = -1 then _ else _)
    rw [fst6_congr 6 0 (fun k _ hk => ?_)]
    by_cases z : r d k = true
    · rw [if_pos z, if_pos z, sd_fuel j k f (h k (by omega) z) (by omega)]
    · rw [if_neg z, if_neg z]
theorem ex_fuel {x r : Nat → Nat → Bool} {c : Nat} : ∀ (j d f : Nat), gd r j d → j ≤ f → exF x r f d c = exF x r j d c
  | 0, d, 0, _, _ => rfl
  | 0, d, f + 1, h, _ => by
    show (x d c || _) = x d c
    rw [any6_none 6 0 (fun k _ hk => by rw [h k (by omega)]; rfl), Bool.or_false]
  | j + 1, d, 0, _, hj => absurd hj (by omega)
  | j + 1, d, f + 1, h, hj => by
    show (x d c || _) = (x d c || _)
    rw [any6_congr 6 0 (fun k _ hk => ?_)]
    cases z : r d k
    · rfl
    · rw [ex_fuel j k f (h k (by omega) z) (by omega)]
theorem V_eq {t : Nat → Nat → Int32} {r : Nat → Nat → Bool} {n d s : Nat} (hn : n ≤ 6) (h : AC n r) (hd : d < n) : sdF t r 6 d s = if t d s = -1 then fst6 (fun k => if r d k = true then sdF t r 6 k s else -1) 0 6 else t d s := by
  show (if t d s = -1 then _ else _) = _
  rw [fst6_congr 6 0 (fun k _ hk => ?_)]
  by_cases z : r d k = true
  · rw [if_pos z, if_pos z]
    have g4 := gd_all hn h d hd k (by omega) z
    rw [sd_fuel 4 k 5 g4 (by omega), sd_fuel 4 k 6 g4 (by omega)]
  · rw [if_neg z, if_neg z]
theorem E_eq {x r : Nat → Nat → Bool} {n d c : Nat} (hn : n ≤ 6) (h : AC n r) (hd : d < n) : exF x r 6 d c = (x d c || any6 (fun k => r d k && exF x r 6 k c) 0 6) := by
  show (x d c || _) = _
  rw [any6_congr 6 0 (fun k _ hk => ?_)]
  cases z : r d k
  · rfl
  · have g4 := gd_all hn h d hd k (by omega) z
    rw [ex_fuel 4 k 5 g4 (by omega), ex_fuel 4 k 6 g4 (by omega)]
/-- what the model finds of one side, S being what stands at the other drawings -/
def fnd (t : Nat → Nat → Int32) (r : Nat → Nat → Bool) (S : Nat → Int32) (n d s : Nat) : Int32 := if t d s = -1 then fst6 (fun k => if r d k = true then S k else -1) 0 n else t d s
theorem fnd_V {t : Nat → Nat → Int32} {r : Nat → Nat → Bool} {S : Nat → Int32} {n d s : Nat} (hn : n ≤ 6) (h : AC n r) (hd : d < n) (hS : ∀ k, k < n → r d k = true → S k = sdF t r 6 k s) : fnd t r S n d s = sdF t r 6 d s := by
  rw [V_eq hn h hd]
  unfold fnd
  have hlt : ∀ k, k < 6 → r d k = true → k < n := fun k hk z => by
    obtain ⟨rk, hr⟩ := h
    exact (hr d hd k hk z).1
  have e2 : fst6 (fun k => if r d k = true then sdF t r 6 k s else -1) 0 (n + (6 - n)) = fst6 (fun k => if r d k = true then sdF t r 6 k s else -1) 0 n := fst6_app n 0 (6 - n) (fun k h1 h2 => if_neg (fun z => by have := hlt k (by omega) z; omega))
  rw [show n + (6 - n) = 6 by omega] at e2
  rw [e2, fst6_congr n 0 (fun k _ hk => ?_)]
  by_cases z : r d k = true
  · rw [if_pos z, if_pos z, hS k (by omega) z]
  · rw [if_neg z, if_neg z]
/-- nothing, or not below nothing -/
def OKs (x : Int32) : Prop := x = -1 ∨ ¬ x < 0
theorem OKs_fst {g : Nat → Int32} : ∀ (m i : Nat), (∀ k, i ≤ k → k < i + m → OKs (g k)) → OKs (fst6 g i m)
  | 0, _, _ => Or.inl rfl
  | m + 1, i, h => by
    show OKs (if g i = -1 then fst6 g (i + 1) m else g i)
    by_cases z : g i = -1
    · rw [if_pos z]; exact OKs_fst m (i + 1) (fun k h1 h2 => h k (by omega) (by omega))
    · rw [if_neg z]; exact h i (by omega) (by omega)
theorem OKs_fnd {t : Nat → Nat → Int32} {r : Nat → Nat → Bool} {S : Nat → Int32} {n d s : Nat} (ht : OKs (t d s)) (hS : ∀ k, k < n → OKs (S k)) : OKs (fnd t r S n d s) := by
  unfold fnd
  by_cases z : t d s = -1
  · rw [if_pos z]
    refine OKs_fst n 0 (fun k _ hk => ?_)
    by_cases w : r d k = true
    · rw [if_pos w]; exact hS k (by omega)
    · rw [if_neg w]; exact Or.inl rfl
  · rw [if_neg z]; exact ht
