/-! ===== the model's rooms and ways: theory ===== -/
theorem opn_lt {v : Int32} (h : OKs v) : v < 1 ↔ opn v := by
  constructor
  · intro q
    rcases h with e | e
    · exact Or.inl e
    · obtain ⟨j, hj, rfl⟩ := nI_of e
      have : j < 1 := (nI_ltI hj (by decide)).mp q
      exact Or.inr (by rw [show j = 0 by omega]; rfl)
  · rintro (rfl | rfl) <;> decide
theorem PR_ex (sd : Nat → Int32) : ∀ i, i ≤ 40 → ∃ ro, PR sd i ro
  | 0, _ => ⟨_, PR_0 sd⟩
  | i + 1, h => by
    obtain ⟨ro, hr⟩ := PR_ex sd i (by omega)
    by_cases o : opn (sd i)
    · exact ⟨_, PR_join hr (by omega) o⟩
    · exact ⟨_, PR_skip hr o⟩
/-- open sides join cells -/
def oad (sd : Nat → Int32) (a b : Nat) : Prop := ∃ s, s < 40 ∧ opn (sd s) ∧ ((a = fc_ s ∧ b = sc_ s) ∨ (a = sc_ s ∧ b = fc_ s))
/-- labels: never below the room's name, always a cell of the room -/
def RLm (ro L : Nat → Nat) : Prop := ∀ c, c < 25 → ro c ≤ L c ∧ L c < 25 ∧ ro (L c) = ro c
def RB (ro : Nat → Nat) (D : Nat → Option Nat) (j : Nat) (L : Nat → Nat) : Prop := RLm ro L ∧ ∀ c, c < 25 → ∀ k, D c = some k → k ≤ j → L c = ro c
def RI (sd : Nat → Int32) (ro : Nat → Nat) (D : Nat → Option Nat) (j s : Nat) (L : Nat → Nat) : Prop := RB ro D j L ∧ ∀ s1, s1 < s → opn (sd s1) → ∀ k, k ≤ j → (D (fc_ s1) = some k ∨ D (sc_ s1) = some k) → L (fc_ s1) = ro (fc_ s1) ∧ L (sc_ s1) = ro (sc_ s1)
def RLs (L : Nat → Nat) (s : Nat) (c : Nat) : Nat := if c = sc_ s then min (L (fc_ s)) (L (sc_ s)) else if c = fc_ s then min (L (fc_ s)) (L (sc_ s)) else L c
theorem RI_step {sd : Nat → Int32} {ro : Nat → Nat} {D : Nat → Option Nat} {j s : Nat} {L : Nat → Nat} (hro : RoomOK sd ro) (hs : s < 40) (ho : opn (sd s)) (h : RI sd ro D j s L) : RI sd ro D j (s + 1) (RLs L s) := by
  obtain ⟨⟨h1, h2⟩, h3⟩ := h
  have hf := fc_lt hs
  have hg := sc_lt hs
  have e := hro.1 s hs ho
  obtain ⟨f1, f2, f3⟩ := h1 _ hf
  obtain ⟨g1, g2, g3⟩ := h1 _ hg
  have hmr : ro (min (L (fc_ s)) (L (sc_ s))) = ro (fc_ s) := by
    rcases Nat.le_total (L (fc_ s)) (L (sc_ s)) with z | z
    · rw [Nat.min_eq_left z]; exact f3
    · rw [Nat.min_eq_right z, g3]; exact e.symm
  have hl : RLm ro (RLs L s) := fun c hc => by
    unfold RLs
    by_cases z : c = sc_ s
    · rw [if_pos z, z, hmr]; exact ⟨by omega, by omega, e⟩
    · by_cases w : c = fc_ s
      · rw [if_neg z, if_pos w, w, hmr]; exact ⟨by omega, by omega, rfl⟩
      · rw [if_neg z, if_neg w]; exact h1 c hc
  have mono : ∀ c, c < 25 → L c = ro c → RLs L s c = ro c := fun c hc q => by
    unfold RLs
    by_cases z : c = sc_ s
    · rw [if_pos z]; subst z; omega
    · by_cases w : c = fc_ s
      · rw [if_neg z, if_pos w]; subst w; omega
      · rw [if_neg z, if_neg w]; exact q
  have both : (L (fc_ s) = ro (fc_ s) ∨ L (sc_ s) = ro (sc_ s)) → RLs L s (fc_ s) = ro (fc_ s) ∧ RLs L s (sc_ s) = ro (sc_ s) := fun q => by
    have hm : min (L (fc_ s)) (L (sc_ s)) = ro (fc_ s) := by omega
    unfold RLs
    constructor
    · by_cases z : fc_ s = sc_ s
      · rw [if_pos z]; exact hm
      · rw [if_neg z, if_pos rfl]; exact hm
    · rw [if_pos rfl, hm]; exact e
  refine ⟨⟨hl, fun c hc k hk hkj => mono c hc (h2 c hc k hk hkj)⟩, fun s1 hs1 ho1 k hkj hk => ?_⟩
  rcases Nat.lt_or_eq_of_le (Nat.le_of_lt_succ hs1) with z | z
  · obtain ⟨a, b⟩ := h3 s1 z ho1 k hkj hk
    exact ⟨mono _ (fc_lt (by omega)) a, mono _ (sc_lt (by omega)) b⟩
  · subst z
    exact both (hk.elim (fun q => Or.inl (h2 _ hf k q hkj)) (fun q => Or.inr (h2 _ hg k q hkj)))
theorem RI_skip {sd : Nat → Int32} {ro : Nat → Nat} {D : Nat → Option Nat} {j s : Nat} {L : Nat → Nat} (ho : ¬ opn (sd s)) (h : RI sd ro D j s L) : RI sd ro D j (s + 1) L :=
  ⟨h.1, fun s1 hs1 ho1 k hkj hk => by
    rcases Nat.lt_or_eq_of_le (Nat.le_of_lt_succ hs1) with z | z
    · exact h.2 s1 z ho1 k hkj hk
    · subst z; exact absurd ho1 ho⟩
theorem RI_end {sd : Nat → Int32} {ro : Nat → Nat} {D : Nat → Option Nat} {j : Nat} {L : Nat → Nat} (hD : DistOK 25 (fun c => ro c = c) (oad sd) D) (h : RI sd ro D j 40 L) : RB ro D (j + 1) L := by
  refine ⟨h.1.1, fun c hc k hk hkj => ?_⟩
  rcases Nat.lt_or_eq_of_le hkj with z | z
  · exact h.1.2 c hc k hk (by omega)
  · rcases hD.2.1 c hc k hk with ⟨e, -⟩ | ⟨c', k', hc', ⟨s, hs, ho, hh⟩, e2, e3⟩
    · omega
    · rcases hh with ⟨rfl, rfl⟩ | ⟨rfl, rfl⟩
      · exact (h.2 s hs ho k' (by omega) (Or.inl e2)).2
      · exact (h.2 s hs ho k' (by omega) (Or.inr e2)).1
theorem RB_0 {sd : Nat → Int32} {ro : Nat → Nat} {D : Nat → Option Nat} (hro : RoomOK sd ro) (hD : DistOK 25 (fun c => ro c = c) (oad sd) D) : RB ro D 0 (fun c => c) := by
  refine ⟨fun c hc => ⟨(hro.2 c hc).1, hc, rfl⟩, fun c hc k hk hk0 => ?_⟩
  rcases hD.2.1 c hc k hk with ⟨-, e⟩ | ⟨c', k', -, -, -, e3⟩
  · exact e.symm
  · omega
theorem RB_25 {sd : Nat → Int32} {ro : Nat → Nat} {D : Nat → Option Nat} {L : Nat → Nat} (hro : RoomOK sd ro) (hD : DistOK 25 (fun c => ro c = c) (oad sd) D) (h : RB ro D 25 L) (c : Nat) (hc : c < 25) : L c = ro c := by
  have hr := Room_lt hro hc
  obtain ⟨-, k, hk⟩ := Conn_sy (hro.2 c hc).2 (fun c => c < 25 ∧ ∃ k, D c = some k) ⟨hr, 0, hD.1 _ hr (Room_id hro hc)⟩ (fun s hs ho => by
    constructor
    · rintro ⟨q1, k, q2⟩
      obtain ⟨k', e, -⟩ := hD.2.2 _ _ q1 (sc_lt hs) ⟨s, hs, ho, Or.inl ⟨rfl, rfl⟩⟩ k q2
      exact ⟨sc_lt hs, k', e⟩
    · rintro ⟨q1, k, q2⟩
      obtain ⟨k', e, -⟩ := hD.2.2 _ _ q1 (fc_lt hs) ⟨s, hs, ho, Or.inr ⟨rfl, rfl⟩⟩ k q2
      exact ⟨fc_lt hs, k', e⟩)
  exact h.2 c hc k hk (by have := Dist_lt hD hc hk; omega)
/-- what stands for the way out: never too little, 99 for none -/
def WL (D : Nat → Option Nat) (w : Nat → Nat) : Prop := ∀ r, r < 25 → w r ≤ 99 ∧ (∀ k, D r = some k → k ≤ w r) ∧ (D r = none → w r = 99)
def WB (D : Nat → Option Nat) (j : Nat) (w : Nat → Nat) : Prop := WL D w ∧ ∀ r, r < 25 → ∀ k, D r = some k → k ≤ j → w r ≤ k
def WI (sd : Nat → Int32) (ro : Nat → Nat) (D : Nat → Option Nat) (j s : Nat) (w : Nat → Nat) : Prop := WB D j w ∧ ∀ s1, s1 < s → sd s1 = 2 → ∀ k, k ≤ j → (D (ro (fc_ s1)) = some k → w (ro (sc_ s1)) ≤ k + 1) ∧ (D (ro (sc_ s1)) = some k → w (ro (fc_ s1)) ≤ k + 1)
/-- one place takes another's and one more, if that is less -/
def Wst (w : Nat → Nat) (a b : Nat) (r : Nat) : Nat := if r = a then (if w b + 1 < w a then w b + 1 else w a) else w r
theorem Wst_le (w : Nat → Nat) (a b r : Nat) : Wst w a b r ≤ w r := by
  unfold Wst
  by_cases z : r = a
  · rw [if_pos z, z]; split <;> omega
  · rw [if_neg z]; exact Nat.le_refl _
theorem Wst_a (w : Nat → Nat) (a b : Nat) : Wst w a b a ≤ w b + 1 := by
  unfold Wst
  rw [if_pos rfl]
  split <;> omega
theorem WL_st {src : Nat → Prop} {adj : Nat → Nat → Prop} {D : Nat → Option Nat} {w : Nat → Nat} {a b : Nat} (hD : DistOK 25 src adj D) (hsy : ∀ a b, adj a b → adj b a) (ha : a < 25) (hb : b < 25) (hab : adj a b) (h : WL D w) : WL D (Wst w a b) := by
  intro r hr
  unfold Wst
  by_cases z : r = a
  · rw [if_pos z, z]
    obtain ⟨a1, a2, a3⟩ := h a ha
    obtain ⟨b1, b2, b3⟩ := h b hb
    by_cases q : w b + 1 < w a
    · rw [if_pos q]
      refine ⟨by omega, fun k hk => ?_, fun hk => ?_⟩
      · cases e : D b with
        | none => have := b3 e; omega
        | some k' =>
          have := b2 k' e
          obtain ⟨k2, e2, e3⟩ := hD.2.2 b a hb ha (hsy a b hab) k' e
          rw [hk] at e2
          cases e2
          omega
      · cases e : D b with
        | none => have := b3 e; omega
        | some k' =>
          obtain ⟨k2, e2, e3⟩ := hD.2.2 b a hb ha (hsy a b hab) k' e
          rw [hk] at e2
          cases e2
    · rw [if_neg q]; exact ⟨a1, a2, a3⟩
  · rw [if_neg z]; exact h r hr
theorem WI_step {sd : Nat → Int32} {ro : Nat → Nat} {src : Nat → Prop} {D : Nat → Option Nat} {j s : Nat} {w : Nat → Nat} (hD : DistOK 25 src (adjD sd ro) D) (hro : RoomOK sd ro) (hs : s < 40) (h2 : sd s = 2) (h : WI sd ro D j s w) : WI sd ro D j (s + 1) (Wst (Wst w (ro (fc_ s)) (ro (sc_ s))) (ro (sc_ s)) (ro (fc_ s))) := by
  obtain ⟨⟨a1, a2⟩, a3⟩ := h
  have ha := Room_lt hro (fc_lt hs)
  have hb := Room_lt hro (sc_lt hs)
  have hsy : ∀ a b, adjD sd ro a b → adjD sd ro b a := fun _ _ => adjD_sy
  have hab : adjD sd ro (ro (fc_ s)) (ro (sc_ s)) := ⟨s, hs, h2, Or.inl ⟨rfl, rfl⟩⟩
  have le : ∀ r, Wst (Wst w (ro (fc_ s)) (ro (sc_ s))) (ro (sc_ s)) (ro (fc_ s)) r ≤ w r := fun r => Nat.le_trans (Wst_le _ _ _ r) (Wst_le _ _ _ r)
  refine ⟨⟨WL_st hD hsy hb ha (adjD_sy hab) (WL_st hD hsy ha hb hab a1), fun r hr k hk hkj => Nat.le_trans (le r) (a2 r hr k hk hkj)⟩, fun s1 hs1 e1 k hkj => ?_⟩
  rcases Nat.lt_or_eq_of_le (Nat.le_of_lt_succ hs1) with z | z
  · exact ⟨fun q => Nat.le_trans (le _) ((a3 s1 z e1 k hkj).1 q), fun q => Nat.le_trans (le _) ((a3 s1 z e1 k hkj).2 q)⟩
  · subst z
    refine ⟨fun q => ?_, fun q => ?_⟩
    · have x1 := a2 _ ha k q hkj
      have x2 := Wst_a (Wst w (ro (fc_ s1)) (ro (sc_ s1))) (ro (sc_ s1)) (ro (fc_ s1))
      have x3 := Wst_le w (ro (fc_ s1)) (ro (sc_ s1)) (ro (fc_ s1))
      omega
    · have x1 := a2 _ hb k q hkj
      have x2 := Wst_a w (ro (fc_ s1)) (ro (sc_ s1))
      have x3 := Wst_le (Wst w (ro (fc_ s1)) (ro (sc_ s1))) (ro (sc_ s1)) (ro (fc_ s1)) (ro (fc_ s1))
      omega
theorem WI_skip {sd : Nat → Int32} {ro : Nat → Nat} {D : Nat → Option Nat} {j s : Nat} {w : Nat → Nat} (h2 : ¬ sd s = 2) (h : WI sd ro D j s w) : WI sd ro D j (s + 1) w :=
  ⟨h.1, fun s1 hs1 e1 k hkj => by
    rcases Nat.lt_or_eq_of_le (Nat.le_of_lt_succ hs1) with z | z
    · exact h.2 s1 z e1 k hkj
    · subst z; exact absurd e1 h2⟩
theorem WI_end {sd : Nat → Int32} {ro : Nat → Nat} {src : Nat → Prop} {D : Nat → Option Nat} {j : Nat} {w : Nat → Nat} (hD : DistOK 25 src (adjD sd ro) D) (h : WI sd ro D j 40 w) : WB D (j + 1) w := by
  refine ⟨h.1.1, fun c hc k hk hkj => ?_⟩
  rcases Nat.lt_or_eq_of_le hkj with z | z
  · exact h.1.2 c hc k hk (by omega)
  · rcases hD.2.1 c hc k hk with ⟨e, -⟩ | ⟨c', k', hc', ⟨s, hs, ho, hh⟩, e2, e3⟩
    · omega
    · rcases hh with ⟨rfl, rfl⟩ | ⟨rfl, rfl⟩
      · have := (h.2 s hs ho k' (by omega)).1 e2
        omega
      · have := (h.2 s hs ho k' (by omega)).2 e2
        omega
/-- the way out as the model writes it -/
def w99 (o : Option Nat) : Nat := match o with
  | none => 99
  | some k => k
theorem WB_25 {src : Nat → Prop} {adj : Nat → Nat → Prop} {D : Nat → Option Nat} {w : Nat → Nat} (hD : DistOK 25 src adj D) (h : WB D 25 w) (r : Nat) (hr : r < 25) : w r = w99 (D r) := by
  obtain ⟨a1, a2, a3⟩ := h.1 r hr
  cases e : D r with
  | none => exact a3 e
  | some k =>
    have h1 := a2 k e
    have h2 := h.2 r hr k e (by have := Dist_lt hD hr e; omega)
    show w r = k
    omega
/-- behind the pass over the exits -/
theorem WB_0 {src : Nat → Prop} {adj : Nat → Nat → Prop} {D : Nat → Option Nat} {w : Nat → Nat} (hD : DistOK 25 src adj D) (h0 : ∀ r, r < 25 → src r → w r = 0) (h1 : ∀ r, r < 25 → ¬ src r → w r = 99) : WB D 0 w := by
  refine ⟨fun r hr => ?_, fun r hr k hk hk0 => ?_⟩
  · by_cases q : src r
    · rw [h0 r hr q]
      refine ⟨by decide, fun k hk => ?_, fun hk => ?_⟩
      · rw [hD.1 r hr q] at hk; cases hk; exact Nat.le_refl 0
      · rw [hD.1 r hr q] at hk; cases hk
    · rw [h1 r hr q]
      exact ⟨Nat.le_refl _, fun k hk => by have := Dist_lt hD hr hk; omega, fun _ => rfl⟩
  · rcases hD.2.1 r hr k hk with ⟨-, e⟩ | ⟨c', k', -, -, -, e3⟩
    · rw [h0 r hr e]; omega
    · omega
