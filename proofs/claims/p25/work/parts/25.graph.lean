/-! ===== rooms and doors, purely ===== -/
theorem fc_lt {s : Nat} (hs : s < 40) : fc_ s < 25 := by unfold fc_; split <;> omega
theorem sc_lt {s : Nat} (hs : s < 40) : sc_ s < 25 := by unfold sc_ fc_; split <;> omega
def opn (x : Int32) : Prop := x = -1 ∨ x = 0
/-- a and b are joined over open sides -/
def Conn (sd : Nat → Int32) (a b : Nat) : Prop := ∀ P : Nat → Prop, P a → (∀ s, s < 40 → opn (sd s) → (P (fc_ s) ↔ P (sc_ s))) → P b
theorem Conn_rf (sd : Nat → Int32) (a : Nat) : Conn sd a a := fun _ h _ => h
theorem Conn_tr {sd : Nat → Int32} {a b c : Nat} (h1 : Conn sd a b) (h2 : Conn sd b c) : Conn sd a c := fun P hp hc => h2 P (h1 P hp hc) hc
theorem Conn_sy {sd : Nat → Int32} {a b : Nat} (h : Conn sd a b) : Conn sd b a := fun P hp hc => by
  have := h (fun x => P x ↔ P a) Iff.rfl (fun s hs ho => by
    show (P (fc_ s) ↔ P a) ↔ (P (sc_ s) ↔ P a)
    rw [hc s hs ho])
  exact this.mp hp
theorem Conn_ed {sd : Nat → Int32} {s : Nat} (hs : s < 40) (ho : opn (sd s)) : Conn sd (fc_ s) (sc_ s) := fun _ hp hc => (hc s hs ho).mp hp
/-- ro names each cell's room by its lowest cell -/
def PR (sd : Nat → Int32) (i : Nat) (ro : Nat → Nat) : Prop := (∀ s, s < i → opn (sd s) → ro (fc_ s) = ro (sc_ s)) ∧ ∀ c, c < 25 → ro c ≤ c ∧ Conn sd c (ro c)
abbrev RoomOK (sd : Nat → Int32) (ro : Nat → Nat) : Prop := PR sd 40 ro
theorem Room_le {sd : Nat → Int32} {ro ro' : Nat → Nat} (h : RoomOK sd ro) (h' : RoomOK sd ro') {c : Nat} (hc : c < 25) : ro c ≤ ro' c := by
  obtain ⟨a, b⟩ := h'.2 c hc
  have e := b (fun x => ro x = ro c) rfl (fun s hs ho => by
    show ro (fc_ s) = ro c ↔ ro (sc_ s) = ro c
    rw [h.1 s hs ho])
  rw [← e]
  exact (h.2 (ro' c) (by omega)).1
theorem Room_uniq {sd : Nat → Int32} {ro ro' : Nat → Nat} (h : RoomOK sd ro) (h' : RoomOK sd ro') {c : Nat} (hc : c < 25) : ro c = ro' c := Nat.le_antisymm (Room_le h h' hc) (Room_le h' h hc)
theorem Room_lt {sd : Nat → Int32} {i : Nat} {ro : Nat → Nat} (h : PR sd i ro) {c : Nat} (hc : c < 25) : ro c < 25 := by have := (h.2 c hc).1; omega
theorem Room_id {sd : Nat → Int32} {ro : Nat → Nat} (h : RoomOK sd ro) {c : Nat} (hc : c < 25) : ro (ro c) = ro c := by
  exact (h.2 c hc).2 (fun x => ro x = ro c) rfl (fun s hs ho => by
    show ro (fc_ s) = ro c ↔ ro (sc_ s) = ro c
    rw [h.1 s hs ho])
theorem PR_0 (sd : Nat → Int32) : PR sd 0 (fun c => c) := ⟨fun s hs => absurd hs (Nat.not_lt_zero s), fun c _ => ⟨Nat.le_refl c, Conn_rf sd c⟩⟩
theorem PR_skip {sd : Nat → Int32} {i : Nat} {ro : Nat → Nat} (h : PR sd i ro) (hn : ¬ opn (sd i)) : PR sd (i + 1) ro := ⟨fun s hs ho => by
  by_cases q : s = i
  · rw [q] at ho; exact absurd ho hn
  · exact h.1 s (by omega) ho, h.2⟩
theorem PR_join {sd : Nat → Int32} {i : Nat} {ro : Nat → Nat} (h : PR sd i ro) (hi : i < 40) (ho : opn (sd i)) : PR sd (i + 1) (fun c => if ro c = max (ro (fc_ i)) (ro (sc_ i)) then min (ro (fc_ i)) (ro (sc_ i)) else ro c) := by
  have hab : Conn sd (max (ro (fc_ i)) (ro (sc_ i))) (min (ro (fc_ i)) (ro (sc_ i))) := by
    have h1 : Conn sd (ro (fc_ i)) (ro (sc_ i)) := Conn_tr (Conn_sy (h.2 _ (fc_lt hi)).2) (Conn_tr (Conn_ed hi ho) (h.2 _ (sc_lt hi)).2)
    rcases Nat.le_total (ro (fc_ i)) (ro (sc_ i)) with q | q
    · rw [Nat.max_eq_right q, Nat.min_eq_left q]; exact Conn_sy h1
    · rw [Nat.max_eq_left q, Nat.min_eq_right q]; exact h1
  refine ⟨fun s hs ho' => ?_, fun c hc => ?_⟩
  · dsimp only
    by_cases q : s = i
    · subst q
      rcases Nat.le_total (ro (fc_ s)) (ro (sc_ s)) with q | q
      · rw [Nat.max_eq_right q, Nat.min_eq_left q, if_pos rfl]
        split <;> rfl
      · rw [Nat.max_eq_left q, Nat.min_eq_right q, if_pos rfl]
        split <;> rfl
    · rw [h.1 s (by omega) ho']
  · obtain ⟨c1, c2⟩ := h.2 c hc
    dsimp only
    split
    · rename_i q
      refine ⟨?_, ?_⟩
      · have : min (ro (fc_ i)) (ro (sc_ i)) ≤ max (ro (fc_ i)) (ro (sc_ i)) := by omega
        omega
      · rw [q] at c2
        exact Conn_tr c2 hab
    · exact ⟨c1, c2⟩
/-- pigeonhole -/
theorem ph_ : ∀ (n : Nat) (f : Nat → Nat), (∀ i, i ≤ n → f i < n) → ∃ i j, i < j ∧ j ≤ n ∧ f i = f j
  | 0, f, h => absurd (h 0 (Nat.le_refl 0)) (Nat.not_lt_zero _)
  | n + 1, f, h => by
    by_cases q : ∃ i, i ≤ n ∧ f i = f (n + 1)
    · obtain ⟨i, h1, h2⟩ := q
      exact ⟨i, n + 1, by omega, Nat.le_refl _, h2⟩
    · have key : ∀ i, i ≤ n → f i ≠ f (n + 1) := fun i hi e => q ⟨i, hi, e⟩
      obtain ⟨i, j, h1, h2, h3⟩ := ph_ n (fun i => if f i = n then f (n + 1) else f i) (fun i hi => by
        have h4 := h i (by omega)
        have h5 := h (n + 1) (Nat.le_refl _)
        have h6 := key i hi
        split <;> omega)
      refine ⟨i, j, h1, by omega, ?_⟩
      have h4 := key i (by omega)
      have h5 := key j (by omega)
      split at h3 <;> split at h3 <;> omega
/-- D is the distance from the sources along adj, among the places below N -/
def DistOK (N : Nat) (src : Nat → Prop) (adj : Nat → Nat → Prop) (D : Nat → Option Nat) : Prop :=
  (∀ r, r < N → src r → D r = some 0) ∧
  (∀ r, r < N → ∀ k, D r = some k → (k = 0 ∧ src r) ∨ ∃ r' k', r' < N ∧ adj r' r ∧ D r' = some k' ∧ k' + 1 ≤ k) ∧
  (∀ r r', r < N → r' < N → adj r r' → ∀ k, D r = some k → ∃ k', D r' = some k' ∧ k' ≤ k + 1)
theorem Dist_le {N : Nat} {src : Nat → Prop} {adj : Nat → Nat → Prop} {D D' : Nat → Option Nat} (h : DistOK N src adj D) (h' : DistOK N src adj D') : ∀ (k r : Nat), r < N → D r = some k → ∃ k', D' r = some k' ∧ k' ≤ k := by
  intro k
  induction k using Nat.strongRecOn with
  | _ k ih =>
    intro r hr hk
    rcases h.2.1 r hr k hk with ⟨h0, hs⟩ | ⟨r', k', h1, h2, h3, h4⟩
    · exact ⟨0, h'.1 r hr hs, by omega⟩
    · obtain ⟨j, h5, h6⟩ := ih k' (by omega) r' h1 h3
      obtain ⟨j', h7, h8⟩ := h'.2.2 r' r h1 hr h2 j h5
      exact ⟨j', h7, by omega⟩
theorem Dist_uniq {N : Nat} {src : Nat → Prop} {adj : Nat → Nat → Prop} {D D' : Nat → Option Nat} (h : DistOK N src adj D) (h' : DistOK N src adj D') {r : Nat} (hr : r < N) : D r = D' r := by
  cases e : D r with
  | none =>
    cases e' : D' r with
    | none => rfl
    | some k =>
      obtain ⟨j, h1, -⟩ := Dist_le h' h k r hr e'
      rw [e] at h1; cases h1
  | some k =>
    obtain ⟨j, h1, h2⟩ := Dist_le h h' k r hr e
    obtain ⟨j', h3, h4⟩ := Dist_le h' h j r hr h1
    rw [e] at h3
    cases h3
    rw [h1]
    congr 1
    omega
/-- each level below a distance has a place -/
theorem Dist_lev {N : Nat} {src : Nat → Prop} {adj : Nat → Nat → Prop} {D : Nat → Option Nat} (h : DistOK N src adj D) : ∀ (k r : Nat), r < N → D r = some k → ∀ j, j ≤ k → ∃ q, q < N ∧ D q = some j := by
  intro k
  induction k using Nat.strongRecOn with
  | _ k ih =>
    intro r hr hk j hj
    by_cases e : j = k
    · exact ⟨r, hr, by rw [e]; exact hk⟩
    · rcases h.2.1 r hr k hk with ⟨h0, hs⟩ | ⟨r', k', h1, h2, h3, h4⟩
      · omega
      · obtain ⟨k2, h5, h6⟩ := h.2.2 r' r h1 hr h2 k' h3
        rw [hk] at h5
        cases h5
        exact ih k' (by omega) r' h1 h3 j (by omega)
theorem Dist_lt {N : Nat} {src : Nat → Prop} {adj : Nat → Nat → Prop} {D : Nat → Option Nat} (h : DistOK N src adj D) {k r : Nat} (hr : r < N) (hk : D r = some k) : k < N := by
  rcases Nat.lt_or_ge k N with q | q
  · exact q
  · exfalso
    have key : ∀ j, ∃ q, j ≤ k → (q < N ∧ D q = some j) := fun j => by
      by_cases hj : j ≤ k
      · obtain ⟨q, h1⟩ := Dist_lev h k r hr hk j hj
        exact ⟨q, fun _ => h1⟩
      · exact ⟨0, fun h => absurd h hj⟩
    obtain ⟨f, hf⟩ := Classical.axiomOfChoice key
    obtain ⟨i, j, h1, h2, h3⟩ := ph_ N f (fun i hi => (hf i (by omega)).1)
    have e1 := (hf i (by omega)).2
    have e2 := (hf j (by omega)).2
    rw [h3, e2] at e1
    cases e1
    omega
/-- a distance there is -/
def rch (N : Nat) (src : Nat → Prop) (adj : Nat → Nat → Prop) : Nat → Nat → Prop
  | 0, r => src r
  | k + 1, r => ∃ r', r' < N ∧ adj r' r ∧ rch N src adj k r'
theorem Dist_ex (N : Nat) (src : Nat → Prop) (adj : Nat → Nat → Prop) : ∃ D, DistOK N src adj D := by
  have key : ∀ r, ∃ o : Option Nat, (∀ k, o = some k → rch N src adj k r ∧ ∀ j, j < k → ¬ rch N src adj j r) ∧ (o = none → ∀ k, ¬ rch N src adj k r) := fun r => by
    by_cases q : ∃ k, rch N src adj k r
    · obtain ⟨k, h1, h2⟩ := pk_least _ q
      exact ⟨some k, fun j e => (by cases e; exact ⟨h1, h2⟩), fun e => (by cases e)⟩
    · exact ⟨none, fun j e => (by cases e), fun _ k h => q ⟨k, h⟩⟩
  obtain ⟨D, hD⟩ := Classical.axiomOfChoice key
  have low : ∀ r k, rch N src adj k r → ∃ j, D r = some j ∧ j ≤ k := fun r k hk => by
    cases e : D r with
    | none => exact absurd hk ((hD r).2 e k)
    | some j =>
      refine ⟨j, rfl, ?_⟩
      rcases Nat.lt_or_ge k j with q | q
      · exact absurd hk (((hD r).1 j e).2 k q)
      · exact q
  refine ⟨D, fun r hr hs => ?_, fun r hr k hk => ?_, fun r r' hr hr' ha k hk => ?_⟩
  · obtain ⟨j, h1, h2⟩ := low r 0 hs
    rw [h1, show j = 0 by omega]
  · have h1 := ((hD r).1 k hk).1
    cases k with
    | zero => exact Or.inl ⟨rfl, h1⟩
    | succ k =>
      obtain ⟨r', h2, h3, h4⟩ := h1
      obtain ⟨j, h5, h6⟩ := low r' k h4
      exact Or.inr ⟨r', j, h2, h3, h5, by omega⟩
  · exact low r' (k + 1) ⟨r, hr, ha, ((hD r).1 k hk).1⟩
/-- doors join rooms -/
def adjD (sd : Nat → Int32) (ro : Nat → Nat) (a b : Nat) : Prop := ∃ s, s < 40 ∧ sd s = 2 ∧ ((a = ro (fc_ s) ∧ b = ro (sc_ s)) ∨ (a = ro (sc_ s) ∧ b = ro (fc_ s)))
theorem adjD_sy {sd : Nat → Int32} {ro : Nat → Nat} {a b : Nat} (h : adjD sd ro a b) : adjD sd ro b a := by
  obtain ⟨s, h1, h2, h3⟩ := h
  exact ⟨s, h1, h2, h3.elim (fun e => Or.inr ⟨e.2, e.1⟩) (fun e => Or.inl ⟨e.2, e.1⟩)⟩
/-- a distance as the class writes it -/
def dI (o : Option Nat) : Int32 := match o with
  | none => -1
  | some k => nI k
