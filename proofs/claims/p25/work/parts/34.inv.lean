/-! ===== what holds of the class's objects ===== -/
def IX (n : Nat) (p : Int32) : Bool := decide (0 ≤ p) && decide (p < nI n)
theorem IX_iff {n : Nat} {p : Int32} (hn : n < 2 ^ 31) : IX n p = true ↔ ∃ j, j < n ∧ p = nI j := by
  unfold IX
  rw [Bool.and_eq_true, decide_eq_true_iff, decide_eq_true_iff]
  constructor
  · rintro ⟨a, b⟩
    obtain ⟨j, hj, e⟩ := nI_of (x := p) (by rw [Int32.not_lt]; exact a)
    refine ⟨j, ?_, e⟩
    rw [e] at b
    exact (nI_ltI hj hn).mp b
  · rintro ⟨j, hj, rfl⟩
    exact ⟨Int32.not_lt.mp (nI_pos (by omega)), nI_lt hj hn⟩
theorem IX_y {n j : Nat} {p : Int32} (hn : n < 2 ^ 31) (hj : j < n) (e : p = nI j) : IX n p = true := (IX_iff hn).mpr ⟨j, hj, e⟩
theorem IX_n {n : Nat} {p : Int32} (hn : n < 2 ^ 31) (h : ¬ ∃ j, j < n ∧ p = nI j) : IX n p = false := by
  cases e : IX n p
  · rfl
  · exact absurd ((IX_iff hn).mp e) h
/-- a permit, a print among n drawings -/
def PMx (h : am_H) (n i : Nat) : Prop := hk_ h (200 + 4 * i) = 4 ∧ hr_ h (200 + 4 * i) 1 = 201 + 4 * i ∧ ST h (201 + 4 * i) (202 + 4 * i) (203 + 4 * i) ∧ ∃ d, d < n ∧ hr_ h (200 + 4 * i) 0 = 100 + 4 * d
def PNx (h : am_H) (n i : Nat) : Prop := hk_ h (300 + 4 * i) = 5 ∧ hr_ h (300 + 4 * i) 1 = 301 + 4 * i ∧ ST h (301 + 4 * i) (302 + 4 * i) (303 + 4 * i) ∧ ∃ d, d < n ∧ hr_ h (300 + 4 * i) 0 = 100 + 4 * d
def ded (n np nq r : Nat) : Prop := (100 + 4 * n ≤ r ∧ r < 124) ∨ (200 + 4 * np ≤ r ∧ r < 280) ∨ (300 + 4 * nq ≤ r ∧ r < 420)
def CI (h : am_H) (n np nq : Nat) : Prop := (FC h ∧ DL h n ∧ XB h n) ∧ (n ≤ 6 ∧ np ≤ 20 ∧ nq ≤ 30) ∧ ((∃ c, LT h 4 n c 100 1) ∧ (∃ c, LT h 5 np c 200 3) ∧ ∃ c, LT h 6 nq c 300 4) ∧ ((∀ i, i < np → PMx h n i) ∧ ∀ i, i < nq → PNx h n i) ∧ ∀ r, ded n np nq r → hk_ h r = 0
theorem PMx_eq {S : Nat → Prop} {h h' : am_H} {n i : Nat} (hS : ∀ r, S r → r < 100) (e : am_eq S h h') (hle : am_le h h') (hp : PMx h n i) : PMx h' n i := by
  obtain ⟨a1, a2, a3, d, hd, a4⟩ := hp
  have e1 := e (200 + 4 * i) (fun z => by have := hS _ z; omega)
  exact ⟨e1.1.trans a1, (e1.2.2.2.1 _).trans a2, ST_eq (fun z => by have := hS _ z; omega) e hle a3, d, hd, (e1.2.2.2.1 _).trans a4⟩
theorem PNx_eq {S : Nat → Prop} {h h' : am_H} {n i : Nat} (hS : ∀ r, S r → r < 100) (e : am_eq S h h') (hle : am_le h h') (hp : PNx h n i) : PNx h' n i := by
  obtain ⟨a1, a2, a3, d, hd, a4⟩ := hp
  have e1 := e (300 + 4 * i) (fun z => by have := hS _ z; omega)
  exact ⟨e1.1.trans a1, (e1.2.2.2.1 _).trans a2, ST_eq (fun z => by have := hS _ z; omega) e hle a3, d, hd, (e1.2.2.2.1 _).trans a4⟩
/-- nothing but the floor's rows, the model and the like has changed -/
theorem CI_eq {S : Nat → Prop} {h h' : am_H} {n np nq : Nat} (hS : ∀ r, S r → 9 ≤ r ∧ r < 100) (e : am_eq S h h') (hle : am_le h h') (hc : CI h n np nq) : CI h' n np nq := by
  obtain ⟨⟨f, d, x⟩, ⟨n6, np20, nq30⟩, ⟨⟨c4, l4⟩, ⟨c5, l5⟩, ⟨c6, l6⟩⟩, ⟨pm, pn⟩, dd⟩ := hc
  have hso : ∀ r, S r → offD r := fun r hr => Or.inl (hS r hr).2
  have hsl : ∀ L, L < 9 → ∀ r, S r → ¬ SL L r := fun L hL r hr z => by
    have := hS r hr
    unfold SL at z
    omega
  refine ⟨⟨FC_eq (fun r hr => Or.inr (hS r hr).1) e hle f, DL_off hso e n6 d, XB_eq hso e n6 x⟩, ⟨n6, np20, nq30⟩, ⟨⟨c4, LT_eq (hsl 4 (by decide)) e hle l4⟩, ⟨c5, LT_eq (hsl 5 (by decide)) e hle l5⟩, ⟨c6, LT_eq (hsl 6 (by decide)) e hle l6⟩⟩, ⟨fun i hi => PMx_eq (fun r hr => (hS r hr).2) e hle (pm i hi), fun i hi => PNx_eq (fun r hr => (hS r hr).2) e hle (pn i hi)⟩, fun r hr => ?_⟩
  refine (e r (fun z => ?_)).1.trans (dd r hr)
  have := hS r z
  unfold ded at hr
  omega
/-- an int is put into a drawing or its told sides -/
theorem CI_sI {h : am_H} {n np nq r k : Nat} {x : Int32} (hr : 6 < r) (hx : ∀ d, d < n → r ≠ 102 + 4 * d) (hc : CI h n np nq) : CI (am_sI h r k x) n np nq := by
  obtain ⟨⟨f, d, xb⟩, b, ⟨⟨c4, l4⟩, ⟨c5, l5⟩, ⟨c6, l6⟩⟩, p, dd⟩ := hc
  have ll : ∀ {L n c b ci : Nat}, L ≤ 6 → LT h L n c b ci → LT (am_sI h r k x) L n c b ci := fun hL ⟨a1, a2, a3⟩ => ⟨a1, by rw [hi_sI, if_neg (fun q => by omega)]; exact a2, a3⟩
  refine ⟨⟨f, d, fun d hd c hc => ?_⟩, b, ⟨⟨c4, ll (by decide) l4⟩, ⟨c5, ll (by decide) l5⟩, ⟨c6, ll (by decide) l6⟩⟩, p, dd⟩
  have e : hi_ (am_sI h r k x) (102 + 4 * d) c = hi_ h (102 + 4 * d) c := by rw [hi_sI, if_neg (fun q => hx d hd q.1.symm)]
  unfold xC
  rw [e]
  exact xb d hd c hc
/-- an exit is told -/
theorem CI_x {h : am_H} {n np nq d k : Nat} {b : Bool} (hc : CI h n np nq) : CI (am_sI h (102 + 4 * d) k (b2i b)) n np nq := by
  obtain ⟨⟨f, dl, xb⟩, bb, ⟨⟨c4, l4⟩, ⟨c5, l5⟩, ⟨c6, l6⟩⟩, p, dd⟩ := hc
  have ll : ∀ {L n c b' ci : Nat}, L ≤ 6 → LT h L n c b' ci → LT (am_sI h (102 + 4 * d) k (b2i b)) L n c b' ci := fun hL ⟨a1, a2, a3⟩ => ⟨a1, by rw [hi_sI, if_neg (fun q => by omega)]; exact a2, a3⟩
  refine ⟨⟨f, dl, fun d' hd c hc => ?_⟩, bb, ⟨⟨c4, ll (by decide) l4⟩, ⟨c5, ll (by decide) l5⟩, ⟨c6, ll (by decide) l6⟩⟩, p, dd⟩
  unfold xC
  rw [hi_sI]
  by_cases z : 102 + 4 * d' = 102 + 4 * d ∧ c = k
  · rw [if_pos z]
    cases b <;> rfl
  · rw [if_neg z]
    exact xb d' hd c hc
/-- a reference is told -/
theorem CI_r {h : am_H} {n np nq d k x : Nat} (hk6 : k < 6) (hd : d < n) (hx : x = 0 ∨ (k < n ∧ x = 100 + 4 * k)) (hc : CI h n np nq) : CI (am_sR h (103 + 4 * d) k x) n np nq := by
  obtain ⟨⟨f, dl, xb⟩, bb, ⟨⟨c4, l4⟩, ⟨c5, l5⟩, ⟨c6, l6⟩⟩, ⟨pm, pn⟩, dd⟩ := hc
  have n6 := bb.1
  have hn : ∀ r j, r < 103 ∨ 124 ≤ r ∨ r % 4 ≠ 3 → hr_ (am_sR h (103 + 4 * d) k x) r j = hr_ h r j := fun r j z => by rw [hr_sR, if_neg (fun q => by omega)]
  have ll : ∀ {L n c b' ci : Nat}, L ≤ 6 → LT h L n c b' ci → LT (am_sR h (103 + 4 * d) k x) L n c b' ci := fun hL ⟨a1, a2, a3, a4, a5, a6, a7, a8⟩ =>
    ⟨a1, a2, a3, a4, fun z => (hn _ _ (by omega)).trans (a5 z), fun z => by
      obtain ⟨b1, b2, b3⟩ := a6 z
      exact ⟨b1, (hn _ _ (by omega)).trans b2, b3⟩, fun i hi => ⟨(hn _ _ (by unfold rw_; omega)).trans (a7 i hi).1, (a7 i hi).2⟩, a8⟩
  refine ⟨⟨⟨f.1, fun q hq => ?_⟩, fun i hi => ?_, xb⟩, bb, ⟨⟨c4, ll (by decide) l4⟩, ⟨c5, ll (by decide) l5⟩, ⟨c6, ll (by decide) l6⟩⟩, ⟨fun i hi => ?_, fun i hi => ?_⟩, dd⟩
  · have h2 := (by decide : ∀ q ∈ rp_R, q.1 < 9) q hq
    rw [hn _ _ (by omega)]
    exact f.2 q hq
  · obtain ⟨a, ⟨b1, b2, b3⟩, c⟩ := dl i hi
    refine ⟨a, ⟨(hn _ _ (by omega)).trans b1, (hn _ _ (by omega)).trans b2, (hn _ _ (by omega)).trans b3⟩, fun j hj => ?_⟩
    rw [hr_sR]
    by_cases z : 103 + 4 * i = 103 + 4 * d ∧ j = k
    · rw [if_pos z, z.2]
      exact hx
    · rw [if_neg z]
      exact c j hj
  · obtain ⟨a1, a2, ⟨⟨b1, b2, b3, b4⟩, b5⟩, dd, hdd, a4⟩ := pm i hi
    exact ⟨a1, (hn _ _ (by omega)).trans a2, ⟨⟨b1, (hn _ _ (by omega)).trans b2, (hn _ _ (by omega)).trans b3, b4⟩, b5⟩, dd, hdd, (hn _ _ (by omega)).trans a4⟩
  · obtain ⟨a1, a2, ⟨⟨b1, b2, b3, b4⟩, b5⟩, dd, hdd, a4⟩ := pn i hi
    exact ⟨a1, (hn _ _ (by omega)).trans a2, ⟨⟨b1, (hn _ _ (by omega)).trans b2, (hn _ _ (by omega)).trans b3, b4⟩, b5⟩, dd, hdd, (hn _ _ (by omega)).trans a4⟩
/-- who can change a drawing -/
def chg (h : am_H) (d : Nat) : Int32 := if hi_ h (100 + 4 * d) 4 = -1 then hi_ h (100 + 4 * d) 3 else hi_ h (100 + 4 * d) 4
