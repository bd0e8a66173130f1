/-! ===== the coupling: what the model holds is what the class holds ===== -/
def xX (g : am_H) (d c : Nat) : Bool := decide (c < 25) && xC g d c
def rX (g : am_H) (d k : Nat) : Bool := decide (k < 6) && rC g d k
/-- lockers and lent -/
def MIl (g h : am_H) (n : Nat) : Prop := ∀ d, d < n → hi_ h 18 d = hi_ g (100 + 4 * d) 3 ∧ hi_ h 19 d = hi_ g (100 + 4 * d) 4 ∧ OKs (hi_ h 18 d) ∧ OKs (hi_ h 19 d)
/-- nothing is told of drawings that aren't yet -/
def MIz (h : am_H) (n : Nat) : Prop := ∀ d, n ≤ d → d < 6 → hi_ h 16 d = 0 ∧ hi_ h 17 d = 0
/-- permits, prints -/
def MIp (g h : am_H) (np : Nat) : Prop := ∀ i, i < np → hi_ h 25 i = nI (pdH g i) ∧ (∀ s, s < 40 → hi_ h 26 (40 * i + s) = hi_ g (202 + 4 * i) s) ∧ (∀ c, c < 32 → bt (hi_ h 27 i) c = (decide (c < 25) && decide (hi_ g (203 + 4 * i) c ≠ 0))) ∧ ∀ c, c < 25 → hi_ g (203 + 4 * i) c = b2i (decide (hi_ g (203 + 4 * i) c ≠ 0))
def MIq (g h : am_H) (nq : Nat) : Prop := ∀ i, i < nq → hi_ h 29 i = nI (qdH g i) ∧ (∀ s, s < 40 → hi_ h 30 (40 * i + s) = hi_ g (302 + 4 * i) s) ∧ (∀ c, c < 32 → bt (hi_ h 31 i) c = (decide (c < 25) && decide (hi_ g (303 + 4 * i) c ≠ 0))) ∧ (∀ c, c < 25 → hi_ g (303 + 4 * i) c = b2i (decide (hi_ g (303 + 4 * i) c ≠ 0))) ∧ hi_ h 32 i = hi_ g (300 + 4 * i) 2 ∧ OKs (hi_ h 32 i)
/-- the model's contents in h are the class's in g -/
def MI (g h : am_H) (n np nq : Nat) : Prop := MT h n (tC g) (xX g) (rX g) ∧ (hi_ h 14 10 = nI np ∧ hi_ h 14 14 = nI nq) ∧ MIl g h n ∧ MIz h n ∧ MIp g h np ∧ MIq g h nq
/-- chM is chg -/
theorem chM_eq {g h : am_H} {d : Nat} (h1 : hi_ h 18 d = hi_ g (100 + 4 * d) 3) (h2 : hi_ h 19 d = hi_ g (100 + 4 * d) 4) (ho : OKs (hi_ h 19 d)) : chM h d = chg g d := by
  unfold chM chg
  rw [← h1, ← h2]
  rcases ho with e | e
  · rw [e]; rfl
  · rw [if_pos (Int32.not_lt.mp e), if_neg (fun z => e (by rw [z]; decide))]
