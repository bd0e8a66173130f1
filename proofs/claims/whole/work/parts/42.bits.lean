/-! ===== Int32 by its bits: bt x i ===== -/
def bt (x : Int32) (i : Nat) : Bool := x.toBitVec.getLsbD i
theorem b_ext {x y : Int32} (h : ∀ i, i < 32 → bt x i = bt y i) : x = y := Int32.toBitVec_inj.mp (BitVec.eq_of_getLsbD_eq (fun i hi => h i hi))
theorem b_or (x y : Int32) (i : Nat) : bt (x ||| y) i = (bt x i || bt y i) := by unfold bt; rw [Int32.toBitVec_or, BitVec.getLsbD_or]
theorem b_and (x y : Int32) (i : Nat) : bt (x &&& y) i = (bt x i && bt y i) := by unfold bt; rw [Int32.toBitVec_and, BitVec.getLsbD_and]
theorem b_xor (x y : Int32) (i : Nat) : bt (x ^^^ y) i = (bt x i ^^ bt y i) := by unfold bt; rw [Int32.toBitVec_xor, BitVec.getLsbD_xor]
theorem b_big {x : Int32} {i : Nat} (h : 32 ≤ i) : bt x i = false := BitVec.getLsbD_of_ge _ _ h
theorem b_m1 : ∀ i, i < 32 → bt (-1) i = true := by decide +kernel
theorem b_0 (i : Nat) : bt 0 i = false := BitVec.getLsbD_zero
theorem s_l : ∀ n, n < 32 → ((nI n &&& 31).toBitVec.smod 32).toNat = n := by decide +kernel
theorem b_shl (n : Nat) (hn : n < 32) (x : Int32) {i : Nat} (hi : i < 32) : bt (x <<< (nI n &&& 31)) i = (decide (n ≤ i) && bt x (i - n)) := by
  unfold bt
  rw [Int32.toBitVec_shiftLeft]
  show (x.toBitVec <<< ((nI n &&& 31).toBitVec.smod 32).toNat).getLsbD i = _
  rw [s_l n hn, BitVec.getLsbD_shiftLeft]
  rcases Nat.lt_or_ge i n with h | h
  · simp [h, Nat.not_le.mpr h]
  · simp [hi, h, Nat.not_lt.mpr h]
theorem b_sshr (n : Nat) (hn : n < 32) (x : Int32) {i : Nat} (hi : i < 32) : bt (x >>> (nI n &&& 31)) i = if n + i < 32 then bt x (n + i) else bt x 31 := by
  unfold bt
  rw [Int32.toBitVec_shiftRight]
  show (x.toBitVec.sshiftRight ((nI n &&& 31).toBitVec.smod 32).toNat).getLsbD i = _
  rw [s_l n hn, BitVec.getLsbD_sshiftRight, BitVec.msb_eq_getLsbD_last]
  simp [hi]
/-! ===== masks ===== -/
theorem b_1 : ∀ i, i < 32 → bt 1 i = decide (i = 0) := by decide +kernel
theorem b_one : ∀ k, k < 32 → ∀ i, i < 32 → bt (nI 1 <<< (nI k &&& 31)) i = decide (i = k) := by decide +kernel
/-- the k-th bit is asked for -/
theorem tb_ {x : Int32} {k : Nat} (hk : k < 31) : (x >>> (nI k &&& 31)) &&& nI 1 = nI 1 ↔ bt x k = true := by
  have e0 : bt (x >>> (nI k &&& 31)) 0 = bt x k := by rw [b_sshr k (by omega) x (by omega), if_pos (by omega), Nat.add_zero]
  constructor
  · intro h
    have h1 := congrArg (fun z => bt z 0) h
    simp only [b_and] at h1
    rw [e0, show bt (nI 1) 0 = true from by decide, Bool.and_true] at h1
    exact h1
  · intro h
    refine b_ext (fun i hi => ?_)
    rw [b_and]
    show (_ && bt 1 i) = bt 1 i
    rw [b_1 i hi]
    by_cases z : i = 0
    · subst z
      rw [e0, h]
      rfl
    · rw [decide_eq_false z, Bool.and_false]
theorem tb_n {x : Int32} {k : Nat} (hk : k < 31) (h : ¬ (x >>> (nI k &&& 31)) &&& nI 1 = nI 1) : bt x k = false := by
  cases e : bt x k
  · rfl
  · exact absurd ((tb_ hk).mpr e) h
theorem b_set {x : Int32} {k : Nat} (hk : k < 32) {i : Nat} (hi : i < 32) : bt (x ||| (nI 1 <<< (nI k &&& 31))) i = (bt x i || decide (i = k)) := by rw [b_or, b_one k hk i hi]
theorem b_clr {x : Int32} {k : Nat} (hk : k < 32) {i : Nat} (hi : i < 32) : bt (x &&& ((nI 1 <<< (nI k &&& 31)) ^^^ -1)) i = (bt x i && !decide (i = k)) := by rw [b_and, b_xor, b_one k hk i hi, b_m1 i hi, Bool.xor_true]
