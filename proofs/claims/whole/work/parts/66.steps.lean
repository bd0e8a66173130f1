/-! ===== a step: the class's call, then the model's ===== -/
def INV (h : am_H) (n np nq : Nat) : Prop := CI h n np nq ∧ MI h h n np nq ∧ OA h
/-- thrown is K; if nothing, V is what lies in out -/
def RES (h : am_H) (K : Nat) (V : Int32) : Prop := FM h ∧ hi_ h 14 19 = nI K ∧ (K = 0 → hl_ h 40 0 = V.toInt64) ∧ OA h ∧ ∃ n np nq, INV h n np nq
theorem am_eq_sL {S : Nat → Prop} {h : am_H} {r k : Nat} {x : Int64} (hr : S r) : am_eq S h (am_sL h r k x) := fun a ha => ⟨rfl, rfl, fun _ => rfl, fun _ => rfl, fun b => by rw [hl_sL, if_neg (fun q => ha (by rw [q.1]; exact hr))]⟩
theorem am_le_sL (h : am_H) (r k : Nat) (x : Int64) : am_le h (am_sL h r k x) := fun _ _ => ⟨rfl, rfl⟩
theorem INV_eq {S : Nat → Prop} {h h' : am_H} {n np nq : Nat} (hS : ∀ r, S r → (9 ≤ r ∧ r < 14) ∨ (20 ≤ r ∧ r < 25) ∨ (32 < r ∧ r < 100)) (e : am_eq S h h') (hle : am_le h h') (hI : INV h n np nq) : INV h' n np nq := by
  obtain ⟨c, m, o⟩ := hI
  have b := c.2.1
  exact ⟨CI_eq (fun r hr => by have := hS r hr; omega) e hle c, MI_g (fun r hr => by have := hS r hr; omega) b.2.1 b.2.2 e (MI_h (fun r hr => by have := hS r hr; omega) e hle m), OA_le hle o⟩
theorem INV_th {h : am_H} {n np nq : Nat} {v : Int32} (hI : INV h n np nq) : INV (am_sI h 14 19 v) n np nq := by
  obtain ⟨c, m, o⟩ := hI
  have b := c.2.1
  have e : am_eq (fun q => q = 14) h (am_sI h 14 19 v) := am_eq_sI rfl
  exact ⟨CI_eq (fun r hr => by omega) e (am_le_sI _ _ _ _) c, MI_g (fun r hr => by omega) b.2.1 b.2.2 e (MI_th m), o⟩
theorem INV_fin {S : Nat → Prop} {g h2 : am_H} {n np nq : Nat} (hS : ∀ r, S r → 9 ≤ r ∧ r < 100) (hc : CI g n np nq) (m : MI g h2 n np nq) (e : am_eq S g h2) (hle : am_le g h2) (ho : OA h2) : INV h2 n np nq := by
  have b := hc.2.1
  exact ⟨CI_eq hS e hle hc, MI_g (fun r hr => by have := hS r hr; omega) b.2.1 b.2.2 e m, ho⟩
theorem hi_sI_s (h : am_H) (r k : Nat) (x : Int32) : hi_ (am_sI h r k x) r k = x := by rw [hi_sI, if_pos ⟨rfl, rfl⟩]
theorem hl_sL_s (h : am_H) (r k : Nat) (x : Int64) : hl_ (am_sL h r k x) r k = x := by rw [hl_sL, if_pos ⟨rfl, rfl⟩]
def SC (r : Nat) : Prop := r < 14 ∨ 32 < r
theorem FS_SC {h h' : am_H} (e : am_eq FS h h') : am_eq SC h h' := am_eq_mono (fun r hr => Or.inl (by unfold FS at hr; omega)) e
theorem PO_A {h h1 : am_H} {n np nq K : Nat} {Q : Int32 → am_H → Prop} (hI : INV h n np nq) (p1 : K ≠ 0 → am_eq FS h h1 ∧ am_le h h1) (p2 : K = 0 → ∃ x h', am_le h h' ∧ h1 = am_sL h' 40 0 x.toInt64 ∧ Q x h') (hQ : ∀ x h', Q x h' → am_eq SC h h') : MI h h1 n np nq ∧ OA h1 ∧ am_le h h1 := by
  have key : am_eq SC h h1 ∧ am_le h h1 := by
    by_cases z : K = 0
    · obtain ⟨x, h', hle, rfl, q⟩ := p2 z
      exact ⟨am_eq_tr (hQ x h' q) (am_eq_sL (Or.inr (by decide))), am_le_tr hle (am_le_sL _ _ _ _)⟩
    · exact ⟨FS_SC (p1 z).1, (p1 z).2⟩
  exact ⟨MI_h (fun r hr => by unfold SC at hr; omega) key.1 key.2 hI.2.1, OA_le key.2 hI.2.2, key.2⟩
theorem PN_A {h h1 : am_H} {n np nq K : Nat} {Q : am_H → Prop} (hI : INV h n np nq) (p1 : K ≠ 0 → am_eq FS h h1 ∧ am_le h h1) (p2 : K = 0 → am_le h h1 ∧ Q h1) (hQ : ∀ h', Q h' → am_eq SC h h') : MI h h1 n np nq ∧ OA h1 ∧ am_le h h1 := by
  have key : am_eq SC h h1 ∧ am_le h h1 := by
    by_cases z : K = 0
    · exact ⟨hQ h1 (p2 z).2, (p2 z).1⟩
    · exact ⟨FS_SC (p1 z).1, (p1 z).2⟩
  exact ⟨MI_h (fun r hr => by unfold SC at hr; omega) key.1 key.2 hI.2.1, OA_le key.2 hI.2.2, key.2⟩
theorem INV_FS {h h1 : am_H} {n np nq : Nat} (hI : INV h n np nq) (p : am_eq FS h h1 ∧ am_le h h1) : INV h1 n np nq := INV_eq (fun r hr => by unfold FS at hr; omega) p.1 p.2 hI
/-- a refused call -/
theorem RES_n {h h1 h2 : am_H} {n np nq K : Nat} {V : Int32} (hK : K ≠ 0) (hI : INV h n np nq) (p1 : K ≠ 0 → am_eq FS h h1 ∧ am_le h h1) (e : am_eq S4 (am_sI h1 14 19 (nI K)) h2) (hle : am_le h1 h2) : RES h2 K V := by
  have i1 : INV (am_sI h1 14 19 (nI K)) n np nq := INV_th (INV_FS hI (p1 hK))
  have i2 : INV h2 n np nq := INV_eq (fun r hr => by unfold S4 at hr; omega) e hle i1
  exact ⟨i2.2.1.1.1, ((e 14 (by unfold S4; omega)).2.2.1 19).trans (hi_sI_s _ _ _ _), fun z => absurd z hK, i2.2.2, n, np, nq, i2⟩
/-- a call that changes nothing -/
theorem RES_s {h h1 h2 : am_H} {n np nq K : Nat} {V : Int32} {Q : Int32 → am_H → Prop} (hI : INV h n np nq) (p1 : K ≠ 0 → am_eq FS h h1 ∧ am_le h h1) (p2 : K = 0 → ∃ x h', am_le h h' ∧ h1 = am_sL h' 40 0 x.toInt64 ∧ Q x h') (hQ : ∀ x h', K = 0 → Q x h' → am_eq FS h h' ∧ x = V) (e : am_eq S4 (am_sI h1 14 19 (nI K)) h2) (hle : am_le h1 h2) : RES h2 K V := by
  by_cases z : K = 0
  · obtain ⟨x, h', hl', rfl, q⟩ := p2 z
    obtain ⟨q1, rfl⟩ := hQ x h' z q
    have i0 := INV_FS hI ⟨q1, hl'⟩
    have i1 : INV (am_sL h' 40 0 x.toInt64) n np nq := INV_eq (S := fun q => q = 40) (fun r hr => by omega) (am_eq_sL rfl) (am_le_sL _ _ _ _) i0
    have i2 : INV h2 n np nq := INV_eq (fun r hr => by unfold S4 at hr; omega) e hle (INV_th i1)
    refine ⟨i2.2.1.1.1, ((e 14 (by unfold S4; omega)).2.2.1 19).trans (hi_sI_s _ _ _ _), fun _ => ?_, i2.2.2, n, np, nq, i2⟩
    exact ((e 40 (by unfold S4; omega)).2.2.2.2 0).trans (hl_sL_s h' 40 0 _)
  · exact RES_n z hI p1 e hle
/-- the model's answer in its usual form -/
theorem mform {h1 h2 : am_H} {K : Nat} {A : Prop} (m1 : K ≠ 0 → h2 = am_sI h1 14 19 (nI K)) (m2 : K = 0 → A ∧ am_eq S4 (am_sI h1 14 19 (nI 0)) h2 ∧ am_le h1 h2) : am_eq S4 (am_sI h1 14 19 (nI K)) h2 ∧ am_le h1 h2 := by
  by_cases z : K = 0
  · obtain ⟨-, a, b⟩ := m2 z
    rw [z]
    exact ⟨a, b⟩
  · rw [m1 z]
    exact ⟨am_eq_rf _ _, am_le_sI _ _ _ _⟩
theorem k3_z {a b c : Bool} (h : k3 a b c = 0) : a = true ∧ b = true ∧ c = true := by
  cases a <;> cases b <;> cases c <;> first | exact ⟨rfl, rfl, rfl⟩ | exact absurd h (by decide)
theorem k3_cg {a b c c' : Bool} (h : a = true → b = true → c = c') : k3 a b c = k3 a b c' := by
  cases a
  · rfl
  · cases b
    · rfl
    · rw [h rfl rfl]
theorem IX_dn {n : Nat} {D : Int32} (hn : n < 2 ^ 31) (h : IX n D = true) : dn D < n ∧ D = nI (dn D) := by
  obtain ⟨j, hj, rfl⟩ := (IX_iff hn).mp h
  rw [dn_nI (by omega)]
  exact ⟨hj, rfl⟩
theorem OKs_IX {n : Nat} {P : Int32} (h : IX n P = true) : OKs P := by
  unfold IX at h
  rw [Bool.and_eq_true, decide_eq_true_iff] at h
  exact Or.inr (Int32.not_lt.mpr h.1)
theorem OKs_IW {W : Int32} (h : IW W = true) : OKs W := by
  unfold IW at h
  rw [Bool.and_eq_true, decide_eq_true_iff] at h
  by_cases z : W < 0
  · refine Or.inl (Int32.toInt_inj.mp ?_)
    have a := Int32.le_iff_toInt_le.mp h.1
    have b := Int32.lt_iff_toInt_lt.mp z
    have c : (-1 : Int32).toInt = -1 := by decide
    have d : (0 : Int32).toInt = 0 := by decide
    rw [c] at a ⊢
    rw [d] at b
    omega
  · exact Or.inr z
theorem OKs_neg {y : Int32} (o : OKs y) : decide (y < 0) = decide (y = -1) := by
  rcases o with e | e
  · rw [e]; decide
  · rw [decide_eq_false e, decide_eq_false (fun z => e (by rw [z]; decide))]
theorem ch_X {h h1 : am_H} {n np nq : Nat} {D : Int32} (m : MI h h1 n np nq) (a : IX n D = true) : chM h1 (dn D) = chg h (dn D) := by
  have n6 := m.1.2.1
  obtain ⟨hd, -⟩ := IX_dn (by omega) a
  obtain ⟨l1, l2, -, l4⟩ := m.2.2.1 _ hd
  exact chM_eq l1 l2 l4
theorem ldX {g : am_H} {n : Nat} (hD : DL g n) {o : Nat} (ho : o < n) (e : Nat) : ldF (rX g) 6 o e = ldF (rC g) 6 o e :=
  (ldF_congr (r := rC g) (r' := rX g) (n := n) (e := e) (rC_lt hD) (fun d _ k hk => (rX_rC hk).symm) 6 o ho).symm
