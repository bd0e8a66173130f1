/-! ===== the layout: which role is what ===== -/
def rp_K : List (Nat × Nat × Nat) := [(3, 7, 0), (4, 1, 0), (5, 1, 0), (6, 1, 0), (7, 3, 0), (8, 6, 0), (9, 9, 40), (10, 10, 25), (11, 9, 25), (12, 9, 25), (13, 9, 25)]
def rp_R : List (Nat × Nat × Nat) := [(3, 0, 4), (3, 1, 5), (3, 2, 6), (3, 3, 7), (7, 0, 8), (7, 1, 11), (7, 2, 12), (7, 3, 13), (8, 0, 9), (8, 1, 10)]
def rp_KM : List (Nat × Nat × Nat) := [(14, 8, 0), (15, 9, 240), (16, 9, 6), (17, 9, 6), (18, 9, 6), (19, 9, 6), (20, 9, 240), (21, 9, 6), (22, 9, 25), (23, 9, 25), (25, 9, 20), (26, 9, 800), (27, 9, 20), (29, 9, 30), (30, 9, 1200), (31, 9, 30), (32, 9, 30)]
def rp_RM : List (Nat × Nat × Nat) := [(14, 1, 15), (14, 2, 16), (14, 3, 17), (14, 4, 18), (14, 5, 19), (14, 6, 20), (14, 7, 21), (14, 8, 22), (14, 9, 23), (14, 11, 25), (14, 12, 26), (14, 13, 27), (14, 15, 29), (14, 16, 30), (14, 17, 31), (14, 18, 32)]
/-- the class's own fixed objects; the model's -/
def FC (h : am_H) : Prop := (∀ q ∈ rp_K, hk_ h q.1 = q.2.1 ∧ hn_ h q.1 = q.2.2) ∧ ∀ q ∈ rp_R, hr_ h q.1 q.2.1 = q.2.2
def FM (h : am_H) : Prop := (∀ q ∈ rp_KM, hk_ h q.1 = q.2.1 ∧ hn_ h q.1 = q.2.2) ∧ ∀ q ∈ rp_RM, hr_ h q.1 q.2.1 = q.2.2
theorem kC_3 {h : am_H} (hF : FC h) : hk_ h 3 = 7 := (hF.1 (3, 7, 0) (by decide)).1
theorem kC_4 {h : am_H} (hF : FC h) : hk_ h 4 = 1 := (hF.1 (4, 1, 0) (by decide)).1
theorem kC_5 {h : am_H} (hF : FC h) : hk_ h 5 = 1 := (hF.1 (5, 1, 0) (by decide)).1
theorem kC_6 {h : am_H} (hF : FC h) : hk_ h 6 = 1 := (hF.1 (6, 1, 0) (by decide)).1
theorem kC_7 {h : am_H} (hF : FC h) : hk_ h 7 = 3 := (hF.1 (7, 3, 0) (by decide)).1
theorem kC_8 {h : am_H} (hF : FC h) : hk_ h 8 = 6 := (hF.1 (8, 6, 0) (by decide)).1
theorem kC_9 {h : am_H} (hF : FC h) : hk_ h 9 = 9 := (hF.1 (9, 9, 40) (by decide)).1
theorem nC_9 {h : am_H} (hF : FC h) : hn_ h 9 = 40 := (hF.1 (9, 9, 40) (by decide)).2
theorem kC_10 {h : am_H} (hF : FC h) : hk_ h 10 = 10 := (hF.1 (10, 10, 25) (by decide)).1
theorem nC_10 {h : am_H} (hF : FC h) : hn_ h 10 = 25 := (hF.1 (10, 10, 25) (by decide)).2
theorem kC_11 {h : am_H} (hF : FC h) : hk_ h 11 = 9 := (hF.1 (11, 9, 25) (by decide)).1
theorem nC_11 {h : am_H} (hF : FC h) : hn_ h 11 = 25 := (hF.1 (11, 9, 25) (by decide)).2
theorem kC_12 {h : am_H} (hF : FC h) : hk_ h 12 = 9 := (hF.1 (12, 9, 25) (by decide)).1
theorem nC_12 {h : am_H} (hF : FC h) : hn_ h 12 = 25 := (hF.1 (12, 9, 25) (by decide)).2
theorem kC_13 {h : am_H} (hF : FC h) : hk_ h 13 = 9 := (hF.1 (13, 9, 25) (by decide)).1
theorem nC_13 {h : am_H} (hF : FC h) : hn_ h 13 = 25 := (hF.1 (13, 9, 25) (by decide)).2
theorem rC_3_0 {h : am_H} (hF : FC h) : hr_ h 3 0 = 4 := hF.2 (3, 0, 4) (by decide)
theorem rC_3_1 {h : am_H} (hF : FC h) : hr_ h 3 1 = 5 := hF.2 (3, 1, 5) (by decide)
theorem rC_3_2 {h : am_H} (hF : FC h) : hr_ h 3 2 = 6 := hF.2 (3, 2, 6) (by decide)
theorem rC_3_3 {h : am_H} (hF : FC h) : hr_ h 3 3 = 7 := hF.2 (3, 3, 7) (by decide)
theorem rC_7_0 {h : am_H} (hF : FC h) : hr_ h 7 0 = 8 := hF.2 (7, 0, 8) (by decide)
theorem rC_7_1 {h : am_H} (hF : FC h) : hr_ h 7 1 = 11 := hF.2 (7, 1, 11) (by decide)
theorem rC_7_2 {h : am_H} (hF : FC h) : hr_ h 7 2 = 12 := hF.2 (7, 2, 12) (by decide)
theorem rC_7_3 {h : am_H} (hF : FC h) : hr_ h 7 3 = 13 := hF.2 (7, 3, 13) (by decide)
theorem rC_8_0 {h : am_H} (hF : FC h) : hr_ h 8 0 = 9 := hF.2 (8, 0, 9) (by decide)
theorem rC_8_1 {h : am_H} (hF : FC h) : hr_ h 8 1 = 10 := hF.2 (8, 1, 10) (by decide)
theorem kM_14 {h : am_H} (hM : FM h) : hk_ h 14 = 8 := (hM.1 (14, 8, 0) (by decide)).1
theorem kM_15 {h : am_H} (hM : FM h) : hk_ h 15 = 9 := (hM.1 (15, 9, 240) (by decide)).1
theorem nM_15 {h : am_H} (hM : FM h) : hn_ h 15 = 240 := (hM.1 (15, 9, 240) (by decide)).2
theorem kM_16 {h : am_H} (hM : FM h) : hk_ h 16 = 9 := (hM.1 (16, 9, 6) (by decide)).1
theorem nM_16 {h : am_H} (hM : FM h) : hn_ h 16 = 6 := (hM.1 (16, 9, 6) (by decide)).2
theorem kM_17 {h : am_H} (hM : FM h) : hk_ h 17 = 9 := (hM.1 (17, 9, 6) (by decide)).1
theorem nM_17 {h : am_H} (hM : FM h) : hn_ h 17 = 6 := (hM.1 (17, 9, 6) (by decide)).2
theorem kM_18 {h : am_H} (hM : FM h) : hk_ h 18 = 9 := (hM.1 (18, 9, 6) (by decide)).1
theorem nM_18 {h : am_H} (hM : FM h) : hn_ h 18 = 6 := (hM.1 (18, 9, 6) (by decide)).2
theorem kM_19 {h : am_H} (hM : FM h) : hk_ h 19 = 9 := (hM.1 (19, 9, 6) (by decide)).1
theorem nM_19 {h : am_H} (hM : FM h) : hn_ h 19 = 6 := (hM.1 (19, 9, 6) (by decide)).2
theorem kM_20 {h : am_H} (hM : FM h) : hk_ h 20 = 9 := (hM.1 (20, 9, 240) (by decide)).1
theorem nM_20 {h : am_H} (hM : FM h) : hn_ h 20 = 240 := (hM.1 (20, 9, 240) (by decide)).2
theorem kM_21 {h : am_H} (hM : FM h) : hk_ h 21 = 9 := (hM.1 (21, 9, 6) (by decide)).1
theorem nM_21 {h : am_H} (hM : FM h) : hn_ h 21 = 6 := (hM.1 (21, 9, 6) (by decide)).2
theorem kM_22 {h : am_H} (hM : FM h) : hk_ h 22 = 9 := (hM.1 (22, 9, 25) (by decide)).1
theorem nM_22 {h : am_H} (hM : FM h) : hn_ h 22 = 25 := (hM.1 (22, 9, 25) (by decide)).2
theorem kM_23 {h : am_H} (hM : FM h) : hk_ h 23 = 9 := (hM.1 (23, 9, 25) (by decide)).1
theorem nM_23 {h : am_H} (hM : FM h) : hn_ h 23 = 25 := (hM.1 (23, 9, 25) (by decide)).2
theorem kM_25 {h : am_H} (hM : FM h) : hk_ h 25 = 9 := (hM.1 (25, 9, 20) (by decide)).1
theorem nM_25 {h : am_H} (hM : FM h) : hn_ h 25 = 20 := (hM.1 (25, 9, 20) (by decide)).2
theorem kM_26 {h : am_H} (hM : FM h) : hk_ h 26 = 9 := (hM.1 (26, 9, 800) (by decide)).1
theorem nM_26 {h : am_H} (hM : FM h) : hn_ h 26 = 800 := (hM.1 (26, 9, 800) (by decide)).2
theorem kM_27 {h : am_H} (hM : FM h) : hk_ h 27 = 9 := (hM.1 (27, 9, 20) (by decide)).1
theorem nM_27 {h : am_H} (hM : FM h) : hn_ h 27 = 20 := (hM.1 (27, 9, 20) (by decide)).2
theorem kM_29 {h : am_H} (hM : FM h) : hk_ h 29 = 9 := (hM.1 (29, 9, 30) (by decide)).1
theorem nM_29 {h : am_H} (hM : FM h) : hn_ h 29 = 30 := (hM.1 (29, 9, 30) (by decide)).2
theorem kM_30 {h : am_H} (hM : FM h) : hk_ h 30 = 9 := (hM.1 (30, 9, 1200) (by decide)).1
theorem nM_30 {h : am_H} (hM : FM h) : hn_ h 30 = 1200 := (hM.1 (30, 9, 1200) (by decide)).2
theorem kM_31 {h : am_H} (hM : FM h) : hk_ h 31 = 9 := (hM.1 (31, 9, 30) (by decide)).1
theorem nM_31 {h : am_H} (hM : FM h) : hn_ h 31 = 30 := (hM.1 (31, 9, 30) (by decide)).2
theorem kM_32 {h : am_H} (hM : FM h) : hk_ h 32 = 9 := (hM.1 (32, 9, 30) (by decide)).1
theorem nM_32 {h : am_H} (hM : FM h) : hn_ h 32 = 30 := (hM.1 (32, 9, 30) (by decide)).2
theorem rM_1 {h : am_H} (hM : FM h) : hr_ h 14 1 = 15 := hM.2 (14, 1, 15) (by decide)
theorem rM_2 {h : am_H} (hM : FM h) : hr_ h 14 2 = 16 := hM.2 (14, 2, 16) (by decide)
theorem rM_3 {h : am_H} (hM : FM h) : hr_ h 14 3 = 17 := hM.2 (14, 3, 17) (by decide)
theorem rM_4 {h : am_H} (hM : FM h) : hr_ h 14 4 = 18 := hM.2 (14, 4, 18) (by decide)
theorem rM_5 {h : am_H} (hM : FM h) : hr_ h 14 5 = 19 := hM.2 (14, 5, 19) (by decide)
theorem rM_6 {h : am_H} (hM : FM h) : hr_ h 14 6 = 20 := hM.2 (14, 6, 20) (by decide)
theorem rM_7 {h : am_H} (hM : FM h) : hr_ h 14 7 = 21 := hM.2 (14, 7, 21) (by decide)
theorem rM_8 {h : am_H} (hM : FM h) : hr_ h 14 8 = 22 := hM.2 (14, 8, 22) (by decide)
theorem rM_9 {h : am_H} (hM : FM h) : hr_ h 14 9 = 23 := hM.2 (14, 9, 23) (by decide)
theorem rM_11 {h : am_H} (hM : FM h) : hr_ h 14 11 = 25 := hM.2 (14, 11, 25) (by decide)
theorem rM_12 {h : am_H} (hM : FM h) : hr_ h 14 12 = 26 := hM.2 (14, 12, 26) (by decide)
theorem rM_13 {h : am_H} (hM : FM h) : hr_ h 14 13 = 27 := hM.2 (14, 13, 27) (by decide)
theorem rM_15 {h : am_H} (hM : FM h) : hr_ h 14 15 = 29 := hM.2 (14, 15, 29) (by decide)
theorem rM_16 {h : am_H} (hM : FM h) : hr_ h 14 16 = 30 := hM.2 (14, 16, 30) (by decide)
theorem rM_17 {h : am_H} (hM : FM h) : hr_ h 14 17 = 31 := hM.2 (14, 17, 31) (by decide)
theorem rM_18 {h : am_H} (hM : FM h) : hr_ h 14 18 = 32 := hM.2 (14, 18, 32) (by decide)
/-- drawing i among n: its object, what it tells, its exits, its references -/
def rp_D (h : am_H) (n i : Nat) : Prop :=
  (hk_ h (100 + 4 * i) = 2 ∧ hk_ h (101 + 4 * i) = 9 ∧ hn_ h (101 + 4 * i) = 40 ∧ hk_ h (102 + 4 * i) = 10 ∧ hn_ h (102 + 4 * i) = 25 ∧ hk_ h (103 + 4 * i) = 11 ∧ hn_ h (103 + 4 * i) = 6) ∧
  (hr_ h (100 + 4 * i) 0 = 101 + 4 * i ∧ hr_ h (100 + 4 * i) 1 = 102 + 4 * i ∧ hr_ h (100 + 4 * i) 2 = 103 + 4 * i) ∧
  ∀ k, k < 6 → hr_ h (103 + 4 * i) k = 0 ∨ (k < n ∧ hr_ h (103 + 4 * i) k = 100 + 4 * k)
def DL (h : am_H) (n : Nat) : Prop := ∀ i, i < n → rp_D h n i
theorem dk0 {h : am_H} {n i : Nat} (hD : DL h n) (hi : i < n) : hk_ h (100 + 4 * i) = 2 := (hD i hi).1.1
theorem dk1 {h : am_H} {n i : Nat} (hD : DL h n) (hi : i < n) : hk_ h (101 + 4 * i) = 9 := (hD i hi).1.2.1
theorem dn1 {h : am_H} {n i : Nat} (hD : DL h n) (hi : i < n) : hn_ h (101 + 4 * i) = 40 := (hD i hi).1.2.2.1
theorem dk2 {h : am_H} {n i : Nat} (hD : DL h n) (hi : i < n) : hk_ h (102 + 4 * i) = 10 := (hD i hi).1.2.2.2.1
theorem dn2 {h : am_H} {n i : Nat} (hD : DL h n) (hi : i < n) : hn_ h (102 + 4 * i) = 25 := (hD i hi).1.2.2.2.2.1
theorem dk3 {h : am_H} {n i : Nat} (hD : DL h n) (hi : i < n) : hk_ h (103 + 4 * i) = 11 := (hD i hi).1.2.2.2.2.2.1
theorem dn3 {h : am_H} {n i : Nat} (hD : DL h n) (hi : i < n) : hn_ h (103 + 4 * i) = 6 := (hD i hi).1.2.2.2.2.2.2
theorem dr0 {h : am_H} {n i : Nat} (hD : DL h n) (hi : i < n) : hr_ h (100 + 4 * i) 0 = 101 + 4 * i := (hD i hi).2.1.1
theorem dr1 {h : am_H} {n i : Nat} (hD : DL h n) (hi : i < n) : hr_ h (100 + 4 * i) 1 = 102 + 4 * i := (hD i hi).2.1.2.1
theorem dr2 {h : am_H} {n i : Nat} (hD : DL h n) (hi : i < n) : hr_ h (100 + 4 * i) 2 = 103 + 4 * i := (hD i hi).2.1.2.2
theorem dro {h : am_H} {n i : Nat} (hD : DL h n) (hi : i < n) {k : Nat} (hk : k < 6) : hr_ h (103 + 4 * i) k = 0 ∨ (k < n ∧ hr_ h (103 + 4 * i) k = 100 + 4 * k) := (hD i hi).2.2 k hk
/-- outside S nothing has changed -/
def am_eq (S : Nat → Prop) (h h' : am_H) : Prop := ∀ r, ¬ S r → hk_ h' r = hk_ h r ∧ hn_ h' r = hn_ h r ∧ (∀ k, hi_ h' r k = hi_ h r k) ∧ (∀ k, hr_ h' r k = hr_ h r k) ∧ ∀ k, hl_ h' r k = hl_ h r k
theorem am_eq_rf (S : Nat → Prop) (h : am_H) : am_eq S h h := fun _ _ => ⟨rfl, rfl, fun _ => rfl, fun _ => rfl, fun _ => rfl⟩
theorem am_eq_tr {S : Nat → Prop} {a b c : am_H} (h1 : am_eq S a b) (h2 : am_eq S b c) : am_eq S a c := fun r hr => by
  obtain ⟨a1, a2, a3, a4, a5⟩ := h1 r hr
  obtain ⟨b1, b2, b3, b4, b5⟩ := h2 r hr
  exact ⟨b1.trans a1, b2.trans a2, fun k => (b3 k).trans (a3 k), fun k => (b4 k).trans (a4 k), fun k => (b5 k).trans (a5 k)⟩
theorem am_eq_mono {S S' : Nat → Prop} {h h' : am_H} (hs : ∀ r, S r → S' r) (e : am_eq S h h') : am_eq S' h h' := fun r hr => e r (fun q => hr (hs r q))
theorem am_eq_sI {S : Nat → Prop} {h : am_H} {r k : Nat} {x : Int32} (hr : S r) : am_eq S h (am_sI h r k x) := fun a ha => ⟨rfl, rfl, fun b => by rw [hi_sI, if_neg (fun q => ha (by rw [q.1]; exact hr))], fun _ => rfl, fun _ => rfl⟩
theorem am_eq_sR {S : Nat → Prop} {h : am_H} {r k : Nat} {x : Nat} (hr : S r) : am_eq S h (am_sR h r k x) := fun a ha => ⟨rfl, rfl, fun _ => rfl, fun b => by rw [hr_sR, if_neg (fun q => ha (by rw [q.1]; exact hr))], fun _ => rfl⟩
theorem am_le_sI (h : am_H) (r k : Nat) (x : Int32) : am_le h (am_sI h r k x) := fun _ _ => ⟨rfl, rfl⟩
theorem am_le_sR (h : am_H) (r k : Nat) (x : Nat) : am_le h (am_sR h r k x) := fun _ _ => ⟨rfl, rfl⟩
/-- the floor's own rows -/
def SF (r : Nat) : Prop := 9 ≤ r ∧ r ≤ 13
theorem FC_eq {h h' : am_H} {S : Nat → Prop} (hS : ∀ r, S r → r ≤ 2 ∨ 9 ≤ r) (e : am_eq S h h') (hle : am_le h h') (hF : FC h) : FC h' := by
  refine ⟨fun q hq => ?_, fun q hq => ?_⟩
  · obtain ⟨e1, e2⟩ := hF.1 q hq
    have hl : hk_ h q.1 ≠ 0 := by
      rw [e1]
      exact (by decide : ∀ q ∈ rp_K, q.2.1 ≠ 0) q hq
    rw [(hle q.1 hl).1, (hle q.1 hl).2]
    exact ⟨e1, e2⟩
  · have hn : ¬ S q.1 := fun z => by
      have h1 := hS _ z
      have h2 := (by decide : ∀ q ∈ rp_R, 2 < q.1 ∧ q.1 < 9) q hq
      omega
    rw [(e q.1 hn).2.2.2.1]
    exact hF.2 q hq
theorem FM_eq {h h' : am_H} {S : Nat → Prop} (hS : ¬ S 14) (e : am_eq S h h') (hle : am_le h h') (hM : FM h) : FM h' := by
  refine ⟨fun q hq => ?_, fun q hq => ?_⟩
  · obtain ⟨e1, e2⟩ := hM.1 q hq
    have hl : hk_ h q.1 ≠ 0 := by
      rw [e1]
      exact (by decide : ∀ q ∈ rp_KM, q.2.1 ≠ 0) q hq
    rw [(hle q.1 hl).1, (hle q.1 hl).2]
    exact ⟨e1, e2⟩
  · have hq14 : q.1 = 14 := (by decide : ∀ q ∈ rp_RM, q.1 = 14) q hq
    have e2 := hM.2 q hq
    rw [hq14] at e2 ⊢
    rw [(e 14 hS).2.2.2.1]
    exact e2
theorem DL_eq {h h' : am_H} {S : Nat → Prop} {n : Nat} (hn : n ≤ 6) (hS : ∀ r, S r → r < 100 ∨ 124 ≤ r) (e : am_eq S h h') (hD : DL h n) : DL h' n := by
  intro i hi
  have q0 := e (100 + 4 * i) (fun z => by have := hS _ z; omega)
  have q1 := e (101 + 4 * i) (fun z => by have := hS _ z; omega)
  have q2 := e (102 + 4 * i) (fun z => by have := hS _ z; omega)
  have q3 := e (103 + 4 * i) (fun z => by have := hS _ z; omega)
  obtain ⟨⟨a1, a2, a3, a4, a5, a6, a7⟩, ⟨b1, b2, b3⟩, c1⟩ := hD i hi
  refine ⟨⟨q0.1.trans a1, q1.1.trans a2, q1.2.1.trans a3, q2.1.trans a4, q2.2.1.trans a5, q3.1.trans a6, q3.2.1.trans a7⟩, ⟨(q0.2.2.2.1 _).trans b1, (q0.2.2.2.1 _).trans b2, (q0.2.2.2.1 _).trans b3⟩, fun k hk => ?_⟩
  rw [q3.2.2.2.1 k]
  exact c1 k hk
