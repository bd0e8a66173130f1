/-! ===== the class's calls: begin, grant, print ===== -/
/-- a fresh drawing -/
def ND (h : am_H) (n : Nat) : Prop := (∀ s, s < 40 → tC h n s = -1) ∧ (∀ c, c < 25 → xC h n c = false) ∧ (∀ k, rC h n k = false) ∧ hi_ h (100 + 4 * n) 3 = -1 ∧ hi_ h (100 + 4 * n) 4 = -1
def SB (n r : Nat) : Prop := SL 4 r ∨ r = 100 + 4 * n ∨ r = 101 + 4 * n ∨ r = 102 + 4 * n ∨ r = 103 + 4 * n
def SG (np r : Nat) : Prop := FS r ∨ SL 5 r ∨ r = 200 + 4 * np ∨ r = 201 + 4 * np ∨ r = 202 + 4 * np ∨ r = 203 + 4 * np
def SP (nq r : Nat) : Prop := SL 6 r ∨ r = 300 + 4 * nq ∨ r = 301 + 4 * nq ∨ r = 302 + 4 * nq ∨ r = 303 + 4 * nq
theorem rp_D_mono {h h' : am_H} {n i : Nat} (e : ∀ r, 100 + 4 * i ≤ r → r < 104 + 4 * i → hk_ h' r = hk_ h r ∧ hn_ h' r = hn_ h r ∧ ∀ k, hr_ h' r k = hr_ h r k) (hd : rp_D h n i) : rp_D h' (n + 1) i := by
  obtain ⟨⟨a1, a2, a3, a4, a5, a6, a7⟩, ⟨b1, b2, b3⟩, c⟩ := hd
  have e0 := e (100 + 4 * i) (by omega) (by omega)
  have e1 := e (101 + 4 * i) (by omega) (by omega)
  have e2 := e (102 + 4 * i) (by omega) (by omega)
  have e3 := e (103 + 4 * i) (by omega) (by omega)
  refine ⟨⟨e0.1.trans a1, e1.1.trans a2, e1.2.1.trans a3, e2.1.trans a4, e2.2.1.trans a5, e3.1.trans a6, e3.2.1.trans a7⟩, ⟨(e0.2.2 _).trans b1, (e0.2.2 _).trans b2, (e0.2.2 _).trans b3⟩, fun k hk => ?_⟩
  rw [e3.2.2]
  rcases c k hk with z | ⟨z1, z2⟩
  · exact Or.inl z
  · exact Or.inr ⟨by omega, z2⟩
theorem PMx_mono {h : am_H} {n m i : Nat} (hm : n ≤ m) : PMx h n i → PMx h m i := fun ⟨a, b, c, d, hd, e⟩ => ⟨a, b, c, d, by omega, e⟩
theorem PNx_mono {h : am_H} {n m i : Nat} (hm : n ≤ m) : PNx h n i → PNx h m i := fun ⟨a, b, c, d, hd, e⟩ => ⟨a, b, c, d, by omega, e⟩
theorem PMx_e {S : Nat → Prop} {h h' : am_H} {n i : Nat} (hS : ¬ S (200 + 4 * i) ∧ ¬ S (201 + 4 * i)) (e : am_eq S h h') (hle : am_le h h') (hp : PMx h n i) : PMx h' n i := by
  obtain ⟨a1, a2, a3, d, hd, a4⟩ := hp
  have e1 := e (200 + 4 * i) hS.1
  exact ⟨e1.1.trans a1, (e1.2.2.2.1 _).trans a2, ST_eq hS.2 e hle a3, d, hd, (e1.2.2.2.1 _).trans a4⟩
theorem PNx_e {S : Nat → Prop} {h h' : am_H} {n i : Nat} (hS : ¬ S (300 + 4 * i) ∧ ¬ S (301 + 4 * i)) (e : am_eq S h h') (hle : am_le h h') (hp : PNx h n i) : PNx h' n i := by
  obtain ⟨a1, a2, a3, d, hd, a4⟩ := hp
  have e1 := e (300 + 4 * i) hS.1
  exact ⟨e1.1.trans a1, (e1.2.2.2.1 _).trans a2, ST_eq hS.2 e hle a3, d, hd, (e1.2.2.2.1 _).trans a4⟩
theorem FC_e {S : Nat → Prop} {h h' : am_H} (hS : ∀ r, S r → r = 4 ∨ r = 5 ∨ r = 6 ∨ 9 ≤ r) (e : am_eq S h h') (hle : am_le h h') (hF : FC h) : FC h' := by
  refine ⟨fun q hq => ?_, fun q hq => ?_⟩
  · obtain ⟨e1, e2⟩ := hF.1 q hq
    have hl : hk_ h q.1 ≠ 0 := by
      rw [e1]
      exact (by decide : ∀ q ∈ rp_K, q.2.1 ≠ 0) q hq
    rw [(hle q.1 hl).1, (hle q.1 hl).2]
    exact ⟨e1, e2⟩
  · have hn : ¬ S q.1 := fun z => by
      have h1 := hS _ z
      have h2 := (by decide : ∀ q ∈ rp_R, q.1 = 3 ∨ q.1 = 7 ∨ q.1 = 8) q hq
      omega
    rw [(e q.1 hn).2.2.2.1]
    exact hF.2 q hq
theorem SL_lo {L r : Nat} (h1 : 4 ≤ L) (h2 : L ≤ 6) (h : SL L r) : r = L ∨ 1400 ≤ r := by
  unfold SL at h
  omega
theorem SL_ne {L L' r : Nat} (h1 : 4 ≤ L ∧ L ≤ 6) (h2 : 4 ≤ L' ∧ L' ≤ 6) (hn : L ≠ L') (h : SL L r) : ¬ SL L' r := fun z => by
  unfold SL at h z
  omega
theorem CI_begin {h g : am_H} {n np nq : Nat} (hn : n < 6) (hc : CI h n np nq) (e : am_eq (SB n) h g) (hle : am_le h g) (hl : ∃ c, LT g 4 (n + 1) c 100 1)
    (k : hk_ g (100 + 4 * n) = 2 ∧ hk_ g (101 + 4 * n) = 9 ∧ hn_ g (101 + 4 * n) = 40 ∧ hk_ g (102 + 4 * n) = 10 ∧ hn_ g (102 + 4 * n) = 25 ∧ hk_ g (103 + 4 * n) = 11 ∧ hn_ g (103 + 4 * n) = 6) (r : hr_ g (100 + 4 * n) 0 = 101 + 4 * n ∧ hr_ g (100 + 4 * n) 1 = 102 + 4 * n ∧ hr_ g (100 + 4 * n) 2 = 103 + 4 * n) (x : ∀ k, hi_ g (102 + 4 * n) k = 0) (o : ∀ k, hr_ g (103 + 4 * n) k = 0) : CI g (n + 1) np nq := by
  obtain ⟨⟨f, dl, xb⟩, ⟨n6, np20, nq30⟩, ⟨-, ⟨c5, l5⟩, ⟨c6, l6⟩⟩, ⟨pm, pn⟩, dd⟩ := hc
  have hS : ∀ r, SB n r → r = 4 ∨ 1400 ≤ r ∨ (100 + 4 * n ≤ r ∧ r < 104 + 4 * n) := fun r z => by
    rcases z with z | z
    · have := SL_lo (by decide) (by decide) z
      omega
    · omega
  have hL : ∀ L, L = 5 ∨ L = 6 → ∀ r, SB n r → ¬ SL L r := fun L hL r z q => by
    rcases z with z | z
    · exact SL_ne (by decide) (by omega) (by omega) z q
    · unfold SL at q
      omega
  refine ⟨⟨FC_e (fun r z => by have := hS r z; omega) e hle f, fun i hi => ?_, fun d hd c hcc => ?_⟩, ⟨by omega, np20, nq30⟩, ⟨hl, ⟨c5, LT_eq (hL 5 (Or.inl rfl)) e hle l5⟩, ⟨c6, LT_eq (hL 6 (Or.inr rfl)) e hle l6⟩⟩, ⟨fun i hi => PMx_mono (by omega) (PMx_e ⟨fun z => by have := hS _ z; omega, fun z => by have := hS _ z; omega⟩ e hle (pm i hi)), fun i hi => PNx_mono (by omega) (PNx_e ⟨fun z => by have := hS _ z; omega, fun z => by have := hS _ z; omega⟩ e hle (pn i hi))⟩, fun r hr => ?_⟩
  · rcases Nat.lt_or_eq_of_le (Nat.le_of_lt_succ hi) with z | z
    · exact rp_D_mono (fun r h1 h2 => by
        have q := e r (fun z => by have := hS _ z; omega)
        exact ⟨q.1, q.2.1, q.2.2.2.1⟩) (dl i z)
    · subst z
      exact ⟨k, r, fun k _ => Or.inl (o k)⟩
  · rcases Nat.lt_or_eq_of_le (Nat.le_of_lt_succ hd) with z | z
    · have q := (e (102 + 4 * d) (fun z => by have := hS _ z; omega)).2.2.1 c
      unfold xC
      rw [q]
      exact xb d z c hcc
    · subst z
      unfold xC
      rw [x c]
      rfl
  · unfold ded at hr
    exact (e r (fun z => by have := hS r z; omega)).1.trans (dd r (by unfold ded; omega))
theorem CI_grant {h g : am_H} {n np nq : Nat} (hn : np < 20) (hc : CI h n np nq) (e : am_eq (SG np) h g) (hle : am_le h g) (hl : ∃ c, LT g 5 (np + 1) c 200 3) (p : PMx g n np) : CI g n (np + 1) nq := by
  obtain ⟨⟨f, dl, xb⟩, ⟨n6, np20, nq30⟩, ⟨⟨c4, l4⟩, -, ⟨c6, l6⟩⟩, ⟨pm, pn⟩, dd⟩ := hc
  have hS : ∀ r, SG np r → r = 5 ∨ 1400 ≤ r ∨ (9 ≤ r ∧ r ≤ 13) ∨ (200 + 4 * np ≤ r ∧ r < 204 + 4 * np) := fun r z => by
    rcases z with z | z | z
    · exact Or.inr (Or.inr (Or.inl z))
    · have := SL_lo (by decide) (by decide) z
      omega
    · omega
  have hL : ∀ L, L = 4 ∨ L = 6 → ∀ r, SG np r → ¬ SL L r := fun L hL r z q => by
    rcases z with z | z | z
    · unfold SL at q
      unfold FS at z
      omega
    · exact SL_ne (by decide) (by omega) (by omega) z q
    · unfold SL at q
      omega
  have hso : ∀ r, SG np r → offD r := fun r z => by have := hS r z; unfold offD; omega
  refine ⟨⟨FC_e (fun r z => by have := hS r z; omega) e hle f, DL_off hso e n6 dl, XB_eq hso e n6 xb⟩, ⟨n6, by omega, nq30⟩, ⟨⟨c4, LT_eq (hL 4 (Or.inl rfl)) e hle l4⟩, hl, ⟨c6, LT_eq (hL 6 (Or.inr rfl)) e hle l6⟩⟩, ⟨fun i hi => ?_, fun i hi => PNx_e ⟨fun z => by have := hS _ z; omega, fun z => by have := hS _ z; omega⟩ e hle (pn i hi)⟩, fun r hr => ?_⟩
  · rcases Nat.lt_or_eq_of_le (Nat.le_of_lt_succ hi) with z | z
    · exact PMx_e ⟨fun z => by have := hS _ z; omega, fun z => by have := hS _ z; omega⟩ e hle (pm i z)
    · subst z
      exact p
  · unfold ded at hr
    exact (e r (fun z => by have := hS r z; omega)).1.trans (dd r (by unfold ded; omega))
theorem CI_print {h g : am_H} {n np nq : Nat} (hn : nq < 30) (hc : CI h n np nq) (e : am_eq (SP nq) h g) (hle : am_le h g) (hl : ∃ c, LT g 6 (nq + 1) c 300 4) (p : PNx g n nq) : CI g n np (nq + 1) := by
  obtain ⟨⟨f, dl, xb⟩, ⟨n6, np20, nq30⟩, ⟨⟨c4, l4⟩, ⟨c5, l5⟩, -⟩, ⟨pm, pn⟩, dd⟩ := hc
  have hS : ∀ r, SP nq r → r = 6 ∨ 1400 ≤ r ∨ (300 + 4 * nq ≤ r ∧ r < 304 + 4 * nq) := fun r z => by
    rcases z with z | z
    · have := SL_lo (by decide) (by decide) z
      omega
    · omega
  have hL : ∀ L, L = 4 ∨ L = 5 → ∀ r, SP nq r → ¬ SL L r := fun L hL r z q => by
    rcases z with z | z
    · exact SL_ne (by decide) (by omega) (by omega) z q
    · unfold SL at q
      omega
  have hso : ∀ r, SP nq r → offD r := fun r z => by have := hS r z; unfold offD; omega
  refine ⟨⟨FC_e (fun r z => by have := hS r z; omega) e hle f, DL_off hso e n6 dl, XB_eq hso e n6 xb⟩, ⟨n6, np20, by omega⟩, ⟨⟨c4, LT_eq (hL 4 (Or.inl rfl)) e hle l4⟩, ⟨c5, LT_eq (hL 5 (Or.inr rfl)) e hle l5⟩, hl⟩, ⟨fun i hi => PMx_e ⟨fun z => by have := hS _ z; omega, fun z => by have := hS _ z; omega⟩ e hle (pm i hi), fun i hi => ?_⟩, fun r hr => ?_⟩
  · rcases Nat.lt_or_eq_of_le (Nat.le_of_lt_succ hi) with z | z
    · exact PNx_e ⟨fun z => by have := hS _ z; omega, fun z => by have := hS _ z; omega⟩ e hle (pn i z)
    · subst z
      exact p
  · unfold ded at hr
    exact (e r (fun z => by have := hS r z; omega)).1.trans (dd r (by unfold ded; omega))
