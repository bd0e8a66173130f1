/-! ===== answers over the data: what permits and prints keep ===== -/
def z_sdS (σ : z_Sg) (d : Nat) : Nat → Int32 := fun s => z_cd (z_sdF (z_T σ) (z_R σ) 6 d s)
def z_exS (σ : z_Sg) (d : Nat) : Nat → Bool := fun c => exF (z_X σ) (z_R σ) 6 d c
def z_keeps (σ : z_Sg) (d : Nat) (a : List Nat) (b : List Bool) : Bool := (List.range 40).all (fun s => z_cq (a.getD s 0) (z_sdF (z_T σ) (z_R σ) 6 d s)) && (List.range 25).all (fun c => b.getD c false == exF (z_X σ) (z_R σ) 6 d c)
theorem z_b2i_inj {a b : Bool} : b2i a = b2i b ↔ a = b := by cases a <;> cases b <;> decide
theorem z_keeps_iff {h : am_H} {σ : z_Sg} {d A B : Nat} {a : List Nat} {b : List Bool} (hS : SZ h σ) (hd : d < z_n σ) (hA : ∀ s, s < 40 → hi_ h A s = z_cd (a.getD s 0)) (hB : ∀ c, c < 25 → hi_ h B c = b2i (b.getD c false)) : KP h A B d ↔ z_keeps σ d a b = true := by
  unfold KP z_keeps
  rw [Bool.and_eq_true, List.all_eq_true, List.all_eq_true]
  constructor
  · rintro ⟨h1, h2⟩
    refine ⟨fun s hs => ?_, fun c hc => ?_⟩
    · have hs := List.mem_range.mp hs
      rw [z_cq_iff, ← hA s hs, h1 s hs, SZ_sd hS hd hs]
    · have hc := List.mem_range.mp hc
      rw [beq_iff_eq, ← z_b2i_inj, ← hB c hc, h2 c hc, SZ_ex hS hd hc]
  · rintro ⟨h1, h2⟩
    refine ⟨fun s hs => ?_, fun c hc => ?_⟩
    · rw [hA s hs, SZ_sd hS hd hs]
      exact z_cq_iff.mp (h1 s (List.mem_range.mpr hs))
    · rw [hB c hc, SZ_ex hS hd hc, z_b2i_inj]
      exact beq_iff_eq.mp (h2 c (List.mem_range.mpr hc))
def z_pok (σ : z_Sg) (i : Nat) : Bool := z_keeps σ (z_gP σ i).1 (z_gP σ i).2.1 (z_gP σ i).2.2
def z_qok (σ : z_Sg) (i : Nat) : Bool := z_keeps σ (z_gQ σ i).1 (z_gQ σ i).2.1 (z_gQ σ i).2.2.1
theorem SZ_pd {h : am_H} {σ : z_Sg} (hS : SZ h σ) {i : Nat} (hi : i < z_np σ) : pdH h i = (z_gP σ i).1 ∧ (z_gP σ i).1 < z_n σ := by
  have e := (hS.2.2.1 i hi).1
  exact ⟨e, by rw [← e]; exact pd_lt (hS.1.2.2.2.1.1 i hi)⟩
theorem SZ_qd {h : am_H} {σ : z_Sg} (hS : SZ h σ) {i : Nat} (hi : i < z_nq σ) : qdH h i = (z_gQ σ i).1 ∧ (z_gQ σ i).1 < z_n σ := by
  have e := (hS.2.2.2 i hi).1
  exact ⟨e, by rw [← e]; exact qd_lt (hS.1.2.2.2.1.2 i hi)⟩
theorem SZ_pok {h : am_H} {σ : z_Sg} (hS : SZ h σ) {i : Nat} (hi : i < z_np σ) : KPm h i ↔ z_pok σ i = true := by
  obtain ⟨e, hd⟩ := SZ_pd hS hi
  unfold KPm
  rw [e]
  exact z_keeps_iff hS hd (hS.2.2.1 i hi).2.1 (hS.2.2.1 i hi).2.2
theorem SZ_qok {h : am_H} {σ : z_Sg} (hS : SZ h σ) {i : Nat} (hi : i < z_nq σ) : KQm h i ↔ z_qok σ i = true := by
  obtain ⟨e, hd⟩ := SZ_qd hS hi
  unfold KQm
  rw [e]
  exact z_keeps_iff hS hd (hS.2.2.2 i hi).2.1 (hS.2.2.2 i hi).2.2.1
def z_hp (σ : z_Sg) (d : Nat) : Nat → Int32
  | 0 => -1
  | k + 1 => if (z_gP σ k).1 = d ∧ z_pok σ k = true then nI k else z_hp σ d k
theorem SZ_hpF {h : am_H} {σ : z_Sg} (hS : SZ h σ) (d : Nat) : ∀ m, m ≤ z_np σ → HPm h m d (z_hp σ d m)
  | 0, _ => Or.inl ⟨rfl, fun k hk => absurd hk (Nat.not_lt_zero k)⟩
  | m + 1, hm => by
    have ih := SZ_hpF hS d m (by omega)
    have hm' : m < z_np σ := hm
    have key : ((z_gP σ m).1 = d ∧ z_pok σ m = true) ↔ (pdH h m = d ∧ KPm h m) := by rw [SZ_pok hS hm', (SZ_pd hS hm').1]
    show HPm h (m + 1) d (if (z_gP σ m).1 = d ∧ z_pok σ m = true then nI m else z_hp σ d m)
    by_cases z : (z_gP σ m).1 = d ∧ z_pok σ m = true
    · rw [if_pos z]
      exact Or.inr ⟨m, by omega, rfl, key.mp z, fun j h1 h2 => by omega⟩
    · rw [if_neg z]
      have nz : ¬ (pdH h m = d ∧ KPm h m) := fun q => z (key.mpr q)
      rcases ih with ⟨e, f⟩ | ⟨k, h1, h2, h3, h4⟩
      · refine Or.inl ⟨e, fun k hk => ?_⟩
        by_cases q : k = m
        · rw [q]; exact nz
        · exact f k (by omega)
      · refine Or.inr ⟨k, by omega, h2, h3, fun j h5 h6 => ?_⟩
        by_cases q : j = m
        · rw [q]; exact nz
        · exact h4 j h5 (by omega)
theorem SZ_hp {h : am_H} {σ : z_Sg} (hS : SZ h σ) {d : Nat} {R : Int32} (hR : HPm h (z_np σ) d R) : R = z_hp σ d (z_np σ) :=
  HPm_u (by have := (SZ_6 hS).2.1; omega) hR (SZ_hpF hS d _ (Nat.le_refl _))
def z_good (σ : z_Sg) (i : Nat) : Bool := !decide ((z_gQ σ i).2.2.2 = -1) && z_qok σ i
def z_old (σ : z_Sg) : Int32 := nI (cnt (fun i => !z_qok σ i) (z_nq σ))
theorem SZ_good {h : am_H} {σ : z_Sg} (hS : SZ h σ) {i : Nat} (hi : i < z_nq σ) {R : Bool} (hR : R = true ↔ hi_ h (300 + 4 * i) 2 ≠ -1 ∧ KQm h i) : R = z_good σ i := by
  rw [(hS.2.2.2 i hi).2.2.2, SZ_qok hS hi] at hR
  unfold z_good
  cases R
  · have this : ¬ ((z_gQ σ i).2.2.2 ≠ -1 ∧ z_qok σ i = true) := fun q => absurd (hR.mpr q) (by decide)
    by_cases z : (z_gQ σ i).2.2.2 = -1
    · rw [decide_eq_true z]; rfl
    · rw [decide_eq_false z]
      cases e : z_qok σ i
      · rfl
      · exact absurd ⟨z, e⟩ this
  · obtain ⟨h1, h2⟩ := hR.mp rfl
    rw [decide_eq_false h1, h2]
    rfl
theorem z_tf {R : Bool} {b : Bool} {P : Prop} (h1 : R = true ↔ P) (h2 : P ↔ b = true) : R = b := by
  have := h1.trans h2
  cases R <;> cases b
  · rfl
  · exact absurd (this.mpr rfl) (by decide)
  · exact absurd (this.mp rfl) (by decide)
  · rfl
theorem SZ_old {h : am_H} {σ : z_Sg} (hS : SZ h σ) {p : Nat → Bool} (hp : ∀ i, i < z_nq σ → (p i = true ↔ ¬ KQm h i)) : nI (cnt p (z_nq σ)) = z_old σ := by
  unfold z_old
  rw [cnt_cg (fun i hi => ?_)]
  refine z_tf (hp i hi) ?_
  rw [SZ_qok hS hi]
  cases z_qok σ i <;> decide
/-! ===== rooms over the data ===== -/
theorem VR_cg {sd sd' : Nat → Int32} (e : ∀ s, s < 40 → sd s = sd' s) {v : Int32} (h : VR sd v) : VR sd' v := by
  obtain ⟨ro, a, rfl⟩ := h
  exact ⟨ro, PR_cg e a, rfl⟩
theorem VM_cg {sd sd' : Nat → Int32} (e : ∀ s, s < 40 → sd s = sd' s) {c : Nat} {v : Int32} (h : VM sd c v) : VM sd' c v := by
  obtain ⟨ro, a, rfl⟩ := h
  exact ⟨ro, PR_cg e a, rfl⟩
theorem VS_cg {sd sd' : Nat → Int32} (e : ∀ s, s < 40 → sd s = sd' s) {c : Nat} {v : Int32} (h : VS sd c v) : VS sd' c v := by
  obtain ⟨ro, a, rfl⟩ := h
  exact ⟨ro, PR_cg e a, rfl⟩
theorem z_Dist_cg {sd sd' : Nat → Int32} {ex ex' : Nat → Bool} (e : ∀ s, s < 40 → sd s = sd' s) (f : ∀ c, c < 25 → ex c = ex' c) {ro : Nat → Nat} {D : Nat → Option Nat} (h : DistOK 25 (exR ex ro) (adjD sd ro) D) : DistOK 25 (exR ex' ro) (adjD sd' ro) D :=
  Dist_cg (fun r _ => ⟨fun ⟨c, h1, h2, h3⟩ => ⟨c, h1, h2, by rw [← f c h1]; exact h3⟩, fun ⟨c, h1, h2, h3⟩ => ⟨c, h1, h2, by rw [f c h1]; exact h3⟩⟩) (fun _ _ _ _ => ⟨adjD_cg e, adjD_cg (fun s hs => (e s hs).symm)⟩) h
theorem VD_cg {sd sd' : Nat → Int32} {ex ex' : Nat → Bool} (e : ∀ s, s < 40 → sd s = sd' s) (f : ∀ c, c < 25 → ex c = ex' c) {c : Nat} {v : Int32} (h : VD sd ex c v) : VD sd' ex' c v := by
  obtain ⟨ro, D, a, d, rfl⟩ := h
  exact ⟨ro, D, PR_cg e a, z_Dist_cg e f d, rfl⟩
theorem VH_cg {sd sd' : Nat → Int32} {ex ex' : Nat → Bool} (e : ∀ s, s < 40 → sd s = sd' s) (f : ∀ c, c < 25 → ex c = ex' c) {c : Nat} {v : Int32} (h : VH sd ex c v) : VH sd' ex' c v := by
  obtain ⟨ro, D, a, d, h1, h2⟩ := h
  refine ⟨ro, D, PR_cg e a, z_Dist_cg e f d, h1, fun q => ?_⟩
  obtain ⟨D2, h3, h4⟩ := h2 q
  refine ⟨D2, Dist_cg (fun r _ => Iff.rfl) (fun _ _ _ _ => ⟨adjD_cg e, adjD_cg (fun s hs => (e s hs).symm)⟩) h3, h4.trans (fi_cg 40 0 (fun s hs => ?_))⟩
  unfold pw
  rw [e s (by omega)]
theorem VW_cg {sd sd' : Nat → Int32} {ex ex' : Nat → Bool} (e : ∀ s, s < 40 → sd s = sd' s) (f : ∀ c, c < 25 → ex c = ex' c) {R : Bool} (h : VW sd ex R) : VW sd' ex' R := by
  obtain ⟨ro, D, a, d, h1⟩ := h
  exact ⟨ro, D, PR_cg e a, z_Dist_cg e f d, h1⟩
theorem SZ_sdS {h : am_H} {σ : z_Sg} (hS : SZ h σ) {d : Nat} (hd : d < z_n σ) : ∀ s, s < 40 → sdH h d s = z_sdS σ d s := fun _ hs => SZ_sd hS hd hs
theorem SZ_exS {h : am_H} {σ : z_Sg} (hS : SZ h σ) {d : Nat} (hd : d < z_n σ) : ∀ c, c < 25 → exH h d c = z_exS σ d c := fun _ hc => SZ_ex hS hd hc
/-! rooms, by joining -/
abbrev z_g (l : List Nat) : Nat → Nat := fun c => l.getD c 0
def z_sdL (l : List Nat) : Nat → Int32 := fun s => z_cd (l.getD s 0)
def z_exL (l : List Bool) : Nat → Bool := fun c => l.getD c false
def z_jn (ro : List Nat) (a b : Nat) : List Nat := ro.map (fun c => if c = max a b then min a b else c)
def z_ro (sl : List Nat) : Nat → List Nat
  | 0 => List.range 25
  | i + 1 => if sl.getD i 0 ≤ 1 then z_jn (z_ro sl i) ((z_ro sl i).getD (fc_ i) 0) ((z_ro sl i).getD (sc_ i) 0) else z_ro sl i
theorem z_ro_len (sl : List Nat) : ∀ i, (z_ro sl i).length = 25
  | 0 => List.length_range
  | i + 1 => by
    have ih := z_ro_len sl i
    show (if sl.getD i 0 ≤ 1 then _ else _ : List Nat).length = 25
    split
    · unfold z_jn
      rw [List.length_map]
      exact ih
    · exact ih
theorem z_PR_ro {sd : Nat → Int32} {i : Nat} {ro ro' : Nat → Nat} (hi : i ≤ 40) (e : ∀ c, c < 25 → ro c = ro' c) (h : PR sd i ro) : PR sd i ro' :=
  ⟨fun s hs ho => by rw [← e _ (fc_lt (by omega)), ← e _ (sc_lt (by omega))]; exact h.1 s hs ho, fun c hc => by rw [← e c hc]; exact h.2 c hc⟩
theorem z_ro_ok (sl : List Nat) : ∀ i, i ≤ 40 → PR (z_sdL sl) i (z_g (z_ro sl i))
  | 0, _ => by
    refine z_PR_ro (by decide) (fun c hc => ?_) (PR_0 (z_sdL sl))
    show c = (List.range 25).getD c 0
    rw [List.getD_eq_getElem?_getD, List.getElem?_range hc]
    rfl
  | i + 1, hi => by
    have ih := z_ro_ok sl i (by omega)
    by_cases z : sl.getD i 0 ≤ 1
    · have ho : opn (z_sdL sl i) := z_cd_o.mpr z
      refine z_PR_ro hi (fun c hc => ?_) (PR_join ih (by omega) ho)
      have e : z_ro sl (i + 1) = z_jn (z_ro sl i) (z_g (z_ro sl i) (fc_ i)) (z_g (z_ro sl i) (sc_ i)) := if_pos z
      show _ = (z_ro sl (i + 1)).getD c 0
      rw [e]
      unfold z_jn
      have hc' : c < (z_ro sl i).length := by rw [z_ro_len]; exact hc
      have e2 : (z_ro sl i)[c]? = some (z_g (z_ro sl i) c) := by
        show _ = some ((z_ro sl i).getD c 0)
        rw [List.getD_eq_getElem?_getD, List.getElem?_eq_getElem hc']
        rfl
      rw [List.getD_eq_getElem?_getD, List.getElem?_map, e2]
      rfl
    · have e : z_ro sl (i + 1) = z_ro sl i := if_neg z
      rw [e]
      exact PR_skip ih (fun q => z (z_cd_o.mp q))
/-! doors between rooms, distances -/
def z_dr (sl ro : List Nat) : List (Nat × Nat) := ((List.range 40).filter (fun s => decide (3 ≤ sl.getD s 0))).map (fun s => (z_g ro (fc_ s), z_g ro (sc_ s)))
theorem z_dr_iff {sl ro : List Nat} {q : Nat × Nat} : q ∈ z_dr sl ro ↔ ∃ s, s < 40 ∧ z_sdL sl s = 2 ∧ q = (z_g ro (fc_ s), z_g ro (sc_ s)) := by
  unfold z_dr
  rw [List.mem_map]
  constructor
  · rintro ⟨s, hs, rfl⟩
    obtain ⟨h1, h2⟩ := List.mem_filter.mp hs
    exact ⟨s, List.mem_range.mp h1, z_cd_3.mpr (of_decide_eq_true h2), rfl⟩
  · rintro ⟨s, h1, h2, rfl⟩
    exact ⟨s, List.mem_filter.mpr ⟨List.mem_range.mpr h1, decide_eq_true (z_cd_3.mp h2)⟩, rfl⟩
def z_oD (D : List Nat) : Nat → Option Nat := fun r => if D.getD r 0 = 0 then none else some (D.getD r 0 - 1)
def z_near (D : List Nat) (r a b : Nat) : Bool := decide (a = r) && (decide (0 < z_g D b) && decide (z_g D b < z_g D r))
def z_far (D : List Nat) (a b : Nat) : Bool := decide (z_g D a = 0) || (decide (0 < z_g D b) && decide (z_g D b ≤ z_g D a + 1))
def z_ck (dd : List (Nat × Nat)) (src : Nat → Bool) (D : List Nat) : Bool :=
  (List.range 25).all (fun r => (!src r || decide (z_g D r = 1)) && (decide (z_g D r = 0) || ((decide (z_g D r = 1) && src r) || dd.any (fun q => z_near D r q.1 q.2 || z_near D r q.2 q.1)))) && dd.all (fun q => z_far D q.1 q.2 && z_far D q.2 q.1)
theorem z_oD_some {D : List Nat} {r k : Nat} : z_oD D r = some k ↔ z_g D r = k + 1 := by
  unfold z_oD
  show (if z_g D r = 0 then none else some (z_g D r - 1)) = some k ↔ _
  by_cases z : z_g D r = 0
  · rw [if_pos z]
    exact ⟨fun q => (by cases q), fun q => (by omega)⟩
  · rw [if_neg z]
    exact ⟨fun q => by have := Option.some.inj q; omega, fun q => by rw [q]; rfl⟩
theorem z_ck_ok {sl ro D : List Nat} {src : Nat → Bool} {P : Nat → Prop} (hro : RoomOK (z_sdL sl) (z_g ro)) (hP : ∀ r, r < 25 → (P r ↔ src r = true)) (h : z_ck (z_dr sl ro) src D = true) : DistOK 25 P (adjD (z_sdL sl) (z_g ro)) (z_oD D) := by
  unfold z_ck at h
  rw [Bool.and_eq_true, List.all_eq_true, List.all_eq_true] at h
  obtain ⟨h1, h2⟩ := h
  have near : ∀ {r a b : Nat}, z_near D r a b = true → a = r ∧ 0 < z_g D b ∧ z_g D b < z_g D r := fun {r a b} q => by
    unfold z_near at q
    rw [Bool.and_eq_true, Bool.and_eq_true] at q
    exact ⟨of_decide_eq_true q.1, of_decide_eq_true q.2.1, of_decide_eq_true q.2.2⟩
  have far : ∀ {a b k : Nat}, z_far D a b = true → z_g D a = k + 1 → ∃ k', z_g D b = k' + 1 ∧ k' ≤ k + 1 := fun {a b k} q e => by
    unfold z_far at q
    rw [Bool.or_eq_true, Bool.and_eq_true] at q
    rcases q with q | ⟨q1, q2⟩
    · have := of_decide_eq_true q; omega
    · have a1 := of_decide_eq_true q1
      have a2 := of_decide_eq_true q2
      exact ⟨z_g D b - 1, by omega, by omega⟩
  refine ⟨fun r hr hs => ?_, fun r hr k hk => ?_, fun r r' hr hr' ha k hk => ?_⟩
  · have q := h1 r (List.mem_range.mpr hr)
    rw [Bool.and_eq_true, (hP r hr).mp hs] at q
    exact z_oD_some.mpr (of_decide_eq_true q.1)
  · have q := h1 r (List.mem_range.mpr hr)
    simp only [Bool.and_eq_true, Bool.or_eq_true, List.any_eq_true] at q
    have hk' := z_oD_some.mp hk
    rcases q.2 with q | ⟨q1, q2⟩ | ⟨q, hq, hn⟩
    · have := of_decide_eq_true q; omega
    · have := of_decide_eq_true q1
      exact Or.inl ⟨by omega, (hP r hr).mpr q2⟩
    · obtain ⟨s, hs, hd, rfl⟩ := z_dr_iff.mp hq
      rcases hn with hn | hn
      · obtain ⟨e, a, b⟩ := near hn
        dsimp only at e a b
        exact Or.inr ⟨z_g ro (sc_ s), z_g D (z_g ro (sc_ s)) - 1, Room_lt hro (sc_lt hs), ⟨s, hs, hd, Or.inr ⟨rfl, e.symm⟩⟩, z_oD_some.mpr (by omega), by omega⟩
      · obtain ⟨e, a, b⟩ := near hn
        dsimp only at e a b
        exact Or.inr ⟨z_g ro (fc_ s), z_g D (z_g ro (fc_ s)) - 1, Room_lt hro (fc_lt hs), ⟨s, hs, hd, Or.inl ⟨rfl, e.symm⟩⟩, z_oD_some.mpr (by omega), by omega⟩
  · obtain ⟨s, hs, hd, he⟩ := ha
    have q := h2 _ (z_dr_iff.mpr ⟨s, hs, hd, rfl⟩)
    rw [Bool.and_eq_true] at q
    have hk' := z_oD_some.mp hk
    rcases he with ⟨e1, e2⟩ | ⟨e1, e2⟩
    · rw [e1] at hk'
      obtain ⟨k', a, b⟩ := far q.1 hk'
      exact ⟨k', z_oD_some.mpr (by rw [e2]; exact a), b⟩
    · rw [e1] at hk'
      obtain ⟨k', a, b⟩ := far q.2 hk'
      exact ⟨k', z_oD_some.mpr (by rw [e2]; exact a), b⟩
def z_sr (ro : List Nat) (xl : List Bool) (r : Nat) : Bool := (List.range 25).any (fun c => decide (z_g ro c = r) && xl.getD c false)
theorem z_sr_iff {ro : List Nat} {xl : List Bool} {r : Nat} : exR (z_exL xl) (z_g ro) r ↔ z_sr ro xl r = true := by
  unfold z_sr
  rw [List.any_eq_true]
  constructor
  · rintro ⟨c, h1, h2, h3⟩
    exact ⟨c, List.mem_range.mpr h1, by rw [Bool.and_eq_true]; exact ⟨decide_eq_true h2, h3⟩⟩
  · rintro ⟨c, h1, h2⟩
    rw [Bool.and_eq_true] at h2
    exact ⟨c, List.mem_range.mp h1, of_decide_eq_true h2.1, h2.2⟩
/-- sides sl, exits xl, rooms ro, distances D are drawing d's -/
def z_vw (σ : z_Sg) (d : Nat) (sl : List Nat) (xl : List Bool) (ro D : List Nat) : Bool := decide (z_sl σ d = sl) && (decide (z_xl σ d = xl) && (decide (z_ro sl 40 = ro) && z_ck (z_dr sl ro) (z_sr ro xl) D))
def z_VW (σ : z_Sg) (d : Nat) (sl : List Nat) (xl : List Bool) (ro D : List Nat) : Prop := (∀ s, s < 40 → z_sdL sl s = z_sdS σ d s) ∧ (∀ c, c < 25 → z_exL xl c = z_exS σ d c) ∧ RoomOK (z_sdL sl) (z_g ro) ∧ DistOK 25 (exR (z_exL xl) (z_g ro)) (adjD (z_sdL sl) (z_g ro)) (z_oD D)
theorem z_vw_ok {σ : z_Sg} {d : Nat} {sl : List Nat} {xl : List Bool} {ro D : List Nat} (h : z_vw σ d sl xl ro D = true) : z_VW σ d sl xl ro D := by
  unfold z_vw at h
  rw [Bool.and_eq_true, Bool.and_eq_true, Bool.and_eq_true] at h
  obtain ⟨h1, h2, h3, h4⟩ := h
  have e1 := of_decide_eq_true h1
  have e2 := of_decide_eq_true h2
  have e3 := of_decide_eq_true h3
  have hro : RoomOK (z_sdL sl) (z_g ro) := by rw [← e3]; exact z_ro_ok sl 40 (Nat.le_refl _)
  refine ⟨fun s hs => ?_, fun c hc => ?_, hro, z_ck_ok hro (fun r _ => z_sr_iff) h4⟩
  · unfold z_sdL z_sdS
    rw [← e1, z_sl_at σ d hs]
  · unfold z_exL z_exS
    rw [← e2, z_xl_at σ d hc]
theorem z_VR {σ : z_Sg} {d : Nat} {sl : List Nat} {xl : List Bool} {ro D : List Nat} (h : z_VW σ d sl xl ro D) {v : Int32} (e : nI (cnt (fun c => decide (z_g ro c = c)) 25) = v) : VR (z_sdS σ d) v := VR_cg h.1 ⟨_, h.2.2.1, e.symm⟩
theorem z_VM {σ : z_Sg} {d c : Nat} {sl : List Nat} {xl : List Bool} {ro D : List Nat} (h : z_VW σ d sl xl ro D) {v : Int32} (e : nI (z_g ro c) = v) : VM (z_sdS σ d) c v := VM_cg h.1 ⟨_, h.2.2.1, e.symm⟩
theorem z_VS {σ : z_Sg} {d c : Nat} {sl : List Nat} {xl : List Bool} {ro D : List Nat} (h : z_VW σ d sl xl ro D) {v : Int32} (e : nI (cnt (fun x => decide (z_g ro x = z_g ro c)) 25) = v) : VS (z_sdS σ d) c v := VS_cg h.1 ⟨_, h.2.2.1, e.symm⟩
theorem z_VD {σ : z_Sg} {d c : Nat} {sl : List Nat} {xl : List Bool} {ro D : List Nat} (h : z_VW σ d sl xl ro D) {v : Int32} (e : dI (z_oD D (z_g ro c)) = v) : VD (z_sdS σ d) (z_exS σ d) c v := VD_cg h.1 h.2.1 ⟨_, _, h.2.2.1, h.2.2.2, e.symm⟩
theorem z_VHy {σ : z_Sg} {d c : Nat} {sl : List Nat} {xl : List Bool} {ro D : List Nat} (h : z_VW σ d sl xl ro D) (e : (z_oD D (z_g ro c)).isSome = true) : VH (z_sdS σ d) (z_exS σ d) c (-1) := VH_cg h.1 h.2.1 ⟨_, _, h.2.2.1, h.2.2.2, fun _ => rfl, fun q => by rw [q] at e; cases e⟩
theorem z_VHn {σ : z_Sg} {d c : Nat} {sl : List Nat} {xl : List Bool} {ro D : List Nat} (h : z_VW σ d sl xl ro D) (D2 : List Nat) {v : Int32} (e : (z_ck (z_dr sl ro) (fun r => decide (r = z_g ro c)) D2 && (decide (z_oD D (z_g ro c) = none) && decide (fi_ (pw (z_sdL sl) (z_g ro) (z_oD D) (z_oD D2)) 0 40 = v))) = true) : VH (z_sdS σ d) (z_exS σ d) c v := by
  rw [Bool.and_eq_true, Bool.and_eq_true] at e
  refine VH_cg h.1 h.2.1 ⟨_, _, h.2.2.1, h.2.2.2, fun ⟨k, q⟩ => ?_, fun _ => ⟨z_oD D2, z_ck_ok h.2.2.1 (fun r _ => ⟨fun q => decide_eq_true q, fun q => of_decide_eq_true q⟩) e.1, (of_decide_eq_true e.2.2).symm⟩⟩
  rw [of_decide_eq_true e.2.1] at q
  cases q
theorem z_VWo {σ : z_Sg} {d : Nat} {sl : List Nat} {xl : List Bool} {ro D : List Nat} (h : z_VW σ d sl xl ro D) {R : Bool} (e : (List.range 25).all (fun c => (z_oD D (z_g ro c)).isSome) = R) : VW (z_sdS σ d) (z_exS σ d) R := by
  refine VW_cg h.1 h.2.1 ⟨_, _, h.2.2.1, h.2.2.2, ?_⟩
  rw [← e, List.all_eq_true]
  constructor
  · intro q c hc z
    have := q c (List.mem_range.mpr hc)
    rw [z] at this
    cases this
  · intro q c hc
    cases z : z_oD D (z_g ro c) with
    | none => exact absurd z (q c (List.mem_range.mp hc))
    | some k => rfl
