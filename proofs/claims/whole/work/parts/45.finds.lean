/-! ===== the model finds ===== -/
def SF2 (q : Nat) : Prop := q = 20 ∨ q = 21
/-- what stands of drawing d behind round j -/
def FQ (t : Nat → Nat → Int32) (x r : Nat → Nat → Bool) (j d : Nat) (h : am_H) : Prop :=
  (∀ s, s < 40 → OKs (hi_ h 20 (40 * d + s))) ∧ (∀ c, c < 32 → (x d c = true → bt (hi_ h 21 d) c = true) ∧ (bt (hi_ h 21 d) c = true → exF x r 6 d c = true)) ∧ (gd r j d → (∀ s, s < 40 → hi_ h 20 (40 * d + s) = sdF t r 6 d s) ∧ ∀ c, c < 32 → exF x r 6 d c = true → bt (hi_ h 21 d) c = true)
theorem FQ_cg {t : Nat → Nat → Int32} {x r : Nat → Nat → Bool} {j d : Nat} {h g : am_H} (h1 : ∀ s, s < 40 → hi_ g 20 (40 * d + s) = hi_ h 20 (40 * d + s)) (h2 : hi_ g 21 d = hi_ h 21 d) (q : FQ t x r j d h) : FQ t x r j d g := by
  obtain ⟨a, b, c⟩ := q
  refine ⟨fun s hs => by rw [h1 s hs]; exact a s hs, fun k hk => by rw [h2]; exact b k hk, fun z => ⟨fun s hs => by rw [h1 s hs]; exact (c z).1 s hs, fun k hk w => by rw [h2]; exact (c z).2 k hk w⟩⟩
theorem FQ_dn {t : Nat → Nat → Int32} {x r : Nat → Nat → Bool} {j d : Nat} {h : am_H} (q : FQ t x r (j + 1) d h) : FQ t x r j d h := ⟨q.1, q.2.1, fun z => q.2.2 (gd_mono j d z)⟩
/-- the value that round j gives a side -/
def nwv (t : Nat → Nat → Int32) (r : Nat → Nat → Bool) (n j d s : Nat) (g : am_H) : Int32 := if j = 0 then t d s else fnd t r (fun k => hi_ g 20 (40 * k + s)) n d s
/-- drawing d behind round j -/
theorem FQ_step {t : Nat → Nat → Int32} {x r : Nat → Nat → Bool} {n j d : Nat} {g0 g : am_H} (hn : n ≤ 6) (hA : AC n r) (hd : d < n) (ht : ∀ s, s < 40 → OKs (t d s)) (hp : ∀ j', j = j' + 1 → ∀ d, d < n → FQ t x r j' d g0)
    (h1 : ∀ s, s < 40 → hi_ g 20 (40 * d + s) = nwv t r n j d s g0) (h2 : ∀ c, c < 32 → x d c = true → bt (hi_ g 21 d) c = true) (h3 : ∀ c, c < 32 → bt (hi_ g 21 d) c = true → exF x r 6 d c = true) (h4 : 0 < j → ∀ k, k < n → r d k = true → ∀ c, c < 32 → bt (hi_ g0 21 k) c = true → bt (hi_ g 21 d) c = true) : FQ t x r j d g := by
  have hlt : ∀ k, k < 6 → r d k = true → k < n := fun k hk z => by
    obtain ⟨rk, hr⟩ := hA
    exact (hr d hd k hk z).1
  refine ⟨fun s hs => ?_, fun c hc => ⟨h2 c hc, h3 c hc⟩, fun hg => ⟨fun s hs => ?_, fun c hc hE => ?_⟩⟩
  · rw [h1 s hs]
    unfold nwv
    by_cases z : j = 0
    · rw [if_pos z]; exact ht s hs
    · rw [if_neg z]
      obtain ⟨j', rfl⟩ : ∃ j', j = j' + 1 := ⟨j - 1, by omega⟩
      exact OKs_fnd (ht s hs) (fun k hk => (hp j' rfl k hk).1 s hs)
  · rw [h1 s hs]
    unfold nwv
    by_cases z : j = 0
    · subst z
      rw [if_pos rfl]
      exact (sd_fuel 0 d 6 hg (by decide)).symm
    · rw [if_neg z]
      obtain ⟨j', rfl⟩ : ∃ j', j = j' + 1 := ⟨j - 1, by omega⟩
      exact fnd_V hn hA hd (fun k hk hr => ((hp j' rfl k hk).2.2 (hg k (by omega) hr)).1 s hs)
  · by_cases z : j = 0
    · subst z
      rw [ex_fuel 0 d 6 hg (by decide)] at hE
      exact h2 c hc hE
    · obtain ⟨j', rfl⟩ : ∃ j', j = j' + 1 := ⟨j - 1, by omega⟩
      rw [E_eq hn hA hd, Bool.or_eq_true, any6_ex] at hE
      rcases hE with hx | ⟨k, -, hk, hk2⟩
      · exact h2 c hc hx
      · rw [Bool.and_eq_true] at hk2
        have hkn := hlt k (by omega) hk2.1
        exact h4 (by omega) k hkn hk2.1 c hc (((hp j' rfl k hkn).2.2 (hg k (by omega) hk2.1)).2 c hc hk2.2)
theorem E_ref {x r : Nat → Nat → Bool} {n d k c : Nat} (hn : n ≤ 6) (hA : AC n r) (hd : d < n) (hk : k < n) (hr : r d k = true) (hE : exF x r 6 k c = true) : exF x r 6 d c = true := by
  rw [E_eq hn hA hd, Bool.or_eq_true, any6_ex]
  exact Or.inr ⟨k, Nat.zero_le _, by omega, by rw [hr, hE]; rfl⟩
theorem E_x {x r : Nat → Nat → Bool} {n d c : Nat} (hn : n ≤ 6) (hA : AC n r) (hd : d < n) (hx : x d c = true) : exF x r 6 d c = true := by
  rw [E_eq hn hA hd, hx]
  rfl
set_option maxRecDepth 100000 in
set_option maxHeartbeats 4000000 in
theorem c_X6_finds (G : am_G) (l : Launch) (htr : l.stackTraces = false) (h : am_H) (n : Nat) (t : Nat → Nat → Int32) (x r : Nat → Nat → Bool) (hT : MT h n t x r) : am_Met G l yX6_finds (.code yX6_finds cX6_finds 4 none) 2 0 0 [.ref (14)] h (fun v h' => v = none ∧ am_eq SF2 h h' ∧ ∀ d, d < n → (∀ s, s < 40 → hi_ h' 20 (40 * d + s) = sdF t r 6 d s) ∧ ∀ c, c < 32 → bt (hi_ h' 21 d) c = exF x r 6 d c) (am_no) := by
  refine am_intro rfl htr rfl (Nat.le_of_ble_eq_true rfl) (fun Z hC hR hI => ?_)
  change am_W Z 0 0 0 [.ref (14), .null, .null, .null] [] h
  have hT0 := hT
  have hn6 := hT.2.1
  have hA := hT.2.2.2.2.2.2
  have hS2 : ∀ q, SF2 q → q < 14 ∨ 17 < q := fun q z => by unfold SF2 at z; omega
  have a20 : SF2 20 := Or.inl rfl
  have a21 : SF2 21 := Or.inr rfl
  have ht : ∀ d, d < n → ∀ s, s < 40 → OKs (t d s) := fun d hd s hs => (hT.2.2.2.1 d hd s hs).2
  have sl : ∀ (j d : Nat) (g0 : am_H), j < 6 → d < n → am_eq SF2 h g0 → am_le h g0 → (0 < j → ∀ k, k < n → ∀ s, s < 40 → OKs (hi_ g0 20 (40 * k + s))) → (∀ g, am_eq SF2 h g → am_le h g → (∀ s, s < 40 → hi_ g 20 (40 * d + s) = nwv t r n j d s g0) → (∀ a b, (a ≠ 20 ∨ b < 40 * d ∨ 40 * d + 40 ≤ b) → hi_ g a b = hi_ g0 a b) → am_W Z 0 0 67 [.ref (14), .int (nI j), .int (nI d), .int (nI 40)] [] g) → ∀ (m s : Nat) (g : am_H), s + m = 40 → am_eq SF2 h g → am_le h g → (∀ s1, s1 < s → hi_ g 20 (40 * d + s1) = nwv t r n j d s1 g0) → (∀ a b, (a ≠ 20 ∨ b < 40 * d ∨ 40 * d + s ≤ b) → hi_ g a b = hi_ g0 a b) → am_W Z 0 0 20 [.ref (14), .int (nI j), .int (nI d), .int (nI s)] [] g := by
    intro j d g0 hj hd e0 hle0 hO K m
    induction m with
    | zero =>
      intro s g hs e hle hv hu
      obtain rfl : s = 40 := by omega
      refine am_iload_n hC dX6_finds_20 rfl ?_
      refine am_bipush (v := nI 40) hC dX6_finds_21 (by decide) ?_
      refine am_icmp_ge (tgt := 67) hC dX6_finds_23 (by decide) (fun c_23 => ?_) (fun c_23 => absurd (nI_le (by omega) (by omega)) c_23)
      exact K g e hle hv hu
    | succ m ih =>
      intro s g hs e hle hv hu
      have hT := MT_eq hS2 e hle hT0
      have hM := hT.1
      have hn0 := hT.2.2.1
      refine am_iload_n hC dX6_finds_20 rfl ?_
      refine am_bipush (v := nI 40) hC dX6_finds_21 (by decide) ?_
      refine am_icmp_ge (tgt := 67) hC dX6_finds_23 (by decide) (fun c_23 => absurd c_23 (nI_ge (by omega) (by omega))) (fun c_23 => ?_)
      refine am_aload_n hC dX6_finds_26 rfl ?_
      refine am_get (v := .ref (20)) hC (ci := 7) (N := 20) (j := 6) rfl (kM_14 hM) (by decide) tw_654 (Or.inl rfl) dX6_finds_27 (am_rfe (rM_6 hM)) ?_
      refine am_bipush (v := nI 40) hC dX6_finds_30 (by decide) ?_
      refine am_iload_n hC dX6_finds_32 rfl ?_
      refine am_imulE (z := nI (40 * d)) hC dX6_finds_33 (pk_mul (40) (d)) ?_
      refine am_iload_n hC dX6_finds_34 rfl ?_
      refine am_iaddE (z := nI (40 * d + s)) hC dX6_finds_35 (nI_add (40 * d) (s)) ?_
      refine am_iload_n hC dX6_finds_36 rfl ?_
      refine am_if_ne (tgt := 54) hC dX6_finds_37 (by decide) (fun c_37 => ?_) (fun c_37 => ?_)
      · replace c_37 : ¬ j = 0 := fun q9 => c_37 ((nI_eq (a := j) (b := 0) (by omega) (by omega)).mpr q9)
        refine am_aload_n hC dX6_finds_54 rfl ?_
        refine am_iload_n hC dX6_finds_55 rfl ?_
        refine am_iload_n hC dX6_finds_56 rfl ?_
        refine am_callV hC (ci := 7) (N := 20) [.int (nI d), .int (nI s)] rfl (kM_14 hM) rfl mf_X6_found tw_762 (c_X6_found _ _ (am_tr hC) g n t x r hT d hd s (by omega) (fun k => hi_ g0 20 (40 * k + s)) (fun k hk => ⟨hu 20 _ (by omega), hO (by omega) k hk s (by omega)⟩)) rfl ⟨rfl, Nat.le_of_ble_eq_true rfl⟩ ⟨by decide, by decide⟩ (by decide) (by decide) dX6_finds_57 rfl (fun _ _ q _ => False.elim q) (fun v h' hp hlc => ?_)
        obtain ⟨z8, z9⟩ := hp
        have z8 := z8.symm
        subst z8
        subst z9
        refine am_iast hC (j := 40 * d + s) (N := 240) (kM_20 hM) (nM_20 hM) rfl (by omega) (by decide) dX6_finds_60 ?_
        refine am_iinc (v := nI (s + 1)) hC dX6_finds_61 rfl (nI_1 (s)) (by decide) ?_
        change am_W _ _ _ _ [.ref (14), .int (nI j), .int (nI d), .int (nI (s + 1))] _ _
        refine am_goto (tgt := 20) hC dX6_finds_64 (by decide) ?_
        refine ih (s + 1) (am_sI g 20 (40 * d + s) (fnd t r (fun k => hi_ g0 20 (40 * k + s)) n d s)) (by omega) (am_eq_tr e (am_eq_sI a20)) (am_le_tr hle (am_le_sI _ _ _ _)) (fun s1 h1 => ?_) (fun a b hab => ?_)
        · rw [hi_sI]
          by_cases z : s1 = s
          · rw [if_pos ⟨rfl, by rw [z]⟩, z]
            exact (if_neg c_37).symm
          · rw [if_neg (fun q => z (by omega))]
            exact hv s1 (by omega)
        · rw [hi_sI, if_neg (fun q => by omega)]
          exact hu a b (by omega)
      · replace c_37 : j = 0 := (nI_eq (a := j) (b := 0) (by omega) (by omega)).mp c_37
        refine am_aload_n hC dX6_finds_40 rfl ?_
        refine am_get (v := .ref (15)) hC (ci := 7) (N := 20) (j := 1) rfl (kM_14 hM) (by decide) tw_649 (Or.inl rfl) dX6_finds_41 (am_rfe (rM_1 hM)) ?_
        refine am_bipush (v := nI 40) hC dX6_finds_44 (by decide) ?_
        refine am_iload_n hC dX6_finds_46 rfl ?_
        refine am_imulE (z := nI (40 * d)) hC dX6_finds_47 (pk_mul (40) (d)) ?_
        refine am_iload_n hC dX6_finds_48 rfl ?_
        refine am_iaddE (z := nI (40 * d + s)) hC dX6_finds_49 (nI_add (40 * d) (s)) ?_
        refine am_ialdE (v := t d s) hC (j := 40 * d + s) (N := 240) (kM_15 hM) (nM_15 hM) rfl (by omega) (by decide) dX6_finds_50 (hT.2.2.2.1 d hd s (by omega)).1 ?_
        refine am_goto (tgt := 60) hC dX6_finds_51 (by decide) ?_
        refine am_iast hC (j := 40 * d + s) (N := 240) (kM_20 hM) (nM_20 hM) rfl (by omega) (by decide) dX6_finds_60 ?_
        refine am_iinc (v := nI (s + 1)) hC dX6_finds_61 rfl (nI_1 (s)) (by decide) ?_
        change am_W _ _ _ _ [.ref (14), .int (nI j), .int (nI d), .int (nI (s + 1))] _ _
        refine am_goto (tgt := 20) hC dX6_finds_64 (by decide) ?_
        refine ih (s + 1) (am_sI g 20 (40 * d + s) (t d s)) (by omega) (am_eq_tr e (am_eq_sI a20)) (am_le_tr hle (am_le_sI _ _ _ _)) (fun s1 h1 => ?_) (fun a b hab => ?_)
        · rw [hi_sI]
          by_cases z : s1 = s
          · rw [if_pos ⟨rfl, by rw [z]⟩, z]
            exact (if_pos c_37).symm
          · rw [if_neg (fun q => z (by omega))]
            exact hv s1 (by omega)
        · rw [hi_sI, if_neg (fun q => by omega)]
          exact hu a b (by omega)
  have kl : ∀ (j d : Nat) (g1 : am_H), j < 6 → d < n → (0 < j → ∀ k, k < n → ∀ c, c < 32 → bt (hi_ g1 21 k) c = true → exF x r 6 k c = true) → (∀ g, am_eq SF2 h g → am_le h g → (∀ a b, (a ≠ 21 ∨ b ≠ d) → hi_ g a b = hi_ g1 a b) → (∀ c, c < 32 → bt (hi_ g1 21 d) c = true → bt (hi_ g 21 d) c = true) → (∀ c, c < 32 → bt (hi_ g 21 d) c = true → exF x r 6 d c = true) → (0 < j → ∀ k, k < n → r d k = true → ∀ c, c < 32 → bt (hi_ g1 21 k) c = true → bt (hi_ g 21 d) c = true) → am_W Z 0 0 145 [.ref (14), .int (nI j), .int (nI d), .int (nI n)] [] g) → ∀ (m k : Nat) (g : am_H), k + m = n → am_eq SF2 h g → am_le h g → (∀ a b, (a ≠ 21 ∨ b ≠ d) → hi_ g a b = hi_ g1 a b) → (∀ c, c < 32 → bt (hi_ g1 21 d) c = true → bt (hi_ g 21 d) c = true) → (∀ c, c < 32 → bt (hi_ g 21 d) c = true → exF x r 6 d c = true) → (0 < j → ∀ k1, k1 < k → r d k1 = true → ∀ c, c < 32 → bt (hi_ g1 21 k1) c = true → bt (hi_ g 21 d) c = true) → am_W Z 0 0 94 [.ref (14), .int (nI j), .int (nI d), .int (nI k)] [] g := by
    intro j d g1 hj hd hsnd K m
    induction m with
    | zero =>
      intro k g hk e hle hu h1 h2 h3
      obtain rfl : k = n := by omega
      have hT := MT_eq hS2 e hle hT0
      have hM := hT.1
      have hn0 := hT.2.2.1
      refine am_iload_n hC dX6_finds_94 rfl ?_
      refine am_aload_n hC dX6_finds_95 rfl ?_
      refine am_get (v := .int (nI k)) hC (ci := 7) (N := 20) (j := 0) rfl (kM_14 hM) (by decide) tw_648 (Or.inl rfl) dX6_finds_96 (congrArg Value.int hn0) ?_
      refine am_icmp_ge (tgt := 145) hC dX6_finds_99 (by decide) (fun c_99 => ?_) (fun c_99 => absurd (nI_le (by omega) (by omega)) c_99)
      exact K g e hle hu h1 h2 h3
    | succ m ih =>
      intro k g hk e hle hu h1 h2 h3
      have hT := MT_eq hS2 e hle hT0
      have hM := hT.1
      have hn0 := hT.2.2.1
      have hrb := hT.2.2.2.2.2.1 d hd
      refine am_iload_n hC dX6_finds_94 rfl ?_
      refine am_aload_n hC dX6_finds_95 rfl ?_
      refine am_get (v := .int (nI n)) hC (ci := 7) (N := 20) (j := 0) rfl (kM_14 hM) (by decide) tw_648 (Or.inl rfl) dX6_finds_96 (congrArg Value.int hn0) ?_
      refine am_icmp_ge (tgt := 145) hC dX6_finds_99 (by decide) (fun c_99 => absurd c_99 (nI_ge (by omega) (by omega))) (fun c_99 => ?_)
      refine am_aload_n hC dX6_finds_102 rfl ?_
      refine am_get (v := .ref (21)) hC (ci := 7) (N := 20) (j := 7) rfl (kM_14 hM) (by decide) tw_655 (Or.inl rfl) dX6_finds_103 (am_rfe (rM_7 hM)) ?_
      refine am_iload_n hC dX6_finds_106 rfl ?_
      refine am_dup2 hC dX6_finds_107 rfl rfl ?_
      refine am_ialdE (v := hi_ g 21 d) hC (j := d) (N := 6) (kM_21 hM) (nM_21 hM) rfl (by omega) (by decide) dX6_finds_108 rfl ?_
      refine am_iload_n hC dX6_finds_109 rfl ?_
      refine am_if_le (tgt := 136) hC dX6_finds_110 (by decide) (fun c_110 => ?_) (fun c_110 => ?_)
      · replace c_110 : j ≤ 0 := (nI_leI (a := j) (b := 0) (by omega) (by omega)).mp c_110
        refine am_iconst (v := nI 0) hC dX6_finds_136 (by decide) ?_
        refine am_iorE (z := (hi_ g 21 d) ||| (nI 0)) hC dX6_finds_137 rfl ?_
        refine am_iast hC (j := d) (N := 6) (kM_21 hM) (nM_21 hM) rfl (by omega) (by decide) dX6_finds_138 ?_
        refine am_iinc (v := nI (k + 1)) hC dX6_finds_139 rfl (nI_1 (k)) (by decide) ?_
        change am_W _ _ _ _ [.ref (14), .int (nI j), .int (nI d), .int (nI (k + 1))] _ _
        refine am_goto (tgt := 94) hC dX6_finds_142 (by decide) ?_
        have hb : ∀ c, c < 32 → bt (hi_ (am_sI g 21 d (hi_ g 21 d ||| nI 0)) 21 d) c = (bt (hi_ g 21 d) c || false) := fun c hc => by
          rw [hi_sI, if_pos ⟨rfl, rfl⟩, b_or]
          exact congrArg _ (b_0 c)
        refine ih (k + 1) (am_sI g 21 d (hi_ g 21 d ||| nI 0)) (by omega) (am_eq_tr e (am_eq_sI a21)) (am_le_tr hle (am_le_sI _ _ _ _)) (fun a b hab => ?_) (fun c hc q => ?_) (fun c hc q => ?_) ?_
        · rw [hi_sI, if_neg (fun q => by omega)]; exact hu a b hab
        · rw [hb c hc, h1 c hc q]; rfl
        · rw [hb c hc, Bool.or_eq_true] at q
          exact q.elim (h2 c hc) (fun z => by cases z)
        · exact fun hj0 k1 hk1 hr1 c hc q => by
            rw [hb c hc, Bool.or_eq_true]
            rcases Nat.lt_or_eq_of_le (Nat.le_of_lt_succ hk1) with z | z
            · exact Or.inl (h3 hj0 k1 z hr1 c hc q)
            · subst z
              first
                | exact absurd hj0 (by omega)
                | (rw [hrb k1 (by omega)] at c_124x; rw [c_124x] at hr1; cases hr1)
      · replace c_110 : ¬ j ≤ 0 := fun q9 => c_110 ((nI_leI (a := j) (b := 0) (by omega) (by omega)).mpr q9)
        replace c_110 : 0 < j := by omega
        refine am_aload_n hC dX6_finds_113 rfl ?_
        refine am_get (v := .ref (17)) hC (ci := 7) (N := 20) (j := 3) rfl (kM_14 hM) (by decide) tw_651 (Or.inl rfl) dX6_finds_114 (am_rfe (rM_3 hM)) ?_
        refine am_iload_n hC dX6_finds_117 rfl ?_
        refine am_ialdE (v := hi_ g 17 d) hC (j := d) (N := 6) (kM_17 hM) (nM_17 hM) rfl (by omega) (by decide) dX6_finds_118 rfl ?_
        refine am_iload_n hC dX6_finds_119 rfl ?_
        refine am_ishrE (z := (hi_ g 17 d) >>> ((nI k) &&& 31)) hC dX6_finds_120 rfl ?_
        refine am_iconst (v := nI 1) hC dX6_finds_121 (by decide) ?_
        refine am_iandE (z := ((hi_ g 17 d) >>> ((nI k) &&& 31)) &&& (nI 1)) hC dX6_finds_122 rfl ?_
        refine am_iconst (v := nI 1) hC dX6_finds_123 (by decide) ?_
        refine am_icmp_ne (tgt := 136) hC dX6_finds_124 (by decide) (fun c_124 => ?_) (fun c_124 => ?_)
        · have c_124x := tb_n (by omega) c_124
          refine am_iconst (v := nI 0) hC dX6_finds_136 (by decide) ?_
          refine am_iorE (z := (hi_ g 21 d) ||| (nI 0)) hC dX6_finds_137 rfl ?_
          refine am_iast hC (j := d) (N := 6) (kM_21 hM) (nM_21 hM) rfl (by omega) (by decide) dX6_finds_138 ?_
          refine am_iinc (v := nI (k + 1)) hC dX6_finds_139 rfl (nI_1 (k)) (by decide) ?_
          change am_W _ _ _ _ [.ref (14), .int (nI j), .int (nI d), .int (nI (k + 1))] _ _
          refine am_goto (tgt := 94) hC dX6_finds_142 (by decide) ?_
          have hb : ∀ c, c < 32 → bt (hi_ (am_sI g 21 d (hi_ g 21 d ||| nI 0)) 21 d) c = (bt (hi_ g 21 d) c || false) := fun c hc => by
            rw [hi_sI, if_pos ⟨rfl, rfl⟩, b_or]
            exact congrArg _ (b_0 c)
          refine ih (k + 1) (am_sI g 21 d (hi_ g 21 d ||| nI 0)) (by omega) (am_eq_tr e (am_eq_sI a21)) (am_le_tr hle (am_le_sI _ _ _ _)) (fun a b hab => ?_) (fun c hc q => ?_) (fun c hc q => ?_) ?_
          · rw [hi_sI, if_neg (fun q => by omega)]; exact hu a b hab
          · rw [hb c hc, h1 c hc q]; rfl
          · rw [hb c hc, Bool.or_eq_true] at q
            exact q.elim (h2 c hc) (fun z => by cases z)
          · exact fun hj0 k1 hk1 hr1 c hc q => by
              rw [hb c hc, Bool.or_eq_true]
              rcases Nat.lt_or_eq_of_le (Nat.le_of_lt_succ hk1) with z | z
              · exact Or.inl (h3 hj0 k1 z hr1 c hc q)
              · subst z
                first
                  | exact absurd hj0 (by omega)
                  | (rw [hrb k1 (by omega)] at c_124x; rw [c_124x] at hr1; cases hr1)
        · have hrk : r d k = true := (hrb k (by omega)).symm.trans ((tb_ (by omega)).mp c_124)
          refine am_aload_n hC dX6_finds_127 rfl ?_
          refine am_get (v := .ref (21)) hC (ci := 7) (N := 20) (j := 7) rfl (kM_14 hM) (by decide) tw_655 (Or.inl rfl) dX6_finds_128 (am_rfe (rM_7 hM)) ?_
          refine am_iload_n hC dX6_finds_131 rfl ?_
          refine am_ialdE (v := hi_ g 21 k) hC (j := k) (N := 6) (kM_21 hM) (nM_21 hM) rfl (by omega) (by decide) dX6_finds_132 rfl ?_
          refine am_goto (tgt := 137) hC dX6_finds_133 (by decide) ?_
          refine am_iorE (z := (hi_ g 21 d) ||| (hi_ g 21 k)) hC dX6_finds_137 rfl ?_
          refine am_iast hC (j := d) (N := 6) (kM_21 hM) (nM_21 hM) rfl (by omega) (by decide) dX6_finds_138 ?_
          refine am_iinc (v := nI (k + 1)) hC dX6_finds_139 rfl (nI_1 (k)) (by decide) ?_
          change am_W _ _ _ _ [.ref (14), .int (nI j), .int (nI d), .int (nI (k + 1))] _ _
          refine am_goto (tgt := 94) hC dX6_finds_142 (by decide) ?_
          have hb : ∀ c, c < 32 → bt (hi_ (am_sI g 21 d (hi_ g 21 d ||| hi_ g 21 k)) 21 d) c = (bt (hi_ g 21 d) c || bt (hi_ g 21 k) c) := fun c hc => by
            rw [hi_sI, if_pos ⟨rfl, rfl⟩, b_or]
          have hm : ∀ c, c < 32 → bt (hi_ g 21 k) c = true → exF x r 6 d c = true := fun c hc q => by
            by_cases z : k = d
            · rw [z] at q; exact h2 c hc q
            · rw [hu 21 k (Or.inr z)] at q
              exact E_ref hn6 hA hd (by omega) hrk (hsnd c_110 k (by omega) c hc q)
          refine ih (k + 1) (am_sI g 21 d (hi_ g 21 d ||| hi_ g 21 k)) (by omega) (am_eq_tr e (am_eq_sI a21)) (am_le_tr hle (am_le_sI _ _ _ _)) (fun a b hab => ?_) (fun c hc q => ?_) (fun c hc q => ?_) ?_
          · rw [hi_sI, if_neg (fun q => by omega)]; exact hu a b hab
          · rw [hb c hc, h1 c hc q]; rfl
          · rw [hb c hc, Bool.or_eq_true] at q
            exact q.elim (h2 c hc) (hm c hc)
          · exact fun hj0 k1 hk1 hr1 c hc q => by
              rw [hb c hc, Bool.or_eq_true]
              rcases Nat.lt_or_eq_of_le (Nat.le_of_lt_succ hk1) with z | z
              · exact Or.inl (h3 hj0 k1 z hr1 c hc q)
              · subst z
                by_cases w : k1 = d
                · rw [w] at q
                  exact Or.inl (h1 c hc q)
                · exact Or.inr (by rw [hu 21 k1 (Or.inr w)]; exact q)
  have rl : ∀ (m j : Nat) (g : am_H), j + m = 6 → am_eq SF2 h g → am_le h g → (∀ j1, j = j1 + 1 → ∀ d, d < n → FQ t x r j1 d g) → am_W Z 0 0 2 [.ref (14), .int (nI j), .null, .null] [] g := by
    intro m
    induction m with
    | zero =>
      intro j g hj e hle hp
      obtain rfl : j = 6 := by omega
      refine am_iload_n hC dX6_finds_2 rfl ?_
      refine am_bipush (v := nI 6) hC dX6_finds_3 (by decide) ?_
      refine am_icmp_ge (tgt := 157) hC dX6_finds_5 (by decide) (fun c_5 => ?_) (fun c_5 => absurd (nI_le (by omega) (by omega)) c_5)
      refine am_vret hC hR (by decide) (by decide) dX6_finds_157 ?_
      refine ⟨rfl, e, fun d hd => ?_⟩
      have q := hp 5 rfl d hd
      have q3 := q.2.2 (gd_all hn6 hA d hd)
      refine ⟨q3.1, fun c hc => ?_⟩
      cases w : exF x r 6 d c
      · cases w2 : bt (hi_ g 21 d) c
        · rfl
        · rw [(q.2.1 c hc).2 w2] at w; cases w
      · exact q3.2 c hc w
    | succ m ih =>
      intro j g hj e hle hp
      have dl : ∀ (m d : Nat) (g : am_H), d + m = n → am_eq SF2 h g → am_le h g → (∀ d1, d1 < d → FQ t x r j d1 g) → (∀ j1, j = j1 + 1 → ∀ d, d < n → FQ t x r j1 d g) → am_W Z 0 0 10 [.ref (14), .int (nI j), .int (nI d), .null] [] g := by
        intro m
        induction m with
        | zero =>
          intro d g hd e hle hq hp
          obtain rfl : d = n := by omega
          have hT := MT_eq hS2 e hle hT0
          have hM := hT.1
          have hn0 := hT.2.2.1
          refine am_iload_n hC dX6_finds_10 rfl ?_
          refine am_aload_n hC dX6_finds_11 rfl ?_
          refine am_get (v := .int (nI d)) hC (ci := 7) (N := 20) (j := 0) rfl (kM_14 hM) (by decide) tw_648 (Or.inl rfl) dX6_finds_12 (congrArg Value.int hn0) ?_
          refine am_icmp_ge (tgt := 151) hC dX6_finds_15 (by decide) (fun c_15 => ?_) (fun c_15 => absurd (nI_le (by omega) (by omega)) c_15)
          refine am_iinc (v := nI (j + 1)) hC dX6_finds_151 rfl (nI_1 (j)) (by decide) ?_
          change am_W _ _ _ _ [.ref (14), .int (nI (j + 1)), .int (nI d), .null] _ _
          refine am_goto (tgt := 2) hC dX6_finds_154 (by decide) ?_
          have q9 : ∀ j1, j + 1 = j1 + 1 → ∀ d1, d1 < d → FQ t x r j1 d1 g := fun j1 hj1 d1 hd1 => by
            obtain rfl : j1 = j := by omega
            exact hq d1 hd1
          exact am_fgt (ls' := [.ref (14), .int (nI (j + 1)), .null, .null]) ⟨Or.inl rfl, ⟨Or.inl rfl, ⟨Or.inr rfl, ⟨Or.inr rfl, trivial⟩⟩⟩⟩ (ih (j + 1) g (by omega) e hle q9)
        | succ m ih2 =>
          intro d g hd e hle hq hp
          have hdn : d < n := by omega
          have hT := MT_eq hS2 e hle hT0
          have hM := hT.1
          have hn0 := hT.2.2.1
          refine am_iload_n hC dX6_finds_10 rfl ?_
          refine am_aload_n hC dX6_finds_11 rfl ?_
          refine am_get (v := .int (nI n)) hC (ci := 7) (N := 20) (j := 0) rfl (kM_14 hM) (by decide) tw_648 (Or.inl rfl) dX6_finds_12 (congrArg Value.int hn0) ?_
          refine am_icmp_ge (tgt := 151) hC dX6_finds_15 (by decide) (fun c_15 => absurd c_15 (nI_ge (by omega) (by omega))) (fun c_15 => ?_)
          refine am_iconst (v := nI 0) hC dX6_finds_18 (by decide) ?_
          refine am_istore_n hC dX6_finds_19 (by decide) ?_
          change am_W _ _ _ _ [.ref (14), .int (nI j), .int (nI d), .int (nI 0)] _ _
          refine sl j d g (by omega) hdn e hle (fun hj0 k hk s hs => ?_) (fun ga ea lea v1 u1 => ?_) 40 0 g rfl e hle (fun s1 z => absurd z (Nat.not_lt_zero s1)) (fun _ _ _ => rfl)
          · obtain ⟨j1, hj1⟩ : ∃ j1, j = j1 + 1 := ⟨j - 1, by omega⟩
            exact (hp j1 hj1 k hk).1 s hs
          · have hTa := MT_eq hS2 ea lea hT0
            have hM := hTa.1
            have hn0 := hTa.2.2.1
            refine am_aload_n hC dX6_finds_67 rfl ?_
            refine am_get (v := .ref (21)) hC (ci := 7) (N := 20) (j := 7) rfl (kM_14 hM) (by decide) tw_655 (Or.inl rfl) dX6_finds_68 (am_rfe (rM_7 hM)) ?_
            refine am_iload_n hC dX6_finds_71 rfl ?_
            refine am_iload_n hC dX6_finds_72 rfl ?_
            refine am_if_ne (tgt := 85) hC dX6_finds_73 (by decide) (fun c_73 => ?_) (fun c_73 => ?_)
            · replace c_73 : ¬ j = 0 := fun q9 => c_73 ((nI_eq (a := j) (b := 0) (by omega) (by omega)).mpr q9)
              refine am_aload_n hC dX6_finds_85 rfl ?_
              refine am_get (v := .ref (21)) hC (ci := 7) (N := 20) (j := 7) rfl (kM_14 hM) (by decide) tw_655 (Or.inl rfl) dX6_finds_86 (am_rfe (rM_7 hM)) ?_
              refine am_iload_n hC dX6_finds_89 rfl ?_
              refine am_ialdE (v := hi_ ga 21 d) hC (j := d) (N := 6) (kM_21 hM) (nM_21 hM) rfl (by omega) (by decide) dX6_finds_90 rfl ?_
              refine am_iast hC (j := d) (N := 6) (kM_21 hM) (nM_21 hM) rfl (by omega) (by decide) dX6_finds_91 ?_
              refine am_iconst (v := nI 0) hC dX6_finds_92 (by decide) ?_
              refine am_istore_n hC dX6_finds_93 (by decide) ?_
              change am_W _ _ _ _ [.ref (14), .int (nI j), .int (nI d), .int (nI 0)] _ _
              have eb := am_eq_tr ea (am_eq_sI (r := 21) (k := d) (x := hi_ ga 21 d) a21)
              have leb := am_le_tr lea (am_le_sI ga 21 d (hi_ ga 21 d))
              have hdv : hi_ (am_sI ga 21 d (hi_ ga 21 d)) 21 d = hi_ ga 21 d := by rw [hi_sI, if_pos ⟨rfl, rfl⟩]
              have hou : ∀ k, k ≠ d → hi_ (am_sI ga 21 d (hi_ ga 21 d)) 21 k = hi_ g 21 k := fun k hk => by rw [hi_sI, if_neg (fun q => hk q.2)]; exact u1 21 k (Or.inl (by decide))
              obtain ⟨j1, hj1⟩ : ∃ j1, j = j1 + 1 := ⟨j - 1, by omega⟩
              have hdd : hi_ (am_sI ga 21 d (hi_ ga 21 d)) 21 d = hi_ g 21 d := hdv.trans (u1 21 d (Or.inl (by decide)))
              have hal : ∀ k, hi_ (am_sI ga 21 d (hi_ ga 21 d)) 21 k = hi_ g 21 k := fun k => by by_cases z : k = d; rw [z]; exact hdd; exact hou k z
              have hx2 : ∀ c, c < 32 → x d c = true → bt (hi_ (am_sI ga 21 d (hi_ ga 21 d)) 21 d) c = true := fun c hc q => by rw [hdd]; exact ((hp j1 hj1 d hdn).2.1 c hc).1 q
              have hs2 : ∀ c, c < 32 → bt (hi_ (am_sI ga 21 d (hi_ ga 21 d)) 21 d) c = true → exF x r 6 d c = true := fun c hc q => by rw [hdd] at q; exact ((hp j1 hj1 d hdn).2.1 c hc).2 q
              have hs3 : 0 < j → ∀ k, k < n → ∀ c, c < 32 → bt (hi_ (am_sI ga 21 d (hi_ ga 21 d)) 21 k) c = true → exF x r 6 k c = true := fun _ k hk c hc q => by rw [hal] at q; exact ((hp j1 hj1 k hk).2.1 c hc).2 q
              have hcv : 0 < j → ∀ k, k < n → ∀ c, c < 32 → bt (hi_ g 21 k) c = true → bt (hi_ (am_sI ga 21 d (hi_ ga 21 d)) 21 k) c = true := fun _ k hk c hc q => by rw [hal]; exact q
              refine kl j d (am_sI ga 21 d (hi_ ga 21 d)) (by omega) hdn hs3 (fun gc ec lec uc1 uc2 uc3 uc4 => ?_) n 0 (am_sI ga 21 d (hi_ ga 21 d)) (Nat.zero_add _) eb leb (fun _ _ _ => rfl) (fun _ _ q => q) hs2 (fun _ k1 z => absurd z (Nat.not_lt_zero k1))
              have hs20 : ∀ b, hi_ gc 20 b = hi_ ga 20 b := fun b => (uc1 20 b (Or.inl (by decide))).trans (by rw [hi_sI, if_neg (fun q => absurd q.1 (by decide))])
              have hF : FQ t x r j d gc := FQ_step hn6 hA hdn (ht d hdn) hp (fun s hs => (hs20 _).trans (v1 s hs)) (fun c hc q => uc2 c hc (hx2 c hc q)) uc3 (fun q k hk hr c hc w => uc4 q k hk hr c hc (hcv q k hk c hc w))
              have hoth : ∀ d1, d1 < n → d1 ≠ d → (∀ s, s < 40 → hi_ gc 20 (40 * d1 + s) = hi_ g 20 (40 * d1 + s)) ∧ hi_ gc 21 d1 = hi_ g 21 d1 := fun d1 hd1 hne => ⟨fun s hs => (hs20 _).trans (u1 20 _ (by omega)), (uc1 21 d1 (Or.inr hne)).trans (hou d1 hne)⟩
              have q8 : ∀ d1, d1 < d + 1 → FQ t x r j d1 gc := fun d1 hd1 => by
                by_cases z : d1 = d
                · rw [z]; exact hF
                · have q := hoth d1 (by omega) z
                  exact FQ_cg q.1 q.2 (hq d1 (by omega))
              have q7 : ∀ j1, j = j1 + 1 → ∀ d1, d1 < n → FQ t x r j1 d1 gc := fun j1 hj1 d1 hd1 => by
                by_cases z : d1 = d
                · rw [z]; exact FQ_dn (hj1 ▸ hF)
                · have q := hoth d1 hd1 z
                  exact FQ_cg q.1 q.2 (hp j1 hj1 d1 hd1)
              refine am_iinc (v := nI (d + 1)) hC dX6_finds_145 rfl (nI_1 (d)) (by decide) ?_
              change am_W _ _ _ _ [.ref (14), .int (nI j), .int (nI (d + 1)), .int (nI n)] _ _
              refine am_goto (tgt := 10) hC dX6_finds_148 (by decide) ?_
              exact am_fgt (ls' := [.ref (14), .int (nI j), .int (nI (d + 1)), .null]) ⟨Or.inl rfl, ⟨Or.inl rfl, ⟨Or.inl rfl, ⟨Or.inr rfl, trivial⟩⟩⟩⟩ (ih2 (d + 1) gc (by omega) ec lec q8 q7)
            · replace c_73 : j = 0 := (nI_eq (a := j) (b := 0) (by omega) (by omega)).mp c_73
              refine am_aload_n hC dX6_finds_76 rfl ?_
              refine am_get (v := .ref (16)) hC (ci := 7) (N := 20) (j := 2) rfl (kM_14 hM) (by decide) tw_650 (Or.inl rfl) dX6_finds_77 (am_rfe (rM_2 hM)) ?_
              refine am_iload_n hC dX6_finds_80 rfl ?_
              refine am_ialdE (v := hi_ ga 16 d) hC (j := d) (N := 6) (kM_16 hM) (nM_16 hM) rfl (by omega) (by decide) dX6_finds_81 rfl ?_
              refine am_goto (tgt := 91) hC dX6_finds_82 (by decide) ?_
              refine am_iast hC (j := d) (N := 6) (kM_21 hM) (nM_21 hM) rfl (by omega) (by decide) dX6_finds_91 ?_
              refine am_iconst (v := nI 0) hC dX6_finds_92 (by decide) ?_
              refine am_istore_n hC dX6_finds_93 (by decide) ?_
              change am_W _ _ _ _ [.ref (14), .int (nI j), .int (nI d), .int (nI 0)] _ _
              have eb := am_eq_tr ea (am_eq_sI (r := 21) (k := d) (x := hi_ ga 16 d) a21)
              have leb := am_le_tr lea (am_le_sI ga 21 d (hi_ ga 16 d))
              have hdv : hi_ (am_sI ga 21 d (hi_ ga 16 d)) 21 d = hi_ ga 16 d := by rw [hi_sI, if_pos ⟨rfl, rfl⟩]
              have hou : ∀ k, k ≠ d → hi_ (am_sI ga 21 d (hi_ ga 16 d)) 21 k = hi_ g 21 k := fun k hk => by rw [hi_sI, if_neg (fun q => hk q.2)]; exact u1 21 k (Or.inl (by decide))
              have hc2 : ∀ c, c < 32 → bt (hi_ (am_sI ga 21 d (hi_ ga 16 d)) 21 d) c = x d c := fun c hc => by rw [hdv]; exact hTa.2.2.2.2.1 d hdn c hc
              have hx2 : ∀ c, c < 32 → x d c = true → bt (hi_ (am_sI ga 21 d (hi_ ga 16 d)) 21 d) c = true := fun c hc q => (hc2 c hc).trans q
              have hs2 : ∀ c, c < 32 → bt (hi_ (am_sI ga 21 d (hi_ ga 16 d)) 21 d) c = true → exF x r 6 d c = true := fun c hc q => E_x hn6 hA hdn ((hc2 c hc).symm.trans q)
              have hs3 : 0 < j → ∀ k, k < n → ∀ c, c < 32 → bt (hi_ (am_sI ga 21 d (hi_ ga 16 d)) 21 k) c = true → exF x r 6 k c = true := fun q => absurd q (by omega)
              have hcv : 0 < j → ∀ k, k < n → ∀ c, c < 32 → bt (hi_ g 21 k) c = true → bt (hi_ (am_sI ga 21 d (hi_ ga 16 d)) 21 k) c = true := fun q => absurd q (by omega)
              refine kl j d (am_sI ga 21 d (hi_ ga 16 d)) (by omega) hdn hs3 (fun gc ec lec uc1 uc2 uc3 uc4 => ?_) n 0 (am_sI ga 21 d (hi_ ga 16 d)) (Nat.zero_add _) eb leb (fun _ _ _ => rfl) (fun _ _ q => q) hs2 (fun _ k1 z => absurd z (Nat.not_lt_zero k1))
              have hs20 : ∀ b, hi_ gc 20 b = hi_ ga 20 b := fun b => (uc1 20 b (Or.inl (by decide))).trans (by rw [hi_sI, if_neg (fun q => absurd q.1 (by decide))])
              have hF : FQ t x r j d gc := FQ_step hn6 hA hdn (ht d hdn) hp (fun s hs => (hs20 _).trans (v1 s hs)) (fun c hc q => uc2 c hc (hx2 c hc q)) uc3 (fun q k hk hr c hc w => uc4 q k hk hr c hc (hcv q k hk c hc w))
              have hoth : ∀ d1, d1 < n → d1 ≠ d → (∀ s, s < 40 → hi_ gc 20 (40 * d1 + s) = hi_ g 20 (40 * d1 + s)) ∧ hi_ gc 21 d1 = hi_ g 21 d1 := fun d1 hd1 hne => ⟨fun s hs => (hs20 _).trans (u1 20 _ (by omega)), (uc1 21 d1 (Or.inr hne)).trans (hou d1 hne)⟩
              have q8 : ∀ d1, d1 < d + 1 → FQ t x r j d1 gc := fun d1 hd1 => by
                by_cases z : d1 = d
                · rw [z]; exact hF
                · have q := hoth d1 (by omega) z
                  exact FQ_cg q.1 q.2 (hq d1 (by omega))
              have q7 : ∀ j1, j = j1 + 1 → ∀ d1, d1 < n → FQ t x r j1 d1 gc := fun j1 hj1 d1 hd1 => by
                by_cases z : d1 = d
                · rw [z]; exact FQ_dn (hj1 ▸ hF)
                · have q := hoth d1 hd1 z
                  exact FQ_cg q.1 q.2 (hp j1 hj1 d1 hd1)
              refine am_iinc (v := nI (d + 1)) hC dX6_finds_145 rfl (nI_1 (d)) (by decide) ?_
              change am_W _ _ _ _ [.ref (14), .int (nI j), .int (nI (d + 1)), .int (nI n)] _ _
              refine am_goto (tgt := 10) hC dX6_finds_148 (by decide) ?_
              exact am_fgt (ls' := [.ref (14), .int (nI j), .int (nI (d + 1)), .null]) ⟨Or.inl rfl, ⟨Or.inl rfl, ⟨Or.inl rfl, ⟨Or.inr rfl, trivial⟩⟩⟩⟩ (ih2 (d + 1) gc (by omega) ec lec q8 q7)
      refine am_iload_n hC dX6_finds_2 rfl ?_
      refine am_bipush (v := nI 6) hC dX6_finds_3 (by decide) ?_
      refine am_icmp_ge (tgt := 157) hC dX6_finds_5 (by decide) (fun c_5 => absurd c_5 (nI_ge (by omega) (by omega))) (fun c_5 => ?_)
      refine am_iconst (v := nI 0) hC dX6_finds_8 (by decide) ?_
      refine am_istore_n hC dX6_finds_9 (by decide) ?_
      change am_W _ _ _ _ [.ref (14), .int (nI j), .int (nI 0), .null] _ _
      exact am_fgt (ls' := [.ref (14), .int (nI j), .int (nI 0), .null]) ⟨Or.inl rfl, ⟨Or.inl rfl, ⟨Or.inl rfl, ⟨Or.inr rfl, trivial⟩⟩⟩⟩ (dl n 0 g (Nat.zero_add _) e hle (fun d1 z => absurd z (Nat.not_lt_zero d1)) hp)
  refine am_iconst (v := nI 0) hC dX6_finds_0 (by decide) ?_
  refine am_istore_n hC dX6_finds_1 (by decide) ?_
  change am_W _ _ _ _ [.ref (14), .int (nI 0), .null, .null] _ _
  exact rl 6 0 h rfl (am_eq_rf _ _) (am_le_rf _) (fun j1 z => absurd z (by omega))
