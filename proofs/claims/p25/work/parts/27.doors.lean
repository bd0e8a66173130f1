/-! ===== doors: the class's search by levels ===== -/
theorem dI_some {o : Option Nat} {k : Nat} (hk : k < 2 ^ 31) (ho : ∀ j, o = some j → j < 2 ^ 31) : dI o = nI k ↔ o = some k := by
  cases o with
  | none =>
    constructor
    · intro e
      exact absurd (show nI k < 0 by rw [← e]; decide) (nI_pos hk)
    · intro e; cases e
  | some j =>
    constructor
    · intro e
      rw [(nI_eq (ho j rfl) hk).mp e]
    · intro e; cases e; rfl
theorem dI_none {o : Option Nat} (ho : ∀ j, o = some j → j < 2 ^ 31) : dI o = -1 ↔ o = none := by
  cases o with
  | none => exact ⟨fun _ => rfl, fun _ => rfl⟩
  | some j =>
    constructor
    · intro e
      exact absurd (show nI j < 0 by rw [show nI j = -1 from e]; decide) (nI_pos (ho j rfl))
    · intro e; cases e
/-- before the pass over level g -/
def J1 (src : Nat → Prop) (adj : Nat → Nat → Prop) (g : Nat) (D : Nat → Option Nat) : Prop :=
  (∀ r, r < 25 → src r → D r = some 0) ∧ (∀ r, r < 25 → ∀ k, D r = some k → k ≤ g ∧ ((k = 0 ∧ src r) ∨ ∃ r', r' < 25 ∧ adj r' r ∧ 1 ≤ k ∧ D r' = some (k - 1))) ∧
  (∀ r r', r < 25 → r' < 25 → adj r r' → ∀ k, D r = some k → k < g → ∃ k', D r' = some k' ∧ k' ≤ k + 1)
/-- within it, s sides seen, fl: something was found -/
def J2 (sd : Nat → Int32) (ro : Nat → Nat) (src : Nat → Prop) (g s : Nat) (fl : Bool) (D : Nat → Option Nat) : Prop :=
  (∀ r, r < 25 → src r → D r = some 0) ∧ (∀ r, r < 25 → ∀ k, D r = some k → k ≤ g + 1 ∧ ((k = 0 ∧ src r) ∨ ∃ r', r' < 25 ∧ adjD sd ro r' r ∧ 1 ≤ k ∧ D r' = some (k - 1))) ∧
  (∀ r r', r < 25 → r' < 25 → adjD sd ro r r' → ∀ k, D r = some k → k < g → ∃ k', D r' = some k' ∧ k' ≤ k + 1) ∧
  (∀ t, t < s → sd t = 2 → (D (ro (fc_ t)) = some g → ∃ k', D (ro (sc_ t)) = some k' ∧ k' ≤ g + 1) ∧ (D (ro (sc_ t)) = some g → ∃ k', D (ro (fc_ t)) = some k' ∧ k' ≤ g + 1)) ∧
  (fl = false → ∀ r, r < 25 → ∀ k, D r = some k → k ≤ g)
theorem J2_0 {sd : Nat → Int32} {ro : Nat → Nat} {src : Nat → Prop} {g : Nat} {D : Nat → Option Nat} (h : J1 src (adjD sd ro) g D) : J2 sd ro src g 0 false D :=
  ⟨h.1, fun r hr k hk => ⟨Nat.le_succ_of_le (h.2.1 r hr k hk).1, (h.2.1 r hr k hk).2⟩, h.2.2, fun t ht => absurd ht (Nat.not_lt_zero t), fun _ r hr k hk => (h.2.1 r hr k hk).1⟩
theorem J2_skip {sd : Nat → Int32} {ro : Nat → Nat} {src : Nat → Prop} {g s : Nat} {fl : Bool} {D : Nat → Option Nat} (h : J2 sd ro src g s fl D) (hn : sd s = 2 → (D (ro (fc_ s)) = some g → ∃ k', D (ro (sc_ s)) = some k' ∧ k' ≤ g + 1) ∧ (D (ro (sc_ s)) = some g → ∃ k', D (ro (fc_ s)) = some k' ∧ k' ≤ g + 1)) : J2 sd ro src g (s + 1) fl D :=
  ⟨h.1, h.2.1, h.2.2.1, fun t ht h2 => by
    by_cases q : t = s
    · rw [q] at h2 ⊢; exact hn h2
    · exact h.2.2.2.1 t (by omega) h2, h.2.2.2.2⟩
def uo (D : Nat → Option Nat) (b : Nat) (k : Nat) : Nat → Option Nat := fun r => if r = b then some k else D r
theorem J2_upd {sd : Nat → Int32} {ro : Nat → Nat} {src : Nat → Prop} {g s a b : Nat} {fl : Bool} {D : Nat → Option Nat} (h : J2 sd ro src g s fl D) (ha : a < 25) (hab : adjD sd ro a b) (h1 : D a = some g) (h2 : D b = none) : J2 sd ro src g s true (uo D b (g + 1)) := by
  obtain ⟨j1, j2, j3, j4, j5⟩ := h
  have nb : ∀ r k, D r = some k → r ≠ b := fun r k e q => by rw [q, h2] at e; cases e
  have up : ∀ r k, D r = some k → uo D b (g + 1) r = some k := fun r k e => by unfold uo; rw [if_neg (nb r k e)]; exact e
  have dn : ∀ r k, uo D b (g + 1) r = some k → k ≤ g → D r = some k := fun r k e hk => by
    unfold uo at e
    by_cases q : r = b
    · rw [if_pos q] at e; cases e; omega
    · rw [if_neg q] at e; exact e
  refine ⟨fun r hr hs => up r 0 (j1 r hr hs), fun r hr k hk => ?_, fun r r' hr hr' hadj k hk hg => ?_, fun t ht hd => ⟨fun e => ?_, fun e => ?_⟩, fun e => by cases e⟩
  · by_cases q : r = b
    · unfold uo at hk
      rw [if_pos q] at hk
      cases hk
      exact ⟨Nat.le_refl _, Or.inr ⟨a, ha, by rw [q]; exact hab, by omega, up a g h1⟩⟩
    · have hk' : D r = some k := by
        unfold uo at hk
        rw [if_neg q] at hk
        exact hk
      obtain ⟨k1, k2⟩ := j2 r hr k hk'
      refine ⟨k1, k2.elim Or.inl (fun ⟨r', e1, e2, e3, e4⟩ => Or.inr ⟨r', e1, e2, e3, up _ _ e4⟩)⟩
  · obtain ⟨k', e1, e2⟩ := j3 r r' hr hr' hadj k (dn r k hk (by omega)) hg
    exact ⟨k', up _ _ e1, e2⟩
  · obtain ⟨k', e1, e2⟩ := (j4 t ht hd).1 (dn _ _ e (Nat.le_refl _))
    exact ⟨k', up _ _ e1, e2⟩
  · obtain ⟨k', e1, e2⟩ := (j4 t ht hd).2 (dn _ _ e (Nat.le_refl _))
    exact ⟨k', up _ _ e1, e2⟩
theorem J2_end {sd : Nat → Int32} {ro : Nat → Nat} {src : Nat → Prop} {g : Nat} {fl : Bool} {D : Nat → Option Nat} (h : J2 sd ro src g 40 fl D) : J1 src (adjD sd ro) (g + 1) D ∧ (fl = false → DistOK 25 src (adjD sd ro) D) := by
  obtain ⟨j1, j2, j3, j4, j5⟩ := h
  have key : ∀ r r', r < 25 → r' < 25 → adjD sd ro r r' → ∀ k, D r = some k → k < g + 1 → ∃ k', D r' = some k' ∧ k' ≤ k + 1 := fun r r' hr hr' hadj k hk hg => by
    by_cases q : k < g
    · exact j3 r r' hr hr' hadj k hk q
    · obtain rfl : k = g := by omega
      obtain ⟨t, ht, hd, he⟩ := hadj
      rcases he with ⟨e1, e2⟩ | ⟨e1, e2⟩
      · rw [e1] at hk; rw [e2]; exact (j4 t ht hd).1 hk
      · rw [e1] at hk; rw [e2]; exact (j4 t ht hd).2 hk
  refine ⟨⟨j1, j2, key⟩, fun e => ⟨j1, fun r hr k hk => ?_, fun r r' hr hr' hadj k hk => key r r' hr hr' hadj k hk (by have := j5 e r hr k hk; omega)⟩⟩
  exact (j2 r hr k hk).2.elim Or.inl (fun ⟨r', e1, e2, e3, e4⟩ => Or.inr ⟨r', k - 1, e1, e2, e4, by omega⟩)
theorem J1_lev {src : Nat → Prop} {adj : Nat → Nat → Prop} {g : Nat} {D : Nat → Option Nat} (h : J1 src adj g D) : ∀ (k r : Nat), r < 25 → D r = some k → ∀ j, j ≤ k → ∃ q, q < 25 ∧ D q = some j
  | 0, r, hr, hk, j, hj => ⟨r, hr, by rw [show j = 0 by omega]; exact hk⟩
  | k + 1, r, hr, hk, j, hj => by
    by_cases e : j = k + 1
    · exact ⟨r, hr, by rw [e]; exact hk⟩
    · rcases (h.2.1 r hr _ hk).2 with ⟨h0, -⟩ | ⟨r', h1, -, -, h4⟩
      · omega
      · exact J1_lev h k r' h1 h4 j (by omega)
theorem J1_lt {src : Nat → Prop} {adj : Nat → Nat → Prop} {g : Nat} {D : Nat → Option Nat} (h : J1 src adj g D) {k r : Nat} (hr : r < 25) (hk : D r = some k) : k < 25 := by
  rcases Nat.lt_or_ge k 25 with q | q
  · exact q
  · exfalso
    have key : ∀ j, ∃ q, j ≤ k → (q < 25 ∧ D q = some j) := fun j => by
      by_cases hj : j ≤ k
      · obtain ⟨q, h1⟩ := J1_lev h k r hr hk j hj
        exact ⟨q, fun _ => h1⟩
      · exact ⟨0, fun h => absurd h hj⟩
    obtain ⟨f, hf⟩ := Classical.axiomOfChoice key
    obtain ⟨i, j, h1, h2, h3⟩ := ph_ 25 f (fun i hi => (hf i (by omega)).1)
    have e1 := (hf i (by omega)).2
    have e2 := (hf j (by omega)).2
    rw [h3, e2] at e1
    cases e1
    omega
theorem J1_25 {src : Nat → Prop} {adj : Nat → Nat → Prop} {D : Nat → Option Nat} (h : J1 src adj 25 D) : DistOK 25 src adj D :=
  ⟨h.1, fun r hr k hk => (h.2.1 r hr k hk).2.elim Or.inl (fun ⟨r', e1, e2, e3, e4⟩ => Or.inr ⟨r', k - 1, e1, e2, e4, by omega⟩), fun r r' hr hr' ha k hk => h.2.2 r r' hr hr' ha k hk (J1_lt h hr hk)⟩
set_option maxRecDepth 100000 in
set_option maxHeartbeats 4000000 in
theorem c_X1_goThrough (G : am_G) (l : Launch) (htr : l.stackTraces = false) (h : am_H) (dl : Nat) (hkd : hk_ h dl = 9) (hnd : hn_ h dl = 25) (a b g : Nat) (ha : a < 25) (hb : b < 25) : am_Met G l yX1_goThrough (.code yX1_goThrough cX1_goThrough 4 (some .boolean)) 1 0 0 [.ref (dl), .int (nI a), .int (nI b), .int (nI g)] h (fun v h' => (hi_ h dl a = nI g ∧ hi_ h dl b = -1 ∧ v = some (.int 1) ∧ h' = am_sI h dl b (nI (g + 1))) ∨ (¬ (hi_ h dl a = nI g ∧ hi_ h dl b = -1) ∧ v = some (.int 0) ∧ h' = h)) (am_no) := by
  refine am_intro rfl htr rfl (Nat.le_of_ble_eq_true rfl) (fun Z hC hR hI => ?_)
  change am_W Z 0 0 0 [.ref (dl), .int (nI a), .int (nI b), .int (nI g)] [] h
  refine am_aload_n hC dX1_goThrough_0 rfl ?_
  refine am_iload_n hC dX1_goThrough_1 rfl ?_
  refine am_ialdE (v := hi_ h dl a) hC (j := a) (N := 25) hkd hnd rfl (by omega) (by decide) dX1_goThrough_2 rfl ?_
  refine am_iload_n hC dX1_goThrough_3 rfl ?_
  refine am_icmp_ne (tgt := 14) hC dX1_goThrough_4 (by decide) (fun c_4 => ?_) (fun c_4 => ?_)
  · refine am_iconst (v := nI 0) hC dX1_goThrough_14 (by decide) ?_
    refine am_iret hC hR rfl (by decide) (by decide) dX1_goThrough_15 ?_
    exact Or.inr ⟨fun q => by first | exact c_4 q.1 | exact c_11 q.2, rfl, rfl⟩
  · refine am_aload_n hC dX1_goThrough_7 rfl ?_
    refine am_iload_n hC dX1_goThrough_8 rfl ?_
    refine am_ialdE (v := hi_ h dl b) hC (j := b) (N := 25) hkd hnd rfl (by omega) (by decide) dX1_goThrough_9 rfl ?_
    refine am_iconst (v := -1) hC dX1_goThrough_10 (by decide) ?_
    refine am_icmp_eq (tgt := 16) hC dX1_goThrough_11 (by decide) (fun c_11 => ?_) (fun c_11 => ?_)
    · refine am_aload_n hC dX1_goThrough_16 rfl ?_
      refine am_iload_n hC dX1_goThrough_17 rfl ?_
      refine am_iload_n hC dX1_goThrough_18 rfl ?_
      refine am_iconst (v := nI 1) hC dX1_goThrough_19 (by decide) ?_
      refine am_iaddE (z := nI (g + 1)) hC dX1_goThrough_20 (nI_add (g) (1)) ?_
      refine am_iast hC (j := b) (N := 25) hkd hnd rfl (by omega) (by decide) dX1_goThrough_21 ?_
      refine am_iconst (v := nI 1) hC dX1_goThrough_22 (by decide) ?_
      refine am_iret hC hR rfl (by decide) (by decide) dX1_goThrough_23 ?_
      exact Or.inl ⟨c_4, c_11, rfl, rfl⟩
    · refine am_iconst (v := nI 0) hC dX1_goThrough_14 (by decide) ?_
      refine am_iret hC hR rfl (by decide) (by decide) dX1_goThrough_15 ?_
      exact Or.inr ⟨fun q => by first | exact c_4 q.1 | exact c_11 q.2, rfl, rfl⟩
set_option maxRecDepth 100000 in
set_option maxHeartbeats 4000000 in
theorem c_X1_goThroughDoors (G : am_G) (l : Launch) (htr : l.stackTraces = false) (h : am_H) (hF : FC h) (ro : Nat → Nat) (hro : RoomOK (fun s => hi_ h 9 s) ro) (hr11 : ∀ c, c < 25 → hi_ h 11 c = nI (ro c)) (dl : Nat) (hdl : dl = 12 ∨ dl = 13) (src : Nat → Prop) (hsrc : ∀ r, r < 25 → (src r → hi_ h dl r = 0) ∧ (¬ src r → hi_ h dl r = -1)) : am_Met G l yX1_goThroughDoors (.code yX1_goThroughDoors cX1_goThroughDoors 7 none) 4 0 0 [.ref (7), .ref (dl)] h (fun v h' => v = none ∧ am_eq (fun r => r = dl) h h' ∧ ∃ D, DistOK 25 src (adjD (fun s => hi_ h 9 s) ro) D ∧ ∀ r, r < 25 → hi_ h' dl r = dI (D r)) (am_no) := by
  have hkd : hk_ h dl = 9 := by rcases hdl with rfl | rfl; exact kC_12 hF; exact kC_13 hF
  have hnd : hn_ h dl = 25 := by rcases hdl with rfl | rfl; exact nC_12 hF; exact nC_13 hF
  refine am_intro rfl htr rfl (Nat.le_of_ble_eq_true rfl) (fun Z hC hR hI => ?_)
  change am_W Z 0 0 0 [.ref (7), .ref (dl), .null, .null, .null, .null, .null] [] h
  have hS : ∀ r, r = dl → r ≤ 2 ∨ 9 ≤ r := fun r q => by omega
  have inner : ∀ (gn : Nat), gn < 25 → (∀ (g : am_H) (fl : Bool) (D : Nat → Option Nat), am_eq (fun r => r = dl) h g → am_le h g → J2 (fun s => hi_ h 9 s) ro src gn 40 fl D → (∀ r, r < 25 → hi_ g dl r = dI (D r)) → am_W Z 0 0 96 [.ref (7), .ref (dl), .int (b2i fl), .int (nI gn), .int (nI 40), .null, .null] [] g) → ∀ (m s : Nat) (g : am_H) (fl : Bool) (D : Nat → Option Nat), s + m = 40 → am_eq (fun r => r = dl) h g → am_le h g → J2 (fun s => hi_ h 9 s) ro src gn s fl D → (∀ r, r < 25 → hi_ g dl r = dI (D r)) → am_W Z 0 0 19 [.ref (7), .ref (dl), .int (b2i fl), .int (nI gn), .int (nI s), .null, .null] [] g := by
    intro gn hgn after m
    induction m with
    | zero =>
      intro s g fl D him e hle hj hv
      obtain rfl : s = 40 := by omega
      refine am_iload hC dX1_goThroughDoors_19 rfl ?_
      refine am_bipush (v := nI 40) hC dX1_goThroughDoors_21 (by decide) ?_
      refine am_icmp_ge (tgt := 96) hC dX1_goThroughDoors_23 (by decide) (fun c_23 => ?_) (fun c_23 => absurd (nI_le (by omega) (by omega)) c_23)
      exact after g fl D e hle hj hv
    | succ m ih =>
      intro s g fl D him e hle hj hv
      have hF := FC_eq hS e hle hF
      have hkd := (hle dl (by omega)).1.trans hkd
      have hnd := (hle dl (by omega)).2.trans hnd
      have h9 : hi_ g 9 s = hi_ h 9 s := (e 9 (by omega)).2.2.1 s
      have hf := fc_lt (by omega : s < 40)
      have hg := sc_lt (by omega : s < 40)
      have hrf := Room_lt hro hf
      have hrg := Room_lt hro hg
      have hra : hi_ g 11 (fc_ s) = nI (ro (fc_ s)) := ((e 11 (by omega)).2.2.1 _).trans (hr11 _ hf)
      have hrb : hi_ g 11 (sc_ s) = nI (ro (sc_ s)) := ((e 11 (by omega)).2.2.1 _).trans (hr11 _ hg)
      have hb31 : ∀ r, r < 25 → ∀ j, D r = some j → j < 2 ^ 31 := fun r hr j hj9 => by have := (hj.2.1 r hr j hj9).1; omega
      refine am_iload hC dX1_goThroughDoors_19 rfl ?_
      refine am_bipush (v := nI 40) hC dX1_goThroughDoors_21 (by decide) ?_
      refine am_icmp_ge (tgt := 96) hC dX1_goThroughDoors_23 (by decide) (fun c_23 => absurd c_23 (nI_ge (by omega) (by omega))) (fun c_23 => ?_)
      refine am_aload_n hC dX1_goThroughDoors_26 rfl ?_
      refine am_get (v := .ref (8)) hC (ci := 2) (N := 4) (j := 0) rfl (kC_7 hF) (by decide) tw_79 (Or.inl rfl) dX1_goThroughDoors_27 (am_rfe (rC_7_0 hF)) ?_
      refine am_getN (v := .ref (9)) hC (ci := 5) (N := 2) (j := 0) rfl (kC_8 hF) (by decide) tw_69 dX1_goThroughDoors_30 (am_rfe (rC_8_0 hF)) ?_
      refine am_iload hC dX1_goThroughDoors_33 rfl ?_
      refine am_ialdE (v := hi_ h 9 s) hC (j := s) (N := 40) (kC_9 hF) (nC_9 hF) rfl (by omega) (by decide) dX1_goThroughDoors_35 h9 ?_
      refine am_iconst (v := nI 2) hC dX1_goThroughDoors_36 (by decide) ?_
      refine am_icmp_ne (tgt := 90) hC dX1_goThroughDoors_37 (by decide) (fun c_37 => ?_) (fun c_37 => ?_)
      · refine am_iinc (v := nI (s + 1)) hC dX1_goThroughDoors_90 rfl (nI_1 (s)) (by decide) ?_
        change am_W _ _ _ _ [.ref (7), .ref (dl), .int (b2i fl), .int (nI gn), .int (nI (s + 1)), .null, .null] _ _
        refine am_goto (tgt := 19) hC dX1_goThroughDoors_93 (by decide) ?_
        exact am_fgt (ls' := [.ref (7), .ref (dl), .int (b2i fl), .int (nI gn), .int (nI (s + 1)), .null, .null]) ⟨Or.inl rfl, ⟨Or.inl rfl, ⟨Or.inl rfl, ⟨Or.inl rfl, ⟨Or.inl rfl, ⟨Or.inr rfl, ⟨Or.inr rfl, trivial⟩⟩⟩⟩⟩⟩⟩ (ih (s + 1) g fl D (by omega) e hle (J2_skip hj (fun z => absurd z c_37)) hv)
      · refine am_aload_n hC dX1_goThroughDoors_40 rfl ?_
        refine am_get (v := .ref (11)) hC (ci := 2) (N := 4) (j := 1) rfl (kC_7 hF) (by decide) tw_80 (Or.inl rfl) dX1_goThroughDoors_41 (am_rfe (rC_7_1 hF)) ?_
        refine am_iload hC dX1_goThroughDoors_44 rfl ?_
        refine am_callSN hC [.int (nI s)] mf_X5_firstCell tw_385 (c_X5_firstCell _ _ (am_tr hC) _ s (by omega)) rfl ⟨rfl, Nat.le_of_ble_eq_true rfl⟩ ⟨by decide, by decide⟩ (by decide) (by decide) dX1_goThroughDoors_46 rfl (fun _ _ q _ => False.elim q) (fun v h' hp hlc => ?_)
        obtain ⟨rfl, q9⟩ := hp
        have q9 := q9.symm
        subst q9
        refine am_ialdE (v := nI (ro (fc_ s))) hC (j := fc_ s) (N := 25) (kC_11 hF) (nC_11 hF) rfl (by omega) (by decide) dX1_goThroughDoors_49 hra ?_
        refine am_istore hC dX1_goThroughDoors_50 (by decide) ?_
        change am_W _ _ _ _ [.ref (7), .ref (dl), .int (b2i fl), .int (nI gn), .int (nI s), .int (nI (ro (fc_ s))), .null] _ _
        refine am_aload_n hC dX1_goThroughDoors_52 rfl ?_
        refine am_get (v := .ref (11)) hC (ci := 2) (N := 4) (j := 1) rfl (kC_7 hF) (by decide) tw_80 (Or.inl rfl) dX1_goThroughDoors_53 (am_rfe (rC_7_1 hF)) ?_
        refine am_iload hC dX1_goThroughDoors_56 rfl ?_
        refine am_callSN hC [.int (nI s)] mf_X5_secondCell tw_388 (c_X5_secondCell _ _ (am_tr hC) _ s (by omega)) rfl ⟨rfl, Nat.le_of_ble_eq_true rfl⟩ ⟨by decide, by decide⟩ (by decide) (by decide) dX1_goThroughDoors_58 rfl (fun _ _ q _ => False.elim q) (fun v h' hp hlc => ?_)
        obtain ⟨rfl, q9⟩ := hp
        have q9 := q9.symm
        subst q9
        refine am_ialdE (v := nI (ro (sc_ s))) hC (j := sc_ s) (N := 25) (kC_11 hF) (nC_11 hF) rfl (by omega) (by decide) dX1_goThroughDoors_61 hrb ?_
        refine am_istore hC dX1_goThroughDoors_62 (by decide) ?_
        change am_W _ _ _ _ [.ref (7), .ref (dl), .int (b2i fl), .int (nI gn), .int (nI s), .int (nI (ro (fc_ s))), .int (nI (ro (sc_ s)))] _ _
        refine am_aload_n hC dX1_goThroughDoors_64 rfl ?_
        refine am_iload hC dX1_goThroughDoors_65 rfl ?_
        refine am_iload hC dX1_goThroughDoors_67 rfl ?_
        refine am_iload_n hC dX1_goThroughDoors_69 rfl ?_
        refine am_callS hC [.ref (dl), .int (nI (ro (fc_ s))), .int (nI (ro (sc_ s))), .int (nI gn)] mf_X1_goThrough tw_407 (c_X1_goThrough _ _ (am_tr hC) _ dl hkd hnd _ _ gn hrf hrg) rfl ⟨rfl, Nat.le_of_ble_eq_true rfl⟩ ⟨by decide, by decide⟩ (by decide) (by decide) dX1_goThroughDoors_70 rfl (fun _ _ q _ => False.elim q) (fun v h' hp hlc => ?_)
        rcases hp with hp | hp
        · obtain ⟨q1, q2, rfl, rfl⟩ := hp
          have d1 := (dI_some (by omega) (hb31 _ hrf)).mp ((hv _ hrf).symm.trans q1)
          have d2 := (dI_none (hb31 _ hrg)).mp ((hv _ hrg).symm.trans q2)
          have hadj : adjD (fun s => hi_ h 9 s) ro (ro (fc_ s)) (ro (sc_ s)) := ⟨s, by omega, c_37, Or.inl ⟨rfl, rfl⟩⟩
          have hj' := J2_upd hj hrf hadj d1 d2
          have na : ro (fc_ s) ≠ ro (sc_ s) := fun z => by rw [z, d2] at d1; cases d1
          have u1 : uo D (ro (sc_ s)) (gn + 1) (ro (sc_ s)) = some (gn + 1) := if_pos rfl
          have u2 : uo D (ro (sc_ s)) (gn + 1) (ro (fc_ s)) = some gn := (if_neg na).trans d1
          have hj2 := J2_skip hj' (fun _ => by
            exact ⟨fun _ => ⟨gn + 1, u1, Nat.le_refl _⟩, fun z => by rw [u1] at z; cases z⟩)
          have hv2 : ∀ r, r < 25 → hi_ (am_sI g dl (ro (sc_ s)) (nI (gn + 1))) dl r = dI (uo D (ro (sc_ s)) (gn + 1) r) := fun r hr => by
            rw [hi_sI]
            unfold uo
            by_cases q : r = ro (sc_ s)
            · rw [if_pos ⟨rfl, q⟩, if_pos q]; rfl
            · rw [if_neg (fun z => q z.2), if_neg q]; exact hv r hr
          refine am_if_ne (tgt := 88) hC dX1_goThroughDoors_73 (by decide) (fun c_73 => ?_) (fun c_73 => absurd c_73 (by decide))
          refine am_iconst (v := b2i true) hC dX1_goThroughDoors_88 (by decide) ?_
          refine am_istore_n hC dX1_goThroughDoors_89 (by decide) ?_
          change am_W _ _ _ _ [.ref (7), .ref (dl), .int (b2i true), .int (nI gn), .int (nI s), .int (nI (ro (fc_ s))), .int (nI (ro (sc_ s)))] _ _
          refine am_iinc (v := nI (s + 1)) hC dX1_goThroughDoors_90 rfl (nI_1 (s)) (by decide) ?_
          change am_W _ _ _ _ [.ref (7), .ref (dl), .int (b2i true), .int (nI gn), .int (nI (s + 1)), .int (nI (ro (fc_ s))), .int (nI (ro (sc_ s)))] _ _
          refine am_goto (tgt := 19) hC dX1_goThroughDoors_93 (by decide) ?_
          exact am_fgt (ls' := [.ref (7), .ref (dl), .int (b2i true), .int (nI gn), .int (nI (s + 1)), .null, .null]) ⟨Or.inl rfl, ⟨Or.inl rfl, ⟨Or.inl rfl, ⟨Or.inl rfl, ⟨Or.inl rfl, ⟨Or.inr rfl, ⟨Or.inr rfl, trivial⟩⟩⟩⟩⟩⟩⟩ (ih (s + 1) _ true _ (by omega) (am_eq_tr e (am_eq_sI rfl)) (am_le_tr hle (am_le_sI _ _ _ _)) hj2 hv2)
        · obtain ⟨q1, rfl, q9⟩ := hp
          have q9 := q9.symm
          subst q9
          have q1a := q1
          refine am_if_ne (tgt := 88) hC dX1_goThroughDoors_73 (by decide) (fun c_73 => absurd (by decide) c_73) (fun c_73 => ?_)
          refine am_aload_n hC dX1_goThroughDoors_76 rfl ?_
          refine am_iload hC dX1_goThroughDoors_77 rfl ?_
          refine am_iload hC dX1_goThroughDoors_79 rfl ?_
          refine am_iload_n hC dX1_goThroughDoors_81 rfl ?_
          refine am_callS hC [.ref (dl), .int (nI (ro (sc_ s))), .int (nI (ro (fc_ s))), .int (nI gn)] mf_X1_goThrough tw_407 (c_X1_goThrough _ _ (am_tr hC) _ dl hkd hnd _ _ gn hrg hrf) rfl ⟨rfl, Nat.le_of_ble_eq_true rfl⟩ ⟨by decide, by decide⟩ (by decide) (by decide) dX1_goThroughDoors_82 rfl (fun _ _ q _ => False.elim q) (fun v h' hp hlc => ?_)
          rcases hp with hp | hp
          · obtain ⟨q1, q2, rfl, rfl⟩ := hp
            have d1 := (dI_some (by omega) (hb31 _ hrg)).mp ((hv _ hrg).symm.trans q1)
            have d2 := (dI_none (hb31 _ hrf)).mp ((hv _ hrf).symm.trans q2)
            have hadj : adjD (fun s => hi_ h 9 s) ro (ro (sc_ s)) (ro (fc_ s)) := ⟨s, by omega, c_37, Or.inr ⟨rfl, rfl⟩⟩
            have hj' := J2_upd hj hrg hadj d1 d2
            have na : ro (sc_ s) ≠ ro (fc_ s) := fun z => by rw [z, d2] at d1; cases d1
            have u1 : uo D (ro (fc_ s)) (gn + 1) (ro (fc_ s)) = some (gn + 1) := if_pos rfl
            have u2 : uo D (ro (fc_ s)) (gn + 1) (ro (sc_ s)) = some gn := (if_neg na).trans d1
            have hj2 := J2_skip hj' (fun _ => by
              exact ⟨fun z => (by rw [u1] at z; cases z), fun _ => ⟨gn + 1, u1, Nat.le_refl _⟩⟩)
            have hv2 : ∀ r, r < 25 → hi_ (am_sI g dl (ro (fc_ s)) (nI (gn + 1))) dl r = dI (uo D (ro (fc_ s)) (gn + 1) r) := fun r hr => by
              rw [hi_sI]
              unfold uo
              by_cases q : r = ro (fc_ s)
              · rw [if_pos ⟨rfl, q⟩, if_pos q]; rfl
              · rw [if_neg (fun z => q z.2), if_neg q]; exact hv r hr
            refine am_if_eq (tgt := 90) hC dX1_goThroughDoors_85 (by decide) (fun c_85 => absurd c_85 (by decide)) (fun c_85 => ?_)
            refine am_iconst (v := b2i true) hC dX1_goThroughDoors_88 (by decide) ?_
            refine am_istore_n hC dX1_goThroughDoors_89 (by decide) ?_
            change am_W _ _ _ _ [.ref (7), .ref (dl), .int (b2i true), .int (nI gn), .int (nI s), .int (nI (ro (fc_ s))), .int (nI (ro (sc_ s)))] _ _
            refine am_iinc (v := nI (s + 1)) hC dX1_goThroughDoors_90 rfl (nI_1 (s)) (by decide) ?_
            change am_W _ _ _ _ [.ref (7), .ref (dl), .int (b2i true), .int (nI gn), .int (nI (s + 1)), .int (nI (ro (fc_ s))), .int (nI (ro (sc_ s)))] _ _
            refine am_goto (tgt := 19) hC dX1_goThroughDoors_93 (by decide) ?_
            exact am_fgt (ls' := [.ref (7), .ref (dl), .int (b2i true), .int (nI gn), .int (nI (s + 1)), .null, .null]) ⟨Or.inl rfl, ⟨Or.inl rfl, ⟨Or.inl rfl, ⟨Or.inl rfl, ⟨Or.inl rfl, ⟨Or.inr rfl, ⟨Or.inr rfl, trivial⟩⟩⟩⟩⟩⟩⟩ (ih (s + 1) _ true _ (by omega) (am_eq_tr e (am_eq_sI rfl)) (am_le_tr hle (am_le_sI _ _ _ _)) hj2 hv2)
          · obtain ⟨q1, rfl, q9⟩ := hp
            have q9 := q9.symm
            subst q9
            refine am_if_eq (tgt := 90) hC dX1_goThroughDoors_85 (by decide) (fun c_85 => ?_) (fun c_85 => absurd (by decide) c_85)
            refine am_iinc (v := nI (s + 1)) hC dX1_goThroughDoors_90 rfl (nI_1 (s)) (by decide) ?_
            change am_W _ _ _ _ [.ref (7), .ref (dl), .int (b2i fl), .int (nI gn), .int (nI (s + 1)), .int (nI (ro (fc_ s))), .int (nI (ro (sc_ s)))] _ _
            refine am_goto (tgt := 19) hC dX1_goThroughDoors_93 (by decide) ?_
            have no : ∀ x y, x < 25 → y < 25 → ¬ (hi_ g dl x = nI gn ∧ hi_ g dl y = -1) → D x = some gn → ∃ k', D y = some k' ∧ k' ≤ gn + 1 := fun x y hx hy hn hd => by
              cases ey : D y with
              | none => exact absurd ⟨(hv x hx).trans ((dI_some (by omega) (hb31 x hx)).mpr hd), (hv y hy).trans ((dI_none (hb31 y hy)).mpr ey)⟩ hn
              | some k' => exact ⟨k', rfl, (hj.2.1 y hy k' ey).1⟩
            exact am_fgt (ls' := [.ref (7), .ref (dl), .int (b2i fl), .int (nI gn), .int (nI (s + 1)), .null, .null]) ⟨Or.inl rfl, ⟨Or.inl rfl, ⟨Or.inl rfl, ⟨Or.inl rfl, ⟨Or.inl rfl, ⟨Or.inr rfl, ⟨Or.inr rfl, trivial⟩⟩⟩⟩⟩⟩⟩ (ih (s + 1) g fl D (by omega) e hle (J2_skip hj (fun _ => ⟨no _ _ hrf hrg q1a, no _ _ hrg hrf q1⟩)) hv)
  have outer : ∀ (m gn : Nat) (g : am_H) (fl : Bool) (D : Nat → Option Nat), gn + m = 25 → am_eq (fun r => r = dl) h g → am_le h g → J1 src (adjD (fun s => hi_ h 9 s) ro) gn D → (fl = false → DistOK 25 src (adjD (fun s => hi_ h 9 s) ro) D) → (∀ r, r < 25 → hi_ g dl r = dI (D r)) → am_W Z 0 0 4 [.ref (7), .ref (dl), .int (b2i fl), .int (nI gn), .null, .null, .null] [] g := by
    intro m
    induction m with
    | zero =>
      intro gn g fl D him e hle hj hd hv
      obtain rfl : gn = 25 := by omega
      refine am_iload_n hC dX1_goThroughDoors_4 rfl ?_
      refine am_if_eq (tgt := 102) hC dX1_goThroughDoors_5 (by decide) (fun c_5 => ?_) (fun c_5 => ?_)
      · refine am_vret hC hR (by decide) (by decide) dX1_goThroughDoors_102 ?_
        exact ⟨rfl, e, D, J1_25 hj, hv⟩
      · refine am_iload_n hC dX1_goThroughDoors_8 rfl ?_
        refine am_bipush (v := nI 25) hC dX1_goThroughDoors_9 (by decide) ?_
        refine am_icmp_ge (tgt := 102) hC dX1_goThroughDoors_11 (by decide) (fun c_11 => ?_) (fun c_11 => absurd (nI_le (by omega) (by omega)) c_11)
        refine am_vret hC hR (by decide) (by decide) dX1_goThroughDoors_102 ?_
        exact ⟨rfl, e, D, J1_25 hj, hv⟩
    | succ m ih =>
      intro gn g fl D him e hle hj hd hv
      refine am_iload_n hC dX1_goThroughDoors_4 rfl ?_
      refine am_if_eq (tgt := 102) hC dX1_goThroughDoors_5 (by decide) (fun c_5 => ?_) (fun c_5 => ?_)
      · refine am_vret hC hR (by decide) (by decide) dX1_goThroughDoors_102 ?_
        exact ⟨rfl, e, D, hd (b2i_0.mp c_5), hv⟩
      · refine am_iload_n hC dX1_goThroughDoors_8 rfl ?_
        refine am_bipush (v := nI 25) hC dX1_goThroughDoors_9 (by decide) ?_
        refine am_icmp_ge (tgt := 102) hC dX1_goThroughDoors_11 (by decide) (fun c_11 => absurd c_11 (nI_ge (by omega) (by omega))) (fun c_11 => ?_)
        refine am_iconst (v := b2i false) hC dX1_goThroughDoors_14 (by decide) ?_
        refine am_istore_n hC dX1_goThroughDoors_15 (by decide) ?_
        change am_W _ _ _ _ [.ref (7), .ref (dl), .int (b2i false), .int (nI gn), .null, .null, .null] _ _
        refine am_iconst (v := nI 0) hC dX1_goThroughDoors_16 (by decide) ?_
        refine am_istore hC dX1_goThroughDoors_17 (by decide) ?_
        change am_W _ _ _ _ [.ref (7), .ref (dl), .int (b2i false), .int (nI gn), .int (nI 0), .null, .null] _ _
        have after : ∀ (g : am_H) (fl : Bool) (D : Nat → Option Nat), am_eq (fun r => r = dl) h g → am_le h g → J2 (fun s => hi_ h 9 s) ro src gn 40 fl D → (∀ r, r < 25 → hi_ g dl r = dI (D r)) → am_W Z 0 0 96 [.ref (7), .ref (dl), .int (b2i fl), .int (nI gn), .int (nI 40), .null, .null] [] g := by
          intro g fl D e hle hj hv
          refine am_iinc (v := nI (gn + 1)) hC dX1_goThroughDoors_96 rfl (nI_1 (gn)) (by decide) ?_
          change am_W _ _ _ _ [.ref (7), .ref (dl), .int (b2i fl), .int (nI (gn + 1)), .int (nI 40), .null, .null] _ _
          refine am_goto (tgt := 4) hC dX1_goThroughDoors_99 (by decide) ?_
          exact am_fgt (ls' := [.ref (7), .ref (dl), .int (b2i fl), .int (nI (gn + 1)), .null, .null, .null]) ⟨Or.inl rfl, ⟨Or.inl rfl, ⟨Or.inl rfl, ⟨Or.inl rfl, ⟨Or.inr rfl, ⟨Or.inr rfl, ⟨Or.inr rfl, trivial⟩⟩⟩⟩⟩⟩⟩ (ih (gn + 1) g fl D (by omega) e hle (J2_end hj).1 (J2_end hj).2 hv)
        exact am_fgt (ls' := [.ref (7), .ref (dl), .int (b2i false), .int (nI gn), .int (nI 0), .null, .null]) ⟨Or.inl rfl, ⟨Or.inl rfl, ⟨Or.inl rfl, ⟨Or.inl rfl, ⟨Or.inl rfl, ⟨Or.inr rfl, ⟨Or.inr rfl, trivial⟩⟩⟩⟩⟩⟩⟩ (inner gn (by omega) after 40 0 g false D rfl e hle (J2_0 hj) hv)
  refine am_iconst (v := b2i true) hC dX1_goThroughDoors_0 (by decide) ?_
  refine am_istore_n hC dX1_goThroughDoors_1 (by decide) ?_
  change am_W _ _ _ _ [.ref (7), .ref (dl), .int (b2i true), .null, .null, .null, .null] _ _
  refine am_iconst (v := nI 0) hC dX1_goThroughDoors_2 (by decide) ?_
  refine am_istore_n hC dX1_goThroughDoors_3 (by decide) ?_
  change am_W _ _ _ _ [.ref (7), .ref (dl), .int (b2i true), .int (nI 0), .null, .null, .null] _ _
  have key : ∀ r, ∃ o : Option Nat, r < 25 → (hi_ h dl r = dI o ∧ (src r → o = some 0) ∧ (¬ src r → o = none)) := fun r => by
    by_cases hr : r < 25
    · by_cases q : src r
      · exact ⟨some 0, fun _ => ⟨(hsrc r hr).1 q, fun _ => rfl, fun z => absurd q z⟩⟩
      · exact ⟨none, fun _ => ⟨(hsrc r hr).2 q, fun z => absurd z q, fun _ => rfl⟩⟩
    · exact ⟨none, fun z => absurd z hr⟩
  obtain ⟨D, hD⟩ := Classical.axiomOfChoice key
  have hja : ∀ r, r < 25 → ∀ k, D r = some k → k ≤ 0 ∧ ((k = 0 ∧ src r) ∨ ∃ r2, r2 < 25 ∧ adjD (fun s => hi_ h 9 s) ro r2 r ∧ 1 ≤ k ∧ D r2 = some (k - 1)) := fun r hr k hk => by
    by_cases q : src r
    · rw [(hD r hr).2.1 q] at hk; cases hk; exact ⟨Nat.le_refl 0, Or.inl ⟨rfl, q⟩⟩
    · rw [(hD r hr).2.2 q] at hk; cases hk
  have hj : J1 src (adjD (fun s => hi_ h 9 s) ro) 0 D := ⟨fun r hr hs => (hD r hr).2.1 hs, hja, fun r r2 hr hr2 ha k hk hg => absurd hg (Nat.not_lt_zero k)⟩
  exact outer 25 0 h true D rfl (am_eq_rf _ _) (am_le_rf _) hj (fun z => by cases z) (fun r hr => (hD r hr).1)
