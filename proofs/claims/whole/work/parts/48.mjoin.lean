/-! ===== the model: joined over doors, references over others, permits and prints ===== -/
theorem or_0 (m : Int32) : m ||| nI 0 = m := b_ext (fun i _ => by rw [b_or, show bt (nI 0) i = false from b_0 i, Bool.or_false])
def bth (a b : Nat) : Int32 := (nI 1) <<< ((nI a) &&& 31) ||| (nI 1) <<< ((nI b) &&& 31)
theorem b_bth {a b : Nat} (ha : a < 32) (hb : b < 32) {i : Nat} (hi : i < 32) : bt (bth a b) i = (decide (i = a) || decide (i = b)) := by unfold bth; rw [b_or, b_one a ha i hi, b_one b hb i hi]
def JB (D : Nat → Option Nat) (j : Nat) (m : Int32) : Prop := (∀ q, q < 32 → bt m q = true → q < 25 ∧ D q ≠ none) ∧ ∀ q, q < 25 → ∀ k, D q = some k → k ≤ j → bt m q = true
def JI (sd : Nat → Int32) (ro : Nat → Nat) (D : Nat → Option Nat) (j s : Nat) (m : Int32) : Prop := JB D j m ∧ ∀ s1, s1 < s → sd s1 = 2 → ∀ k, k ≤ j → (D (ro (fc_ s1)) = some k → bt m (ro (sc_ s1)) = true) ∧ (D (ro (sc_ s1)) = some k → bt m (ro (fc_ s1)) = true)
theorem JI_same {sd : Nat → Int32} {ro : Nat → Nat} {D : Nat → Option Nat} {j s : Nat} {m : Int32} (h : JI sd ro D j s m) (hn : sd s = 2 → bt m (ro (fc_ s)) = false ∧ bt m (ro (sc_ s)) = false) (hl : ro (fc_ s) < 25 ∧ ro (sc_ s) < 25) : JI sd ro D j (s + 1) (m ||| nI 0) := by
  rw [or_0]
  refine ⟨h.1, fun s1 hs1 e k hk => ?_⟩
  rcases Nat.lt_or_eq_of_le (Nat.le_of_lt_succ hs1) with z | z
  · exact h.2 s1 z e k hk
  · subst z
    obtain ⟨n1, n2⟩ := hn e
    exact ⟨fun q => (by rw [h.1.2 _ hl.1 k q hk] at n1; cases n1), fun q => (by rw [h.1.2 _ hl.2 k q hk] at n2; cases n2)⟩
theorem and0 {m : Int32} {a b : Nat} (ha : a < 32) (hb : b < 32) (h : m &&& bth a b = 0) : bt m a = false ∧ bt m b = false := by
  have e := fun i (hi : i < 32) => (show bt (m &&& bth a b) i = false by rw [h]; exact b_0 i)
  have ea := e a ha
  have eb := e b hb
  rw [b_and, b_bth ha hb ha, decide_eq_true rfl, Bool.true_or, Bool.and_true] at ea
  rw [b_and, b_bth ha hb hb, decide_eq_true rfl, Bool.or_true, Bool.and_true] at eb
  exact ⟨ea, eb⟩
theorem and1 {m : Int32} {a b : Nat} (ha : a < 32) (hb : b < 32) (h : ¬ m &&& bth a b = 0) : bt m a = true ∨ bt m b = true := by
  refine Classical.byContradiction fun q => h (b_ext (fun i hi => ?_))
  rw [b_and, b_bth ha hb hi, b_0]
  by_cases z : i = a
  · subst z
    cases w : bt m i
    · rfl
    · exact absurd (Or.inl w) q
  · by_cases y : i = b
    · subst y
      cases w : bt m i
      · rfl
      · exact absurd (Or.inr w) q
    · rw [decide_eq_false z, decide_eq_false y]; exact Bool.and_false _
theorem JI_step {sd : Nat → Int32} {ro : Nat → Nat} {src : Nat → Prop} {D : Nat → Option Nat} {j s : Nat} {m : Int32} (hD : DistOK 25 src (adjD sd ro) D) (hs : s < 40) (h2 : sd s = 2) (h : JI sd ro D j s m) (hl : ro (fc_ s) < 25 ∧ ro (sc_ s) < 25) (hb : ¬ m &&& bth (ro (fc_ s)) (ro (sc_ s)) = 0) : JI sd ro D j (s + 1) (m ||| bth (ro (fc_ s)) (ro (sc_ s))) := by
  have bits : ∀ i, i < 32 → bt (m ||| bth (ro (fc_ s)) (ro (sc_ s))) i = (bt m i || (decide (i = ro (fc_ s)) || decide (i = ro (sc_ s)))) := fun i hi => by rw [b_or, b_bth (by omega) (by omega) hi]
  have mono : ∀ i, i < 32 → bt m i = true → bt (m ||| bth (ro (fc_ s)) (ro (sc_ s))) i = true := fun i hi q => by rw [bits i hi, q]; rfl
  have hsome : D (ro (fc_ s)) ≠ none ∧ D (ro (sc_ s)) ≠ none := by
    rcases and1 (by omega) (by omega) hb with q | q
    · have h1 := (h.1.1 _ (by omega) q).2
      refine ⟨h1, ?_⟩
      cases e : D (ro (fc_ s)) with
      | none => exact absurd e h1
      | some k =>
        obtain ⟨k', e', -⟩ := hD.2.2 _ _ hl.1 hl.2 ⟨s, hs, h2, Or.inl ⟨rfl, rfl⟩⟩ k e
        rw [e']; exact fun z => by cases z
    · have h1 := (h.1.1 _ (by omega) q).2
      refine ⟨?_, h1⟩
      cases e : D (ro (sc_ s)) with
      | none => exact absurd e h1
      | some k =>
        obtain ⟨k', e', -⟩ := hD.2.2 _ _ hl.2 hl.1 ⟨s, hs, h2, Or.inr ⟨rfl, rfl⟩⟩ k e
        rw [e']; exact fun z => by cases z
  have ba : bt (m ||| bth (ro (fc_ s)) (ro (sc_ s))) (ro (fc_ s)) = true := by rw [bits _ (by omega), decide_eq_true rfl]; simp
  have bb : bt (m ||| bth (ro (fc_ s)) (ro (sc_ s))) (ro (sc_ s)) = true := by rw [bits _ (by omega), decide_eq_true (rfl : ro (sc_ s) = ro (sc_ s))]; simp
  refine ⟨⟨fun q hq hb => ?_, fun q hq k hk hkj => mono q (by omega) (h.1.2 q hq k hk hkj)⟩, fun s1 hs1 e k hk => ?_⟩
  · rw [bits q hq, Bool.or_eq_true, Bool.or_eq_true, decide_eq_true_iff, decide_eq_true_iff] at hb
    rcases hb with z | z | z
    · exact h.1.1 q hq z
    · rw [z]; exact ⟨hl.1, hsome.1⟩
    · rw [z]; exact ⟨hl.2, hsome.2⟩
  · by_cases z : s1 < s
    · have e3 := h.2 s1 z e k hk
      refine ⟨fun q => ?_, fun q => ?_⟩
      · have := e3.1 q
        exact mono _ (Nat.lt_of_not_le (fun w => by rw [b_big w] at this; cases this)) this
      · have := e3.2 q
        exact mono _ (Nat.lt_of_not_le (fun w => by rw [b_big w] at this; cases this)) this
    · obtain rfl : s1 = s := by omega
      exact ⟨fun _ => bb, fun _ => ba⟩
theorem JI_end {sd : Nat → Int32} {ro : Nat → Nat} {src : Nat → Prop} {D : Nat → Option Nat} {j : Nat} {m : Int32} (hD : DistOK 25 src (adjD sd ro) D) (h : JI sd ro D j 40 m) : JB D (j + 1) m := by
  refine ⟨h.1.1, fun c hc k hk hkj => ?_⟩
  rcases Nat.lt_or_eq_of_le hkj with z | z
  · exact h.1.2 c hc k hk (by omega)
  · rcases hD.2.1 c hc k hk with ⟨e, -⟩ | ⟨c', k', hc', ⟨s, hs, ho, hh⟩, e2, e3⟩
    · omega
    · rcases hh with ⟨rfl, rfl⟩ | ⟨rfl, rfl⟩
      · exact (h.2 s hs ho k' (by omega)).1 e2
      · exact (h.2 s hs ho k' (by omega)).2 e2
theorem JB_0 {adj : Nat → Nat → Prop} {D : Nat → Option Nat} {q0 : Nat} (hq : q0 < 25) (hD : DistOK 25 (fun r => r = q0) adj D) : JB D 0 ((nI 1) <<< ((nI q0) &&& 31)) := by
  refine ⟨fun q h hb => ?_, fun q h k hk hk0 => ?_⟩
  · rw [b_one q0 (by omega) q h, decide_eq_true_iff] at hb
    rw [hb, hD.1 q0 hq rfl]
    exact ⟨hq, fun z => by cases z⟩
  · rcases hD.2.1 q h k hk with ⟨-, e⟩ | ⟨c', k', -, -, -, e3⟩
    · rw [b_one q0 (by omega) q (by omega), decide_eq_true e]
    · omega
/-! ===== over ===== -/
def OB (n : Nat) (D : Nat → Option Nat) (j : Nat) (m : Int32) : Prop := (∀ q, q < 31 → bt m q = true → q < n ∧ D q ≠ none) ∧ ∀ q, q < 6 → ∀ k, D q = some k → k ≤ j → bt m q = true
def OI (n : Nat) (r : Nat → Nat → Bool) (D : Nat → Option Nat) (j k : Nat) (m : Int32) : Prop := OB n D j m ∧ ∀ k1, k1 < k → ∀ i, i ≤ j → D k1 = some i → ∀ q, q < 6 → r k1 q = true → bt m q = true
def rad (r : Nat → Nat → Bool) (n a b : Nat) : Prop := a < n ∧ b < n ∧ r a b = true
theorem OI_y {n : Nat} {r : Nat → Nat → Bool} {src : Nat → Prop} {D : Nat → Option Nat} {j k : Nat} {m w : Int32} (hn6 : n ≤ 6) (hD : DistOK 6 src (rad r n) D) (hk : k < n) (hw : ∀ q, q < 31 → bt w q = r k q) (hlt : ∀ q, r k q = true → q < n) (hb : bt m k = true) (h : OI n r D j k m) : OI n r D j (k + 1) (m ||| w) := by
  refine ⟨⟨fun q hq e => ?_, fun q hq i e hi => by rw [b_or, h.1.2 q hq i e hi]; rfl⟩, fun k1 hk1 i hi e q hq hr => ?_⟩
  · rw [b_or, Bool.or_eq_true, hw q hq] at e
    rcases e with e | e
    · exact h.1.1 q hq e
    · have hqn := hlt q e
      refine ⟨hqn, ?_⟩
      have hs := (h.1.1 k (by omega) hb).2
      cases e9 : D k with
      | none => exact absurd e9 hs
      | some i =>
        obtain ⟨i', e', -⟩ := hD.2.2 k q (by omega) (by omega) ⟨hk, hqn, e⟩ i e9
        rw [e']; exact fun z => by cases z
  · rw [b_or]
    rcases Nat.lt_or_eq_of_le (Nat.le_of_lt_succ hk1) with z | z
    · rw [h.2 k1 z i hi e q hq hr]; rfl
    · subst z
      rw [hw q (by omega), hr, Bool.or_true]
theorem OI_n {n : Nat} {r : Nat → Nat → Bool} {D : Nat → Option Nat} {j k : Nat} {m : Int32} (hk : k < 6) (hb : bt m k = false) (h : OI n r D j k m) : OI n r D j (k + 1) (m ||| nI 0) := by
  rw [or_0]
  refine ⟨h.1, fun k1 hk1 i hi e q hq hr => ?_⟩
  rcases Nat.lt_or_eq_of_le (Nat.le_of_lt_succ hk1) with z | z
  · exact h.2 k1 z i hi e q hq hr
  · subst z
    rw [h.1.2 k1 hk i e hi] at hb
    cases hb
theorem OI_end {n : Nat} {r : Nat → Nat → Bool} {src : Nat → Prop} {D : Nat → Option Nat} {j : Nat} {m : Int32} (hD : DistOK 6 src (rad r n) D) (h : OI n r D j n m) : OB n D (j + 1) m := by
  refine ⟨h.1.1, fun c hc k hk hkj => ?_⟩
  rcases Nat.lt_or_eq_of_le hkj with z | z
  · exact h.1.2 c hc k hk (by omega)
  · rcases hD.2.1 c hc k hk with ⟨e, -⟩ | ⟨c', k', hc', ⟨h1, h2, h3⟩, e2, e3⟩
    · omega
    · exact h.2 c' h1 k' (by omega) e2 c hc h3
theorem ld_mono {r : Nat → Nat → Bool} : ∀ (f a e : Nat), ldF r f a e = true → ldF r (f + 1) a e = true
  | 0, a, e, h => by
    show (decide (a = e) || _) = true
    rw [show decide (a = e) = true from h]; rfl
  | f + 1, a, e, h => by
    have h : (decide (a = e) || any6 (fun k => r a k && ldF r f k e) 0 6) = true := h
    show (decide (a = e) || any6 (fun k => r a k && ldF r (f + 1) k e) 0 6) = true
    rw [Bool.or_eq_true, any6_ex] at h ⊢
    rcases h with h | ⟨k, h1, h2, h3⟩
    · exact Or.inl h
    · rw [Bool.and_eq_true] at h3
      exact Or.inr ⟨k, h1, h2, by rw [h3.1, ld_mono f k e h3.2]; rfl⟩
theorem ld_snoc {r : Nat → Nat → Bool} {b e : Nat} (he : e < 6) (hr : r b e = true) : ∀ (f a : Nat), ldF r f a b = true → ldF r (f + 1) a e = true
  | 0, a, h => by
    obtain rfl : a = b := of_decide_eq_true h
    show (decide (a = e) || any6 (fun k => r a k && ldF r 0 k e) 0 6) = true
    rw [Bool.or_eq_true, any6_ex]
    exact Or.inr ⟨e, Nat.zero_le _, by omega, by rw [hr, show ldF r 0 e e = true from decide_eq_true rfl]; rfl⟩
  | f + 1, a, h => by
    have h : (decide (a = b) || any6 (fun k => r a k && ldF r f k b) 0 6) = true := h
    show (decide (a = e) || any6 (fun k => r a k && ldF r (f + 1) k e) 0 6) = true
    rw [Bool.or_eq_true, any6_ex] at h ⊢
    rcases h with h | ⟨k, h1, h2, h3⟩
    · obtain rfl : a = b := of_decide_eq_true h
      refine Or.inr ⟨e, Nat.zero_le _, by omega, ?_⟩
      rw [hr, show ldF r (f + 1) e e = true by show (decide (e = e) || _) = true; rw [decide_eq_true rfl]; rfl]
      rfl
    · rw [Bool.and_eq_true] at h3
      exact Or.inr ⟨k, h1, h2, by rw [h3.1, ld_snoc he hr f k h3.2]; rfl⟩
theorem ld_D {r : Nat → Nat → Bool} {n d : Nat} {D : Nat → Option Nat} (hn6 : n ≤ 6) (hd : d < n) (hlt : ∀ a, a < n → ∀ k, k < 6 → r a k = true → k < n) (hD : DistOK 6 (fun q => q = d) (rad r n) D) (e : Nat) (he : e < n) : ldF r 6 d e = true ↔ D e ≠ none := by
  constructor
  · have key : ∀ (f a : Nat), a < n → D a ≠ none → ldF r f a e = true → D e ≠ none := fun f => by
      induction f with
      | zero =>
        intro a _ h1 h2
        obtain rfl : a = e := of_decide_eq_true h2
        exact h1
      | succ f ih =>
        intro a ha h1 h2
        have h2 : (decide (a = e) || any6 (fun k => r a k && ldF r f k e) 0 6) = true := h2
        rw [Bool.or_eq_true, any6_ex] at h2
        rcases h2 with h2 | ⟨k, -, h3, h4⟩
        · obtain rfl : a = e := of_decide_eq_true h2
          exact h1
        · rw [Bool.and_eq_true] at h4
          have hk := hlt a ha k (by omega) h4.1
          refine ih k hk ?_ h4.2
          cases e9 : D a with
          | none => exact absurd e9 h1
          | some i =>
            obtain ⟨i', e', -⟩ := hD.2.2 a k (by omega) (by omega) ⟨ha, hk, h4.1⟩ i e9
            rw [e']; exact fun z => by cases z
    refine key 6 d hd ?_
    rw [hD.1 d (by omega) rfl]
    exact fun z => by cases z
  · intro h
    have key : ∀ (k q : Nat), q < 6 → D q = some k → ldF r k d q = true := fun k => by
      induction k using Nat.strongRecOn with
      | ind k ih =>
        intro q hq hk
        rcases hD.2.1 q hq k hk with ⟨rfl, e⟩ | ⟨q', k', hq', ⟨h1, h2, h3⟩, e2, e3⟩
        · exact decide_eq_true e.symm
        · have h4 := ld_snoc hq h3 k' d (ih k' (by omega) q' hq' e2)
          have up : ∀ i, ldF r (k' + 1 + i) d q = true := fun i => by
            induction i with
            | zero => exact h4
            | succ i ih => exact ld_mono _ d q ih
          have := up (k - (k' + 1))
          rwa [show k' + 1 + (k - (k' + 1)) = k by omega] at this
    cases e9 : D e with
    | none => exact absurd e9 h
    | some k =>
      have h5 := key k e (by omega) e9
      have hk := Dist_lt hD (by omega) e9
      have up : ∀ i, ldF r (k + i) d e = true := fun i => by
        induction i with
        | zero => exact h5
        | succ i ih => exact ld_mono _ d e ih
      have := up (6 - k)
      rwa [show k + (6 - k) = 6 by omega] at this
set_option maxRecDepth 100000 in
set_option maxHeartbeats 4000000 in
theorem c_X6_isJoined (G : am_G) (l : Launch) (htr : l.stackTraces = false) (h : am_H) (hM : FM h) (d : Nat) (hd : d < 6) (sd : Nat → Int32) (ro : Nat → Nat) (hsd : ∀ s, s < 40 → hi_ h 20 (40 * d + s) = sd s) (hr : ∀ c, c < 25 → hi_ h 22 c = nI (ro c)) (hrl : ∀ c, c < 25 → ro c < 25) (one two : Nat) (h1 : one < 25) (h2 : two < 25) (D : Nat → Option Nat) (hD : DistOK 25 (fun r => r = one) (adjD sd ro) D) : am_Met G l yX6_isJoined (.code yX6_isJoined cX6_isJoined 8 (some .boolean)) 3 0 0 [.ref (14), .int (nI d), .int (nI one), .int (nI two)] h (fun v h' => h' = h ∧ ∃ R : Bool, v = some (.int (b2i R)) ∧ (R = true ↔ D two ≠ none)) (am_no) := by
  refine am_intro rfl htr rfl (Nat.le_of_ble_eq_true rfl) (fun Z hC hR hI => ?_)
  change am_W Z 0 0 0 [.ref (14), .int (nI d), .int (nI one), .int (nI two), .null, .null, .null, .null] [] h
  have rl : ∀ (q j : Nat) (m : Int32), j + q = 25 → JB D j m → am_W Z 0 0 8 [.ref (14), .int (nI d), .int (nI one), .int (nI two), .int (m), .int (nI j), .null, .null] [] h := by
    intro q
    induction q with
    | zero =>
      intro j m hj hb
      obtain rfl : j = 25 := by omega
      have hfin : bt m two = true ↔ D two ≠ none := ⟨fun z => (hb.1 two (by omega) z).2, fun z => by
        cases e : D two with
        | none => exact absurd e z
        | some k => exact hb.2 two h2 k e (by have := Dist_lt hD h2 e; omega)⟩
      refine am_iload hC dX6_isJoined_8 rfl ?_
      refine am_bipush (v := nI 25) hC dX6_isJoined_10 (by decide) ?_
      refine am_icmp_ge (tgt := 99) hC dX6_isJoined_12 (by decide) (fun c_12 => ?_) (fun c_12 => absurd (nI_le (by omega) (by omega)) c_12)
      refine am_iload hC dX6_isJoined_99 rfl ?_
      refine am_iload_n hC dX6_isJoined_101 rfl ?_
      refine am_ishrE (z := m >>> ((nI two) &&& 31)) hC dX6_isJoined_102 rfl ?_
      refine am_iconst (v := nI 1) hC dX6_isJoined_103 (by decide) ?_
      refine am_iandE (z := (m >>> ((nI two) &&& 31)) &&& (nI 1)) hC dX6_isJoined_104 rfl ?_
      refine am_iconst (v := nI 1) hC dX6_isJoined_105 (by decide) ?_
      refine am_icmp_ne (tgt := 113) hC dX6_isJoined_106 (by decide) (fun c_106 => ?_) (fun c_106 => ?_)
      · refine am_iconst (v := nI 0) hC dX6_isJoined_113 (by decide) ?_
        refine am_iret hC hR rfl (by decide) (by decide) dX6_isJoined_114 ?_
        first
          | exact ⟨rfl, true, rfl, ⟨fun _ => hfin.mp ((tb_ (by omega)).mp c_106), fun _ => rfl⟩⟩
          | exact ⟨rfl, false, rfl, ⟨fun z => absurd z (by decide), fun z => absurd ((tb_ (by omega)).mpr (hfin.mpr z)) c_106⟩⟩
      · refine am_iconst (v := nI 1) hC dX6_isJoined_109 (by decide) ?_
        refine am_goto (tgt := 114) hC dX6_isJoined_110 (by decide) ?_
        refine am_iret hC hR rfl (by decide) (by decide) dX6_isJoined_114 ?_
        first
          | exact ⟨rfl, true, rfl, ⟨fun _ => hfin.mp ((tb_ (by omega)).mp c_106), fun _ => rfl⟩⟩
          | exact ⟨rfl, false, rfl, ⟨fun z => absurd z (by decide), fun z => absurd ((tb_ (by omega)).mpr (hfin.mpr z)) c_106⟩⟩
    | succ q ih =>
      intro j m hj hb
      have il : ∀ (q s : Nat) (m : Int32), s + q = 40 → JI sd ro D j s m → am_W Z (0) (0) 18 [.ref (14), .int (nI d), .int (nI one), .int (nI two), .int (m), .int (nI j), .int (nI s), .null] [] h := by
        intro q
        induction q with
        | zero =>
          intro s m hs hi
          obtain rfl : s = 40 := by omega
          refine am_iload hC dX6_isJoined_18 rfl ?_
          refine am_bipush (v := nI 40) hC dX6_isJoined_20 (by decide) ?_
          refine am_icmp_ge (tgt := 93) hC dX6_isJoined_22 (by decide) (fun c_22 => ?_) (fun c_22 => absurd (nI_le (by omega) (by omega)) c_22)
          refine am_iinc (v := nI (j + 1)) hC dX6_isJoined_93 rfl (nI_1 (j)) (by decide) ?_
          change am_W _ _ _ _ [.ref (14), .int (nI d), .int (nI one), .int (nI two), .int (m), .int (nI (j + 1)), .int (nI 40), .null] _ _
          refine am_goto (tgt := 8) hC dX6_isJoined_96 (by decide) ?_
          exact am_fgt (ls' := [.ref (14), .int (nI d), .int (nI one), .int (nI two), .int (m), .int (nI (j + 1)), .null, .null]) ⟨Or.inl rfl, ⟨Or.inl rfl, ⟨Or.inl rfl, ⟨Or.inl rfl, ⟨Or.inl rfl, ⟨Or.inl rfl, ⟨Or.inr rfl, ⟨Or.inr rfl, trivial⟩⟩⟩⟩⟩⟩⟩⟩ (ih (j + 1) m (by omega) (JI_end hD hi))
        | succ q ih2 =>
          intro s m hs hi
          have hfs := fc_lt (by omega : s < 40)
          have hgs := sc_lt (by omega : s < 40)
          have hl : ro (fc_ s) < 25 ∧ ro (sc_ s) < 25 := ⟨hrl _ hfs, hrl _ hgs⟩
          refine am_iload hC dX6_isJoined_18 rfl ?_
          refine am_bipush (v := nI 40) hC dX6_isJoined_20 (by decide) ?_
          refine am_icmp_ge (tgt := 93) hC dX6_isJoined_22 (by decide) (fun c_22 => absurd c_22 (nI_ge (by omega) (by omega))) (fun c_22 => ?_)
          refine am_iconst (v := nI 1) hC dX6_isJoined_25 (by decide) ?_
          refine am_aload_n hC dX6_isJoined_26 rfl ?_
          refine am_get (v := .ref (22)) hC (ci := 7) (N := 20) (j := 8) rfl (kM_14 hM) (by decide) tw_656 (Or.inl rfl) dX6_isJoined_27 (am_rfe (rM_8 hM)) ?_
          refine am_iload hC dX6_isJoined_30 rfl ?_
          refine am_callS hC [.int (nI s)] mf_X6_low tw_778 (c_X6_low _ _ (am_tr hC) _ s (by omega)) rfl ⟨rfl, Nat.le_of_ble_eq_true rfl⟩ ⟨by decide, by decide⟩ (by decide) (by decide) dX6_isJoined_32 rfl (fun _ _ q _ => False.elim q) (fun v h' hp hlc => ?_)
          obtain ⟨rfl, q9⟩ := hp
          have q9 := q9.symm
          subst q9
          refine am_ialdE (v := nI (ro (fc_ s))) hC (j := fc_ s) (N := 25) (kM_22 hM) (nM_22 hM) rfl (by omega) (by decide) dX6_isJoined_35 (hr _ hfs) ?_
          refine am_ishlE (z := (nI 1) <<< ((nI (ro (fc_ s))) &&& 31)) hC dX6_isJoined_36 rfl ?_
          refine am_iconst (v := nI 1) hC dX6_isJoined_37 (by decide) ?_
          refine am_aload_n hC dX6_isJoined_38 rfl ?_
          refine am_get (v := .ref (22)) hC (ci := 7) (N := 20) (j := 8) rfl (kM_14 hM) (by decide) tw_656 (Or.inl rfl) dX6_isJoined_39 (am_rfe (rM_8 hM)) ?_
          refine am_iload hC dX6_isJoined_42 rfl ?_
          refine am_callS hC [.int (nI s)] mf_X6_high tw_781 (c_X6_high _ _ (am_tr hC) _ s (by omega)) rfl ⟨rfl, Nat.le_of_ble_eq_true rfl⟩ ⟨by decide, by decide⟩ (by decide) (by decide) dX6_isJoined_44 rfl (fun _ _ q _ => False.elim q) (fun v h' hp hlc => ?_)
          obtain ⟨rfl, q9⟩ := hp
          have q9 := q9.symm
          subst q9
          refine am_ialdE (v := nI (ro (sc_ s))) hC (j := sc_ s) (N := 25) (kM_22 hM) (nM_22 hM) rfl (by omega) (by decide) dX6_isJoined_47 (hr _ hgs) ?_
          refine am_ishlE (z := (nI 1) <<< ((nI (ro (sc_ s))) &&& 31)) hC dX6_isJoined_48 rfl ?_
          refine am_iorE (z := bth (ro (fc_ s)) (ro (sc_ s))) hC dX6_isJoined_49 rfl ?_
          refine am_istore hC dX6_isJoined_50 (by decide) ?_
          change am_W _ _ _ _ [.ref (14), .int (nI d), .int (nI one), .int (nI two), .int (m), .int (nI j), .int (nI s), .int (bth (ro (fc_ s)) (ro (sc_ s)))] _ _
          refine am_iload hC dX6_isJoined_52 rfl ?_
          refine am_aload_n hC dX6_isJoined_54 rfl ?_
          refine am_get (v := .ref (20)) hC (ci := 7) (N := 20) (j := 6) rfl (kM_14 hM) (by decide) tw_654 (Or.inl rfl) dX6_isJoined_55 (am_rfe (rM_6 hM)) ?_
          refine am_bipush (v := nI 40) hC dX6_isJoined_58 (by decide) ?_
          refine am_iload_n hC dX6_isJoined_60 rfl ?_
          refine am_imulE (z := nI (40 * d)) hC dX6_isJoined_61 (pk_mul (40) (d)) ?_
          refine am_iload hC dX6_isJoined_62 rfl ?_
          refine am_iaddE (z := nI (40 * d + s)) hC dX6_isJoined_64 (nI_add (40 * d) (s)) ?_
          refine am_ialdE (v := sd s) hC (j := 40 * d + s) (N := 240) (kM_20 hM) (nM_20 hM) rfl (by omega) (by decide) dX6_isJoined_65 (hsd s (by omega)) ?_
          refine am_iconst (v := nI 2) hC dX6_isJoined_66 (by decide) ?_
          refine am_icmp_ne (tgt := 83) hC dX6_isJoined_67 (by decide) (fun c_67 => ?_) (fun c_67 => ?_)
          · refine am_iconst (v := nI 0) hC dX6_isJoined_83 (by decide) ?_
            refine am_iorE (z := m ||| (nI 0)) hC dX6_isJoined_84 rfl ?_
            refine am_istore hC dX6_isJoined_85 (by decide) ?_
            change am_W _ _ _ _ [.ref (14), .int (nI d), .int (nI one), .int (nI two), .int (m ||| (nI 0)), .int (nI j), .int (nI s), .int (bth (ro (fc_ s)) (ro (sc_ s)))] _ _
            refine am_iinc (v := nI (s + 1)) hC dX6_isJoined_87 rfl (nI_1 (s)) (by decide) ?_
            change am_W _ _ _ _ [.ref (14), .int (nI d), .int (nI one), .int (nI two), .int (m ||| (nI 0)), .int (nI j), .int (nI (s + 1)), .int (bth (ro (fc_ s)) (ro (sc_ s)))] _ _
            refine am_goto (tgt := 18) hC dX6_isJoined_90 (by decide) ?_
            first
              | exact am_fgt (ls' := [.ref (14), .int (nI d), .int (nI one), .int (nI two), .int (m ||| nI 0), .int (nI j), .int (nI (s + 1)), .null]) ⟨Or.inl rfl, ⟨Or.inl rfl, ⟨Or.inl rfl, ⟨Or.inl rfl, ⟨Or.inl rfl, ⟨Or.inl rfl, ⟨Or.inl rfl, ⟨Or.inr rfl, trivial⟩⟩⟩⟩⟩⟩⟩⟩ (ih2 (s + 1) _ (by omega) (JI_same hi (fun z => absurd z c_67) hl))
              | exact am_fgt (ls' := [.ref (14), .int (nI d), .int (nI one), .int (nI two), .int (m ||| nI 0), .int (nI j), .int (nI (s + 1)), .null]) ⟨Or.inl rfl, ⟨Or.inl rfl, ⟨Or.inl rfl, ⟨Or.inl rfl, ⟨Or.inl rfl, ⟨Or.inl rfl, ⟨Or.inl rfl, ⟨Or.inr rfl, trivial⟩⟩⟩⟩⟩⟩⟩⟩ (ih2 (s + 1) _ (by omega) (JI_same hi (fun _ => and0 (by omega) (by omega) c_75) hl))
          · refine am_iload hC dX6_isJoined_70 rfl ?_
            refine am_iload hC dX6_isJoined_72 rfl ?_
            refine am_iandE (z := m &&& (bth (ro (fc_ s)) (ro (sc_ s)))) hC dX6_isJoined_74 rfl ?_
            refine am_if_eq (tgt := 83) hC dX6_isJoined_75 (by decide) (fun c_75 => ?_) (fun c_75 => ?_)
            · refine am_iconst (v := nI 0) hC dX6_isJoined_83 (by decide) ?_
              refine am_iorE (z := m ||| (nI 0)) hC dX6_isJoined_84 rfl ?_
              refine am_istore hC dX6_isJoined_85 (by decide) ?_
              change am_W _ _ _ _ [.ref (14), .int (nI d), .int (nI one), .int (nI two), .int (m ||| (nI 0)), .int (nI j), .int (nI s), .int (bth (ro (fc_ s)) (ro (sc_ s)))] _ _
              refine am_iinc (v := nI (s + 1)) hC dX6_isJoined_87 rfl (nI_1 (s)) (by decide) ?_
              change am_W _ _ _ _ [.ref (14), .int (nI d), .int (nI one), .int (nI two), .int (m ||| (nI 0)), .int (nI j), .int (nI (s + 1)), .int (bth (ro (fc_ s)) (ro (sc_ s)))] _ _
              refine am_goto (tgt := 18) hC dX6_isJoined_90 (by decide) ?_
              first
                | exact am_fgt (ls' := [.ref (14), .int (nI d), .int (nI one), .int (nI two), .int (m ||| nI 0), .int (nI j), .int (nI (s + 1)), .null]) ⟨Or.inl rfl, ⟨Or.inl rfl, ⟨Or.inl rfl, ⟨Or.inl rfl, ⟨Or.inl rfl, ⟨Or.inl rfl, ⟨Or.inl rfl, ⟨Or.inr rfl, trivial⟩⟩⟩⟩⟩⟩⟩⟩ (ih2 (s + 1) _ (by omega) (JI_same hi (fun z => absurd z c_67) hl))
                | exact am_fgt (ls' := [.ref (14), .int (nI d), .int (nI one), .int (nI two), .int (m ||| nI 0), .int (nI j), .int (nI (s + 1)), .null]) ⟨Or.inl rfl, ⟨Or.inl rfl, ⟨Or.inl rfl, ⟨Or.inl rfl, ⟨Or.inl rfl, ⟨Or.inl rfl, ⟨Or.inl rfl, ⟨Or.inr rfl, trivial⟩⟩⟩⟩⟩⟩⟩⟩ (ih2 (s + 1) _ (by omega) (JI_same hi (fun _ => and0 (by omega) (by omega) c_75) hl))
            · refine am_iload hC dX6_isJoined_78 rfl ?_
              refine am_goto (tgt := 84) hC dX6_isJoined_80 (by decide) ?_
              refine am_iorE (z := m ||| (bth (ro (fc_ s)) (ro (sc_ s)))) hC dX6_isJoined_84 rfl ?_
              refine am_istore hC dX6_isJoined_85 (by decide) ?_
              change am_W _ _ _ _ [.ref (14), .int (nI d), .int (nI one), .int (nI two), .int (m ||| (bth (ro (fc_ s)) (ro (sc_ s)))), .int (nI j), .int (nI s), .int (bth (ro (fc_ s)) (ro (sc_ s)))] _ _
              refine am_iinc (v := nI (s + 1)) hC dX6_isJoined_87 rfl (nI_1 (s)) (by decide) ?_
              change am_W _ _ _ _ [.ref (14), .int (nI d), .int (nI one), .int (nI two), .int (m ||| (bth (ro (fc_ s)) (ro (sc_ s)))), .int (nI j), .int (nI (s + 1)), .int (bth (ro (fc_ s)) (ro (sc_ s)))] _ _
              refine am_goto (tgt := 18) hC dX6_isJoined_90 (by decide) ?_
              exact am_fgt (ls' := [.ref (14), .int (nI d), .int (nI one), .int (nI two), .int (m ||| bth (ro (fc_ s)) (ro (sc_ s))), .int (nI j), .int (nI (s + 1)), .null]) ⟨Or.inl rfl, ⟨Or.inl rfl, ⟨Or.inl rfl, ⟨Or.inl rfl, ⟨Or.inl rfl, ⟨Or.inl rfl, ⟨Or.inl rfl, ⟨Or.inr rfl, trivial⟩⟩⟩⟩⟩⟩⟩⟩ (ih2 (s + 1) _ (by omega) (JI_step hD (by omega) c_67 hi hl c_75))
      refine am_iload hC dX6_isJoined_8 rfl ?_
      refine am_bipush (v := nI 25) hC dX6_isJoined_10 (by decide) ?_
      refine am_icmp_ge (tgt := 99) hC dX6_isJoined_12 (by decide) (fun c_12 => absurd c_12 (nI_ge (by omega) (by omega))) (fun c_12 => ?_)
      refine am_iconst (v := nI 0) hC dX6_isJoined_15 (by decide) ?_
      refine am_istore hC dX6_isJoined_16 (by decide) ?_
      change am_W _ _ _ _ [.ref (14), .int (nI d), .int (nI one), .int (nI two), .int (m), .int (nI j), .int (nI 0), .null] _ _
      exact am_fgt (ls' := [.ref (14), .int (nI d), .int (nI one), .int (nI two), .int (m), .int (nI j), .int (nI 0), .null]) ⟨Or.inl rfl, ⟨Or.inl rfl, ⟨Or.inl rfl, ⟨Or.inl rfl, ⟨Or.inl rfl, ⟨Or.inl rfl, ⟨Or.inl rfl, ⟨Or.inr rfl, trivial⟩⟩⟩⟩⟩⟩⟩⟩ (il 40 0 m rfl ⟨hb, fun s1 z => absurd z (Nat.not_lt_zero s1)⟩)
  refine am_iconst (v := nI 1) hC dX6_isJoined_0 (by decide) ?_
  refine am_iload_n hC dX6_isJoined_1 rfl ?_
  refine am_ishlE (z := (nI 1) <<< ((nI one) &&& 31)) hC dX6_isJoined_2 rfl ?_
  refine am_istore hC dX6_isJoined_3 (by decide) ?_
  change am_W _ _ _ _ [.ref (14), .int (nI d), .int (nI one), .int (nI two), .int ((nI 1) <<< ((nI one) &&& 31)), .null, .null, .null] _ _
  refine am_iconst (v := nI 0) hC dX6_isJoined_5 (by decide) ?_
  refine am_istore hC dX6_isJoined_6 (by decide) ?_
  change am_W _ _ _ _ [.ref (14), .int (nI d), .int (nI one), .int (nI two), .int ((nI 1) <<< ((nI one) &&& 31)), .int (nI 0), .null, .null] _ _
  exact rl 25 0 _ rfl (JB_0 h1 hD)
set_option maxRecDepth 100000 in
set_option maxHeartbeats 4000000 in
theorem c_X6_over (G : am_G) (l : Launch) (htr : l.stackTraces = false) (h : am_H) (n : Nat) (t : Nat → Nat → Int32) (x r : Nat → Nat → Bool) (hT : MT h n t x r) (hlt : ∀ a, a < n → ∀ k, r a k = true → k < n) (d : Nat) (hd : d < n) : am_Met G l yX6_over (.code yX6_over cX6_over 5 (some .int)) 1 0 0 [.ref (14), .int (nI d)] h (fun v h' => h' = h ∧ ∃ m, v = some (.int m) ∧ ∀ q, q < n → bt m q = ldF r 6 d q) (am_no) := by
  have hM := hT.1
  have hn6 := hT.2.1
  have hn0 := hT.2.2.1
  have hrb := hT.2.2.2.2.2.1
  obtain ⟨D, hD⟩ := Dist_ex 6 (fun q => q = d) (rad r n)
  refine am_intro rfl htr rfl (Nat.le_of_ble_eq_true rfl) (fun Z hC hR hI => ?_)
  change am_W Z 0 0 0 [.ref (14), .int (nI d), .null, .null, .null] [] h
  have rl : ∀ (q j : Nat) (m : Int32), j + q = 6 → OB n D j m → am_W Z 0 0 6 [.ref (14), .int (nI d), .int (m), .int (nI j), .null] [] h := by
    intro q
    induction q with
    | zero =>
      intro j m hj hb
      obtain rfl : j = 6 := by omega
      refine am_iload_n hC dX6_over_6 rfl ?_
      refine am_bipush (v := nI 6) hC dX6_over_7 (by decide) ?_
      refine am_icmp_ge (tgt := 60) hC dX6_over_9 (by decide) (fun c_9 => ?_) (fun c_9 => absurd (nI_le (by omega) (by omega)) c_9)
      refine am_iload_n hC dX6_over_60 rfl ?_
      refine am_iret hC hR rfl (by decide) (by decide) dX6_over_61 ?_
      refine ⟨rfl, m, rfl, fun q hq => ?_⟩
      have e := ld_D hn6 hd (fun a ha k _ hk => hlt a ha k hk) hD q hq
      have e2 : bt m q = true ↔ D q ≠ none := ⟨fun z => (hb.1 q (by omega) z).2, fun z => by
        cases e : D q with
        | none => exact absurd e z
        | some k => exact hb.2 q (by omega) k e (by have := Dist_lt hD (by omega) e; omega)⟩
      rw [← e] at e2
      cases w1 : bt m q <;> cases w2 : ldF r 6 d q <;> rw [w1, w2] at e2 <;> simp_all
    | succ q ih =>
      intro j m hj hb
      have il : ∀ (q k : Nat) (m : Int32), k + q = n → OI n r D j k m → am_W Z 0 0 15 [.ref (14), .int (nI d), .int (m), .int (nI j), .int (nI k)] [] h := by
        intro q
        induction q with
        | zero =>
          intro k m hk hi
          obtain rfl : k = n := by omega
          refine am_iload hC dX6_over_15 rfl ?_
          refine am_aload_n hC dX6_over_17 rfl ?_
          refine am_get (v := .int (nI k)) hC (ci := 7) (N := 20) (j := 0) rfl (kM_14 hM) (by decide) tw_648 (Or.inl rfl) dX6_over_18 (congrArg Value.int hn0) ?_
          refine am_icmp_ge (tgt := 54) hC dX6_over_21 (by decide) (fun c_21 => ?_) (fun c_21 => absurd (nI_le (by omega) (by omega)) c_21)
          refine am_iinc (v := nI (j + 1)) hC dX6_over_54 rfl (nI_1 (j)) (by decide) ?_
          change am_W _ _ _ _ [.ref (14), .int (nI d), .int (m), .int (nI (j + 1)), .int (nI k)] _ _
          refine am_goto (tgt := 6) hC dX6_over_57 (by decide) ?_
          exact am_fgt (ls' := [.ref (14), .int (nI d), .int (m), .int (nI (j + 1)), .null]) ⟨Or.inl rfl, ⟨Or.inl rfl, ⟨Or.inl rfl, ⟨Or.inl rfl, ⟨Or.inr rfl, trivial⟩⟩⟩⟩⟩ (ih (j + 1) m (by omega) (OI_end hD hi))
        | succ q ih2 =>
          intro k m hk hi
          refine am_iload hC dX6_over_15 rfl ?_
          refine am_aload_n hC dX6_over_17 rfl ?_
          refine am_get (v := .int (nI n)) hC (ci := 7) (N := 20) (j := 0) rfl (kM_14 hM) (by decide) tw_648 (Or.inl rfl) dX6_over_18 (congrArg Value.int hn0) ?_
          refine am_icmp_ge (tgt := 54) hC dX6_over_21 (by decide) (fun c_21 => absurd c_21 (nI_ge (by omega) (by omega))) (fun c_21 => ?_)
          refine am_iload_n hC dX6_over_24 rfl ?_
          refine am_iload_n hC dX6_over_25 rfl ?_
          refine am_iload hC dX6_over_26 rfl ?_
          refine am_ishrE (z := m >>> ((nI k) &&& 31)) hC dX6_over_28 rfl ?_
          refine am_iconst (v := nI 1) hC dX6_over_29 (by decide) ?_
          refine am_iandE (z := (m >>> ((nI k) &&& 31)) &&& (nI 1)) hC dX6_over_30 rfl ?_
          refine am_iconst (v := nI 1) hC dX6_over_31 (by decide) ?_
          refine am_icmp_ne (tgt := 45) hC dX6_over_32 (by decide) (fun c_32 => ?_) (fun c_32 => ?_)
          · refine am_iconst (v := nI 0) hC dX6_over_45 (by decide) ?_
            refine am_iorE (z := m ||| (nI 0)) hC dX6_over_46 rfl ?_
            refine am_istore_n hC dX6_over_47 (by decide) ?_
            change am_W _ _ _ _ [.ref (14), .int (nI d), .int (m ||| (nI 0)), .int (nI j), .int (nI k)] _ _
            refine am_iinc (v := nI (k + 1)) hC dX6_over_48 rfl (nI_1 (k)) (by decide) ?_
            change am_W _ _ _ _ [.ref (14), .int (nI d), .int (m ||| (nI 0)), .int (nI j), .int (nI (k + 1))] _ _
            refine am_goto (tgt := 15) hC dX6_over_51 (by decide) ?_
            exact ih2 (k + 1) _ (by omega) (OI_n (by omega) (tb_n (by omega) c_32) hi)
          · refine am_aload_n hC dX6_over_35 rfl ?_
            refine am_get (v := .ref (17)) hC (ci := 7) (N := 20) (j := 3) rfl (kM_14 hM) (by decide) tw_651 (Or.inl rfl) dX6_over_36 (am_rfe (rM_3 hM)) ?_
            refine am_iload hC dX6_over_39 rfl ?_
            refine am_ialdE (v := hi_ h 17 k) hC (j := k) (N := 6) (kM_17 hM) (nM_17 hM) rfl (by omega) (by decide) dX6_over_41 rfl ?_
            refine am_goto (tgt := 46) hC dX6_over_42 (by decide) ?_
            refine am_iorE (z := m ||| (hi_ h 17 k)) hC dX6_over_46 rfl ?_
            refine am_istore_n hC dX6_over_47 (by decide) ?_
            change am_W _ _ _ _ [.ref (14), .int (nI d), .int (m ||| (hi_ h 17 k)), .int (nI j), .int (nI k)] _ _
            refine am_iinc (v := nI (k + 1)) hC dX6_over_48 rfl (nI_1 (k)) (by decide) ?_
            change am_W _ _ _ _ [.ref (14), .int (nI d), .int (m ||| (hi_ h 17 k)), .int (nI j), .int (nI (k + 1))] _ _
            refine am_goto (tgt := 15) hC dX6_over_51 (by decide) ?_
            exact ih2 (k + 1) _ (by omega) (OI_y hn6 hD (by omega) (hrb k (by omega)) (hlt k (by omega)) ((tb_ (by omega)).mp c_32) hi)
      refine am_iload_n hC dX6_over_6 rfl ?_
      refine am_bipush (v := nI 6) hC dX6_over_7 (by decide) ?_
      refine am_icmp_ge (tgt := 60) hC dX6_over_9 (by decide) (fun c_9 => absurd c_9 (nI_ge (by omega) (by omega))) (fun c_9 => ?_)
      refine am_iconst (v := nI 0) hC dX6_over_12 (by decide) ?_
      refine am_istore hC dX6_over_13 (by decide) ?_
      change am_W _ _ _ _ [.ref (14), .int (nI d), .int (m), .int (nI j), .int (nI 0)] _ _
      exact am_fgt (ls' := [.ref (14), .int (nI d), .int (m), .int (nI j), .int (nI 0)]) ⟨Or.inl rfl, ⟨Or.inl rfl, ⟨Or.inl rfl, ⟨Or.inl rfl, ⟨Or.inl rfl, trivial⟩⟩⟩⟩⟩ (il n 0 m (Nat.zero_add _) ⟨hb, fun k1 z => absurd z (Nat.not_lt_zero k1)⟩)
  have hb0 : OB n D 0 ((nI 1) <<< ((nI d) &&& 31)) := ⟨(fun q h hb => by
    rw [b_one d (by omega) q (by omega), decide_eq_true_iff] at hb
    rw [hb, hD.1 d (by omega) rfl]
    exact ⟨hd, (fun z => nomatch z)⟩), (fun q h k hk hk0 => by
    rcases hD.2.1 q h k hk with ⟨-, e⟩ | ⟨c1, k1, -, -, -, e3⟩
    · rw [b_one d (by omega) q (by omega), decide_eq_true e]
    · omega)⟩
  refine am_iconst (v := nI 1) hC dX6_over_0 (by decide) ?_
  refine am_iload_n hC dX6_over_1 rfl ?_
  refine am_ishlE (z := (nI 1) <<< ((nI d) &&& 31)) hC dX6_over_2 rfl ?_
  refine am_istore_n hC dX6_over_3 (by decide) ?_
  change am_W _ _ _ _ [.ref (14), .int (nI d), .int ((nI 1) <<< ((nI d) &&& 31)), .null, .null] _ _
  refine am_iconst (v := nI 0) hC dX6_over_4 (by decide) ?_
  refine am_istore_n hC dX6_over_5 (by decide) ?_
  change am_W _ _ _ _ [.ref (14), .int (nI d), .int ((nI 1) <<< ((nI d) &&& 31)), .int (nI 0), .null] _ _
  exact rl 6 0 _ rfl hb0
theorem ban1 (b : Bool) : b2i b &&& nI 1 = b2i b := by cases b <;> decide
theorem ban0 (b : Bool) : b2i b &&& nI 0 = b2i false := by cases b <;> decide
theorem bor1 (b : Bool) : b2i b ||| nI 1 = b2i true := by cases b <;> decide
theorem bor0 (b : Bool) : b2i b ||| nI 0 = b2i b := by cases b <;> decide
set_option maxRecDepth 100000 in
set_option maxHeartbeats 4000000 in
theorem c_X6_stands (G : am_G) (l : Launch) (htr : l.stackTraces = false) (h : am_H) (hM : FM h) (d : Nat) (hd : d < 6) (p : Nat) (hp0 : p < 20) (hpd : hi_ h 25 p = nI d) : am_Met G l yX6_stands (.code yX6_stands cX6_stands 5 (some .boolean)) 1 0 0 [.ref (14), .int (nI p)] h (fun v h' => h' = h ∧ ∃ R : Bool, v = some (.int (b2i R)) ∧ (R = true ↔ hi_ h 27 p = hi_ h 21 d ∧ ∀ s, s < 40 → hi_ h 26 (40 * p + s) = hi_ h 20 (40 * d + s))) (am_no) := by
  refine am_intro rfl htr rfl (Nat.le_of_ble_eq_true rfl) (fun Z hC hR hI => ?_)
  change am_W Z 0 0 0 [.ref (14), .int (nI p), .null, .null, .null] [] h
  have sl : ∀ (q s : Nat) (R : Bool), s + q = 40 → (R = true ↔ hi_ h 27 p = hi_ h 21 d ∧ ∀ s1, s1 < s → hi_ h 26 (40 * p + s1) = hi_ h 20 (40 * d + s1)) → am_W Z 0 0 31 [.ref (14), .int (nI p), .int (nI d), .int (b2i R), .int (nI s)] [] h := by
    intro q
    induction q with
    | zero =>
      intro s R hs hi
      obtain rfl : s = 40 := by omega
      refine am_iload hC dX6_stands_31 rfl ?_
      refine am_bipush (v := nI 40) hC dX6_stands_33 (by decide) ?_
      refine am_icmp_ge (tgt := 79) hC dX6_stands_35 (by decide) (fun c_35 => ?_) (fun c_35 => absurd (nI_le (by omega) (by omega)) c_35)
      refine am_iload_n hC dX6_stands_79 rfl ?_
      refine am_iret hC hR (nar_b2i _) (by decide) (by decide) dX6_stands_80 ?_
      exact ⟨rfl, R, rfl, hi⟩
    | succ q ih =>
      intro s R hs hi
      refine am_iload hC dX6_stands_31 rfl ?_
      refine am_bipush (v := nI 40) hC dX6_stands_33 (by decide) ?_
      refine am_icmp_ge (tgt := 79) hC dX6_stands_35 (by decide) (fun c_35 => absurd c_35 (nI_ge (by omega) (by omega))) (fun c_35 => ?_)
      refine am_iload_n hC dX6_stands_38 rfl ?_
      refine am_aload_n hC dX6_stands_39 rfl ?_
      refine am_get (v := .ref (26)) hC (ci := 7) (N := 20) (j := 12) rfl (kM_14 hM) (by decide) tw_660 (Or.inl rfl) dX6_stands_40 (am_rfe (rM_12 hM)) ?_
      refine am_bipush (v := nI 40) hC dX6_stands_43 (by decide) ?_
      refine am_iload_n hC dX6_stands_45 rfl ?_
      refine am_imulE (z := nI (40 * p)) hC dX6_stands_46 (pk_mul (40) (p)) ?_
      refine am_iload hC dX6_stands_47 rfl ?_
      refine am_iaddE (z := nI (40 * p + s)) hC dX6_stands_49 (nI_add (40 * p) (s)) ?_
      refine am_ialdE (v := hi_ h 26 (40 * p + s)) hC (j := 40 * p + s) (N := 800) (kM_26 hM) (nM_26 hM) rfl (by omega) (by decide) dX6_stands_50 rfl ?_
      refine am_aload_n hC dX6_stands_51 rfl ?_
      refine am_get (v := .ref (20)) hC (ci := 7) (N := 20) (j := 6) rfl (kM_14 hM) (by decide) tw_654 (Or.inl rfl) dX6_stands_52 (am_rfe (rM_6 hM)) ?_
      refine am_bipush (v := nI 40) hC dX6_stands_55 (by decide) ?_
      refine am_iload_n hC dX6_stands_57 rfl ?_
      refine am_imulE (z := nI (40 * d)) hC dX6_stands_58 (pk_mul (40) (d)) ?_
      refine am_iload hC dX6_stands_59 rfl ?_
      refine am_iaddE (z := nI (40 * d + s)) hC dX6_stands_61 (nI_add (40 * d) (s)) ?_
      refine am_ialdE (v := hi_ h 20 (40 * d + s)) hC (j := 40 * d + s) (N := 240) (kM_20 hM) (nM_20 hM) rfl (by omega) (by decide) dX6_stands_62 rfl ?_
      refine am_icmp_ne (tgt := 70) hC dX6_stands_63 (by decide) (fun c_63 => ?_) (fun c_63 => ?_)
      · refine am_iconst (v := nI 0) hC dX6_stands_70 (by decide) ?_
        refine am_iandE (z := b2i false) hC dX6_stands_71 (ban0 R) ?_
        refine am_istore_n hC dX6_stands_72 (by decide) ?_
        change am_W _ _ _ _ [.ref (14), .int (nI p), .int (nI d), .int (b2i false), .int (nI s)] _ _
        refine am_iinc (v := nI (s + 1)) hC dX6_stands_73 rfl (nI_1 (s)) (by decide) ?_
        change am_W _ _ _ _ [.ref (14), .int (nI p), .int (nI d), .int (b2i false), .int (nI (s + 1))] _ _
        refine am_goto (tgt := 31) hC dX6_stands_76 (by decide) ?_
        refine ih (s + 1) false (by omega) ⟨fun z => absurd z (by decide), fun z => absurd (z.2 s (by omega)) c_63⟩
      · refine am_iconst (v := nI 1) hC dX6_stands_66 (by decide) ?_
        refine am_goto (tgt := 71) hC dX6_stands_67 (by decide) ?_
        refine am_iandE (z := b2i R) hC dX6_stands_71 (ban1 R) ?_
        refine am_istore_n hC dX6_stands_72 (by decide) ?_
        change am_W _ _ _ _ [.ref (14), .int (nI p), .int (nI d), .int (b2i R), .int (nI s)] _ _
        refine am_iinc (v := nI (s + 1)) hC dX6_stands_73 rfl (nI_1 (s)) (by decide) ?_
        change am_W _ _ _ _ [.ref (14), .int (nI p), .int (nI d), .int (b2i R), .int (nI (s + 1))] _ _
        refine am_goto (tgt := 31) hC dX6_stands_76 (by decide) ?_
        refine ih (s + 1) R (by omega) (hi.trans ?_)
        have e9 : hi_ h 26 (40 * p + s) = hi_ h 20 (40 * d + s) := c_63
        exact ⟨fun z => ⟨z.1, fun s1 h1 => by
          rcases Nat.lt_or_eq_of_le (Nat.le_of_lt_succ h1) with w | w
          · exact z.2 s1 w
          · rw [w]; exact e9⟩, fun z => ⟨z.1, fun s1 h1 => z.2 s1 (by omega)⟩⟩
  refine am_aload_n hC dX6_stands_0 rfl ?_
  refine am_get (v := .ref (25)) hC (ci := 7) (N := 20) (j := 11) rfl (kM_14 hM) (by decide) tw_659 (Or.inl rfl) dX6_stands_1 (am_rfe (rM_11 hM)) ?_
  refine am_iload_n hC dX6_stands_4 rfl ?_
  refine am_ialdE (v := nI d) hC (j := p) (N := 20) (kM_25 hM) (nM_25 hM) rfl (by omega) (by decide) dX6_stands_5 hpd ?_
  refine am_istore_n hC dX6_stands_6 (by decide) ?_
  change am_W _ _ _ _ [.ref (14), .int (nI p), .int (nI d), .null, .null] _ _
  refine am_aload_n hC dX6_stands_7 rfl ?_
  refine am_get (v := .ref (27)) hC (ci := 7) (N := 20) (j := 13) rfl (kM_14 hM) (by decide) tw_661 (Or.inl rfl) dX6_stands_8 (am_rfe (rM_13 hM)) ?_
  refine am_iload_n hC dX6_stands_11 rfl ?_
  refine am_ialdE (v := hi_ h 27 p) hC (j := p) (N := 20) (kM_27 hM) (nM_27 hM) rfl (by omega) (by decide) dX6_stands_12 rfl ?_
  refine am_aload_n hC dX6_stands_13 rfl ?_
  refine am_get (v := .ref (21)) hC (ci := 7) (N := 20) (j := 7) rfl (kM_14 hM) (by decide) tw_655 (Or.inl rfl) dX6_stands_14 (am_rfe (rM_7 hM)) ?_
  refine am_iload_n hC dX6_stands_17 rfl ?_
  refine am_ialdE (v := hi_ h 21 d) hC (j := d) (N := 6) (kM_21 hM) (nM_21 hM) rfl (by omega) (by decide) dX6_stands_18 rfl ?_
  refine am_icmp_ne (tgt := 26) hC dX6_stands_19 (by decide) (fun c_19 => ?_) (fun c_19 => ?_)
  · refine am_iconst (v := nI 0) hC dX6_stands_26 (by decide) ?_
    refine am_istore_n hC dX6_stands_27 (by decide) ?_
    change am_W _ _ _ _ [.ref (14), .int (nI p), .int (nI d), .int (nI 0), .null] _ _
    refine am_iconst (v := nI 0) hC dX6_stands_28 (by decide) ?_
    refine am_istore hC dX6_stands_29 (by decide) ?_
    change am_W _ _ _ _ [.ref (14), .int (nI p), .int (nI d), .int (nI 0), .int (nI 0)] _ _
    exact sl 40 0 false rfl ⟨fun z => absurd z (by decide), fun z => absurd z.1 c_19⟩
  · refine am_iconst (v := nI 1) hC dX6_stands_22 (by decide) ?_
    refine am_goto (tgt := 27) hC dX6_stands_23 (by decide) ?_
    refine am_istore_n hC dX6_stands_27 (by decide) ?_
    change am_W _ _ _ _ [.ref (14), .int (nI p), .int (nI d), .int (nI 1), .null] _ _
    refine am_iconst (v := nI 0) hC dX6_stands_28 (by decide) ?_
    refine am_istore hC dX6_stands_29 (by decide) ?_
    change am_W _ _ _ _ [.ref (14), .int (nI p), .int (nI d), .int (nI 1), .int (nI 0)] _ _
    exact sl 40 0 true rfl ⟨fun _ => ⟨c_19, fun s1 h1 => absurd h1 (Nat.not_lt_zero s1)⟩, fun _ => rfl⟩
set_option maxRecDepth 100000 in
set_option maxHeartbeats 4000000 in
theorem c_X6_isOld (G : am_G) (l : Launch) (htr : l.stackTraces = false) (h : am_H) (hM : FM h) (d : Nat) (hd : d < 6) (p : Nat) (hp0 : p < 30) (hpd : hi_ h 29 p = nI d) : am_Met G l yX6_isOld (.code yX6_isOld cX6_isOld 5 (some .boolean)) 1 0 0 [.ref (14), .int (nI p)] h (fun v h' => h' = h ∧ ∃ R : Bool, v = some (.int (b2i R)) ∧ (R = true ↔ ¬ (hi_ h 31 p = hi_ h 21 d ∧ ∀ s, s < 40 → hi_ h 30 (40 * p + s) = hi_ h 20 (40 * d + s)))) (am_no) := by
  refine am_intro rfl htr rfl (Nat.le_of_ble_eq_true rfl) (fun Z hC hR hI => ?_)
  change am_W Z 0 0 0 [.ref (14), .int (nI p), .null, .null, .null] [] h
  have sl : ∀ (q s : Nat) (R : Bool), s + q = 40 → (R = true ↔ ¬ (hi_ h 31 p = hi_ h 21 d ∧ ∀ s1, s1 < s → hi_ h 30 (40 * p + s1) = hi_ h 20 (40 * d + s1))) → am_W Z 0 0 31 [.ref (14), .int (nI p), .int (nI d), .int (b2i R), .int (nI s)] [] h := by
    intro q
    induction q with
    | zero =>
      intro s R hs hi
      obtain rfl : s = 40 := by omega
      refine am_iload hC dX6_isOld_31 rfl ?_
      refine am_bipush (v := nI 40) hC dX6_isOld_33 (by decide) ?_
      refine am_icmp_ge (tgt := 79) hC dX6_isOld_35 (by decide) (fun c_35 => ?_) (fun c_35 => absurd (nI_le (by omega) (by omega)) c_35)
      refine am_iload_n hC dX6_isOld_79 rfl ?_
      refine am_iret hC hR (nar_b2i _) (by decide) (by decide) dX6_isOld_80 ?_
      exact ⟨rfl, R, rfl, hi⟩
    | succ q ih =>
      intro s R hs hi
      refine am_iload hC dX6_isOld_31 rfl ?_
      refine am_bipush (v := nI 40) hC dX6_isOld_33 (by decide) ?_
      refine am_icmp_ge (tgt := 79) hC dX6_isOld_35 (by decide) (fun c_35 => absurd c_35 (nI_ge (by omega) (by omega))) (fun c_35 => ?_)
      refine am_iload_n hC dX6_isOld_38 rfl ?_
      refine am_aload_n hC dX6_isOld_39 rfl ?_
      refine am_get (v := .ref (30)) hC (ci := 7) (N := 20) (j := 16) rfl (kM_14 hM) (by decide) tw_664 (Or.inl rfl) dX6_isOld_40 (am_rfe (rM_16 hM)) ?_
      refine am_bipush (v := nI 40) hC dX6_isOld_43 (by decide) ?_
      refine am_iload_n hC dX6_isOld_45 rfl ?_
      refine am_imulE (z := nI (40 * p)) hC dX6_isOld_46 (pk_mul (40) (p)) ?_
      refine am_iload hC dX6_isOld_47 rfl ?_
      refine am_iaddE (z := nI (40 * p + s)) hC dX6_isOld_49 (nI_add (40 * p) (s)) ?_
      refine am_ialdE (v := hi_ h 30 (40 * p + s)) hC (j := 40 * p + s) (N := 1200) (kM_30 hM) (nM_30 hM) rfl (by omega) (by decide) dX6_isOld_50 rfl ?_
      refine am_aload_n hC dX6_isOld_51 rfl ?_
      refine am_get (v := .ref (20)) hC (ci := 7) (N := 20) (j := 6) rfl (kM_14 hM) (by decide) tw_654 (Or.inl rfl) dX6_isOld_52 (am_rfe (rM_6 hM)) ?_
      refine am_bipush (v := nI 40) hC dX6_isOld_55 (by decide) ?_
      refine am_iload_n hC dX6_isOld_57 rfl ?_
      refine am_imulE (z := nI (40 * d)) hC dX6_isOld_58 (pk_mul (40) (d)) ?_
      refine am_iload hC dX6_isOld_59 rfl ?_
      refine am_iaddE (z := nI (40 * d + s)) hC dX6_isOld_61 (nI_add (40 * d) (s)) ?_
      refine am_ialdE (v := hi_ h 20 (40 * d + s)) hC (j := 40 * d + s) (N := 240) (kM_20 hM) (nM_20 hM) rfl (by omega) (by decide) dX6_isOld_62 rfl ?_
      refine am_icmp_eq (tgt := 70) hC dX6_isOld_63 (by decide) (fun c_63 => ?_) (fun c_63 => ?_)
      · refine am_iconst (v := nI 0) hC dX6_isOld_70 (by decide) ?_
        refine am_iorE (z := b2i R) hC dX6_isOld_71 (bor0 R) ?_
        refine am_istore_n hC dX6_isOld_72 (by decide) ?_
        change am_W _ _ _ _ [.ref (14), .int (nI p), .int (nI d), .int (b2i R), .int (nI s)] _ _
        refine am_iinc (v := nI (s + 1)) hC dX6_isOld_73 rfl (nI_1 (s)) (by decide) ?_
        change am_W _ _ _ _ [.ref (14), .int (nI p), .int (nI d), .int (b2i R), .int (nI (s + 1))] _ _
        refine am_goto (tgt := 31) hC dX6_isOld_76 (by decide) ?_
        refine ih (s + 1) R (by omega) (hi.trans ?_)
        have e9 : hi_ h 30 (40 * p + s) = hi_ h 20 (40 * d + s) := c_63
        exact not_congr ⟨fun z => ⟨z.1, fun s1 h1 => by
          rcases Nat.lt_or_eq_of_le (Nat.le_of_lt_succ h1) with w | w
          · exact z.2 s1 w
          · rw [w]; exact e9⟩, fun z => ⟨z.1, fun s1 h1 => z.2 s1 (by omega)⟩⟩
      · refine am_iconst (v := nI 1) hC dX6_isOld_66 (by decide) ?_
        refine am_goto (tgt := 71) hC dX6_isOld_67 (by decide) ?_
        refine am_iorE (z := b2i true) hC dX6_isOld_71 (bor1 R) ?_
        refine am_istore_n hC dX6_isOld_72 (by decide) ?_
        change am_W _ _ _ _ [.ref (14), .int (nI p), .int (nI d), .int (b2i true), .int (nI s)] _ _
        refine am_iinc (v := nI (s + 1)) hC dX6_isOld_73 rfl (nI_1 (s)) (by decide) ?_
        change am_W _ _ _ _ [.ref (14), .int (nI p), .int (nI d), .int (b2i true), .int (nI (s + 1))] _ _
        refine am_goto (tgt := 31) hC dX6_isOld_76 (by decide) ?_
        refine ih (s + 1) true (by omega) ⟨fun _ z => c_63 (z.2 s (by omega)), fun _ => rfl⟩
  refine am_aload_n hC dX6_isOld_0 rfl ?_
  refine am_get (v := .ref (29)) hC (ci := 7) (N := 20) (j := 15) rfl (kM_14 hM) (by decide) tw_663 (Or.inl rfl) dX6_isOld_1 (am_rfe (rM_15 hM)) ?_
  refine am_iload_n hC dX6_isOld_4 rfl ?_
  refine am_ialdE (v := nI d) hC (j := p) (N := 30) (kM_29 hM) (nM_29 hM) rfl (by omega) (by decide) dX6_isOld_5 hpd ?_
  refine am_istore_n hC dX6_isOld_6 (by decide) ?_
  change am_W _ _ _ _ [.ref (14), .int (nI p), .int (nI d), .null, .null] _ _
  refine am_aload_n hC dX6_isOld_7 rfl ?_
  refine am_get (v := .ref (31)) hC (ci := 7) (N := 20) (j := 17) rfl (kM_14 hM) (by decide) tw_665 (Or.inl rfl) dX6_isOld_8 (am_rfe (rM_17 hM)) ?_
  refine am_iload_n hC dX6_isOld_11 rfl ?_
  refine am_ialdE (v := hi_ h 31 p) hC (j := p) (N := 30) (kM_31 hM) (nM_31 hM) rfl (by omega) (by decide) dX6_isOld_12 rfl ?_
  refine am_aload_n hC dX6_isOld_13 rfl ?_
  refine am_get (v := .ref (21)) hC (ci := 7) (N := 20) (j := 7) rfl (kM_14 hM) (by decide) tw_655 (Or.inl rfl) dX6_isOld_14 (am_rfe (rM_7 hM)) ?_
  refine am_iload_n hC dX6_isOld_17 rfl ?_
  refine am_ialdE (v := hi_ h 21 d) hC (j := d) (N := 6) (kM_21 hM) (nM_21 hM) rfl (by omega) (by decide) dX6_isOld_18 rfl ?_
  refine am_icmp_eq (tgt := 26) hC dX6_isOld_19 (by decide) (fun c_19 => ?_) (fun c_19 => ?_)
  · refine am_iconst (v := nI 0) hC dX6_isOld_26 (by decide) ?_
    refine am_istore_n hC dX6_isOld_27 (by decide) ?_
    change am_W _ _ _ _ [.ref (14), .int (nI p), .int (nI d), .int (nI 0), .null] _ _
    refine am_iconst (v := nI 0) hC dX6_isOld_28 (by decide) ?_
    refine am_istore hC dX6_isOld_29 (by decide) ?_
    change am_W _ _ _ _ [.ref (14), .int (nI p), .int (nI d), .int (nI 0), .int (nI 0)] _ _
    exact sl 40 0 false rfl ⟨fun z => absurd z (by decide), fun z => absurd ⟨c_19, fun s1 h1 => absurd h1 (Nat.not_lt_zero s1)⟩ z⟩
  · refine am_iconst (v := nI 1) hC dX6_isOld_22 (by decide) ?_
    refine am_goto (tgt := 27) hC dX6_isOld_23 (by decide) ?_
    refine am_istore_n hC dX6_isOld_27 (by decide) ?_
    change am_W _ _ _ _ [.ref (14), .int (nI p), .int (nI d), .int (nI 1), .null] _ _
    refine am_iconst (v := nI 0) hC dX6_isOld_28 (by decide) ?_
    refine am_istore hC dX6_isOld_29 (by decide) ?_
    change am_W _ _ _ _ [.ref (14), .int (nI p), .int (nI d), .int (nI 1), .int (nI 0)] _ _
    exact sl 40 0 true rfl ⟨fun _ z => c_19 z.1, fun _ => rfl⟩
