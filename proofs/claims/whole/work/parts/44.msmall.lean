/-! ===== the model: what it holds; small methods; found ===== -/
/-- the model's drawings: told, exits, references -/
def MT (h : am_H) (n : Nat) (t : Nat → Nat → Int32) (x r : Nat → Nat → Bool) : Prop := FM h ∧ n ≤ 6 ∧ hi_ h 14 0 = nI n ∧ (∀ d, d < n → ∀ s, s < 40 → hi_ h 15 (40 * d + s) = t d s ∧ OKs (t d s)) ∧ (∀ d, d < n → ∀ c, c < 32 → bt (hi_ h 16 d) c = x d c) ∧ (∀ d, d < n → ∀ k, k < 31 → bt (hi_ h 17 d) k = r d k) ∧ AC n r
theorem MT_eq {S : Nat → Prop} {h h' : am_H} {n : Nat} {t : Nat → Nat → Int32} {x r : Nat → Nat → Bool} (hS : ∀ q, S q → q < 14 ∨ 17 < q) (e : am_eq S h h') (hle : am_le h h') (hT : MT h n t x r) : MT h' n t x r := by
  obtain ⟨a1, a2, a3, a4, a5, a6, a7⟩ := hT
  have w : ∀ q, 14 ≤ q → q ≤ 17 → ¬ S q := fun q h1 h2 z => by have := hS q z; omega
  refine ⟨FM_eq (w 14 (by decide) (by decide)) e hle a1, a2, ((e 14 (w 14 (by decide) (by decide))).2.2.1 _).trans a3, fun d hd s hs => ?_, fun d hd c hc => ?_, fun d hd k hk => ?_, a7⟩
  · rw [(e 15 (w 15 (by decide) (by decide))).2.2.1]; exact a4 d hd s hs
  · rw [(e 16 (w 16 (by decide) (by decide))).2.2.1]; exact a5 d hd c hc
  · rw [(e 17 (w 17 (by decide) (by decide))).2.2.1]; exact a6 d hd k hk
theorem isin_b {x lo hi : Int32} : (if lo ≤ x ∧ x ≤ hi then (1 : Int32) else 0) = b2i (decide (lo ≤ x) && decide (x ≤ hi)) := by
  by_cases a : lo ≤ x
  · by_cases b : x ≤ hi
    · rw [if_pos ⟨a, b⟩, decide_eq_true a, decide_eq_true b]; rfl
    · rw [if_neg (fun z => b z.2), decide_eq_false b, Bool.and_false]; rfl
  · rw [if_neg (fun z => a z.1), decide_eq_false a]; rfl
theorem le_lt {n : Nat} {x : Int32} (hn : n < 2 ^ 31) (h0 : 0 ≤ x) : x ≤ nI n - 1 ↔ x < nI n := by
  obtain ⟨j, hj, rfl⟩ := nI_of (Int32.not_lt.mpr h0)
  rcases Nat.eq_zero_or_pos n with z | z
  · subst z
    constructor
    · intro q
      exact absurd q (fun w => nI_pos hj (Int32.lt_of_le_of_lt w (by decide)))
    · intro q
      exact absurd q (nI_pos hj)
  · obtain ⟨m, rfl⟩ : ∃ m, n = m + 1 := ⟨n - 1, by omega⟩
    rw [nm1 m, nI_leI hj (by omega), nI_ltI hj hn]
    omega
theorem IX_b {n : Nat} {x : Int32} (hn : n < 2 ^ 31) : (if 0 ≤ x ∧ x ≤ nI n - 1 then (1 : Int32) else 0) = b2i (IX n x) := by
  rw [isin_b]
  unfold IX
  by_cases a : 0 ≤ x
  · by_cases b : x < nI n
    · rw [decide_eq_true a, decide_eq_true ((le_lt hn a).mpr b), decide_eq_true b]
    · rw [decide_eq_true a, decide_eq_false (fun z => b ((le_lt hn a).mp z)), decide_eq_false b]
  · rw [decide_eq_false a, Bool.false_and, Bool.false_and]
set_option maxRecDepth 100000 in
set_option maxHeartbeats 4000000 in
theorem c_X6_isPerson (G : am_G) (l : Launch) (htr : l.stackTraces = false) (h : am_H) (p : Int32) : am_Met G l yX6_isPerson (.code yX6_isPerson cX6_isPerson 1 (some .boolean)) 2 0 0 [.int (p)] h (fun v h' => h' = h ∧ v = some (.int (b2i (IX 6 p)))) (am_no) := by
  refine am_intro rfl htr rfl (Nat.le_of_ble_eq_true rfl) (fun Z hC hR hI => ?_)
  change am_W Z 0 0 0 [.int (p)] [] h
  refine am_iload_n hC dX6_isPerson_0 rfl ?_
  refine am_iconst (v := nI 0) hC dX6_isPerson_1 (by decide) ?_
  refine am_iconst (v := nI 5) hC dX6_isPerson_2 (by decide) ?_
  refine am_callS hC [.int (p), .int (nI 0), .int (nI 5)] mf_X6_isIn tw_724 (c_X6_isIn _ _ (am_tr hC) h p (nI 0) (nI 5)) rfl ⟨rfl, Nat.le_of_ble_eq_true rfl⟩ ⟨by decide, by decide⟩ (by decide) (by decide) dX6_isPerson_3 rfl (fun _ _ q _ => False.elim q) (fun v h' hp hlc => ?_)
  obtain ⟨rfl, q9⟩ := hp
  have q9 := q9.symm
  subst q9
  rw [show (if nI 0 ≤ p ∧ p ≤ nI 5 then (1 : Int32) else 0) = b2i (IX 6 p) from IX_b (n := 6) (by decide)]
  refine am_iret hC hR (nar_b2i _) (by decide) (by decide) dX6_isPerson_6 ?_
  exact ⟨rfl, rfl⟩
set_option maxRecDepth 100000 in
set_option maxHeartbeats 4000000 in
theorem c_X6_isCell (G : am_G) (l : Launch) (htr : l.stackTraces = false) (h : am_H) (p : Int32) : am_Met G l yX6_isCell (.code yX6_isCell cX6_isCell 1 (some .boolean)) 2 0 0 [.int (p)] h (fun v h' => h' = h ∧ v = some (.int (b2i (IX 25 p)))) (am_no) := by
  refine am_intro rfl htr rfl (Nat.le_of_ble_eq_true rfl) (fun Z hC hR hI => ?_)
  change am_W Z 0 0 0 [.int (p)] [] h
  refine am_iload_n hC dX6_isCell_0 rfl ?_
  refine am_iconst (v := nI 0) hC dX6_isCell_1 (by decide) ?_
  refine am_bipush (v := nI 24) hC dX6_isCell_2 (by decide) ?_
  refine am_callS hC [.int (p), .int (nI 0), .int (nI 24)] mf_X6_isIn tw_724 (c_X6_isIn _ _ (am_tr hC) h p (nI 0) (nI 24)) rfl ⟨rfl, Nat.le_of_ble_eq_true rfl⟩ ⟨by decide, by decide⟩ (by decide) (by decide) dX6_isCell_4 rfl (fun _ _ q _ => False.elim q) (fun v h' hp hlc => ?_)
  obtain ⟨rfl, q9⟩ := hp
  have q9 := q9.symm
  subst q9
  rw [show (if nI 0 ≤ p ∧ p ≤ nI 24 then (1 : Int32) else 0) = b2i (IX 25 p) from IX_b (n := 25) (by decide)]
  refine am_iret hC hR (nar_b2i _) (by decide) (by decide) dX6_isCell_7 ?_
  exact ⟨rfl, rfl⟩
set_option maxRecDepth 100000 in
set_option maxHeartbeats 4000000 in
theorem c_X6_isDrawing (G : am_G) (l : Launch) (htr : l.stackTraces = false) (h : am_H) (hM : FM h) (n : Nat) (hn : n ≤ 6) (hn0 : hi_ h 14 0 = nI n) (p : Int32) : am_Met G l yX6_isDrawing (.code yX6_isDrawing cX6_isDrawing 2 (some .boolean)) 2 0 0 [.ref (14), .int (p)] h (fun v h' => h' = h ∧ v = some (.int (b2i (IX n p)))) (am_no) := by
  refine am_intro rfl htr rfl (Nat.le_of_ble_eq_true rfl) (fun Z hC hR hI => ?_)
  change am_W Z 0 0 0 [.ref (14), .int (p)] [] h
  refine am_iload_n hC dX6_isDrawing_0 rfl ?_
  refine am_iconst (v := nI 0) hC dX6_isDrawing_1 (by decide) ?_
  refine am_aload_n hC dX6_isDrawing_2 rfl ?_
  refine am_get (v := .int (nI n)) hC (ci := 7) (N := 20) (j := 0) rfl (kM_14 hM) (by decide) tw_648 (Or.inl rfl) dX6_isDrawing_3 (congrArg Value.int hn0) ?_
  refine am_iconst (v := nI 1) hC dX6_isDrawing_6 (by decide) ?_
  refine am_isubE (z := nI n - 1) hC dX6_isDrawing_7 rfl ?_
  refine am_callS hC [.int (p), .int (nI 0), .int (nI n - 1)] mf_X6_isIn tw_724 (c_X6_isIn _ _ (am_tr hC) h p (nI 0) (nI n - 1)) rfl ⟨rfl, Nat.le_of_ble_eq_true rfl⟩ ⟨by decide, by decide⟩ (by decide) (by decide) dX6_isDrawing_8 rfl (fun _ _ q _ => False.elim q) (fun v h' hp hlc => ?_)
  obtain ⟨rfl, q9⟩ := hp
  have q9 := q9.symm
  subst q9
  rw [show (if nI 0 ≤ p ∧ p ≤ nI n - 1 then (1 : Int32) else 0) = b2i (IX n p) from IX_b (n := n) (by omega)]
  refine am_iret hC hR (nar_b2i _) (by decide) (by decide) dX6_isDrawing_11 ?_
  exact ⟨rfl, rfl⟩
set_option maxRecDepth 100000 in
set_option maxHeartbeats 4000000 in
theorem c_X6_thrown (G : am_G) (l : Launch) (htr : l.stackTraces = false) (h : am_H) (hM : FM h) : am_Met G l yX6_thrown (.code yX6_thrown cX6_thrown 1 (some .int)) 1 0 0 [.ref (14)] h (fun v h' => h' = h ∧ v = some (.int (hi_ h 14 19))) (am_no) := by
  refine am_intro rfl htr rfl (Nat.le_of_ble_eq_true rfl) (fun Z hC hR hI => ?_)
  change am_W Z 0 0 0 [.ref (14)] [] h
  refine am_aload_n hC dX6_thrown_0 rfl ?_
  refine am_get (v := .int (hi_ h 14 19)) hC (ci := 7) (N := 20) (j := 19) rfl (kM_14 hM) (by decide) tw_667 (Or.inl rfl) dX6_thrown_1 rfl ?_
  refine am_iret hC hR rfl (by decide) (by decide) dX6_thrown_4 ?_
  exact ⟨rfl, rfl⟩
def chM (h : am_H) (d : Nat) : Int32 := if 0 ≤ hi_ h 19 d then hi_ h 19 d else hi_ h 18 d
set_option maxRecDepth 100000 in
set_option maxHeartbeats 4000000 in
theorem c_X6_changer (G : am_G) (l : Launch) (htr : l.stackTraces = false) (h : am_H) (hM : FM h) (d : Nat) (hd : d < 6) : am_Met G l yX6_changer (.code yX6_changer cX6_changer 2 (some .int)) 1 0 0 [.ref (14), .int (nI d)] h (fun v h' => h' = h ∧ v = some (.int (chM h d))) (am_no) := by
  refine am_intro rfl htr rfl (Nat.le_of_ble_eq_true rfl) (fun Z hC hR hI => ?_)
  change am_W Z 0 0 0 [.ref (14), .int (nI d)] [] h
  refine am_aload_n hC dX6_changer_0 rfl ?_
  refine am_get (v := .ref (19)) hC (ci := 7) (N := 20) (j := 5) rfl (kM_14 hM) (by decide) tw_653 (Or.inl rfl) dX6_changer_1 (am_rfe (rM_5 hM)) ?_
  refine am_iload_n hC dX6_changer_4 rfl ?_
  refine am_ialdE (v := hi_ h 19 d) hC (j := d) (N := 6) (kM_19 hM) (nM_19 hM) rfl (by omega) (by decide) dX6_changer_5 rfl ?_
  refine am_if_lt (tgt := 18) hC dX6_changer_6 (by decide) (fun c_6 => ?_) (fun c_6 => ?_)
  · refine am_aload_n hC dX6_changer_18 rfl ?_
    refine am_get (v := .ref (18)) hC (ci := 7) (N := 20) (j := 4) rfl (kM_14 hM) (by decide) tw_652 (Or.inl rfl) dX6_changer_19 (am_rfe (rM_4 hM)) ?_
    refine am_iload_n hC dX6_changer_22 rfl ?_
    refine am_ialdE (v := hi_ h 18 d) hC (j := d) (N := 6) (kM_18 hM) (nM_18 hM) rfl (by omega) (by decide) dX6_changer_23 rfl ?_
    refine am_iret hC hR rfl (by decide) (by decide) dX6_changer_24 ?_
    refine ⟨rfl, ?_⟩
    unfold chM
    first | rw [if_pos (Int32.not_lt.mp c_6)] | rw [if_neg (fun z => Int32.not_lt.mpr z c_6)]
  · refine am_aload_n hC dX6_changer_9 rfl ?_
    refine am_get (v := .ref (19)) hC (ci := 7) (N := 20) (j := 5) rfl (kM_14 hM) (by decide) tw_653 (Or.inl rfl) dX6_changer_10 (am_rfe (rM_5 hM)) ?_
    refine am_iload_n hC dX6_changer_13 rfl ?_
    refine am_ialdE (v := hi_ h 19 d) hC (j := d) (N := 6) (kM_19 hM) (nM_19 hM) rfl (by omega) (by decide) dX6_changer_14 rfl ?_
    refine am_goto (tgt := 24) hC dX6_changer_15 (by decide) ?_
    refine am_iret hC hR rfl (by decide) (by decide) dX6_changer_24 ?_
    refine ⟨rfl, ?_⟩
    unfold chM
    first | rw [if_pos (Int32.not_lt.mp c_6)] | rw [if_neg (fun z => Int32.not_lt.mpr z c_6)]
set_option maxRecDepth 100000 in
set_option maxHeartbeats 4000000 in
theorem c_X6_found (G : am_G) (l : Launch) (htr : l.stackTraces = false) (h : am_H) (n : Nat) (t : Nat → Nat → Int32) (x r : Nat → Nat → Bool) (hT : MT h n t x r) (d : Nat) (hd : d < n) (s : Nat) (hs : s < 40) (S : Nat → Int32) (hS : ∀ k, k < n → hi_ h 20 (40 * k + s) = S k ∧ OKs (S k)) : am_Met G l yX6_found (.code yX6_found cX6_found 5 (some .int)) 1 0 0 [.ref (14), .int (nI d), .int (nI s)] h (fun v h' => h' = h ∧ v = some (.int (fnd t r S n d s))) (am_no) := by
  have hM := hT.1
  have hn6 := hT.2.1
  have hn0 := hT.2.2.1
  have ht := hT.2.2.2.1 d hd s hs
  have hrb := hT.2.2.2.2.2.1 d hd
  refine am_intro rfl htr rfl (Nat.le_of_ble_eq_true rfl) (fun Z hC hR hI => ?_)
  change am_W Z 0 0 0 [.ref (14), .int (nI d), .int (nI s), .null, .null] [] h
  have loop : ∀ (m k : Nat) (its : Int32), k + m = n → OKs its → fnd t r S n d s = (if its = -1 then fst6 (fun k => if r d k = true then S k else -1) k m else its) → am_W Z 0 0 15 [.ref (14), .int (nI d), .int (nI s), .int (its), .int (nI k)] [] h := by
    intro m
    induction m with
    | zero =>
      intro k its hk hO hf
      obtain rfl : k = n := by omega
      refine am_iload hC dX6_found_15 rfl ?_
      refine am_aload_n hC dX6_found_17 rfl ?_
      refine am_get (v := .int (nI k)) hC (ci := 7) (N := 20) (j := 0) rfl (kM_14 hM) (by decide) tw_648 (Or.inl rfl) dX6_found_18 (congrArg Value.int hn0) ?_
      refine am_icmp_ge (tgt := 66) hC dX6_found_21 (by decide) (fun c_21 => ?_) (fun c_21 => absurd (nI_le (by omega) (by omega)) c_21)
      refine am_iload_n hC dX6_found_66 rfl ?_
      refine am_iret hC hR rfl (by decide) (by decide) dX6_found_67 ?_
      refine ⟨rfl, ?_⟩
      rw [hf]
      by_cases z : its = -1
      · rw [if_pos z, z]; rfl
      · rw [if_neg z]
    | succ m ih =>
      intro k its hk hO hf
      refine am_iload hC dX6_found_15 rfl ?_
      refine am_aload_n hC dX6_found_17 rfl ?_
      refine am_get (v := .int (nI n)) hC (ci := 7) (N := 20) (j := 0) rfl (kM_14 hM) (by decide) tw_648 (Or.inl rfl) dX6_found_18 (congrArg Value.int hn0) ?_
      refine am_icmp_ge (tgt := 66) hC dX6_found_21 (by decide) (fun c_21 => absurd c_21 (nI_ge (by omega) (by omega))) (fun c_21 => ?_)
      refine am_iload_n hC dX6_found_24 rfl ?_
      refine am_if_ge (tgt := 66) hC dX6_found_25 (by decide) (fun c_25 => ?_) (fun c_25 => ?_)
      · refine am_iload_n hC dX6_found_66 rfl ?_
        refine am_iret hC hR rfl (by decide) (by decide) dX6_found_67 ?_
        refine ⟨rfl, ?_⟩
        rw [hf, if_neg (fun z => by rw [z] at c_25; exact absurd c_25 (by decide))]
      · have hm1 : its = -1 := hO.elim id (fun z => absurd (Int32.not_le.mp c_25) z)
        refine am_aload_n hC dX6_found_28 rfl ?_
        refine am_get (v := .ref (17)) hC (ci := 7) (N := 20) (j := 3) rfl (kM_14 hM) (by decide) tw_651 (Or.inl rfl) dX6_found_29 (am_rfe (rM_3 hM)) ?_
        refine am_iload_n hC dX6_found_32 rfl ?_
        refine am_ialdE (v := hi_ h 17 d) hC (j := d) (N := 6) (kM_17 hM) (nM_17 hM) rfl (by omega) (by decide) dX6_found_33 rfl ?_
        refine am_iload hC dX6_found_34 rfl ?_
        refine am_ishrE (z := (hi_ h 17 d) >>> ((nI k) &&& 31)) hC dX6_found_36 rfl ?_
        refine am_iconst (v := nI 1) hC dX6_found_37 (by decide) ?_
        refine am_iandE (z := ((hi_ h 17 d) >>> ((nI k) &&& 31)) &&& (nI 1)) hC dX6_found_38 rfl ?_
        refine am_iconst (v := nI 1) hC dX6_found_39 (by decide) ?_
        refine am_icmp_ne (tgt := 58) hC dX6_found_40 (by decide) (fun c_40 => ?_) (fun c_40 => ?_)
        · have c_40x := tb_n (by omega) c_40
          refine am_iload_n hC dX6_found_58 rfl ?_
          refine am_istore_n hC dX6_found_59 (by decide) ?_
          change am_W _ _ _ _ [.ref (14), .int (nI d), .int (nI s), .int (its), .int (nI k)] _ _
          refine am_iinc (v := nI (k + 1)) hC dX6_found_60 rfl (nI_1 (k)) (by decide) ?_
          change am_W _ _ _ _ [.ref (14), .int (nI d), .int (nI s), .int (its), .int (nI (k + 1))] _ _
          refine am_goto (tgt := 15) hC dX6_found_63 (by decide) ?_
          refine ih (k + 1) its (by omega) hO ?_
          rw [hf, hm1, if_pos rfl, if_pos rfl, fst6_skip]
          show (if r d k = true then _ else _) = _
          rw [if_neg (fun z => by rw [hrb k (by omega)] at c_40x; rw [z] at c_40x; cases c_40x)]
        · have c_40y : r d k = true := (hrb k (by omega)).symm.trans ((tb_ (by omega)).mp c_40)
          refine am_aload_n hC dX6_found_43 rfl ?_
          refine am_get (v := .ref (20)) hC (ci := 7) (N := 20) (j := 6) rfl (kM_14 hM) (by decide) tw_654 (Or.inl rfl) dX6_found_44 (am_rfe (rM_6 hM)) ?_
          refine am_bipush (v := nI 40) hC dX6_found_47 (by decide) ?_
          refine am_iload hC dX6_found_49 rfl ?_
          refine am_imulE (z := nI (40 * k)) hC dX6_found_51 (pk_mul (40) (k)) ?_
          refine am_iload_n hC dX6_found_52 rfl ?_
          refine am_iaddE (z := nI (40 * k + s)) hC dX6_found_53 (nI_add (40 * k) (s)) ?_
          refine am_ialdE (v := S k) hC (j := 40 * k + s) (N := 240) (kM_20 hM) (nM_20 hM) rfl (by omega) (by decide) dX6_found_54 (hS k (by omega)).1 ?_
          refine am_goto (tgt := 59) hC dX6_found_55 (by decide) ?_
          refine am_istore_n hC dX6_found_59 (by decide) ?_
          change am_W _ _ _ _ [.ref (14), .int (nI d), .int (nI s), .int (S k), .int (nI k)] _ _
          refine am_iinc (v := nI (k + 1)) hC dX6_found_60 rfl (nI_1 (k)) (by decide) ?_
          change am_W _ _ _ _ [.ref (14), .int (nI d), .int (nI s), .int (S k), .int (nI (k + 1))] _ _
          refine am_goto (tgt := 15) hC dX6_found_63 (by decide) ?_
          refine ih (k + 1) (S k) (by omega) (hS k (by omega)).2 ?_
          rw [hf, hm1, if_pos rfl]
          show (if (if r d k = true then S k else -1) = -1 then _ else (if r d k = true then S k else -1)) = _
          rw [if_pos c_40y]
  refine am_aload_n hC dX6_found_0 rfl ?_
  refine am_get (v := .ref (15)) hC (ci := 7) (N := 20) (j := 1) rfl (kM_14 hM) (by decide) tw_649 (Or.inl rfl) dX6_found_1 (am_rfe (rM_1 hM)) ?_
  refine am_bipush (v := nI 40) hC dX6_found_4 (by decide) ?_
  refine am_iload_n hC dX6_found_6 rfl ?_
  refine am_imulE (z := nI (40 * d)) hC dX6_found_7 (pk_mul (40) (d)) ?_
  refine am_iload_n hC dX6_found_8 rfl ?_
  refine am_iaddE (z := nI (40 * d + s)) hC dX6_found_9 (nI_add (40 * d) (s)) ?_
  refine am_ialdE (v := t d s) hC (j := 40 * d + s) (N := 240) (kM_15 hM) (nM_15 hM) rfl (by omega) (by decide) dX6_found_10 ht.1 ?_
  refine am_istore_n hC dX6_found_11 (by decide) ?_
  change am_W _ _ _ _ [.ref (14), .int (nI d), .int (nI s), .int (t d s), .null] _ _
  refine am_iconst (v := nI 0) hC dX6_found_12 (by decide) ?_
  refine am_istore hC dX6_found_13 (by decide) ?_
  change am_W _ _ _ _ [.ref (14), .int (nI d), .int (nI s), .int (t d s), .int (nI 0)] _ _
  exact loop n 0 (t d s) (Nat.zero_add _) ht.2 rfl
