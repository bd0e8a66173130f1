/-! ===== the lists ===== -/
def rw_ (L c : Nat) : Nat := 1000 + 100 * L + c
/-- the list L holds n things of kind ci + 1, the i-th of role b + 4 i, in a row of cap -/
def LT (h : am_H) (L n cap b ci : Nat) : Prop :=
  hk_ h L = 1 ∧ hi_ h L 2 = nI n ∧ n ≤ cap ∧ cap ≤ 44 ∧ (cap = 0 → hr_ h L 1 = 1) ∧ (0 < cap → 10 ≤ cap ∧ hr_ h L 1 = rw_ L cap ∧ hk_ h (rw_ L cap) = 12 ∧ hn_ h (rw_ L cap) = cap) ∧ (∀ i, i < n → hr_ h (rw_ L cap) i = b + 4 * i ∧ hk_ h (b + 4 * i) = ci + 1) ∧ ∀ c, cap < c → c < 100 → hk_ h (rw_ L c) = 0
def SL (L r : Nat) : Prop := r = L ∨ (1000 + 100 * L ≤ r ∧ r < 1100 + 100 * L)
theorem am_eq_new {S : Nat → Prop} {h : am_H} {r k n : Nat} (hr : S r) : am_eq S h (am_new h r k n) := fun a ha => by
  have e : a ≠ r := fun q => ha (by rw [q]; exact hr)
  exact ⟨by rw [hk_new, if_neg e], by rw [hn_new, if_neg e], fun b => by rw [hi_new, if_neg e], fun b => by rw [hr_new, if_neg e], fun b => by rw [hl_new, if_neg e]⟩
theorem am_eq_cp {S : Nat → Prop} {h : am_H} {q r N : Nat} (hr : S r) : am_eq S h (am_cp h q r N) := fun a ha => ⟨rfl, rfl, fun _ => rfl, fun b => by rw [hr_cp, if_neg (fun z => ha (by rw [z.1]; exact hr))], fun _ => rfl⟩
theorem LT_eq {h h' : am_H} {S : Nat → Prop} {L n cap b ci : Nat} (hS : ∀ r, S r → ¬ SL L r) (e : am_eq S h h') (hle : am_le h h') (hl : LT h L n cap b ci) : LT h' L n cap b ci := by
  obtain ⟨a1, a2, a3, a4, a5, a6, a7, a8⟩ := hl
  have eL := e L (fun z => hS _ z (Or.inl rfl))
  have er : ∀ c, c < 100 → ¬ S (rw_ L c) := fun c hc z => hS _ z (Or.inr ⟨by unfold rw_; omega, by unfold rw_; omega⟩)
  refine ⟨eL.1.trans a1, (eL.2.2.1 _).trans a2, a3, a4, fun z => (eL.2.2.2.1 _).trans (a5 z), fun z => ?_, fun i hi => ?_, fun c h1 h2 => ?_⟩
  · have e2 := e _ (er cap (by omega))
    obtain ⟨b1, b2, b3, b4⟩ := a6 z
    exact ⟨b1, (eL.2.2.2.1 _).trans b2, e2.1.trans b3, e2.2.1.trans b4⟩
  · have e2 := e _ (er cap (by omega))
    obtain ⟨b1, b2⟩ := a7 i hi
    exact ⟨(e2.2.2.2.1 _).trans b1, (hle _ (by omega)).1.trans b2⟩
  · exact (e _ (er c h2)).1.trans (a8 c h1 h2)
/-- what may lie in a list -/
def LC (ci : Nat) : Prop := ∃ (C : String) (T : u_T) (N : Nat), am_cl[ci]? = some (C, T, N) ∧ Cond.castable C "java/lang/Object" ∈ am_bw
theorem LC_1 : LC 1 := ⟨_, _, _, rfl, tw_606⟩
theorem LC_3 : LC 3 := ⟨_, _, _, rfl, tw_614⟩
theorem LC_4 : LC 4 := ⟨_, _, _, rfl, tw_615⟩
theorem nl_1 : ∀ k, 0 < k → k < 100 → ¬ nI k ≤ nI 0 := fun k h1 h2 => nI_ge h1 (by omega)
theorem nl_2 : ∀ k, k < 100 → ¬ (2147483639 : Int32) < nI k := by decide +kernel
theorem nl_3 : ∀ k, k < 100 → nI k >>> (nI 1 &&& 31) = nI (k / 2) := by decide +kernel
set_option maxRecDepth 100000 in
set_option maxHeartbeats 4000000 in
theorem c_size (G : am_G) (l : Launch) (htr : l.stackTraces = false) (h : am_H) (L : Nat) (n cap b ci : Nat) (hl : LT h L n cap b ci) : am_Met G l yJx4a65c_size_8abf5 (.code yJx4a65c_size_8abf5 cJx4a65c_size_8abf5 1 (some .int)) 1 0 0 [.ref (L)] h (fun v h' => h' = h ∧ v = some (.int (nI n))) (am_no) := by
  have hkl := hl.1
  refine am_intro rfl htr rfl (Nat.le_of_ble_eq_true rfl) (fun Z hC hR hI => ?_)
  change am_W Z 0 0 0 [.ref (L)] [] h
  refine am_aload_n hC dJx4a65c_size_8abf5_0 rfl ?_
  refine am_get (v := .int (nI n)) hC (ci := 0) (N := 3) (j := 2) rfl hkl (by decide) tw_45 (Or.inl rfl) dJx4a65c_size_8abf5_1 (congrArg Value.int hl.2.1) ?_
  refine am_iret hC hR rfl (by decide) (by decide) dJx4a65c_size_8abf5_4 ?_
  exact ⟨rfl, rfl⟩
set_option maxRecDepth 100000 in
set_option maxHeartbeats 4000000 in
theorem c_elementData (G : am_G) (l : Launch) (htr : l.stackTraces = false) (h : am_H) (L : Nat) (n cap b ci i : Nat) (hl : LT h L n cap b ci) (hi : i < n) : am_Met G l yJx4a65c_elementData_915e3 (.code yJx4a65c_elementData_915e3 cJx4a65c_elementData_915e3 2 (some (.object "java/lang/Object"))) 1 0 0 [.ref (L), .int (nI i)] h (fun v h' => h' = h ∧ v = some (.ref (b + 4 * i))) (am_no) := by
  obtain ⟨hkl, q1, qn, qc, -, q6, q7, -⟩ := hl
  obtain ⟨-, q2, q3, q4⟩ := q6 (by omega)
  refine am_intro rfl htr rfl (Nat.le_of_ble_eq_true rfl) (fun Z hC hR hI => ?_)
  change am_W Z 0 0 0 [.ref (L), .int (nI i)] [] h
  refine am_aload_n hC dJx4a65c_elementData_915e3_0 rfl ?_
  refine am_get (v := .ref (rw_ L cap)) hC (ci := 0) (N := 3) (j := 1) rfl hkl (by decide) tw_44 (Or.inl rfl) dJx4a65c_elementData_915e3_1 (am_rfe q2) ?_
  refine am_iload_n hC dJx4a65c_elementData_915e3_4 rfl ?_
  refine am_aaldE (v := .ref (b + 4 * i)) hC (j := i) (N := cap) (by decide) q3 q4 rfl (by omega) (by omega) dJx4a65c_elementData_915e3_5 (am_rfe (q7 i hi).1) ?_
  refine am_aret hC hR (Or.inl ⟨_, rfl⟩) (by decide) (by decide) dJx4a65c_elementData_915e3_6 ?_
  exact ⟨rfl, rfl⟩
set_option maxRecDepth 100000 in
set_option maxHeartbeats 4000000 in
theorem c_prec (G : am_G) (l : Launch) (htr : l.stackTraces = false) (h : am_H) (i n : Nat) (hi : i < n) (hn : n < 2 ^ 31) : am_Met G l yJ3_checkIndex_8e157 (.code yJ3_checkIndex_8e157 cJ3_checkIndex_8e157 3 (some .int)) 1 0 0 [.int (nI i), .int (nI n), .ref (0)] h (fun v h' => h' = h ∧ v = some (.int (nI i))) (am_no) := by
  refine am_intro rfl htr rfl (Nat.le_of_ble_eq_true rfl) (fun Z hC hR hI => ?_)
  change am_W Z 0 0 0 [.int (nI i), .int (nI n), .ref (0)] [] h
  refine am_iload_n hC dJ3_checkIndex_8e157_0 rfl ?_
  refine am_if_lt (tgt := 9) hC dJ3_checkIndex_8e157_1 (by decide) (fun c_1 => absurd c_1 (nI_pos (by omega))) (fun c_1 => ?_)
  refine am_iload_n hC dJ3_checkIndex_8e157_4 rfl ?_
  refine am_iload_n hC dJ3_checkIndex_8e157_5 rfl ?_
  refine am_icmp_lt (tgt := 16) hC dJ3_checkIndex_8e157_6 (by decide) (fun c_6 => ?_) (fun c_6 => absurd (nI_lt hi hn) c_6)
  refine am_iload_n hC dJ3_checkIndex_8e157_16 rfl ?_
  refine am_iret hC hR rfl (by decide) (by decide) dJ3_checkIndex_8e157_17 ?_
  exact ⟨rfl, rfl⟩
set_option maxRecDepth 100000 in
set_option maxHeartbeats 4000000 in
theorem c_chk (G : am_G) (l : Launch) (htr : l.stackTraces = false) (h : am_H) (i n : Nat) (hi : i < n) (hn : n < 2 ^ 31) : am_Met G l yJ15_checkIndex_7cf53 (.code yJ15_checkIndex_7cf53 cJ15_checkIndex_7cf53 2 (some .int)) 2 0 0 [.int (nI i), .int (nI n)] h (fun v h' => h' = h ∧ v = some (.int (nI i))) (am_no) := by
  refine am_intro rfl htr rfl (Nat.le_of_ble_eq_true rfl) (fun Z hC hR hI => ?_)
  change am_W Z 0 0 0 [.int (nI i), .int (nI n)] [] h
  refine am_iload_n hC dJ15_checkIndex_7cf53_0 rfl ?_
  refine am_iload_n hC dJ15_checkIndex_7cf53_1 rfl ?_
  refine am_anull hC dJ15_checkIndex_7cf53_2 ?_
  refine am_callS hC [.int (nI i), .int (nI n), .ref (0)] mf_J3_checkIndex_8e157 tw_303 (c_prec _ _ (am_tr hC) h i n hi hn) rfl ⟨rfl, Nat.le_of_ble_eq_true rfl⟩ ⟨by decide, by decide⟩ (by decide) (by decide) dJ15_checkIndex_7cf53_3 rfl (fun _ _ q _ => False.elim q) (fun v h' hp hlc => ?_)
  obtain ⟨q8, q9⟩ := hp
  subst q8
  subst q9
  refine am_iret hC hR rfl (by decide) (by decide) dJ15_checkIndex_7cf53_6 ?_
  exact ⟨rfl, rfl⟩
set_option maxRecDepth 100000 in
set_option maxHeartbeats 4000000 in
theorem c_get (G : am_G) (l : Launch) (htr : l.stackTraces = false) (h : am_H) (L : Nat) (n cap b ci i : Nat) (hl : LT h L n cap b ci) (hi : i < n) : am_Met G l yJx4a65c_get_915e3 (.code yJx4a65c_get_915e3 cJx4a65c_get_915e3 2 (some (.object "java/lang/Object"))) 3 0 0 [.ref (L), .int (nI i)] h (fun v h' => h' = h ∧ v = some (.ref (b + 4 * i))) (am_no) := by
  have hkl := hl.1
  have hcap := hl.2.2.2.1
  have hnc := hl.2.2.1
  refine am_intro rfl htr rfl (Nat.le_of_ble_eq_true rfl) (fun Z hC hR hI => ?_)
  change am_W Z 0 0 0 [.ref (L), .int (nI i)] [] h
  refine am_iload_n hC dJx4a65c_get_915e3_0 rfl ?_
  refine am_aload_n hC dJx4a65c_get_915e3_1 rfl ?_
  refine am_get (v := .int (nI n)) hC (ci := 0) (N := 3) (j := 2) rfl hkl (by decide) tw_45 (Or.inl rfl) dJx4a65c_get_915e3_2 (congrArg Value.int hl.2.1) ?_
  refine am_callS hC [.int (nI i), .int (nI n)] mf_J15_checkIndex_7cf53 tw_300 (c_chk _ _ (am_tr hC) h i n hi (by omega)) rfl ⟨rfl, Nat.le_of_ble_eq_true rfl⟩ ⟨by decide, by decide⟩ (by decide) (by decide) dJx4a65c_get_915e3_5 rfl (fun _ _ q _ => False.elim q) (fun v h' hp hlc => ?_)
  obtain ⟨q8, q9⟩ := hp
  subst q8
  subst q9
  refine am_pop hC dJx4a65c_get_915e3_8 rfl ?_
  refine am_aload_n hC dJx4a65c_get_915e3_9 rfl ?_
  refine am_iload_n hC dJx4a65c_get_915e3_10 rfl ?_
  refine am_callV hC (ci := 0) (N := 3) [.int (nI i)] rfl hkl rfl mf_Jx4a65c_elementData_915e3 tw_306 (c_elementData _ _ (am_tr hC) h' L n cap b ci i hl hi) rfl ⟨rfl, Nat.le_of_ble_eq_true rfl⟩ ⟨by decide, by decide⟩ (by decide) (by decide) dJx4a65c_get_915e3_11 rfl (fun _ _ q _ => False.elim q) (fun v h' hp hlc => ?_)
  obtain ⟨q8, q9⟩ := hp
  subst q8
  subst q9
  refine am_aret hC hR (Or.inl ⟨_, rfl⟩) (by decide) (by decide) dJx4a65c_get_915e3_14 ?_
  exact ⟨rfl, rfl⟩
set_option maxRecDepth 100000 in
set_option maxHeartbeats 4000000 in
theorem c_newLength (G : am_G) (l : Launch) (htr : l.stackTraces = false) (h : am_H) (a b c : Nat) (h1 : b ≤ c) (h2 : a + c < 100) (h3 : 0 < a) : am_Met G l yJ8_newLength_cabcc (.code yJ8_newLength_cabcc cJ8_newLength_cabcc 4 (some .int)) 2 0 0 [.int (nI a), .int (nI b), .int (nI c)] h (fun v h' => h' = h ∧ v = some (.int (nI (a + c)))) (am_no) := by
  refine am_intro rfl htr rfl (Nat.le_of_ble_eq_true rfl) (fun Z hC hR hI => ?_)
  change am_W Z 0 0 0 [.int (nI a), .int (nI b), .int (nI c), .null] [] h
  refine am_iload_n hC dJ8_newLength_cabcc_0 rfl ?_
  refine am_iload_n hC dJ8_newLength_cabcc_1 rfl ?_
  refine am_iload_n hC dJ8_newLength_cabcc_2 rfl ?_
  refine am_mmax hC tw_234 tw_235 tw_16 tw_236 (by decide) ⟨rfl, Nat.le_of_ble_eq_true rfl⟩ (by decide) (by decide) dJ8_newLength_cabcc_3 ?_
  rw [mmax_nI (by omega) (by omega), Nat.max_eq_right h1]
  refine am_iaddE (z := nI (a + c)) hC dJ8_newLength_cabcc_6 (nI_add (a) (c)) ?_
  refine am_istore_n hC dJ8_newLength_cabcc_7 (by decide) ?_
  change am_W _ _ _ _ [.int (nI a), .int (nI b), .int (nI c), .int (nI (a + c))] _ _
  refine am_iconst (v := nI 0) hC dJ8_newLength_cabcc_8 (by decide) ?_
  refine am_iload_n hC dJ8_newLength_cabcc_9 rfl ?_
  refine am_icmp_ge (tgt := 21) hC dJ8_newLength_cabcc_10 (by decide) (fun c_10 => absurd c_10 (nl_1 _ (by omega) h2)) (fun c_10 => ?_)
  refine am_iload_n hC dJ8_newLength_cabcc_13 rfl ?_
  refine am_ldcI hC tw_237 dJ8_newLength_cabcc_14 ?_
  refine am_icmp_gt (tgt := 21) hC dJ8_newLength_cabcc_16 (by decide) (fun c_16 => absurd c_16 (nl_2 _ h2)) (fun c_16 => ?_)
  refine am_iload_n hC dJ8_newLength_cabcc_19 rfl ?_
  refine am_iret hC hR rfl (by decide) (by decide) dJ8_newLength_cabcc_20 ?_
  exact ⟨rfl, rfl⟩
set_option maxRecDepth 100000 in
set_option maxHeartbeats 4000000 in
theorem c_copyOf (G : am_G) (l : Launch) (htr : l.stackTraces = false) (h : am_H) (q r N c : Nat) (hkq : hk_ h q = 12) (hnq : hn_ h q = N) (hNc : N ≤ c) (hc : c ≤ 66) (hr : hk_ h r = 0) (hr0 : r ≠ 0) (hel : ∀ j, j < N → ∃ (ci : Nat) (C : String) (T : u_T) (N' : Nat), am_cl[ci]? = some (C, T, N') ∧ Cond.castable C "java/lang/Object" ∈ am_bw ∧ hk_ h (hr_ h q j) = ci + 1) : am_Met G l yJ7_copyOf_6403c (.code yJ7_copyOf_6403c cJ7_copyOf_6403c 4 (some (.array (.object "java/lang/Object")))) 2 1 66 [.ref (q), .int (nI c), .ref (2)] h (fun v h' => v = some (.ref r) ∧ h' = am_cp (am_new h r 12 c) q r N) (am_no) := by
  refine am_intro rfl htr rfl (Nat.le_of_ble_eq_true rfl) (fun Z hC hR hI => ?_)
  change am_W Z 0 0 0 [.ref (q), .int (nI c), .ref (2), .null] [] h
  refine am_aload_n hC dJ7_copyOf_6403c_0 rfl ?_
  refine am_ldcM hC tw_261 dJ7_copyOf_6403c_1 ?_
  refine am_acmp_ne (tgt := 13) hC (Or.inl rfl) dJ7_copyOf_6403c_3 (by decide) (fun c_3 => absurd rfl c_3) (fun c_3 => ?_)
  refine am_iload_n hC dJ7_copyOf_6403c_6 rfl ?_
  refine am_newQ hC (kk := 12) (N := c) r (Or.inr ⟨rfl, rfl⟩) hr hr0 rfl (by omega) tw_263 tw_262 (by decide) (by omega) dJ7_copyOf_6403c_7 ?_
  have hqr : q ≠ r := fun z => by rw [z, hr] at hkq; exact absurd hkq (by decide)
  have hkr : hk_ (am_new h r 12 c) r = 12 := by rw [hk_new, if_pos rfl]
  have hnr : hn_ (am_new h r 12 c) r = c := by rw [hn_new, if_pos rfl]
  have hkq : hk_ (am_new h r 12 c) q = 12 := by rw [hk_new, if_neg hqr]; exact hkq
  have hnq : hn_ (am_new h r 12 c) q = N := by rw [hn_new, if_neg hqr]; exact hnq
  refine am_goto (tgt := 24) hC dJ7_copyOf_6403c_10 (by decide) ?_
  refine am_astore_n hC dJ7_copyOf_6403c_24 (by decide) ?_
  change am_W _ _ _ _ [.ref (q), .int (nI c), .ref (2), .ref (r)] _ _
  refine am_aload_n hC dJ7_copyOf_6403c_25 rfl ?_
  refine am_iconst (v := nI 0) hC dJ7_copyOf_6403c_26 (by decide) ?_
  refine am_aload_n hC dJ7_copyOf_6403c_27 rfl ?_
  refine am_iconst (v := nI 0) hC dJ7_copyOf_6403c_28 (by decide) ?_
  refine am_aload_n hC dJ7_copyOf_6403c_29 rfl ?_
  refine am_alen hC (by decide) hkq hnq dJ7_copyOf_6403c_30 ?_
  refine am_iload_n hC dJ7_copyOf_6403c_31 rfl ?_
  refine am_mmin hC tw_264 tw_265 tw_16 tw_266 (by decide) ⟨rfl, Nat.le_of_ble_eq_true rfl⟩ (by omega) (by omega) dJ7_copyOf_6403c_32 ?_
  rw [mmin_nI (by omega) (by omega), Nat.min_eq_left hNc]
  refine am_copy hC (N := N) hkq hkr (Nat.le_of_eq hnq.symm) (by rw [hnr]; exact hNc) (by omega) (fun j hj => by obtain ⟨ci, C, T, N', e1, e2, e3⟩ := hel j hj; refine ⟨ci, C, T, N', e1, e2, ?_⟩; rw [hr_new, if_neg hqr, hk_new, if_neg (fun z => by rw [z, hr] at e3; omega)]; exact e3) tw_267 tw_269 tw_268 tw_17 (by decide) ⟨rfl, Nat.le_of_ble_eq_true rfl⟩ dJ7_copyOf_6403c_35 ?_
  refine am_aload_n hC dJ7_copyOf_6403c_38 rfl ?_
  refine am_aret hC hR (Or.inr ⟨_, rfl⟩) (by omega) (by omega) dJ7_copyOf_6403c_39 ?_
  exact ⟨rfl, rfl⟩
set_option maxRecDepth 100000 in
set_option maxHeartbeats 4000000 in
theorem c_copyO (G : am_G) (l : Launch) (htr : l.stackTraces = false) (h : am_H) (q r N c : Nat) (hkq : hk_ h q = 12) (hnq : hn_ h q = N) (hNc : N ≤ c) (hc : c ≤ 66) (hr : hk_ h r = 0) (hr0 : r ≠ 0) (hel : ∀ j, j < N → ∃ (ci : Nat) (C : String) (T : u_T) (N' : Nat), am_cl[ci]? = some (C, T, N') ∧ Cond.castable C "java/lang/Object" ∈ am_bw ∧ hk_ h (hr_ h q j) = ci + 1) : am_Met G l yJ7_copyOf_1904c (.code yJ7_copyOf_1904c cJ7_copyOf_1904c 2 (some (.array (.object "java/lang/Object")))) 3 1 66 [.ref (q), .int (nI c)] h (fun v h' => v = some (.ref r) ∧ h' = am_cp (am_new h r 12 c) q r N) (am_no) := by
  refine am_intro rfl htr rfl (Nat.le_of_ble_eq_true rfl) (fun Z hC hR hI => ?_)
  change am_W Z 0 0 0 [.ref (q), .int (nI c)] [] h
  refine am_aload_n hC dJ7_copyOf_1904c_0 rfl ?_
  refine am_iload_n hC dJ7_copyOf_1904c_1 rfl ?_
  refine am_aload_n hC dJ7_copyOf_1904c_2 rfl ?_
  refine am_getC hC hkq tw_244 tw_620 tw_619 tw_245 tw_257 (by decide) ⟨rfl, Nat.le_of_ble_eq_true rfl⟩ dJ7_copyOf_1904c_3 ?_
  refine am_callS hC [.ref (q), .int (nI c), .ref (2)] mf_J7_copyOf_6403c tw_258 (c_copyOf _ _ (am_tr hC) h q r N c hkq hnq hNc hc hr hr0 hel) rfl ⟨rfl, Nat.le_of_ble_eq_true rfl⟩ ⟨by decide, by decide⟩ (by decide) (by decide) dJ7_copyOf_1904c_6 rfl (fun _ _ q _ => False.elim q) (fun v h' hp hlc => ?_)
  obtain ⟨q9, q8⟩ := hp
  subst q8
  subst q9
  refine am_aret hC hR (Or.inr ⟨_, rfl⟩) (by decide) (by decide) dJ7_copyOf_1904c_9 ?_
  exact ⟨rfl, rfl⟩
