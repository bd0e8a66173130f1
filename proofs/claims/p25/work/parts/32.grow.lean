/-! ===== a list grows ===== -/
theorem LT_grow {h g : am_H} {L n cap b ci c : Nat} (hl : LT h L n cap b ci) (hc : cap < c) (h10 : 10 ≤ c) (h44 : c ≤ 44) (e : am_eq (fun r => r = L ∨ r = rw_ L c) h g) (hle : am_le h g) (k : hk_ g (rw_ L c) = 12) (hn : hn_ g (rw_ L c) = c) (h1 : hr_ g L 1 = rw_ L c) (h2 : hi_ g L 2 = hi_ h L 2) (hr : ∀ i, i < n → hr_ g (rw_ L c) i = b + 4 * i) : LT g L n c b ci := by
  obtain ⟨a1, a2, a3, a4, a5, a6, a7, a8⟩ := hl
  refine ⟨(hle L (by omega)).1.trans a1, h2.trans a2, by omega, h44, fun z => by omega, fun _ => ⟨h10, h1, k, hn⟩, fun i hi => ⟨hr i hi, ?_⟩, fun d d1 d2 => ?_⟩
  · have := (a7 i hi).2
    exact (hle _ (by omega)).1.trans this
  · exact (e (rw_ L d) (fun z => by unfold rw_ at z; omega)).1.trans (a8 d (by omega) d2)
theorem LT_add {g : am_H} {L n c b ci : Nat} (hl : LT g L n c b ci) (hn : n < c) (hx : hk_ g (b + 4 * n) = ci + 1) : LT (am_sI (am_sR g (rw_ L c) n (b + 4 * n)) L 2 (nI (n + 1))) L (n + 1) c b ci := by
  obtain ⟨a1, a2, a3, a4, a5, a6, a7, a8⟩ := hl
  have hne : ¬ L = rw_ L c := by unfold rw_; omega
  refine ⟨a1, by rw [hi_sI, if_pos ⟨rfl, rfl⟩], by omega, a4, fun z => by omega, fun z => ?_, fun i hi => ?_, a8⟩
  · obtain ⟨b1, b2, b3, b4⟩ := a6 z
    exact ⟨b1, by rw [hr_sI, hr_sR, if_neg (fun q => hne q.1)]; exact b2, b3, b4⟩
  · rw [hr_sI, hr_sR]
    by_cases z : i = n
    · rw [if_pos ⟨rfl, z⟩, z]
      exact ⟨rfl, hx⟩
    · rw [if_neg (fun q => z q.2)]
      exact a7 i (by omega)
theorem LT_mc {g : am_H} {L n c b ci : Nat} {x : Int32} (hl : LT g L n c b ci) : LT (am_sI g L 0 x) L n c b ci := by
  obtain ⟨a1, a2, a3, a4, a5, a6, a7, a8⟩ := hl
  exact ⟨a1, by rw [hi_sI, if_neg (fun q => absurd q.2 (by decide))]; exact a2, a3, a4, a5, a6, a7, a8⟩
theorem SL_r {L c : Nat} (hc : c < 100) : SL L (rw_ L c) := Or.inr ⟨by unfold rw_; omega, by unfold rw_; omega⟩
theorem rw_ne {L c : Nat} : ¬ L = rw_ L c := by unfold rw_; omega
set_option maxRecDepth 100000 in
set_option maxHeartbeats 4000000 in
theorem c_grow (G : am_G) (l : Launch) (htr : l.stackTraces = false) (h : am_H) (L n cap b ci : Nat) (hl : LT h L n cap b ci) (hn : n = cap) (h30 : n < 30) (hci : LC ci) : am_Met G l yJx4a65c_grow_92f84 (.code yJx4a65c_grow_92f84 cJx4a65c_grow_92f84 4 (some (.array (.object "java/lang/Object")))) 4 1 66 [.ref (L), .int (nI (n + 1))] h (fun v h' => ∃ c, v = some (.ref (rw_ L c)) ∧ am_eq (SL L) h h' ∧ LT h' L n c b ci ∧ n < c) (am_no) := by
  have hl0 := hl
  obtain ⟨hkl, q1, qn, qc, q5, q6, q7, q8⟩ := hl
  refine am_intro rfl htr rfl (Nat.le_of_ble_eq_true rfl) (fun Z hC hR hI => ?_)
  change am_W Z 0 0 0 [.ref (L), .int (nI (n + 1)), .null, .null] [] h
  by_cases hz : cap = 0
  · subst hz
    have e1 : am_eq (fun r => r = L ∨ r = rw_ L 10) h (am_sR (am_new h (rw_ L 10) 12 10) L 1 (rw_ L 10)) := am_eq_tr (am_eq_new (Or.inr rfl)) (am_eq_sR (Or.inl rfl))
    have hdead := q8 10 (by omega) (by omega)
    have l1 : am_le h (am_sR (am_new h (rw_ L 10) 12 10) L 1 (rw_ L 10)) := am_le_tr (am_le_new hdead) (am_le_sR _ _ _ _)
    refine am_aload_n hC dJx4a65c_grow_92f84_0 rfl ?_
    refine am_get (v := .ref (1)) hC (ci := 0) (N := 3) (j := 1) rfl hkl (by decide) tw_44 (Or.inl rfl) dJx4a65c_grow_92f84_1 (am_rfe (q5 rfl)) ?_
    refine am_alen0 hC dJx4a65c_grow_92f84_4 ?_
    change am_W _ _ _ _ _ (.int (nI 0) :: _) _
    refine am_istore_n hC dJx4a65c_grow_92f84_5 (by decide) ?_
    change am_W _ _ _ _ [.ref (L), .int (nI (n + 1)), .int (nI 0), .null] _ _
    refine am_iload_n hC dJx4a65c_grow_92f84_6 rfl ?_
    refine am_if_gt (tgt := 20) hC dJx4a65c_grow_92f84_7 (by decide) (fun c_7 => absurd c_7 (by decide)) (fun c_7 => ?_)
    refine am_aload_n hC dJx4a65c_grow_92f84_10 rfl ?_
    refine am_get (v := .ref (1)) hC (ci := 0) (N := 3) (j := 1) rfl hkl (by decide) tw_44 (Or.inl rfl) dJx4a65c_grow_92f84_11 (am_rfe (q5 rfl)) ?_
    refine am_gets hC tw_42 dJx4a65c_grow_92f84_14 ?_
    refine am_acmp_eq (tgt := 45) hC (Or.inl rfl) dJx4a65c_grow_92f84_17 (by decide) (fun c_17 => ?_) (fun c_17 => absurd rfl c_17)
    refine am_aload_n hC dJx4a65c_grow_92f84_45 rfl ?_
    refine am_bipush (v := nI 10) hC dJx4a65c_grow_92f84_46 (by decide) ?_
    refine am_iload_n hC dJx4a65c_grow_92f84_48 rfl ?_
    refine am_mmax hC tw_270 tw_235 tw_16 tw_236 (by decide) ⟨rfl, Nat.le_of_ble_eq_true rfl⟩ (by decide) (by decide) dJx4a65c_grow_92f84_49 ?_
    rw [mmax_nI (by omega) (by omega), Nat.max_eq_left (by omega)]
    refine am_newQ hC (kk := 12) (N := 10) (rw_ L 10) (Or.inr ⟨rfl, rfl⟩) hdead (by unfold rw_; omega) rfl (by decide) tw_271 tw_262 (by decide) (by decide) dJx4a65c_grow_92f84_52 ?_
    have hkl : hk_ (am_new h (rw_ L 10) 12 10) L = 1 := by rw [hk_new, if_neg rw_ne]; exact hkl
    refine am_dup_x1 hC dJx4a65c_grow_92f84_55 rfl rfl ?_
    refine am_putR hC (ci := 0) (N := 3) (j := 1) rfl hkl (by decide) rfl rfl rfl (Or.inr ⟨_, rfl⟩) tw_44 (Or.inl rfl) dJx4a65c_grow_92f84_56 ?_
    refine am_aret hC hR (Or.inr ⟨_, rfl⟩) (by decide) (by decide) dJx4a65c_grow_92f84_59 ?_
    refine ⟨10, rfl, am_eq_mono (fun r z => ?_) e1, LT_grow hl0 (by omega) (by omega) (by omega) e1 l1 (by rw [hk_sR, hk_new, if_pos rfl]) (by rw [hn_sR, hn_new, if_pos rfl]) (by rw [hr_sR, if_pos ⟨rfl, rfl⟩]) (by rw [hi_sR, hi_new, if_neg rw_ne]) (fun i hi => ?_), by omega⟩
    · rcases z with rfl | rfl
      · exact Or.inl rfl
      · exact SL_r (by omega)
    · omega
  · obtain ⟨q9, q2, q3, q4⟩ := q6 (by omega)
    have hc1 : cap < cap + cap / 2 := by omega
    have hdead := q8 (cap + cap / 2) hc1 (by omega)
    obtain ⟨C, T, N, hC1, hC2⟩ := hci
    have hne : ¬ rw_ L cap = rw_ L (cap + cap / 2) := by unfold rw_; omega
    have hel : ∀ j, j < cap → ∃ (ci : Nat) (C : String) (T : u_T) (N' : Nat), am_cl[ci]? = some (C, T, N') ∧ Cond.castable C "java/lang/Object" ∈ am_bw ∧ hk_ h (hr_ h (rw_ L cap) j) = ci + 1 := fun j hj => ⟨ci, C, T, N, hC1, hC2, by rw [(q7 j (by omega)).1]; exact (q7 j (by omega)).2⟩
    have e1 : am_eq (fun r => r = L ∨ r = rw_ L (cap + cap / 2)) h (am_sR (am_cp (am_new h (rw_ L (cap + cap / 2)) 12 (cap + cap / 2)) (rw_ L cap) (rw_ L (cap + cap / 2)) cap) L 1 (rw_ L (cap + cap / 2))) := am_eq_tr (am_eq_tr (am_eq_new (Or.inr rfl)) (am_eq_cp (Or.inr rfl))) (am_eq_sR (Or.inl rfl))
    have l1 : am_le h (am_sR (am_cp (am_new h (rw_ L (cap + cap / 2)) 12 (cap + cap / 2)) (rw_ L cap) (rw_ L (cap + cap / 2)) cap) L 1 (rw_ L (cap + cap / 2))) := am_le_tr (am_le_tr (am_le_new hdead) (am_le_cp _ _ _ _)) (am_le_sR _ _ _ _)
    refine am_aload_n hC dJx4a65c_grow_92f84_0 rfl ?_
    refine am_get (v := .ref (rw_ L cap)) hC (ci := 0) (N := 3) (j := 1) rfl hkl (by decide) tw_44 (Or.inl rfl) dJx4a65c_grow_92f84_1 (am_rfe q2) ?_
    refine am_alen hC (by decide) q3 q4 dJx4a65c_grow_92f84_4 ?_
    refine am_istore_n hC dJx4a65c_grow_92f84_5 (by decide) ?_
    change am_W _ _ _ _ [.ref (L), .int (nI (n + 1)), .int (nI cap), .null] _ _
    refine am_iload_n hC dJx4a65c_grow_92f84_6 rfl ?_
    refine am_if_gt (tgt := 20) hC dJx4a65c_grow_92f84_7 (by decide) (fun c_7 => ?_) (fun c_7 => absurd (show (0 : Int32) < nI cap from nI_lt (a := 0) (by omega) (by omega)) c_7)
    refine am_iload_n hC dJx4a65c_grow_92f84_20 rfl ?_
    refine am_iload_n hC dJx4a65c_grow_92f84_21 rfl ?_
    refine am_iload_n hC dJx4a65c_grow_92f84_22 rfl ?_
    refine am_isubE (z := nI (n + 1 - cap)) hC dJx4a65c_grow_92f84_23 (pk_sub (by omega)) ?_
    refine am_iload_n hC dJx4a65c_grow_92f84_24 rfl ?_
    refine am_iconst (v := nI 1) hC dJx4a65c_grow_92f84_25 (by decide) ?_
    refine am_ishrE (z := nI (cap / 2)) hC dJx4a65c_grow_92f84_26 (nl_3 _ (by omega)) ?_
    refine am_callS hC [.int (nI cap), .int (nI (n + 1 - cap)), .int (nI (cap / 2))] mf_J8_newLength_cabcc tw_231 (c_newLength _ _ (am_tr hC) h cap (n + 1 - cap) (cap / 2) (by omega) (by omega) (by omega)) rfl ⟨rfl, Nat.le_of_ble_eq_true rfl⟩ ⟨by decide, by decide⟩ (by decide) (by decide) dJx4a65c_grow_92f84_27 rfl (fun _ _ q _ => False.elim q) (fun v h' hp hlc => ?_)
    obtain ⟨z8, z9⟩ := hp
    have z8 := z8.symm
    subst z8
    subst z9
    refine am_istore_n hC dJx4a65c_grow_92f84_30 (by decide) ?_
    change am_W _ _ _ _ [.ref (L), .int (nI (n + 1)), .int (nI cap), .int (nI (cap + cap / 2))] _ _
    refine am_aload_n hC dJx4a65c_grow_92f84_31 rfl ?_
    refine am_aload_n hC dJx4a65c_grow_92f84_32 rfl ?_
    refine am_get (v := .ref (rw_ L cap)) hC (ci := 0) (N := 3) (j := 1) rfl hkl (by decide) tw_44 (Or.inl rfl) dJx4a65c_grow_92f84_33 (am_rfe q2) ?_
    refine am_iload_n hC dJx4a65c_grow_92f84_36 rfl ?_
    refine am_callS hC [.ref (rw_ L cap), .int (nI (cap + cap / 2))] mf_J7_copyOf_1904c tw_241 (c_copyO _ _ (am_tr hC) h (rw_ L cap) (rw_ L (cap + cap / 2)) cap (cap + cap / 2) q3 q4 (by omega) (by omega) hdead (by unfold rw_; omega) hel) rfl ⟨rfl, Nat.le_of_ble_eq_true rfl⟩ ⟨by decide, by decide⟩ (by decide) (by decide) dJx4a65c_grow_92f84_37 rfl (fun _ _ q _ => False.elim q) (fun v h' hp hlc => ?_)
    obtain ⟨z9, z8⟩ := hp
    subst z8
    subst z9
    have hkl : hk_ (am_cp (am_new h (rw_ L (cap + cap / 2)) 12 (cap + cap / 2)) (rw_ L cap) (rw_ L (cap + cap / 2)) cap) L = 1 := by show hk_ (am_new h (rw_ L (cap + cap / 2)) 12 (cap + cap / 2)) L = 1; rw [hk_new, if_neg rw_ne]; exact hkl
    refine am_dup_x1 hC dJx4a65c_grow_92f84_40 rfl rfl ?_
    refine am_putR hC (ci := 0) (N := 3) (j := 1) rfl hkl (by decide) rfl rfl rfl (Or.inr ⟨_, rfl⟩) tw_44 (Or.inl rfl) dJx4a65c_grow_92f84_41 ?_
    refine am_aret hC hR (Or.inr ⟨_, rfl⟩) (by decide) (by decide) dJx4a65c_grow_92f84_44 ?_
    refine ⟨cap + cap / 2, rfl, am_eq_mono (fun r z => ?_) e1, LT_grow hl0 hc1 (by omega) (by omega) e1 l1 ?_ ?_ (by rw [hr_sR, if_pos ⟨rfl, rfl⟩]) ?_ (fun i hi => ?_), by omega⟩
    · rcases z with rfl | rfl
      · exact Or.inl rfl
      · exact SL_r (by omega)
    · show hk_ (am_new h (rw_ L (cap + cap / 2)) 12 (cap + cap / 2)) _ = _
      rw [hk_new, if_pos rfl]
    · show hn_ (am_new h (rw_ L (cap + cap / 2)) 12 (cap + cap / 2)) _ = _
      rw [hn_new, if_pos rfl]
    · show hi_ (am_new h (rw_ L (cap + cap / 2)) 12 (cap + cap / 2)) _ _ = _
      rw [hi_new, if_neg rw_ne]
    · rw [hr_sR, if_neg (fun z => rw_ne z.1.symm), hr_cp, if_pos ⟨rfl, by omega⟩, hr_new, if_neg hne]
      exact (q7 i hi).1
set_option maxRecDepth 100000 in
set_option maxHeartbeats 4000000 in
theorem c_grow0 (G : am_G) (l : Launch) (htr : l.stackTraces = false) (h : am_H) (L n cap b ci : Nat) (hl : LT h L n cap b ci) (hn : n = cap) (h30 : n < 30) (hci : LC ci) : am_Met G l yJx4a65c_grow_d5877 (.code yJx4a65c_grow_d5877 cJx4a65c_grow_d5877 1 (some (.array (.object "java/lang/Object")))) 5 1 66 [.ref (L)] h (fun v h' => ∃ c, v = some (.ref (rw_ L c)) ∧ am_eq (SL L) h h' ∧ LT h' L n c b ci ∧ n < c) (am_no) := by
  have hkl := hl.1
  refine am_intro rfl htr rfl (Nat.le_of_ble_eq_true rfl) (fun Z hC hR hI => ?_)
  change am_W Z 0 0 0 [.ref (L)] [] h
  refine am_aload_n hC dJx4a65c_grow_d5877_0 rfl ?_
  refine am_aload_n hC dJx4a65c_grow_d5877_1 rfl ?_
  refine am_get (v := .int (nI n)) hC (ci := 0) (N := 3) (j := 2) rfl hkl (by decide) tw_45 (Or.inl rfl) dJx4a65c_grow_d5877_2 (congrArg Value.int hl.2.1) ?_
  refine am_iconst (v := nI 1) hC dJx4a65c_grow_d5877_5 (by decide) ?_
  refine am_iaddE (z := nI (n + 1)) hC dJx4a65c_grow_d5877_6 (nI_add (n) (1)) ?_
  refine am_callV hC (ci := 0) (N := 3) [.int (nI (n + 1))] rfl hkl rfl mf_Jx4a65c_grow_92f84 tw_227 (c_grow _ _ (am_tr hC) h L n cap b ci hl hn h30 hci) rfl ⟨rfl, Nat.le_of_ble_eq_true rfl⟩ ⟨by decide, by decide⟩ (by decide) (by decide) dJx4a65c_grow_d5877_7 rfl (fun _ _ q _ => False.elim q) (fun v h' hp hlc => ?_)
  obtain ⟨c, rfl, z1, z2, z3⟩ := hp
  refine am_aret hC hR (Or.inr ⟨_, rfl⟩) (by decide) (by decide) dJx4a65c_grow_d5877_10 ?_
  exact ⟨c, rfl, z1, z2, z3⟩
set_option maxRecDepth 100000 in
set_option maxHeartbeats 4000000 in
theorem c_add3 (G : am_G) (l : Launch) (htr : l.stackTraces = false) (h : am_H) (L n cap b ci ed : Nat) (hl : LT h L n cap b ci) (hed : hr_ h L 1 = ed) (h30 : n < 30) (hci : LC ci) (hx : hk_ h (b + 4 * n) = ci + 1) : am_Met G l yJx4a65c_add_72be8 (.code yJx4a65c_add_72be8 cJx4a65c_add_72be8 4 none) 6 1 66 [.ref (L), .ref (b + 4 * n), .ref (ed), .int (nI n)] h (fun v h' => v = none ∧ am_eq (SL L) h h' ∧ ∃ c, LT h' L (n + 1) c b ci) (am_no) := by
  have hl0 := hl
  obtain ⟨hkl, q1, qn, qc, q5, q6, q7, q8⟩ := hl
  refine am_intro rfl htr rfl (Nat.le_of_ble_eq_true rfl) (fun Z hC hR hI => ?_)
  change am_W Z 0 0 0 [.ref (L), .ref (b + 4 * n), .ref (ed), .int (nI n)] [] h
  have tail : ∀ (kc ks c : Nat) (g : am_H), kc ≤ 1 → ks ≤ 66 → am_eq (SL L) h g → am_le h g → LT g L n c b ci → n < c → am_W Z kc ks 11 [.ref (L), .ref (b + 4 * n), .ref (rw_ L c), .int (nI n)] [] g := by
    intro kc ks c g hkc hks e hle hl hnc
    have hkl := hl.1
    obtain ⟨-, w2, w3, w4⟩ := hl.2.2.2.2.2.1 (by omega)
    have hxg := (hle (b + 4 * n) (by omega)).1.trans hx
    have hcc := hl.2.2.2.1
    obtain ⟨C, T, N, hC1, hC2⟩ := hci
    refine am_aload_n hC dJx4a65c_add_72be8_11 rfl ?_
    refine am_iload_n hC dJx4a65c_add_72be8_12 rfl ?_
    refine am_aload_n hC dJx4a65c_add_72be8_13 rfl ?_
    refine am_aast hC (k' := 3) (ci := ci) (N' := N) (j := n) (N := c) (Or.inr ⟨rfl, hC2⟩) w3 w4 rfl hnc (by omega) (Or.inr hxg) hC1 dJx4a65c_add_72be8_14 ?_
    refine am_aload_n hC dJx4a65c_add_72be8_15 rfl ?_
    refine am_iload_n hC dJx4a65c_add_72be8_16 rfl ?_
    refine am_iconst (v := nI 1) hC dJx4a65c_add_72be8_17 (by decide) ?_
    refine am_iaddE (z := nI (n + 1)) hC dJx4a65c_add_72be8_18 (nI_add (n) (1)) ?_
    refine am_putI hC (ci := 0) (N := 3) (j := 2) rfl hkl (by decide) rfl rfl rfl tw_45 (Or.inl rfl) dJx4a65c_add_72be8_19 ?_
    refine am_vret hC hR (by omega) (by omega) dJx4a65c_add_72be8_22 ?_
    refine ⟨rfl, am_eq_tr e (am_eq_tr (am_eq_sR (SL_r (by omega))) (am_eq_sI (Or.inl rfl))), c, LT_add hl hnc hxg⟩
  by_cases hz : cap = 0
  · subst hz
    have : ed = 1 := by rw [← hed]; exact q5 rfl
    subst this
    obtain rfl : n = 0 := by omega
    refine am_iload_n hC dJx4a65c_add_72be8_0 rfl ?_
    refine am_aload_n hC dJx4a65c_add_72be8_1 rfl ?_
    refine am_alen0 hC dJx4a65c_add_72be8_2 ?_
    change am_W _ _ _ _ _ (.int (nI 0) :: _) _
    refine am_icmp_ne (tgt := 11) hC dJx4a65c_add_72be8_3 (by decide) (fun c_3 => absurd rfl c_3) (fun c_3 => ?_)
    refine am_aload_n hC dJx4a65c_add_72be8_6 rfl ?_
    refine am_callV hC (ci := 0) (N := 3) [] rfl hkl rfl mf_Jx4a65c_grow_d5877 tw_223 (c_grow0 _ _ (am_tr hC) h L 0 _ b ci hl0 (by omega) h30 hci) rfl ⟨rfl, Nat.le_of_ble_eq_true rfl⟩ ⟨by decide, by decide⟩ (by decide) (by decide) dJx4a65c_add_72be8_7 rfl (fun _ _ q _ => False.elim q) (fun v h' hp hlc => ?_)
    obtain ⟨c, rfl, z1, z2, z3⟩ := hp
    refine am_astore_n hC dJx4a65c_add_72be8_10 (by decide) ?_
    change am_W _ _ _ _ [.ref (L), .ref (b + 4 * 0), .ref (rw_ L c), .int (nI 0)] _ _
    exact tail _ _ c h' (by omega) (by omega) z1 hlc z2 z3
  · obtain ⟨-, w2, w3, w4⟩ := q6 (by omega)
    have : ed = rw_ L cap := by rw [← hed]; exact w2
    subst this
    by_cases hnc : n = cap
    · subst hnc
      refine am_iload_n hC dJx4a65c_add_72be8_0 rfl ?_
      refine am_aload_n hC dJx4a65c_add_72be8_1 rfl ?_
      refine am_alen hC (by decide) w3 w4 dJx4a65c_add_72be8_2 ?_
      refine am_icmp_ne (tgt := 11) hC dJx4a65c_add_72be8_3 (by decide) (fun c_3 => absurd rfl c_3) (fun c_3 => ?_)
      refine am_aload_n hC dJx4a65c_add_72be8_6 rfl ?_
      refine am_callV hC (ci := 0) (N := 3) [] rfl hkl rfl mf_Jx4a65c_grow_d5877 tw_223 (c_grow0 _ _ (am_tr hC) h L n _ b ci hl0 (by omega) h30 hci) rfl ⟨rfl, Nat.le_of_ble_eq_true rfl⟩ ⟨by decide, by decide⟩ (by decide) (by decide) dJx4a65c_add_72be8_7 rfl (fun _ _ q _ => False.elim q) (fun v h' hp hlc => ?_)
      obtain ⟨c, rfl, z1, z2, z3⟩ := hp
      refine am_astore_n hC dJx4a65c_add_72be8_10 (by decide) ?_
      change am_W _ _ _ _ [.ref (L), .ref (b + 4 * n), .ref (rw_ L c), .int (nI n)] _ _
      exact tail _ _ c h' (by omega) (by omega) z1 hlc z2 z3
    · have hnc2 : n < cap := by omega
      refine am_iload_n hC dJx4a65c_add_72be8_0 rfl ?_
      refine am_aload_n hC dJx4a65c_add_72be8_1 rfl ?_
      refine am_alen hC (by decide) w3 w4 dJx4a65c_add_72be8_2 ?_
      refine am_icmp_ne (tgt := 11) hC dJx4a65c_add_72be8_3 (by decide) (fun c_3 => ?_) (fun c_3 => absurd c_3 (fun z => hnc ((nI_eq (by omega) (by omega)).mp z)))
      exact tail _ _ cap h (by omega) (by omega) (am_eq_rf _ _) (am_le_rf _) hl0 hnc2
set_option maxRecDepth 100000 in
set_option maxHeartbeats 4000000 in
theorem c_add (G : am_G) (l : Launch) (htr : l.stackTraces = false) (h : am_H) (L n cap b ci : Nat) (hl : LT h L n cap b ci) (h30 : n < 30) (hci : LC ci) (hx : hk_ h (b + 4 * n) = ci + 1) : am_Met G l yJx4a65c_add_9ea2d (.code yJx4a65c_add_9ea2d cJx4a65c_add_9ea2d 2 (some .boolean)) 7 1 66 [.ref (L), .ref (b + 4 * n)] h (fun v h' => v = some (.int (nI 1)) ∧ am_eq (SL L) h h' ∧ ∃ c, LT h' L (n + 1) c b ci) (am_no) := by
  have hkl := hl.1
  obtain ⟨ed, hed⟩ : ∃ ed, hr_ h L 1 = ed := ⟨_, rfl⟩
  refine am_intro rfl htr rfl (Nat.le_of_ble_eq_true rfl) (fun Z hC hR hI => ?_)
  change am_W Z 0 0 0 [.ref (L), .ref (b + 4 * n)] [] h
  refine am_aload_n hC dJx4a65c_add_9ea2d_0 rfl ?_
  refine am_dup hC dJx4a65c_add_9ea2d_1 rfl ?_
  refine am_get (v := .int (hi_ h L 0)) hC (ci := 0) (N := 3) (j := 0) rfl hkl (by decide) tw_47 (Or.inr tw_48) dJx4a65c_add_9ea2d_2 rfl ?_
  refine am_iconst (v := nI 1) hC dJx4a65c_add_9ea2d_5 (by decide) ?_
  refine am_iaddE (z := hi_ h L 0 + nI 1) hC dJx4a65c_add_9ea2d_6 rfl ?_
  refine am_putI hC (ci := 0) (N := 3) (j := 0) rfl hkl (by decide) rfl rfl rfl tw_47 (Or.inr tw_48) dJx4a65c_add_9ea2d_7 ?_
  have hl1 := LT_mc (x := hi_ h L 0 + nI 1) hl
  have hed : hr_ (am_sI h L 0 (hi_ h L 0 + nI 1)) L 1 = ed := hed
  have hkl : hk_ (am_sI h L 0 (hi_ h L 0 + nI 1)) L = 1 := hkl
  refine am_aload_n hC dJx4a65c_add_9ea2d_10 rfl ?_
  refine am_aload_n hC dJx4a65c_add_9ea2d_11 rfl ?_
  refine am_aload_n hC dJx4a65c_add_9ea2d_12 rfl ?_
  refine am_get (v := .ref (ed)) hC (ci := 0) (N := 3) (j := 1) rfl hkl (by decide) tw_44 (Or.inl rfl) dJx4a65c_add_9ea2d_13 (am_rfe hed) ?_
  refine am_aload_n hC dJx4a65c_add_9ea2d_16 rfl ?_
  refine am_get (v := .int (nI n)) hC (ci := 0) (N := 3) (j := 2) rfl hkl (by decide) tw_45 (Or.inl rfl) dJx4a65c_add_9ea2d_17 (congrArg Value.int hl1.2.1) ?_
  refine am_callV hC (ci := 0) (N := 3) [.ref (b + 4 * n), .ref (ed), .int (nI n)] rfl hkl rfl mf_Jx4a65c_add_72be8 tw_219 (c_add3 _ _ (am_tr hC) (am_sI h L 0 (hi_ h L 0 + nI 1)) L n cap b ci ed hl1 hed h30 hci hx) rfl ⟨rfl, Nat.le_of_ble_eq_true rfl⟩ ⟨by decide, by decide⟩ (by decide) (by decide) dJx4a65c_add_9ea2d_20 rfl (fun _ _ q _ => False.elim q) (fun v h' hp hlc => ?_)
  obtain ⟨rfl, z1, z2⟩ := hp
  refine am_iconst (v := nI 1) hC dJx4a65c_add_9ea2d_23 (by decide) ?_
  refine am_iret hC hR rfl (by decide) (by decide) dJx4a65c_add_9ea2d_24 ?_
  exact ⟨rfl, am_eq_tr (am_eq_sI (Or.inl rfl)) z1, z2⟩
