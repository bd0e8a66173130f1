/-! ===== the class's calls: begin, grant, print ===== -/
theorem KPm_eq {S : Nat → Prop} {h g : am_H} {n i : Nat} (hS : ∀ r, S r → offD r) (h0 : ¬ S (200 + 4 * i)) (h2 : ¬ S (202 + 4 * i)) (h3 : ¬ S (203 + 4 * i)) (e : am_eq S h g) (hD : DL h n) (hn6 : n ≤ 6) (hd : pdH h i < n) : pdH g i = pdH h i ∧ (KPm g i ↔ KPm h i) := by
  have e0 : pdH g i = pdH h i := by unfold pdH; rw [(e _ h0).2.2.2.1]
  refine ⟨e0, ?_⟩
  unfold KPm KP
  rw [e0]
  constructor
  · rintro ⟨a, b⟩
    exact ⟨fun s hs => ((e _ h2).2.2.1 s).symm.trans ((a s hs).trans (sdF_eq hS e hD hn6 hd)), fun k hk => ((e _ h3).2.2.1 k).symm.trans ((b k hk).trans (congrArg b2i (exF_eq hS e hD hn6 hd)))⟩
  · rintro ⟨a, b⟩
    exact ⟨fun s hs => ((e _ h2).2.2.1 s).trans ((a s hs).trans (sdF_eq hS e hD hn6 hd).symm), fun k hk => ((e _ h3).2.2.1 k).trans ((b k hk).trans (congrArg b2i (exF_eq hS e hD hn6 hd)).symm)⟩
theorem KQm_eq {S : Nat → Prop} {h g : am_H} {n i : Nat} (hS : ∀ r, S r → offD r) (h0 : ¬ S (300 + 4 * i)) (h2 : ¬ S (302 + 4 * i)) (h3 : ¬ S (303 + 4 * i)) (e : am_eq S h g) (hD : DL h n) (hn6 : n ≤ 6) (hd : qdH h i < n) : qdH g i = qdH h i ∧ (KQm g i ↔ KQm h i) := by
  have e0 : qdH g i = qdH h i := by unfold qdH; rw [(e _ h0).2.2.2.1]
  refine ⟨e0, ?_⟩
  unfold KQm KP
  rw [e0]
  constructor
  · rintro ⟨a, b⟩
    exact ⟨fun s hs => ((e _ h2).2.2.1 s).symm.trans ((a s hs).trans (sdF_eq hS e hD hn6 hd)), fun k hk => ((e _ h3).2.2.1 k).symm.trans ((b k hk).trans (congrArg b2i (exF_eq hS e hD hn6 hd)))⟩
  · rintro ⟨a, b⟩
    exact ⟨fun s hs => ((e _ h2).2.2.1 s).trans ((a s hs).trans (sdF_eq hS e hD hn6 hd).symm), fun k hk => ((e _ h3).2.2.1 k).trans ((b k hk).trans (congrArg b2i (exF_eq hS e hD hn6 hd)).symm)⟩
theorem HPm_cg {h g : am_H} {np d : Nat} {R : Int32} (e : ∀ k, k < np → (pdH g k = pdH h k ∧ (KPm g k ↔ KPm h k))) (a : HPm g np d R) : HPm h np d R := by
  have E : ∀ k, k < np → ((pdH g k = d ∧ KPm g k) ↔ (pdH h k = d ∧ KPm h k)) := fun k hk => by rw [(e k hk).1, (e k hk).2]
  rcases a with ⟨rfl, a⟩ | ⟨k, hk, rfl, a1, a2⟩
  · exact Or.inl ⟨rfl, fun k hk z => a k hk ((E k hk).mpr z)⟩
  · exact Or.inr ⟨k, hk, rfl, (E k hk).mp a1, fun j h1 h2 z => a2 j h1 h2 ((E j h2).mpr z)⟩
theorem pd_lt {h : am_H} {n i : Nat} (hp : PMx h n i) : pdH h i < n := by
  obtain ⟨-, -, -, d, hd, e⟩ := hp
  rw [pd_of e]
  exact hd
theorem qd_lt {h : am_H} {n i : Nat} (hp : PNx h n i) : qdH h i < n := by
  obtain ⟨-, -, -, d, hd, e⟩ := hp
  rw [qd_of e]
  exact hd
theorem CJ_new {h : am_H} {n np nq : Nat} (hn : nq < 30) (hc : CI h n np nq) : CJ (am_new h (300 + 4 * nq) 5 0) n np nq := by
  obtain ⟨⟨f, dl, xb⟩, ⟨n6, np20, nq30⟩, ⟨⟨c4, l4⟩, ⟨c5, l5⟩, ⟨c6, l6⟩⟩, ⟨pm, pn⟩, dd⟩ := hc
  have e : am_eq (fun r => r = 300 + 4 * nq) h (am_new h (300 + 4 * nq) 5 0) := am_eq_new rfl
  have hle : am_le h (am_new h (300 + 4 * nq) 5 0) := am_le_new (dd _ (by unfold ded; omega))
  have hL : ∀ L, ∀ r, r = 300 + 4 * nq → 4 ≤ L → L ≤ 6 → ¬ SL L r := fun L r z h1 h2 q => by unfold SL at q; omega
  have hso : ∀ r, r = 300 + 4 * nq → offD r := fun r z => by unfold offD; omega
  exact ⟨⟨FC_eq (fun r z => by omega) e hle f, DL_off hso e n6 dl, XB_eq hso e n6 xb⟩, ⟨n6, np20, nq30⟩, ⟨⟨c4, LT_eq (fun r z => hL 4 r z (by decide) (by decide)) e hle l4⟩, ⟨c5, LT_eq (fun r z => hL 5 r z (by decide) (by decide)) e hle l5⟩, ⟨c6, LT_eq (fun r z => hL 6 r z (by decide) (by decide)) e hle l6⟩⟩, ⟨fun i hi => PMx_e ⟨fun z => by omega, fun z => by omega⟩ e hle (pm i hi), fun i hi => PNx_e ⟨fun z => by omega, fun z => by omega⟩ e hle (pn i hi)⟩, trivial⟩
set_option maxRecDepth 100000 in
set_option maxHeartbeats 4000000 in
theorem c_X5_begin (G : am_G) (l : Launch) (htr : l.stackTraces = false) (h : am_H) (n np nq : Nat) (hci : CI h n np nq) : am_Met G l yX5_begin (.code yX5_begin cX5_begin 2 (some .int)) 9 8 160 [.ref (3)] h (fun v h' => (k3 (decide (n < 6)) true true) = 0 ∧ v = some (.int (nI n)) ∧ am_eq (SB n) h h' ∧ am_le h h' ∧ CI h' (n + 1) np nq ∧ ND h' n) (fun X h' => h' = h ∧ EX ["java/lang/IllegalStateException"] (k3 (decide (n < 6)) true true) X) := by
  have hF := hci.1.1
  have hD := hci.1.2.1
  have hB := hci.1.2.2
  have hn6 := hci.2.1.1
  have hn20 := hci.2.1.2.1
  have hn30 := hci.2.1.2.2
  obtain ⟨⟨c4, l4⟩, ⟨c5, l5⟩, ⟨c6, l6⟩⟩ := hci.2.2.1
  have dd := hci.2.2.2.2
  refine am_intro rfl htr rfl (Nat.le_of_ble_eq_true rfl) (fun Z hC hR hI => ?_)
  change am_W Z 0 0 0 [.ref (3), .null] [] h
  refine am_aload_n hC dX5_begin_0 rfl ?_
  refine am_get (v := .ref (4)) hC (ci := 6) (N := 4) (j := 0) rfl (kC_3 hF) (by decide) tw_94 (Or.inl rfl) dX5_begin_1 (am_rfe (rC_3_0 hF)) ?_
  refine am_callV hC (ci := 0) (N := 3) [] rfl (kC_4 hF) rfl mf_Jx4a65c_size_8abf5 tw_111 (c_size _ _ (am_tr hC) h 4 n c4 100 1 l4) rfl ⟨rfl, Nat.le_of_ble_eq_true rfl⟩ ⟨by decide, by decide⟩ (by decide) (by decide) dX5_begin_4 rfl (fun _ _ q _ => False.elim q) (fun v h' hp hlc => ?_)
  obtain ⟨z8, z9⟩ := hp
  have z8 := z8.symm
  subst z8
  subst z9
  refine am_istore_n hC dX5_begin_7 (by decide) ?_
  change am_W _ _ _ _ [.ref (3), .int (nI n)] _ _
  refine am_iload_n hC dX5_begin_8 rfl ?_
  refine am_bipush (v := nI 6) hC dX5_begin_9 (by decide) ?_
  refine am_icmp_lt (tgt := 24) hC dX5_begin_11 (by decide) (fun c_11 => ?_) (fun c_11 => ?_)
  · replace c_11 : n < 6 := (nI_ltI (a := n) (b := 6) (by omega) (by omega)).mp c_11
    refine am_aload_n hC dX5_begin_24 rfl ?_
    refine am_get (v := .ref (4)) hC (ci := 6) (N := 4) (j := 0) rfl (kC_3 hF) (by decide) tw_94 (Or.inl rfl) dX5_begin_25 (am_rfe (rC_3_0 hF)) ?_
    refine am_newO hC (ci := 1) (N := 5) (100 + 4 * n) rfl (dd (100 + 4 * n) (by unfold ded; omega)) (by omega) tw_183 tw_184 tw_9 (by decide) (by decide) dX5_begin_28 ?_
    refine am_dup hC dX5_begin_31 rfl ?_
    refine am_callIN hC [] (by omega) mf_X0_init tw_185 (c_X0_init _ _ (am_tr hC) (am_new h (100 + 4 * n) 2 0) (100 + 4 * n) (101 + 4 * n) (102 + 4 * n) (103 + 4 * n) (by rw [hk_new, if_pos rfl]) (by rw [hk_new, if_neg (by omega)]; exact (dd (101 + 4 * n) (by unfold ded; omega))) (by rw [hk_new, if_neg (by omega)]; exact (dd (102 + 4 * n) (by unfold ded; omega))) (by rw [hk_new, if_neg (by omega)]; exact (dd (103 + 4 * n) (by unfold ded; omega))) (by omega) (by omega) (by omega) ⟨by omega, by omega, by omega, by omega⟩) rfl ⟨rfl, Nat.le_of_ble_eq_true rfl⟩ ⟨by decide, by decide⟩ (by decide) (by decide) dX5_begin_32 rfl (fun _ _ q _ => False.elim q) (fun v h1 hp hlc => ?_)
    obtain ⟨rfl, e1, q1, q2, q3, q4, q5, q6⟩ := hp
    have l1 := am_le_tr (am_le_new (dd (100 + 4 * n) (by unfold ded; omega))) hlc
    have eN : am_eq (fun r => r = 100 + 4 * n ∨ r = 101 + 4 * n ∨ r = 102 + 4 * n ∨ r = 103 + 4 * n) h h1 := am_eq_tr (am_eq_new (Or.inl rfl)) e1
    have l41 := LT_eq (fun r z q => by unfold SL at q; omega) eN l1 l4
    have hF := FC_eq (fun r z => by omega) eN l1 hF
    refine am_callV hC (ci := 0) (N := 3) [.ref (100 + 4 * n)] rfl (kC_4 hF) rfl mf_Jx4a65c_add_9ea2d tw_215 (c_add _ _ (am_tr hC) h1 4 n c4 100 1 l41 (by omega) LC_1 q1.1) rfl ⟨rfl, Nat.le_of_ble_eq_true rfl⟩ ⟨by decide, by decide⟩ (by decide) (by decide) dX5_begin_35 rfl (fun _ _ q _ => False.elim q) (fun v h2 hp l2 => ?_)
    obtain ⟨rfl, e2, l42⟩ := hp
    refine am_pop hC dX5_begin_38 rfl ?_
    refine am_iload_n hC dX5_begin_39 rfl ?_
    refine am_iret hC hR rfl (by decide) (by decide) dX5_begin_40 ?_
    have es : ∀ r, 100 + 4 * n ≤ r → r < 104 + 4 * n → ¬ SL 4 r := fun r z1 z2 q => by unfold SL at q; omega
    have f0 := e2 (100 + 4 * n) (es _ (by omega) (by omega))
    have f1 := e2 (101 + 4 * n) (es _ (by omega) (by omega))
    have f2 := e2 (102 + 4 * n) (es _ (by omega) (by omega))
    have f3 := e2 (103 + 4 * n) (es _ (by omega) (by omega))
    have eB : am_eq (SB n) h h2 := am_eq_tr (am_eq_mono (fun r z => Or.inr z) eN) (am_eq_mono (fun r z => Or.inl z) e2)
    obtain ⟨k1, k2, k3, k4, k5, k6, k7⟩ := q1
    obtain ⟨r1, r2, r3⟩ := q2
    refine ⟨k3_0 (decide_eq_true c_11) rfl rfl, rfl, eB, am_le_tr l1 l2, CI_begin c_11 hci eB (am_le_tr l1 l2) l42 ⟨f0.1.trans k1, f1.1.trans k2, f1.2.1.trans k3, f2.1.trans k4, f2.2.1.trans k5, f3.1.trans k6, f3.2.1.trans k7⟩ ⟨(f0.2.2.2.1 _).trans r1, (f0.2.2.2.1 _).trans r2, (f0.2.2.2.1 _).trans r3⟩ (fun k => (f2.2.2.1 k).trans (q5 k)) (fun k => (f3.2.2.2.1 k).trans (q6 k)), fun s hs => (f1.2.2.1 s).trans (q4 s hs), fun c hc => ?_, fun k => ?_, (f0.2.2.1 _).trans q3.1, (f0.2.2.1 _).trans q3.2⟩
    · exact decide_eq_false (fun z => z ((f2.2.2.1 c).trans (q5 c)))
    · exact decide_eq_false (fun z => z ((f3.2.2.2.1 k).trans (q6 k)))
  · replace c_11 : ¬ n < 6 := fun q9 => c_11 ((nI_ltI (a := n) (b := 6) (by omega) (by omega)).mpr q9)
    refine am_throw hC hR (X := "java/lang/IllegalStateException") (text := "there are 6 drawings") (by decide +kernel) tw_115 tw_13 tw_156 xw_RX5_37 ⟨rfl, Nat.le_of_ble_eq_true rfl⟩ (by decide) (by decide) (by decide) dX5_begin_14 dX5_begin_17 dX5_begin_18 dX5_begin_20 dX5_begin_23 ?_
    exact ⟨rfl, EX_1 (decide_eq_false c_11)⟩
set_option maxRecDepth 100000 in
set_option maxHeartbeats 4000000 in
theorem c_X5_grant (G : am_G) (l : Launch) (htr : l.stackTraces = false) (h : am_H) (n np nq : Nat) (hci : CI h n np nq) (D : Int32) : am_Met G l yX5_grant (.code yX5_grant cX5_grant 4 (some .int)) 11 10 190 [.ref (3), .int (D)] h (fun v h' => (∀ R : Bool, VW (sdH h (dn D)) (exH h (dn D)) R → (k3 (IX n D) (decide (np < 20) && R) true) = 0) ∧ v = some (.int (nI np)) ∧ am_eq (SG np) h h' ∧ am_le h h' ∧ CI h' n (np + 1) nq ∧ pdH h' np = dn D ∧ (∀ s, s < 40 → hi_ h' (202 + 4 * np) s = sdH h (dn D) s) ∧ ∀ k, k < 25 → hi_ h' (203 + 4 * np) k = b2i (exH h (dn D) k)) (fun X h' => am_eq FS h h' ∧ am_le h h' ∧ ∀ R : Bool, VW (sdH h (dn D)) (exH h (dn D)) R → EX ["java/lang/IndexOutOfBoundsException", "java/lang/IllegalStateException"] (k3 (IX n D) (decide (np < 20) && R) true) X) := by
  have hF := hci.1.1
  have hD := hci.1.2.1
  have hB := hci.1.2.2
  have hn6 := hci.2.1.1
  have hn20 := hci.2.1.2.1
  have hn30 := hci.2.1.2.2
  obtain ⟨⟨c4, l4⟩, ⟨c5, l5⟩, ⟨c6, l6⟩⟩ := hci.2.2.1
  refine am_intro rfl htr rfl (Nat.le_of_ble_eq_true rfl) (fun Z hC hR hI => ?_)
  change am_W Z 0 0 0 [.ref (3), .int (D), .null, .null] [] h
  refine am_aload_n hC dX5_grant_0 rfl ?_
  refine am_iload_n hC dX5_grant_1 rfl ?_
  refine am_callV hC (ci := 6) (N := 4) [.int (D)] rfl (kC_3 hF) rfl mf_X5_drawingAt tw_276 (c_X5_drawingAt _ _ (am_tr hC) h n np nq hci D) rfl ⟨rfl, Nat.le_of_ble_eq_true rfl⟩ ⟨by decide, by decide⟩ (by decide) (by decide) dX5_grant_2 rfl (fun X g hx hle => am_out hC hR (by decide) (by decide) (by obtain ⟨hx1, hx2, hx⟩ := hx; subst hx1; subst hx2; exact ⟨am_eq_rf _ _, am_le_rf _, fun R _ => EX_1 (IX_n (by omega) hx)⟩)) (fun v h' hp hlc => ?_)
  obtain ⟨z8, d, hd, z7, z9⟩ := hp
  have z8 := z8.symm
  subst z8
  subst z9
  subst z7
  refine am_astore_n hC dX5_grant_5 (by decide) ?_
  change am_W _ _ _ _ [.ref (3), .int (nI d), .ref (100 + 4 * d), .null] _ _
  refine am_aload_n hC dX5_grant_6 rfl ?_
  refine am_get (v := .ref (5)) hC (ci := 6) (N := 4) (j := 1) rfl (kC_3 hF) (by decide) tw_95 (Or.inl rfl) dX5_grant_7 (am_rfe (rC_3_1 hF)) ?_
  refine am_callV hC (ci := 0) (N := 3) [] rfl (kC_5 hF) rfl mf_Jx4a65c_size_8abf5 tw_111 (c_size _ _ (am_tr hC) h 5 np c5 200 3 l5) rfl ⟨rfl, Nat.le_of_ble_eq_true rfl⟩ ⟨by decide, by decide⟩ (by decide) (by decide) dX5_grant_10 rfl (fun _ _ q _ => False.elim q) (fun v h' hp hlc => ?_)
  obtain ⟨z8, z9⟩ := hp
  have z8 := z8.symm
  subst z8
  subst z9
  refine am_istore_n hC dX5_grant_13 (by decide) ?_
  change am_W _ _ _ _ [.ref (3), .int (nI d), .ref (100 + 4 * d), .int (nI np)] _ _
  refine am_iload_n hC dX5_grant_14 rfl ?_
  refine am_bipush (v := nI 20) hC dX5_grant_15 (by decide) ?_
  refine am_icmp_lt (tgt := 30) hC dX5_grant_17 (by decide) (fun c_17 => ?_) (fun c_17 => ?_)
  · replace c_17 : np < 20 := (nI_ltI (a := np) (b := 20) (by omega) (by omega)).mp c_17
    refine am_aload_n hC dX5_grant_30 rfl ?_
    refine am_get (v := .ref (7)) hC (ci := 6) (N := 4) (j := 3) rfl (kC_3 hF) (by decide) tw_97 (Or.inl rfl) dX5_grant_31 (am_rfe (rC_3_3 hF)) ?_
    refine am_aload_n hC dX5_grant_34 rfl ?_
    refine am_callVN hC (ci := 2) (N := 4) [.ref (100 + 4 * d)] rfl (kC_7 hF) rfl mf_X1_lookAt tw_365 (c_X1_lookAt _ _ (am_tr hC) h hF n hD hn6 hB d hd) rfl ⟨rfl, Nat.le_of_ble_eq_true rfl⟩ ⟨by decide, by decide⟩ (by decide) (by decide) dX5_grant_35 rfl (fun _ _ q _ => False.elim q) (fun v h1 hp l1 => ?_)
    obtain ⟨rfl, e1, ro, Dx, k1, k2, k3, k4, k5, k6⟩ := hp
    have eF : am_eq FS h h1 := am_eq_mono (fun r z => ⟨z.1, by have := z.2; omega⟩) e1
    have hci1 := CI_eq (S := FS) (fun r z => ⟨z.1, by have := z.2; omega⟩) eF l1 hci
    have hF0 := hF
    have hF := hci1.1.1
    have hrl : ∀ c, c < 25 → ro c < 25 := fun c hc => Room_lt k3 hc
    have hD1 := hci1.1.2.1
    have hB1 := hci1.1.2.2
    obtain ⟨c51, l51⟩ := hci1.2.2.1.2.1
    have dd1 := hci1.2.2.2.2
    refine am_aload_n hC dX5_grant_38 rfl ?_
    refine am_get (v := .ref (7)) hC (ci := 6) (N := 4) (j := 3) rfl (kC_3 hF) (by decide) tw_97 (Or.inl rfl) dX5_grant_39 (am_rfe (rC_3_3 hF)) ?_
    refine am_callVN hC (ci := 2) (N := 4) [] rfl (kC_7 hF) rfl mf_X1_everyRoomHasWayOut tw_501 (c_X1_everyRoom _ _ (am_tr hC) h1 hF ro k4 hrl Dx k6 (fun r hr k hk => Dist_lt k5 hr hk)) rfl ⟨rfl, Nat.le_of_ble_eq_true rfl⟩ ⟨by decide, by decide⟩ (by decide) (by decide) dX5_grant_42 rfl (fun _ _ q _ => False.elim q) (fun v h' hp hlc => ?_)
    obtain ⟨z8, R0, z9, hR9⟩ := hp
    have z8 := z8.symm
    subst z8
    subst z9
    have hV : VW (sdH h d) (exH h d) R0 := ⟨ro, Dx, k3, k5, hR9⟩
    refine am_if_ne (tgt := 58) hC dX5_grant_45 (by decide) (fun c_45 => ?_) (fun c_45 => ?_)
    · refine am_aload_n hC dX5_grant_58 rfl ?_
      refine am_get (v := .ref (5)) hC (ci := 6) (N := 4) (j := 1) rfl (kC_3 hF) (by decide) tw_95 (Or.inl rfl) dX5_grant_59 (am_rfe (rC_3_1 hF)) ?_
      refine am_newO hC (ci := 3) (N := 2) (200 + 4 * np) rfl (dd1 (200 + 4 * np) (by unfold ded; omega)) (by omega) tw_506 tw_507 tw_20 (by decide) (by decide) dX5_grant_62 ?_
      have eP : am_eq (fun r => FS r ∨ r = 200 + 4 * np) h (am_new h1 (200 + 4 * np) 4 0) := am_eq_tr (am_eq_mono (fun r z => Or.inl z) eF) (am_eq_new (Or.inr rfl))
      have eQ : am_eq (fun r => r = 200 + 4 * np) h1 (am_new h1 (200 + 4 * np) 4 0) := am_eq_new rfl
      have lQ : am_le h1 (am_new h1 (200 + 4 * np) 4 0) := am_le_new (dd1 (200 + 4 * np) (by unfold ded; omega))
      have hoP : ∀ r, (fun r => FS r ∨ r = 200 + 4 * np) r → offD r := fun r z => by unfold offD; rcases z with z | z; exact Or.inl (by have := z.2; omega); exact Or.inr (by omega)
      have hoQ : ∀ r, (fun r => r = 200 + 4 * np) r → offD r := fun r z => hoP r (Or.inr z)
      refine am_dup hC dX5_grant_65 rfl ?_
      refine am_aload_n hC dX5_grant_66 rfl ?_
      refine am_callIN hC [.ref (100 + 4 * d)] (by omega) mf_X2_init tw_508 (c_X2_init _ _ (am_tr hC) (am_new h1 (200 + 4 * np) 4 0) n d (DL_off hoQ eQ hn6 hD1) hn6 (XB_eq hoQ eQ hn6 hB1) hd (200 + 4 * np) (201 + 4 * np) (202 + 4 * np) (203 + 4 * np) (by rw [hk_new, if_pos rfl]) (by rw [hk_new, if_neg (by omega)]; exact dd1 (201 + 4 * np) (by unfold ded; omega)) (by rw [hk_new, if_neg (by omega)]; exact dd1 (202 + 4 * np) (by unfold ded; omega)) (by rw [hk_new, if_neg (by omega)]; exact dd1 (203 + 4 * np) (by unfold ded; omega)) (by omega) (by omega) (by omega) ⟨by omega, by omega, by omega, by omega⟩) rfl ⟨rfl, Nat.le_of_ble_eq_true rfl⟩ ⟨by decide, by decide⟩ (by decide) (by decide) dX5_grant_67 rfl (fun _ _ q _ => False.elim q) (fun v h2 hp l2 => ?_)
      obtain ⟨rfl, e3, q1, q2, q3, q4, q5, q6⟩ := hp
      have eN : am_eq (fun r => r = 200 + 4 * np ∨ r = 201 + 4 * np ∨ r = 202 + 4 * np ∨ r = 203 + 4 * np) h1 h2 := am_eq_tr (am_eq_mono (fun r z => Or.inl z) eQ) e3
      have l2 := am_le_tr lQ l2
      have l52 := LT_eq (fun r z q => by unfold SL at q; omega) eN l2 l51
      have hF := FC_eq (fun r z => by omega) eN l2 hF
      refine am_callV hC (ci := 0) (N := 3) [.ref (200 + 4 * np)] rfl (kC_5 hF) rfl mf_Jx4a65c_add_9ea2d tw_215 (c_add _ _ (am_tr hC) h2 5 np c51 200 3 l52 (by omega) LC_3 q1) rfl ⟨rfl, Nat.le_of_ble_eq_true rfl⟩ ⟨by decide, by decide⟩ (by decide) (by decide) dX5_grant_70 rfl (fun _ _ q _ => False.elim q) (fun v h3 hp l3 => ?_)
      obtain ⟨rfl, e4, l53⟩ := hp
      refine am_pop hC dX5_grant_73 rfl ?_
      refine am_iload_n hC dX5_grant_74 rfl ?_
      refine am_iret hC hR rfl (by decide) (by decide) dX5_grant_75 ?_
      have es : ∀ r, 200 + 4 * np ≤ r → r < 204 + 4 * np → ¬ SL 5 r := fun r z1 z2 q => by unfold SL at q; omega
      have f0 := e4 (200 + 4 * np) (es _ (by omega) (by omega))
      have f1 := e4 (201 + 4 * np) (es _ (by omega) (by omega))
      have f2 := e4 (202 + 4 * np) (es _ (by omega) (by omega))
      have f3 := e4 (203 + 4 * np) (es _ (by omega) (by omega))
      have eG : am_eq (SG np) h h3 := am_eq_tr (am_eq_tr (am_eq_mono (fun r z => Or.inl z) eF) (am_eq_mono (fun r z => Or.inr (Or.inr z)) eN)) (am_eq_mono (fun r z => Or.inr (Or.inl z)) e4)
      have l9 := am_le_tr l1 (am_le_tr l2 l3)
      have hd3 : hr_ h3 (200 + 4 * np) 0 = 100 + 4 * d := (f0.2.2.2.1 _).trans q3
      refine ⟨fun R hR8 => ?_, rfl, eG, l9, CI_grant c_17 hci eG l9 l53 ⟨f0.1.trans q1, (f0.2.2.2.1 _).trans q2, ST_eq (es _ (by omega) (by omega)) e4 l3 q4, d, hd, hd3⟩, ?_, fun s hs => ?_, fun k hk => ?_⟩
      · rw [dn_nI (by omega)] at hR8
        exact k3_0 (IX_y (by omega) hd rfl) (by rw [VW_u hR8 hV, decide_eq_true c_17, b2i_ne c_45]; rfl) rfl
      · rw [dn_nI (by omega)]; exact pd_of hd3
      · rw [dn_nI (by omega)]; exact (f2.2.2.1 s).trans ((q5 s hs).trans (sdF_eq hoP eP hD hn6 hd))
      · rw [dn_nI (by omega)]; exact (f3.2.2.1 k).trans ((q6 k hk).trans (congrArg b2i (exF_eq hoP eP hD hn6 hd)))
    · refine am_throw hC hR (X := "java/lang/IllegalStateException") (text := "some room has no way out") (by decide +kernel) tw_115 tw_13 tw_505 xw_RX5_37 ⟨rfl, Nat.le_of_ble_eq_true rfl⟩ (by decide) (by decide) (by decide) dX5_grant_48 dX5_grant_51 dX5_grant_52 dX5_grant_54 dX5_grant_57 ?_
      refine ⟨eF, l1, fun R hR8 => EX_2 (IX_y (by omega) hd rfl) ?_⟩
      rw [dn_nI (by omega)] at hR8
      rw [VW_u hR8 hV, b2i_0.mp c_45]
      exact Bool.and_false _
  · replace c_17 : ¬ np < 20 := fun q9 => c_17 ((nI_ltI (a := np) (b := 20) (by omega) (by omega)).mpr q9)
    refine am_throw hC hR (X := "java/lang/IllegalStateException") (text := "there are 20 permits") (by decide +kernel) tw_115 tw_13 tw_500 xw_RX5_37 ⟨rfl, Nat.le_of_ble_eq_true rfl⟩ (by decide) (by decide) (by decide) dX5_grant_20 dX5_grant_23 dX5_grant_24 dX5_grant_26 dX5_grant_29 ?_
    exact ⟨am_eq_rf _ _, am_le_rf _, fun R _ => EX_2 (IX_y (by omega) hd rfl) (by rw [decide_eq_false c_17]; rfl)⟩
set_option maxRecDepth 100000 in
set_option maxHeartbeats 4000000 in
theorem c_X5_print (G : am_G) (l : Launch) (htr : l.stackTraces = false) (h : am_H) (n np nq : Nat) (hci : CI h n np nq) (D : Int32) : am_Met G l yX5_print (.code yX5_print cX5_print 4 (some .int)) 12 10 190 [.ref (3), .int (D)] h (fun v h' => (k3 (IX n D) (decide (nq < 30)) true) = 0 ∧ v = some (.int (nI nq)) ∧ am_eq (SP nq) h h' ∧ am_le h h' ∧ CI h' n np (nq + 1) ∧ qdH h' nq = dn D ∧ (∀ s, s < 40 → hi_ h' (302 + 4 * nq) s = sdH h (dn D) s) ∧ (∀ k, k < 25 → hi_ h' (303 + 4 * nq) k = b2i (exH h (dn D) k)) ∧ HPm h np (dn D) (hi_ h' (300 + 4 * nq) 2)) (fun X h' => h' = h ∧ EX ["java/lang/IndexOutOfBoundsException", "java/lang/IllegalStateException"] (k3 (IX n D) (decide (nq < 30)) true) X) := by
  have hF := hci.1.1
  have hD := hci.1.2.1
  have hB := hci.1.2.2
  have hn6 := hci.2.1.1
  have hn20 := hci.2.1.2.1
  have hn30 := hci.2.1.2.2
  obtain ⟨⟨c4, l4⟩, ⟨c5, l5⟩, ⟨c6, l6⟩⟩ := hci.2.2.1
  have dd := hci.2.2.2.2
  refine am_intro rfl htr rfl (Nat.le_of_ble_eq_true rfl) (fun Z hC hR hI => ?_)
  change am_W Z 0 0 0 [.ref (3), .int (D), .null, .null] [] h
  refine am_aload_n hC dX5_print_0 rfl ?_
  refine am_iload_n hC dX5_print_1 rfl ?_
  refine am_callV hC (ci := 6) (N := 4) [.int (D)] rfl (kC_3 hF) rfl mf_X5_drawingAt tw_276 (c_X5_drawingAt _ _ (am_tr hC) h n np nq hci D) rfl ⟨rfl, Nat.le_of_ble_eq_true rfl⟩ ⟨by decide, by decide⟩ (by decide) (by decide) dX5_print_2 rfl (fun X g hx hle => am_out hC hR (by decide) (by decide) (by obtain ⟨hx1, hx2, hx⟩ := hx; subst hx1; subst hx2; exact ⟨rfl, EX_1 ((IX_n (by omega) hx))⟩)) (fun v h' hp hlc => ?_)
  obtain ⟨z8, d, hd, z7, z9⟩ := hp
  have z8 := z8.symm
  subst z8
  subst z9
  subst z7
  refine am_astore_n hC dX5_print_5 (by decide) ?_
  change am_W _ _ _ _ [.ref (3), .int (nI d), .ref (100 + 4 * d), .null] _ _
  refine am_aload_n hC dX5_print_6 rfl ?_
  refine am_get (v := .ref (6)) hC (ci := 6) (N := 4) (j := 2) rfl (kC_3 hF) (by decide) tw_96 (Or.inl rfl) dX5_print_7 (am_rfe (rC_3_2 hF)) ?_
  refine am_callV hC (ci := 0) (N := 3) [] rfl (kC_6 hF) rfl mf_Jx4a65c_size_8abf5 tw_111 (c_size _ _ (am_tr hC) h 6 nq c6 300 4 l6) rfl ⟨rfl, Nat.le_of_ble_eq_true rfl⟩ ⟨by decide, by decide⟩ (by decide) (by decide) dX5_print_10 rfl (fun _ _ q _ => False.elim q) (fun v h' hp hlc => ?_)
  obtain ⟨z8, z9⟩ := hp
  have z8 := z8.symm
  subst z8
  subst z9
  refine am_istore_n hC dX5_print_13 (by decide) ?_
  change am_W _ _ _ _ [.ref (3), .int (nI d), .ref (100 + 4 * d), .int (nI nq)] _ _
  refine am_iload_n hC dX5_print_14 rfl ?_
  refine am_bipush (v := nI 30) hC dX5_print_15 (by decide) ?_
  refine am_icmp_lt (tgt := 30) hC dX5_print_17 (by decide) (fun c_17 => ?_) (fun c_17 => ?_)
  · replace c_17 : nq < 30 := (nI_ltI (a := nq) (b := 30) (by omega) (by omega)).mp c_17
    refine am_aload_n hC dX5_print_30 rfl ?_
    refine am_get (v := .ref (6)) hC (ci := 6) (N := 4) (j := 2) rfl (kC_3 hF) (by decide) tw_96 (Or.inl rfl) dX5_print_31 (am_rfe (rC_3_2 hF)) ?_
    refine am_newO hC (ci := 4) (N := 3) (300 + 4 * nq) rfl (dd (300 + 4 * nq) (by unfold ded; omega)) (by omega) tw_435 tw_541 tw_21 (by decide) (by decide) dX5_print_34 ?_
    have eQ : am_eq (fun r => r = 300 + 4 * nq) h (am_new h (300 + 4 * nq) 5 0) := am_eq_new rfl
    have lQ : am_le h (am_new h (300 + 4 * nq) 5 0) := am_le_new (dd (300 + 4 * nq) (by unfold ded; omega))
    have hoQ : ∀ r, (fun r => r = 300 + 4 * nq) r → offD r := fun r z => Or.inr (by omega)
    have hcj := CJ_new c_17 hci
    have hF := hcj.1.1
    refine am_dup hC dX5_print_37 rfl ?_
    refine am_aload_n hC dX5_print_38 rfl ?_
    refine am_aload_n hC dX5_print_39 rfl ?_
    refine am_aload_n hC dX5_print_40 rfl ?_
    refine am_callV hC (ci := 6) (N := 4) [.ref (100 + 4 * d)] rfl (kC_3 hF) rfl mf_X5_highestPermit tw_542 (c_X5_highestPermit _ _ (am_tr hC) (am_new h (300 + 4 * nq) 5 0) n np nq hcj d hd) rfl ⟨rfl, Nat.le_of_ble_eq_true rfl⟩ ⟨by decide, by decide⟩ (by decide) (by decide) dX5_print_41 rfl (fun _ _ q _ => False.elim q) (fun v h' hp hlc => ?_)
    obtain ⟨z8, R0, z9, hR9⟩ := hp
    subst z8
    subst z9
    have hH : HPm h np d R0 := HPm_cg (fun k hk => KPm_eq hoQ (fun z => by omega) (fun z => by omega) (fun z => by omega) eQ hD hn6 (pd_lt (hci.2.2.2.1.1 k hk))) hR9
    refine am_callIN hC [.ref (100 + 4 * d), .int (R0)] (by omega) mf_X3_init tw_546 (c_X3_init _ _ (am_tr hC) (am_new h (300 + 4 * nq) 5 0) n d (DL_off hoQ eQ hn6 hD) hn6 (XB_eq hoQ eQ hn6 hB) hd (300 + 4 * nq) (301 + 4 * nq) (302 + 4 * nq) (303 + 4 * nq) R0 (by rw [hk_new, if_pos rfl]) (by rw [hk_new, if_neg (by omega)]; exact (dd (301 + 4 * nq) (by unfold ded; omega))) (by rw [hk_new, if_neg (by omega)]; exact (dd (302 + 4 * nq) (by unfold ded; omega))) (by rw [hk_new, if_neg (by omega)]; exact (dd (303 + 4 * nq) (by unfold ded; omega))) (by omega) (by omega) (by omega) ⟨by omega, by omega, by omega, by omega⟩) rfl ⟨rfl, Nat.le_of_ble_eq_true rfl⟩ ⟨by decide, by decide⟩ (by decide) (by decide) dX5_print_44 rfl (fun _ _ q _ => False.elim q) (fun v h2 hp l2 => ?_)
    obtain ⟨rfl, e3, q1, q2, q3, q7, q4, q5, q6⟩ := hp
    have eN : am_eq (fun r => r = 300 + 4 * nq ∨ r = 301 + 4 * nq ∨ r = 302 + 4 * nq ∨ r = 303 + 4 * nq) h h2 := am_eq_tr (am_eq_mono (fun r z => Or.inl z) eQ) e3
    have l2z := l2
    have l2 := am_le_tr lQ l2
    have l62 := LT_eq (fun r z q => by unfold SL at q; omega) eN l2 l6
    have hF := FC_eq (fun r z => by omega) e3 l2z hF
    refine am_callV hC (ci := 0) (N := 3) [.ref (300 + 4 * nq)] rfl (kC_6 hF) rfl mf_Jx4a65c_add_9ea2d tw_215 (c_add _ _ (am_tr hC) h2 6 nq c6 300 4 l62 (by omega) LC_4 q1) rfl ⟨rfl, Nat.le_of_ble_eq_true rfl⟩ ⟨by decide, by decide⟩ (by decide) (by decide) dX5_print_47 rfl (fun _ _ q _ => False.elim q) (fun v h3 hp l3 => ?_)
    obtain ⟨rfl, e4, l63⟩ := hp
    refine am_pop hC dX5_print_50 rfl ?_
    refine am_iload_n hC dX5_print_51 rfl ?_
    refine am_iret hC hR rfl (by decide) (by decide) dX5_print_52 ?_
    have es : ∀ r, 300 + 4 * nq ≤ r → r < 304 + 4 * nq → ¬ SL 6 r := fun r z1 z2 q => by unfold SL at q; omega
    have f0 := e4 (300 + 4 * nq) (es _ (by omega) (by omega))
    have f1 := e4 (301 + 4 * nq) (es _ (by omega) (by omega))
    have f2 := e4 (302 + 4 * nq) (es _ (by omega) (by omega))
    have f3 := e4 (303 + 4 * nq) (es _ (by omega) (by omega))
    have eG : am_eq (SP nq) h h3 := am_eq_tr (am_eq_mono (fun r z => Or.inr z) eN) (am_eq_mono (fun r z => Or.inl z) e4)
    have l9 := am_le_tr l2 l3
    have hd3 : hr_ h3 (300 + 4 * nq) 0 = 100 + 4 * d := (f0.2.2.2.1 _).trans q3
    refine ⟨k3_0 (IX_y (by omega) hd rfl) (decide_eq_true c_17) rfl, rfl, eG, l9, CI_print c_17 hci eG l9 l63 ⟨f0.1.trans q1, (f0.2.2.2.1 _).trans q2, ST_eq (es _ (by omega) (by omega)) e4 l3 q4, d, hd, hd3⟩, ?_, fun s hs => ?_, fun k hk => ?_, ?_⟩
    · rw [dn_nI (by omega)]; exact qd_of hd3
    · rw [dn_nI (by omega)]; exact (f2.2.2.1 s).trans ((q5 s hs).trans (sdF_eq hoQ eQ hD hn6 hd))
    · rw [dn_nI (by omega)]; exact (f3.2.2.1 k).trans ((q6 k hk).trans (congrArg b2i (exF_eq hoQ eQ hD hn6 hd)))
    · rw [dn_nI (by omega), (f0.2.2.1 _).trans q7]; exact hH
  · replace c_17 : ¬ nq < 30 := fun q9 => c_17 ((nI_ltI (a := nq) (b := 30) (by omega) (by omega)).mpr q9)
    refine am_throw hC hR (X := "java/lang/IllegalStateException") (text := "there are 30 prints") (by decide +kernel) tw_115 tw_13 tw_540 xw_RX5_37 ⟨rfl, Nat.le_of_ble_eq_true rfl⟩ (by decide) (by decide) (by decide) dX5_print_20 dX5_print_23 dX5_print_24 dX5_print_26 dX5_print_29 ?_
    exact ⟨rfl, EX_2 (IX_y (by omega) hd rfl) (decide_eq_false c_17)⟩
