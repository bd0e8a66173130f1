/-! ===== constructors ===== -/
set_option maxRecDepth 100000 in
set_option maxHeartbeats 4000000 in
theorem c_acInit (G : am_G) (l : Launch) (htr : l.stackTraces = false) (h : am_H) (L : Nat) (hr0 : L ≠ 0) : am_Met G l yJxa1e45_init_da8c8 (.code yJxa1e45_init_da8c8 cJxa1e45_init_da8c8 1 none) 1 0 0 [.ref (L)] h (fun v h' => v = none ∧ h' = h) (am_no) := by
  refine am_intro rfl htr rfl (Nat.le_of_ble_eq_true rfl) (fun Z hC hR hI => ?_)
  replace hI := hI rfl
  change am_W Z 0 0 0 [.ref (L)] [] h
  refine am_aload_n hC dJxa1e45_init_da8c8_0 rfl ?_
  refine am_objinit hC hr0 tw_41 tw_28 tw_29 (by decide) ⟨rfl, Nat.le_of_ble_eq_true rfl⟩ dJxa1e45_init_da8c8_1 ?_
  refine am_vret hC hR (by decide) (by decide) dJxa1e45_init_da8c8_4 ?_
  exact ⟨rfl, rfl⟩
set_option maxRecDepth 100000 in
set_option maxHeartbeats 4000000 in
theorem c_alInit (G : am_G) (l : Launch) (htr : l.stackTraces = false) (h : am_H) (L : Nat) (hr0 : L ≠ 0) (hkl : hk_ h L = 1) : am_Met G l yJxc12de_init_da8c8 (.code yJxc12de_init_da8c8 cJxc12de_init_da8c8 1 none) 2 0 0 [.ref (L)] h (fun v h' => v = none ∧ h' = am_sI h L 0 (nI 0)) (am_no) := by
  refine am_intro rfl htr rfl (Nat.le_of_ble_eq_true rfl) (fun Z hC hR hI => ?_)
  replace hI := hI rfl
  change am_W Z 0 0 0 [.ref (L)] [] h
  refine am_aload_n hC dJxc12de_init_da8c8_0 rfl ?_
  refine am_callI hC [] hr0 mf_Jxa1e45_init_da8c8 tw_38 (c_acInit _ _ (am_tr hC) h L hr0) rfl ⟨rfl, Nat.le_of_ble_eq_true rfl⟩ ⟨by decide, by decide⟩ (by decide) (by decide) dJxc12de_init_da8c8_1 rfl (fun _ _ q _ => False.elim q) (fun v h' hp hlc => ?_)
  obtain ⟨rfl, z8⟩ := hp
  have z8 := z8.symm
  subst z8
  refine am_aload_n hC dJxc12de_init_da8c8_4 rfl ?_
  refine am_iconst (v := nI 0) hC dJxc12de_init_da8c8_5 (by decide) ?_
  refine am_putI hC (ci := 0) (N := 3) (j := 0) rfl hkl (by decide) rfl rfl rfl tw_46 (Or.inl rfl) dJxc12de_init_da8c8_6 ?_
  refine am_vret hC hR (by decide) (by decide) dJxc12de_init_da8c8_9 ?_
  exact ⟨rfl, rfl⟩
set_option maxRecDepth 100000 in
set_option maxHeartbeats 4000000 in
theorem c_lsInit (G : am_G) (l : Launch) (htr : l.stackTraces = false) (h : am_H) (L : Nat) (hr0 : L ≠ 0) (hkl : hk_ h L = 1) : am_Met G l yJx4a65c_init_da8c8 (.code yJx4a65c_init_da8c8 cJx4a65c_init_da8c8 1 none) 3 0 0 [.ref (L)] h (fun v h' => v = none ∧ h' = am_sR (am_sI h L 0 (nI 0)) L 1 1) (am_no) := by
  refine am_intro rfl htr rfl (Nat.le_of_ble_eq_true rfl) (fun Z hC hR hI => ?_)
  replace hI := hI rfl
  change am_W Z 0 0 0 [.ref (L)] [] h
  refine am_aload_n hC dJx4a65c_init_da8c8_0 rfl ?_
  refine am_callI hC [] hr0 mf_Jxc12de_init_da8c8 tw_35 (c_alInit _ _ (am_tr hC) h L hr0 hkl) rfl ⟨rfl, Nat.le_of_ble_eq_true rfl⟩ ⟨by decide, by decide⟩ (by decide) (by decide) dJx4a65c_init_da8c8_1 rfl (fun _ _ q _ => False.elim q) (fun v h' hp hlc => ?_)
  obtain ⟨rfl, z8⟩ := hp
  subst z8
  refine am_aload_n hC dJx4a65c_init_da8c8_4 rfl ?_
  refine am_gets hC tw_42 dJx4a65c_init_da8c8_5 ?_
  refine am_putR hC (ci := 0) (N := 3) (j := 1) rfl hkl (by decide) rfl rfl rfl (Or.inr ⟨_, rfl⟩) tw_44 (Or.inl rfl) dJx4a65c_init_da8c8_8 ?_
  refine am_vret hC hR (by decide) (by decide) dJx4a65c_init_da8c8_11 ?_
  exact ⟨rfl, rfl⟩
def stH (h : am_H) (s a b : Nat) : am_H := am_sR (am_new (am_sR (am_new h a 9 40) s 0 a) b 10 25) s 1 b
set_option maxRecDepth 100000 in
set_option maxHeartbeats 4000000 in
theorem c_X4_init (G : am_G) (l : Launch) (htr : l.stackTraces = false) (h : am_H) (s a b : Nat) (hks : hk_ h s = 6) (ha : hk_ h a = 0) (hb : hk_ h b = 0) (hab : b ≠ a) (ha0 : a ≠ 0) (hb0 : b ≠ 0) (hs0 : s ≠ 0) : am_Met G l yX4_init (.code yX4_init cX4_init 1 none) 1 2 65 [.ref (s)] h (fun v h' => v = none ∧ h' = stH h s a b) (am_no) := by
  have hsa : s ≠ a := fun z => by rw [z, ha] at hks; exact absurd hks (by decide)
  have hsb : s ≠ b := fun z => by rw [z, hb] at hks; exact absurd hks (by decide)
  refine am_intro rfl htr rfl (Nat.le_of_ble_eq_true rfl) (fun Z hC hR hI => ?_)
  replace hI := hI rfl
  change am_W Z 0 0 0 [.ref (s)] [] h
  refine am_aload_n hC dX4_init_0 rfl ?_
  refine am_objinit hC hs0 tw_67 tw_28 tw_29 (by decide) ⟨rfl, Nat.le_of_ble_eq_true rfl⟩ dX4_init_1 ?_
  refine am_aload_n hC dX4_init_4 rfl ?_
  refine am_bipush (v := nI 40) hC dX4_init_5 (by decide) ?_
  refine am_newA hC (at_ := .int) a (kk := 9) (N := 40) (by decide) ha ha0 rfl (by decide) tw_77 (by decide) (by decide) dX4_init_7 ?_
  have hks : hk_ (am_new h a 9 40) s = 6 := by rw [hk_new, if_neg hsa]; exact hks
  have hb : hk_ (am_sR (am_new h a 9 40) s 0 a) b = 0 := by show hk_ (am_new h a 9 40) b = 0; rw [hk_new, if_neg hab]; exact hb
  refine am_putFR hC hI (ci := 5) (N := 2) (j := 0) rfl hks (by decide) rfl rfl rfl (Or.inr ⟨_, rfl⟩) rfl tw_68 dX4_init_9 ?_
  refine am_aload_n hC dX4_init_12 rfl ?_
  refine am_bipush (v := nI 25) hC dX4_init_13 (by decide) ?_
  refine am_newA hC (at_ := .boolean) b (kk := 10) (N := 25) (by decide) hb hb0 rfl (by decide) tw_78 (by decide) (by decide) dX4_init_15 ?_
  have hks : hk_ (am_new (am_sR (am_new h a 9 40) s 0 a) b 10 25) s = 6 := by rw [hk_new, if_neg hsb]; exact hks
  refine am_putFR hC hI (ci := 5) (N := 2) (j := 1) rfl hks (by decide) rfl rfl rfl (Or.inr ⟨_, rfl⟩) rfl tw_70 dX4_init_17 ?_
  refine am_vret hC hR (by decide) (by decide) dX4_init_20 ?_
  exact ⟨rfl, rfl⟩
theorem hk_stH {h : am_H} {s a b : Nat} (r : Nat) : hk_ (stH h s a b) r = if r = b then 10 else if r = a then 9 else hk_ h r := rfl
theorem hn_stH {h : am_H} {s a b : Nat} (r : Nat) : hn_ (stH h s a b) r = if r = b then 25 else if r = a then 40 else hn_ h r := rfl
theorem hr_stH0 {h : am_H} {s a b : Nat} (sa : s ≠ a) (sb : s ≠ b) : hr_ (stH h s a b) s 0 = a := by
  unfold stH
  rw [hr_sR, if_neg (fun q => absurd q.2 (by decide)), hr_new, if_neg sb, hr_sR, if_pos ⟨rfl, rfl⟩]
theorem hr_stH1 {h : am_H} {s a b : Nat} : hr_ (stH h s a b) s 1 = b := by
  unfold stH
  rw [hr_sR, if_pos ⟨rfl, rfl⟩]
theorem am_eq_stH {S : Nat → Prop} {h : am_H} {s a b : Nat} (hs : S s) (ha : S a) (hb : S b) : am_eq S h (stH h s a b) := am_eq_tr (am_eq_tr (am_eq_tr (am_eq_new ha) (am_eq_sR hs)) (am_eq_new hb)) (am_eq_sR hs)
theorem am_le_stH {h : am_H} {s a b : Nat} (ha : hk_ h a = 0) (hb : hk_ h b = 0) (hab : b ≠ a) : am_le h (stH h s a b) := am_le_tr (am_le_tr (am_le_tr (am_le_new ha) (am_le_sR _ _ _ _)) (am_le_new (by show hk_ (am_new h a 9 40) b = 0; rw [hk_new, if_neg hab]; exact hb))) (am_le_sR _ _ _ _)
def flH (h : am_H) : am_H := am_sR (am_new (am_sR (am_new (am_sR (am_new (am_sR (stH (am_new h 8 6 0) 8 9 10) 7 0 8) 11 9 25) 7 1 11) 12 9 25) 7 2 12) 13 9 25) 7 3 13
set_option maxRecDepth 100000 in
set_option maxHeartbeats 4000000 in
theorem c_X1_init (G : am_G) (l : Launch) (htr : l.stackTraces = false) (h : am_H) (hk7 : hk_ h 7 = 3) (hd : ∀ r, 8 ≤ r → r ≤ 13 → hk_ h r = 0) : am_Met G l yX1_init (.code yX1_init cX1_init 1 none) 2 6 142 [.ref (7)] h (fun v h' => v = none ∧ h' = flH h) (am_no) := by
  refine am_intro rfl htr rfl (Nat.le_of_ble_eq_true rfl) (fun Z hC hR hI => ?_)
  replace hI := hI rfl
  change am_W Z 0 0 0 [.ref (7)] [] h
  refine am_aload_n hC dX1_init_0 rfl ?_
  refine am_objinit hC (by decide) tw_61 tw_28 tw_29 (by decide) ⟨rfl, Nat.le_of_ble_eq_true rfl⟩ dX1_init_1 ?_
  refine am_aload_n hC dX1_init_4 rfl ?_
  refine am_newO hC (ci := 5) (N := 2) 8 rfl (hd 8 (by decide) (by decide)) (by decide) tw_62 tw_63 tw_6 (by decide) (by decide) dX1_init_5 ?_
  refine am_dup hC dX1_init_8 rfl ?_
  refine am_callIN hC [] (by decide) mf_X4_init tw_64 (c_X4_init _ _ (am_tr hC) (am_new h 8 6 0) 8 9 10 rfl (hd 9 (by decide) (by decide)) (hd 10 (by decide) (by decide)) (by decide) (by decide) (by decide) (by decide)) rfl ⟨rfl, Nat.le_of_ble_eq_true rfl⟩ ⟨by decide, by decide⟩ (by decide) (by decide) dX1_init_9 rfl (fun _ _ q _ => False.elim q) (fun v h' hp hlc => ?_)
  obtain ⟨rfl, z8⟩ := hp
  subst z8
  have hk7 : hk_ (stH (am_new h 8 6 0) 8 9 10) 7 = 3 := hk7
  refine am_putFR hC hI (ci := 2) (N := 4) (j := 0) rfl hk7 (by decide) rfl rfl rfl (Or.inl ⟨_, rfl⟩) rfl tw_79 dX1_init_12 ?_
  refine am_aload_n hC dX1_init_15 rfl ?_
  refine am_bipush (v := nI 25) hC dX1_init_16 (by decide) ?_
  refine am_newA hC (at_ := .int) 11 (kk := 9) (N := 25) (by decide) (hd 11 (by decide) (by decide)) (by decide) rfl (by decide) tw_77 (by decide) (by decide) dX1_init_18 ?_
  have hk7 : hk_ (am_new (am_sR (stH (am_new h 8 6 0) 8 9 10) 7 0 8) 11 9 25) 7 = 3 := hk7
  refine am_putFR hC hI (ci := 2) (N := 4) (j := 1) rfl hk7 (by decide) rfl rfl rfl (Or.inr ⟨_, rfl⟩) rfl tw_80 dX1_init_20 ?_
  refine am_aload_n hC dX1_init_23 rfl ?_
  refine am_bipush (v := nI 25) hC dX1_init_24 (by decide) ?_
  refine am_newA hC (at_ := .int) 12 (kk := 9) (N := 25) (by decide) (hd 12 (by decide) (by decide)) (by decide) rfl (by decide) tw_77 (by decide) (by decide) dX1_init_26 ?_
  have hk7 : hk_ (am_new (am_sR (am_new (am_sR (stH (am_new h 8 6 0) 8 9 10) 7 0 8) 11 9 25) 7 1 11) 12 9 25) 7 = 3 := hk7
  refine am_putFR hC hI (ci := 2) (N := 4) (j := 2) rfl hk7 (by decide) rfl rfl rfl (Or.inr ⟨_, rfl⟩) rfl tw_82 dX1_init_28 ?_
  refine am_aload_n hC dX1_init_31 rfl ?_
  refine am_bipush (v := nI 25) hC dX1_init_32 (by decide) ?_
  refine am_newA hC (at_ := .int) 13 (kk := 9) (N := 25) (by decide) (hd 13 (by decide) (by decide)) (by decide) rfl (by decide) tw_77 (by decide) (by decide) dX1_init_34 ?_
  have hk7 : hk_ (am_new (am_sR (am_new (am_sR (am_new (am_sR (stH (am_new h 8 6 0) 8 9 10) 7 0 8) 11 9 25) 7 1 11) 12 9 25) 7 2 12) 13 9 25) 7 = 3 := hk7
  refine am_putFR hC hI (ci := 2) (N := 4) (j := 3) rfl hk7 (by decide) rfl rfl rfl (Or.inr ⟨_, rfl⟩) rfl tw_84 dX1_init_36 ?_
  refine am_vret hC hR (by decide) (by decide) dX1_init_39 ?_
  exact ⟨rfl, rfl⟩
theorem am_eq_flH {S : Nat → Prop} {h : am_H} (hS : ∀ r, 7 ≤ r → r ≤ 13 → S r) : am_eq S h (flH h) :=
  am_eq_tr (am_eq_tr (am_eq_tr (am_eq_tr (am_eq_tr (am_eq_tr (am_eq_tr (am_eq_tr (am_eq_new (hS 8 (by decide) (by decide))) (am_eq_stH (hS 8 (by decide) (by decide)) (hS 9 (by decide) (by decide)) (hS 10 (by decide) (by decide)))) (am_eq_sR (hS 7 (by decide) (by decide)))) (am_eq_new (hS 11 (by decide) (by decide)))) (am_eq_sR (hS 7 (by decide) (by decide)))) (am_eq_new (hS 12 (by decide) (by decide)))) (am_eq_sR (hS 7 (by decide) (by decide)))) (am_eq_new (hS 13 (by decide) (by decide)))) (am_eq_sR (hS 7 (by decide) (by decide)))
def hpH (h : am_H) : am_H := am_sR (flH (am_new (am_sR (am_sR (am_sI (am_new (am_sR (am_sR (am_sI (am_new (am_sR (am_sR (am_sI (am_new (h) 4 1 0) 4 0 (nI 0)) 4 1 1) 3 0 4) 5 1 0) 5 0 (nI 0)) 5 1 1) 3 1 5) 6 1 0) 6 0 (nI 0)) 6 1 1) 3 2 6) 7 3 0)) 3 3 7
theorem cons5 {h : am_H} (hd : ∀ r, 4 ≤ r → r ≤ 13 → hk_ h r = 0) (hrw : ∀ L c, 4 ≤ L → L ≤ 6 → c < 100 → hk_ h (rw_ L c) = 0) (hk3 : hk_ h 3 = 7) (hn3 : hn_ h 3 = 0) : FC (hpH h) ∧ LT (hpH h) 4 0 0 100 1 ∧ LT (hpH h) 5 0 0 200 3 ∧ LT (hpH h) 6 0 0 300 4 ∧ am_eq (fun r => 3 ≤ r ∧ r ≤ 13) h (hpH h) := by
  have e : am_eq (fun r => 3 ≤ r ∧ r ≤ 13) h (hpH h) := by
    have N : ∀ {g : am_H} {r k n : Nat}, 3 ≤ r ∧ r ≤ 13 → am_eq (fun r => 3 ≤ r ∧ r ≤ 13) g (am_new g r k n) := fun q => am_eq_new (S := fun r => 3 ≤ r ∧ r ≤ 13) q
    have A : ∀ {g : am_H} {r k x : Nat}, 3 ≤ r ∧ r ≤ 13 → am_eq (fun r => 3 ≤ r ∧ r ≤ 13) g (am_sR g r k x) := fun q => am_eq_sR (S := fun r => 3 ≤ r ∧ r ≤ 13) q
    have B : ∀ {g : am_H} {r k : Nat} {x : Int32}, 3 ≤ r ∧ r ≤ 13 → am_eq (fun r => 3 ≤ r ∧ r ≤ 13) g (am_sI g r k x) := fun q => am_eq_sI (S := fun r => 3 ≤ r ∧ r ≤ 13) q
    have l1 : ∀ {g : am_H} {L : Nat}, 3 ≤ L ∧ L ≤ 13 → am_eq (fun r => 3 ≤ r ∧ r ≤ 13) g (am_sR (am_sI (am_new g L 1 0) L 0 (nI 0)) L 1 1) := fun q => am_eq_tr (am_eq_tr (N q) (B q)) (A q)
    have t3 : 3 ≤ 3 ∧ 3 ≤ 13 := by decide
    exact am_eq_tr (am_eq_tr (am_eq_tr (am_eq_tr (am_eq_tr (am_eq_tr (am_eq_tr (am_eq_tr (l1 (by decide)) (A t3)) (l1 (by decide))) (A t3)) (l1 (by decide))) (A t3)) (N (by decide))) (am_eq_flH (fun r q1 q2 => ⟨by omega, q2⟩))) (A t3)
  have lt : ∀ (L b ci : Nat), 4 ≤ L → L ≤ 6 → hk_ (hpH h) L = 1 → hi_ (hpH h) L 2 = nI 0 → hr_ (hpH h) L 1 = 1 → LT (hpH h) L 0 0 b ci := fun L b ci l4 l6 k1 k2 k3 =>
    ⟨k1, k2, Nat.le_refl 0, by decide, fun _ => k3, fun z => absurd z (by decide), fun i z => absurd z (Nat.not_lt_zero i), fun c _ c2 => (e _ (by unfold rw_; omega)).1.trans (hrw L c l4 l6 c2)⟩
  have hk : hk_ (hpH h) 3 = 7 := hk3
  have hn : hn_ (hpH h) 3 = 0 := hn3
  refine ⟨⟨fun q hq => ?_, fun q hq => ?_⟩, lt 4 _ _ (by decide) (by decide) rfl rfl rfl, lt 5 _ _ (by decide) (by decide) rfl rfl rfl, lt 6 _ _ (by decide) (by decide) rfl rfl rfl, e⟩
  · simp only [rp_K, List.mem_cons, List.not_mem_nil, or_false] at hq
    rcases hq with rfl | rfl | rfl | rfl | rfl | rfl | rfl | rfl | rfl | rfl | rfl
    · exact ⟨hk, hn⟩
    all_goals exact ⟨rfl, rfl⟩
  · simp only [rp_R, List.mem_cons, List.not_mem_nil, or_false] at hq
    rcases hq with rfl | rfl | rfl | rfl | rfl | rfl | rfl | rfl | rfl | rfl
    all_goals rfl
theorem cons7 {h : am_H} (hd : ∀ r, 4 ≤ r → r ≤ 13 → hk_ h r = 0) (r : Nat) (q1 : 8 ≤ r) (q2 : r ≤ 13) : hk_ (am_new (am_sR (am_sR (am_sI (am_new (am_sR (am_sR (am_sI (am_new (am_sR (am_sR (am_sI (am_new (h) 4 1 0) 4 0 (nI 0)) 4 1 1) 3 0 4) 5 1 0) 5 0 (nI 0)) 5 1 1) 3 1 5) 6 1 0) 6 0 (nI 0)) 6 1 1) 3 2 6) 7 3 0) r = 0 := by
  have e : ∀ L, L ≤ 7 → r ≠ L := fun L z => by omega
  rw [hk_new, if_neg (e 7 (by decide)), hk_sR, hk_sR, hk_sI, hk_new, if_neg (e 6 (by decide)), hk_sR, hk_sR, hk_sI, hk_new, if_neg (e 5 (by decide)), hk_sR, hk_sR, hk_sI, hk_new, if_neg (e 4 (by decide))]
  exact hd r (by omega) q2
set_option maxRecDepth 100000 in
set_option maxHeartbeats 4000000 in
theorem c_X5_init (G : am_G) (l : Launch) (htr : l.stackTraces = false) (h : am_H) (hk3 : hk_ h 3 = 7) (hn3 : hn_ h 3 = 0) (hd : ∀ r, 4 ≤ r → r ≤ 13 → hk_ h r = 0) (hrw : ∀ L c, 4 ≤ L → L ≤ 6 → c < 100 → hk_ h (rw_ L c) = 0) : am_Met G l yX5_init (.code yX5_init cX5_init 1 none) 4 10 155 [.ref (3)] h (fun v h' => v = none ∧ FC h' ∧ LT h' 4 0 0 100 1 ∧ LT h' 5 0 0 200 3 ∧ LT h' 6 0 0 300 4 ∧ am_eq (fun r => 3 ≤ r ∧ r ≤ 13) h h') (am_no) := by
  refine am_intro rfl htr rfl (Nat.le_of_ble_eq_true rfl) (fun Z hC hR hI => ?_)
  replace hI := hI rfl
  change am_W Z 0 0 0 [.ref (3)] [] h
  refine am_aload_n hC dX5_init_0 rfl ?_
  refine am_objinit hC (by decide) tw_27 tw_28 tw_29 (by decide) ⟨rfl, Nat.le_of_ble_eq_true rfl⟩ dX5_init_1 ?_
  refine am_aload_n hC dX5_init_4 rfl ?_
  refine am_newO hC (ci := 0) (N := 3) 4 rfl (hd 4 (by decide) (by decide)) (by decide) tw_30 tw_31 tw_4 (by decide) (by decide) dX5_init_5 ?_
  refine am_dup hC dX5_init_8 rfl ?_
  refine am_callI hC [] (by decide) mf_Jx4a65c_init_da8c8 tw_32 (c_lsInit _ _ (am_tr hC) (am_new (h) 4 1 0) 4 (by decide) rfl) rfl ⟨rfl, Nat.le_of_ble_eq_true rfl⟩ ⟨by decide, by decide⟩ (by decide) (by decide) dX5_init_9 rfl (fun _ _ q _ => False.elim q) (fun v h' hp hlc => ?_)
  obtain ⟨rfl, z8⟩ := hp
  subst z8
  have hk3 : hk_ (am_sR (am_sI (am_new (h) 4 1 0) 4 0 (nI 0)) 4 1 1) 3 = 7 := hk3
  refine am_putFR hC hI (ci := 6) (N := 4) (j := 0) rfl hk3 (by decide) rfl rfl rfl (Or.inl ⟨_, rfl⟩) rfl tw_94 dX5_init_12 ?_
  refine am_aload_n hC dX5_init_15 rfl ?_
  refine am_newO hC (ci := 0) (N := 3) 5 rfl (hd 5 (by decide) (by decide)) (by decide) tw_30 tw_31 tw_4 (by decide) (by decide) dX5_init_16 ?_
  refine am_dup hC dX5_init_19 rfl ?_
  refine am_callI hC [] (by decide) mf_Jx4a65c_init_da8c8 tw_32 (c_lsInit _ _ (am_tr hC) (am_new (am_sR (am_sR (am_sI (am_new (h) 4 1 0) 4 0 (nI 0)) 4 1 1) 3 0 4) 5 1 0) 5 (by decide) rfl) rfl ⟨rfl, Nat.le_of_ble_eq_true rfl⟩ ⟨by decide, by decide⟩ (by decide) (by decide) dX5_init_20 rfl (fun _ _ q _ => False.elim q) (fun v h' hp hlc => ?_)
  obtain ⟨rfl, z8⟩ := hp
  subst z8
  have hk3 : hk_ (am_sR (am_sI (am_new (am_sR (am_sR (am_sI (am_new (h) 4 1 0) 4 0 (nI 0)) 4 1 1) 3 0 4) 5 1 0) 5 0 (nI 0)) 5 1 1) 3 = 7 := hk3
  refine am_putFR hC hI (ci := 6) (N := 4) (j := 1) rfl hk3 (by decide) rfl rfl rfl (Or.inl ⟨_, rfl⟩) rfl tw_95 dX5_init_23 ?_
  refine am_aload_n hC dX5_init_26 rfl ?_
  refine am_newO hC (ci := 0) (N := 3) 6 rfl (hd 6 (by decide) (by decide)) (by decide) tw_30 tw_31 tw_4 (by decide) (by decide) dX5_init_27 ?_
  refine am_dup hC dX5_init_30 rfl ?_
  refine am_callI hC [] (by decide) mf_Jx4a65c_init_da8c8 tw_32 (c_lsInit _ _ (am_tr hC) (am_new (am_sR (am_sR (am_sI (am_new (am_sR (am_sR (am_sI (am_new (h) 4 1 0) 4 0 (nI 0)) 4 1 1) 3 0 4) 5 1 0) 5 0 (nI 0)) 5 1 1) 3 1 5) 6 1 0) 6 (by decide) rfl) rfl ⟨rfl, Nat.le_of_ble_eq_true rfl⟩ ⟨by decide, by decide⟩ (by decide) (by decide) dX5_init_31 rfl (fun _ _ q _ => False.elim q) (fun v h' hp hlc => ?_)
  obtain ⟨rfl, z8⟩ := hp
  subst z8
  have hk3 : hk_ (am_sR (am_sI (am_new (am_sR (am_sR (am_sI (am_new (am_sR (am_sR (am_sI (am_new (h) 4 1 0) 4 0 (nI 0)) 4 1 1) 3 0 4) 5 1 0) 5 0 (nI 0)) 5 1 1) 3 1 5) 6 1 0) 6 0 (nI 0)) 6 1 1) 3 = 7 := hk3
  refine am_putFR hC hI (ci := 6) (N := 4) (j := 2) rfl hk3 (by decide) rfl rfl rfl (Or.inl ⟨_, rfl⟩) rfl tw_96 dX5_init_34 ?_
  refine am_aload_n hC dX5_init_37 rfl ?_
  refine am_newO hC (ci := 2) (N := 4) 7 rfl (hd 7 (by decide) (by decide)) (by decide) tw_56 tw_57 tw_5 (by decide) (by decide) dX5_init_38 ?_
  refine am_dup hC dX5_init_41 rfl ?_
  refine am_callIN hC [] (by decide) mf_X1_init tw_58 (c_X1_init _ _ (am_tr hC) (am_new (am_sR (am_sR (am_sI (am_new (am_sR (am_sR (am_sI (am_new (am_sR (am_sR (am_sI (am_new (h) 4 1 0) 4 0 (nI 0)) 4 1 1) 3 0 4) 5 1 0) 5 0 (nI 0)) 5 1 1) 3 1 5) 6 1 0) 6 0 (nI 0)) 6 1 1) 3 2 6) 7 3 0) rfl (fun r q1 q2 => cons7 hd r q1 q2)) rfl ⟨rfl, Nat.le_of_ble_eq_true rfl⟩ ⟨by decide, by decide⟩ (by decide) (by decide) dX5_init_42 rfl (fun _ _ q _ => False.elim q) (fun v h' hp hlc => ?_)
  obtain ⟨rfl, z8⟩ := hp
  subst z8
  have hk3 : hk_ (flH (am_new (am_sR (am_sR (am_sI (am_new (am_sR (am_sR (am_sI (am_new (am_sR (am_sR (am_sI (am_new (h) 4 1 0) 4 0 (nI 0)) 4 1 1) 3 0 4) 5 1 0) 5 0 (nI 0)) 5 1 1) 3 1 5) 6 1 0) 6 0 (nI 0)) 6 1 1) 3 2 6) 7 3 0)) 3 = 7 := hk3
  refine am_putFR hC hI (ci := 6) (N := 4) (j := 3) rfl hk3 (by decide) rfl rfl rfl (Or.inl ⟨_, rfl⟩) rfl tw_97 dX5_init_45 ?_
  refine am_vret hC hR (by decide) (by decide) dX5_init_48 ?_
  exact ⟨rfl, cons5 hd hrw hk3 hn3⟩
