/-! ===== constructors: drawings, permits, prints ===== -/
theorem drw (h : am_H) (a b c d : Nat) (ha : hk_ h a = 0) (hb : hk_ h b = 0) (hc : hk_ h c = 0) (hda : d ≠ a) (hdb : d ≠ b) (hdc : d ≠ c) (hab : b ≠ a) (hac : c ≠ a) (hbc : c ≠ b) (hkd : hk_ (am_sI (am_sI (am_sR (am_new (am_sR (am_new (am_sR (am_new h a 9 40) d 0 a) b 10 25) d 1 b) c 11 6) d 2 c) d 3 (-1)) d 4 (-1)) d = 2) (g : am_H) (e1 : am_eq (fun r => r = a) (am_sI (am_sI (am_sR (am_new (am_sR (am_new (am_sR (am_new h a 9 40) d 0 a) b 10 25) d 1 b) c 11 6) d 2 c) d 3 (-1)) d 4 (-1)) g) (hle : am_le (am_sI (am_sI (am_sR (am_new (am_sR (am_new (am_sR (am_new h a 9 40) d 0 a) b 10 25) d 1 b) c 11 6) d 2 c) d 3 (-1)) d 4 (-1)) g) (s1 : ∀ k, k < 40 → hi_ g a k = -1) :
    am_eq (fun r => r = d ∨ r = a ∨ r = b ∨ r = c) h g ∧ (hk_ g d = 2 ∧ hk_ g a = 9 ∧ hn_ g a = 40 ∧ hk_ g b = 10 ∧ hn_ g b = 25 ∧ hk_ g c = 11 ∧ hn_ g c = 6) ∧ (hr_ g d 0 = a ∧ hr_ g d 1 = b ∧ hr_ g d 2 = c) ∧ (hi_ g d 3 = -1 ∧ hi_ g d 4 = -1) ∧ (∀ k, k < 40 → hi_ g a k = -1) ∧ (∀ k, hi_ g b k = 0) ∧ ∀ k, hr_ g c k = 0 := by
  have hka : hk_ (am_sI (am_sI (am_sR (am_new (am_sR (am_new (am_sR (am_new h a 9 40) d 0 a) b 10 25) d 1 b) c 11 6) d 2 c) d 3 (-1)) d 4 (-1)) a = 9 := by
    show hk_ (am_new (am_sR (am_new (am_sR (am_new h a 9 40) d 0 a) b 10 25) d 1 b) c 11 6) a = 9
    rw [hk_new, if_neg hac.symm]
    show hk_ (am_new (am_sR (am_new h a 9 40) d 0 a) b 10 25) a = 9
    rw [hk_new, if_neg hab.symm]
    show hk_ (am_new h a 9 40) a = 9
    rw [hk_new, if_pos rfl]
  have hna : hn_ (am_sI (am_sI (am_sR (am_new (am_sR (am_new (am_sR (am_new h a 9 40) d 0 a) b 10 25) d 1 b) c 11 6) d 2 c) d 3 (-1)) d 4 (-1)) a = 40 := by
    show hn_ (am_new (am_sR (am_new (am_sR (am_new h a 9 40) d 0 a) b 10 25) d 1 b) c 11 6) a = 40
    rw [hn_new, if_neg hac.symm]
    show hn_ (am_new (am_sR (am_new h a 9 40) d 0 a) b 10 25) a = 40
    rw [hn_new, if_neg hab.symm]
    show hn_ (am_new h a 9 40) a = 40
    rw [hn_new, if_pos rfl]
  obtain ⟨d1, d2, d3, d4, d5⟩ := e1 d hda
  obtain ⟨b1, b2, b3, b4, b5⟩ := e1 b hab
  obtain ⟨c1, c2, c3, c4, c5⟩ := e1 c hac
  have T : ∀ {r : Nat}, r = d ∨ r = a ∨ r = b ∨ r = c → (fun r => r = d ∨ r = a ∨ r = b ∨ r = c) r := fun q => q
  refine ⟨am_eq_tr ?_ (am_eq_mono (fun r z => Or.inr (Or.inl z)) e1), ⟨d1.trans hkd, (hle a (by omega)).1.trans hka, (hle a (by omega)).2.trans hna, b1.trans ?_, b2.trans ?_, c1.trans ?_, c2.trans ?_⟩, ⟨(d4 _).trans ?_, (d4 _).trans ?_, (d4 _).trans ?_⟩, ⟨(d3 _).trans ?_, (d3 _).trans ?_⟩, s1, fun k => (b3 k).trans ?_, fun k => (c4 k).trans ?_⟩
  · exact am_eq_tr (am_eq_tr (am_eq_tr (am_eq_tr (am_eq_tr (am_eq_tr (am_eq_tr (am_eq_new (Or.inr (Or.inl rfl))) (am_eq_sR (Or.inl rfl))) (am_eq_new (Or.inr (Or.inr (Or.inl rfl))))) (am_eq_sR (Or.inl rfl))) (am_eq_new (Or.inr (Or.inr (Or.inr rfl))))) (am_eq_sR (Or.inl rfl))) (am_eq_sI (Or.inl rfl))) (am_eq_sI (Or.inl rfl))
  · show hk_ (am_new (am_sR (am_new (am_sR (am_new h a 9 40) d 0 a) b 10 25) d 1 b) c 11 6) b = 10
    rw [hk_new, if_neg hbc.symm]
    show hk_ (am_new (am_sR (am_new h a 9 40) d 0 a) b 10 25) b = 10
    rw [hk_new, if_pos rfl]
  · show hn_ (am_new (am_sR (am_new (am_sR (am_new h a 9 40) d 0 a) b 10 25) d 1 b) c 11 6) b = 25
    rw [hn_new, if_neg hbc.symm]
    show hn_ (am_new (am_sR (am_new h a 9 40) d 0 a) b 10 25) b = 25
    rw [hn_new, if_pos rfl]
  · show hk_ (am_new (am_sR (am_new (am_sR (am_new h a 9 40) d 0 a) b 10 25) d 1 b) c 11 6) c = 11
    rw [hk_new, if_pos rfl]
  · show hn_ (am_new (am_sR (am_new (am_sR (am_new h a 9 40) d 0 a) b 10 25) d 1 b) c 11 6) c = 6
    rw [hn_new, if_pos rfl]
  · rw [hr_sI, hr_sI, hr_sR, if_neg (fun q => absurd q.2 (by decide)), hr_new, if_neg hdc, hr_sR, if_neg (fun q => absurd q.2 (by decide)), hr_new, if_neg hdb, hr_sR, if_pos ⟨rfl, rfl⟩]
  · rw [hr_sI, hr_sI, hr_sR, if_neg (fun q => absurd q.2 (by decide)), hr_new, if_neg hdc, hr_sR, if_pos ⟨rfl, rfl⟩]
  · rw [hr_sI, hr_sI, hr_sR, if_pos ⟨rfl, rfl⟩]
  · rw [hi_sI, if_neg (fun q => absurd q.2 (by decide)), hi_sI, if_pos ⟨rfl, rfl⟩]
  · rw [hi_sI, if_pos ⟨rfl, rfl⟩]
  · rw [hi_sI, if_neg (fun q => hdb q.1.symm), hi_sI, if_neg (fun q => hdb q.1.symm), hi_sR, hi_new, if_neg hbc.symm, hi_sR, hi_new, if_pos rfl]
  · rw [hr_sI, hr_sI, hr_sR, if_neg (fun q => hdc q.1.symm), hr_new, if_pos rfl]
set_option maxRecDepth 100000 in
set_option maxHeartbeats 4000000 in
theorem c_X0_init (G : am_G) (l : Launch) (htr : l.stackTraces = false) (h : am_H) (d a b c : Nat) (hkd : hk_ h d = 2) (ha : hk_ h a = 0) (hb : hk_ h b = 0) (hc : hk_ h c = 0) (hab : b ≠ a) (hac : c ≠ a) (hbc : c ≠ b) (hn : d ≠ 0 ∧ a ≠ 0 ∧ b ≠ 0 ∧ c ≠ 0) : am_Met G l yX0_init (.code yX0_init cX0_init 1 none) 2 3 71 [.ref (d)] h (fun v h' => v = none ∧ am_eq (fun r => r = d ∨ r = a ∨ r = b ∨ r = c) h h' ∧ (hk_ h' d = 2 ∧ hk_ h' a = 9 ∧ hn_ h' a = 40 ∧ hk_ h' b = 10 ∧ hn_ h' b = 25 ∧ hk_ h' c = 11 ∧ hn_ h' c = 6) ∧ (hr_ h' d 0 = a ∧ hr_ h' d 1 = b ∧ hr_ h' d 2 = c) ∧ (hi_ h' d 3 = -1 ∧ hi_ h' d 4 = -1) ∧ (∀ k, k < 40 → hi_ h' a k = -1) ∧ (∀ k, hi_ h' b k = 0) ∧ ∀ k, hr_ h' c k = 0) (am_no) := by
  have hda : d ≠ a := fun z => by rw [z, ha] at hkd; exact absurd hkd (by decide)
  have hdb : d ≠ b := fun z => by rw [z, hb] at hkd; exact absurd hkd (by decide)
  have hdc : d ≠ c := fun z => by rw [z, hc] at hkd; exact absurd hkd (by decide)
  refine am_intro rfl htr rfl (Nat.le_of_ble_eq_true rfl) (fun Z hC hR hI => ?_)
  replace hI := hI rfl
  change am_W Z 0 0 0 [.ref (d)] [] h
  refine am_aload_n hC dX0_init_0 rfl ?_
  refine am_objinit hC hn.1 tw_188 tw_28 tw_29 (by decide) ⟨rfl, Nat.le_of_ble_eq_true rfl⟩ dX0_init_1 ?_
  refine am_aload_n hC dX0_init_4 rfl ?_
  refine am_bipush (v := nI 40) hC dX0_init_5 (by decide) ?_
  refine am_newA hC (at_ := .int) a (kk := 9) (N := 40) (by decide) ha hn.2.1 rfl (by decide) tw_77 (by decide) (by decide) dX0_init_7 ?_
  have hkd : hk_ (am_new h a 9 40) d = 2 := by rw [hk_new, if_neg hda]; exact hkd
  refine am_putFR hC hI (ci := 1) (N := 5) (j := 0) rfl hkd (by decide) rfl rfl rfl (Or.inr ⟨_, rfl⟩) rfl tw_194 dX0_init_9 ?_
  refine am_aload_n hC dX0_init_12 rfl ?_
  refine am_bipush (v := nI 25) hC dX0_init_13 (by decide) ?_
  refine am_newA hC (at_ := .boolean) b (kk := 10) (N := 25) (by decide) (by show hk_ (am_new h a 9 40) b = 0; rw [hk_new, if_neg hab]; exact hb) hn.2.2.1 rfl (by decide) tw_78 (by decide) (by decide) dX0_init_15 ?_
  have hkd : hk_ (am_new (am_sR (am_new h a 9 40) d 0 a) b 10 25) d = 2 := by rw [hk_new, if_neg hdb]; exact hkd
  refine am_putFR hC hI (ci := 1) (N := 5) (j := 1) rfl hkd (by decide) rfl rfl rfl (Or.inr ⟨_, rfl⟩) rfl tw_196 dX0_init_17 ?_
  refine am_aload_n hC dX0_init_20 rfl ?_
  refine am_bipush (v := nI 6) hC dX0_init_21 (by decide) ?_
  refine am_newQ hC (kk := 11) (N := 6) c (Or.inl ⟨rfl, rfl⟩) (by show hk_ (am_new (am_sR (am_new h a 9 40) d 0 a) b 10 25) c = 0; rw [hk_new, if_neg hbc]; show hk_ (am_new h a 9 40) c = 0; rw [hk_new, if_neg hac]; exact hc) hn.2.2.2 rfl (by decide) tw_189 tw_190 (by decide) (by decide) dX0_init_23 ?_
  have hkd : hk_ (am_new (am_sR (am_new (am_sR (am_new h a 9 40) d 0 a) b 10 25) d 1 b) c 11 6) d = 2 := by rw [hk_new, if_neg hdc]; exact hkd
  refine am_putFR hC hI (ci := 1) (N := 5) (j := 2) rfl hkd (by decide) rfl rfl rfl (Or.inr ⟨_, rfl⟩) rfl tw_198 dX0_init_26 ?_
  refine am_aload_n hC dX0_init_29 rfl ?_
  refine am_iconst (v := -1) hC dX0_init_30 (by decide) ?_
  refine am_putI hC (ci := 1) (N := 5) (j := 3) rfl hkd (by decide) rfl rfl rfl tw_200 (Or.inl rfl) dX0_init_31 ?_
  refine am_aload_n hC dX0_init_34 rfl ?_
  refine am_iconst (v := -1) hC dX0_init_35 (by decide) ?_
  refine am_putI hC (ci := 1) (N := 5) (j := 4) rfl hkd (by decide) rfl rfl rfl tw_202 (Or.inl rfl) dX0_init_36 ?_
  refine am_aload_n hC dX0_init_39 rfl ?_
  have hrda : hr_ (am_sI (am_sI (am_sR (am_new (am_sR (am_new (am_sR (am_new h a 9 40) d 0 a) b 10 25) d 1 b) c 11 6) d 2 c) d 3 (-1)) d 4 (-1)) d 0 = a := by rw [hr_sI, hr_sI, hr_sR, if_neg (fun q => absurd q.2 (by decide)), hr_new, if_neg hdc, hr_sR, if_neg (fun q => absurd q.2 (by decide)), hr_new, if_neg hdb, hr_sR, if_pos ⟨rfl, rfl⟩]
  refine am_get (v := .ref (a)) hC (ci := 1) (N := 5) (j := 0) rfl hkd (by decide) tw_194 (Or.inl rfl) dX0_init_40 (am_rfe hrda) ?_
  refine am_iconst (v := -1) hC dX0_init_43 (by decide) ?_
  refine am_callS hC [.ref (a), .int (-1)] mf_J7_fill_53178 tw_191 (c_fill _ _ (am_tr hC) (am_sI (am_sI (am_sR (am_new (am_sR (am_new (am_sR (am_new h a 9 40) d 0 a) b 10 25) d 1 b) c 11 6) d 2 c) d 3 (-1)) d 4 (-1)) a 40 (-1) (by show hk_ (am_new (am_sR (am_new (am_sR (am_new h a 9 40) d 0 a) b 10 25) d 1 b) c 11 6) a = 9; rw [hk_new, if_neg hac.symm]; show hk_ (am_new (am_sR (am_new h a 9 40) d 0 a) b 10 25) a = 9; rw [hk_new, if_neg hab.symm]; show hk_ (am_new h a 9 40) a = 9; rw [hk_new, if_pos rfl]) (by show hn_ (am_new (am_sR (am_new (am_sR (am_new h a 9 40) d 0 a) b 10 25) d 1 b) c 11 6) a = 40; rw [hn_new, if_neg hac.symm]; show hn_ (am_new (am_sR (am_new h a 9 40) d 0 a) b 10 25) a = 40; rw [hn_new, if_neg hab.symm]; show hn_ (am_new h a 9 40) a = 40; rw [hn_new, if_pos rfl]) (by decide)) rfl ⟨rfl, Nat.le_of_ble_eq_true rfl⟩ ⟨by decide, by decide⟩ (by decide) (by decide) dX0_init_44 rfl (fun _ _ q _ => False.elim q) (fun v h' hp hlc => ?_)
  obtain ⟨rfl, e1, s1⟩ := hp
  refine am_vret hC hR (by decide) (by decide) dX0_init_47 ?_
  exact ⟨rfl, drw h a b c d ha hb hc hda hdb hdc hab hac hbc hkd h' e1 hlc s1⟩
set_option maxRecDepth 100000 in
set_option maxHeartbeats 4000000 in
theorem c_X2_init (G : am_G) (l : Launch) (htr : l.stackTraces = false) (h : am_H) (n d : Nat) (hD : DL h n) (hn6 : n ≤ 6) (hB : XB h n) (hd : d < n) (p s a b : Nat) (hkp : hk_ h p = 4) (hs : hk_ h s = 0) (ha : hk_ h a = 0) (hb : hk_ h b = 0) (hsa : s ≠ a) (hsb : s ≠ b) (hab : b ≠ a) (hof : 124 ≤ p ∧ 124 ≤ s ∧ 124 ≤ a ∧ 124 ≤ b) : am_Met G l yX2_init (.code yX2_init cX2_init 2 none) 10 3 67 [.ref (p), .ref (100 + 4 * d)] h (fun v h' => v = none ∧ am_eq (fun r => r = p ∨ r = s ∨ r = a ∨ r = b) h h' ∧ hk_ h' p = 4 ∧ hr_ h' p 1 = s ∧ hr_ h' p 0 = 100 + 4 * d ∧ ST h' s a b ∧ (∀ k, k < 40 → hi_ h' a k = sdH h d k) ∧ ∀ k, k < 25 → hi_ h' b k = b2i (exH h d k)) (am_no) := by
  have hps : p ≠ s := fun z => by rw [z, hs] at hkp; exact absurd hkp (by decide)
  have hpa : p ≠ a := fun z => by rw [z, ha] at hkp; exact absurd hkp (by decide)
  have hpb : p ≠ b := fun z => by rw [z, hb] at hkp; exact absurd hkp (by decide)
  have ha1 : hk_ (am_new h s 6 0) a = 0 := by rw [hk_new, if_neg hsa.symm]; exact ha
  have hb1 : hk_ (am_new h s 6 0) b = 0 := by rw [hk_new, if_neg hsb.symm]; exact hb
  have hks1 : hk_ (am_new h s 6 0) s = 6 := by rw [hk_new, if_pos rfl]
  have hkp2 : hk_ (stH (am_new h s 6 0) s a b) p = 4 := by rw [hk_stH, if_neg hpb, if_neg hpa, hk_new, if_neg hps]; exact hkp
  have hks3 : hk_ (stH (am_new h s 6 0) s a b) s = 6 := by rw [hk_stH, if_neg hsb, if_neg hsa]; exact hks1
  have e5 : am_eq (fun r => r = p ∨ r = s ∨ r = a ∨ r = b) h (am_sR (am_sR (stH (am_new h s 6 0) s a b) p 1 s) p 0 (100 + 4 * d)) := am_eq_tr (am_eq_tr (am_eq_tr (am_eq_new (Or.inr (Or.inl rfl))) (am_eq_stH (Or.inr (Or.inl rfl)) (Or.inr (Or.inr (Or.inl rfl))) (Or.inr (Or.inr (Or.inr rfl))))) (am_eq_sR (Or.inl rfl))) (am_eq_sR (Or.inl rfl))
  have hSo : ∀ r, (fun r => r = p ∨ r = s ∨ r = a ∨ r = b) r → offD r := fun r z => by unfold offD; rcases z with z | z | z | z <;> omega
  have hD5 := DL_off hSo e5 hn6 hD
  have hB5 := XB_eq hSo e5 hn6 hB
  have hT5 : ST (am_sR (am_sR (stH (am_new h s 6 0) s a b) p 1 s) p 0 (100 + 4 * d)) s a b := ⟨⟨hks3, by show hr_ (am_sR (am_sR (stH (am_new h s 6 0) s a b) p 1 s) p 0 (100 + 4 * d)) s 0 = a; rw [hr_sR, if_neg (fun q => hps q.1.symm), hr_sR, if_neg (fun q => hps q.1.symm)]; exact hr_stH0 hsa hsb, by show hr_ (am_sR (am_sR (stH (am_new h s 6 0) s a b) p 1 s) p 0 (100 + 4 * d)) s 1 = b; rw [hr_sR, if_neg (fun q => hps q.1.symm), hr_sR, if_neg (fun q => hps q.1.symm)]; exact hr_stH1, by show hk_ (stH (am_new h s 6 0) s a b) a = 9; rw [hk_stH, if_neg hab.symm, if_pos rfl], by show hn_ (stH (am_new h s 6 0) s a b) a = 40; rw [hn_stH, if_neg hab.symm, if_pos rfl], by show hk_ (stH (am_new h s 6 0) s a b) b = 10; rw [hk_stH, if_pos rfl], by show hn_ (stH (am_new h s 6 0) s a b) b = 25; rw [hn_stH, if_pos rfl]⟩, hab.symm, hsa, hsb, Or.inr hof.2.2.1, Or.inr hof.2.2.2⟩
  refine am_intro rfl htr rfl (Nat.le_of_ble_eq_true rfl) (fun Z hC hR hI => ?_)
  replace hI := hI rfl
  change am_W Z 0 0 0 [.ref (p), .ref (100 + 4 * d)] [] h
  refine am_aload_n hC dX2_init_0 rfl ?_
  refine am_objinit hC (by omega) tw_511 tw_28 tw_29 (by decide) ⟨rfl, Nat.le_of_ble_eq_true rfl⟩ dX2_init_1 ?_
  refine am_aload_n hC dX2_init_4 rfl ?_
  refine am_newO hC (ci := 5) (N := 2) s rfl hs (by omega) tw_512 tw_63 tw_6 (by decide) (by decide) dX2_init_5 ?_
  refine am_dup hC dX2_init_8 rfl ?_
  refine am_callIN hC [] (by omega) mf_X4_init tw_513 (c_X4_init _ _ (am_tr hC) (am_new h s 6 0) s a b hks1 ha1 hb1 hab (by omega) (by omega) (by omega)) rfl ⟨rfl, Nat.le_of_ble_eq_true rfl⟩ ⟨by decide, by decide⟩ (by decide) (by decide) dX2_init_9 rfl (fun _ _ q _ => False.elim q) (fun v h' hp hlc => ?_)
  obtain ⟨rfl, z8⟩ := hp
  subst z8
  have hkp : hk_ (stH (am_new h s 6 0) s a b) p = 4 := hkp2
  refine am_putFR hC hI (ci := 3) (N := 2) (j := 1) rfl hkp (by decide) rfl rfl rfl (Or.inl ⟨_, rfl⟩) rfl tw_517 dX2_init_12 ?_
  refine am_aload_n hC dX2_init_15 rfl ?_
  refine am_aload_n hC dX2_init_16 rfl ?_
  refine am_putFR hC hI (ci := 3) (N := 2) (j := 0) rfl hkp (by decide) rfl rfl rfl (Or.inl ⟨_, rfl⟩) rfl tw_515 dX2_init_17 ?_
  refine am_aload_n hC dX2_init_20 rfl ?_
  have hks3 : hk_ (am_sR (am_sR (stH (am_new h s 6 0) s a b) p 1 s) p 0 (100 + 4 * d)) s = 6 := hks3
  have hrp : hr_ (am_sR (am_sR (stH (am_new h s 6 0) s a b) p 1 s) p 0 (100 + 4 * d)) p 1 = s := by rw [hr_sR, if_neg (fun q => absurd q.2 (by decide)), hr_sR, if_pos ⟨rfl, rfl⟩]
  refine am_get (v := .ref (s)) hC (ci := 3) (N := 2) (j := 1) rfl hkp (by decide) tw_517 (Or.inl rfl) dX2_init_21 (am_rfe hrp) ?_
  refine am_aload_n hC dX2_init_24 rfl ?_
  refine am_callVN hC (ci := 5) (N := 2) [.ref (100 + 4 * d)] rfl hks3 rfl mf_X4_takeFrom tw_514 (c_X4_takeFrom _ _ (am_tr hC) (am_sR (am_sR (stH (am_new h s 6 0) s a b) p 1 s) p 0 (100 + 4 * d)) n hD5 hn6 hB5 s a b hT5 d hd) rfl ⟨rfl, Nat.le_of_ble_eq_true rfl⟩ ⟨by decide, by decide⟩ (by decide) (by decide) dX2_init_25 rfl (fun _ _ q _ => False.elim q) (fun v h' hp hlc => ?_)
  obtain ⟨rfl, e6, s1, s2⟩ := hp
  have ep := e6 p (fun z => by rcases z with z | z; exact hpa z; exact hpb z)
  have hST := ST_eq (fun z => by rcases z with z | z; exact hsa z; exact hsb z) e6 hlc hT5
  refine am_vret hC hR (by decide) (by decide) dX2_init_28 ?_
  exact ⟨rfl, am_eq_tr e5 (am_eq_mono (fun r z => Or.inr (Or.inr z)) e6), ep.1.trans hkp2, (ep.2.2.2.1 _).trans hrp, (ep.2.2.2.1 _).trans (by rw [hr_sR, if_pos ⟨rfl, rfl⟩]), hST, fun k hk => (s1 k hk).trans (sdF_eq hSo e5 hD hn6 hd), fun k hk => (s2 k hk).trans (congrArg b2i (exF_eq hSo e5 hD hn6 hd))⟩
set_option maxRecDepth 100000 in
set_option maxHeartbeats 4000000 in
theorem c_X3_init (G : am_G) (l : Launch) (htr : l.stackTraces = false) (h : am_H) (n d : Nat) (hD : DL h n) (hn6 : n ≤ 6) (hB : XB h n) (hd : d < n) (p s a b : Nat) (q : Int32) (hkp : hk_ h p = 5) (hs : hk_ h s = 0) (ha : hk_ h a = 0) (hb : hk_ h b = 0) (hsa : s ≠ a) (hsb : s ≠ b) (hab : b ≠ a) (hof : 124 ≤ p ∧ 124 ≤ s ∧ 124 ≤ a ∧ 124 ≤ b) : am_Met G l yX3_init (.code yX3_init cX3_init 3 none) 10 3 67 [.ref (p), .ref (100 + 4 * d), .int (q)] h (fun v h' => v = none ∧ am_eq (fun r => r = p ∨ r = s ∨ r = a ∨ r = b) h h' ∧ hk_ h' p = 5 ∧ hr_ h' p 1 = s ∧ hr_ h' p 0 = 100 + 4 * d ∧ hi_ h' p 2 = q ∧ ST h' s a b ∧ (∀ k, k < 40 → hi_ h' a k = sdH h d k) ∧ ∀ k, k < 25 → hi_ h' b k = b2i (exH h d k)) (am_no) := by
  have hps : p ≠ s := fun z => by rw [z, hs] at hkp; exact absurd hkp (by decide)
  have hpa : p ≠ a := fun z => by rw [z, ha] at hkp; exact absurd hkp (by decide)
  have hpb : p ≠ b := fun z => by rw [z, hb] at hkp; exact absurd hkp (by decide)
  have ha1 : hk_ (am_new h s 6 0) a = 0 := by rw [hk_new, if_neg hsa.symm]; exact ha
  have hb1 : hk_ (am_new h s 6 0) b = 0 := by rw [hk_new, if_neg hsb.symm]; exact hb
  have hks1 : hk_ (am_new h s 6 0) s = 6 := by rw [hk_new, if_pos rfl]
  have hkp2 : hk_ (stH (am_new h s 6 0) s a b) p = 5 := by rw [hk_stH, if_neg hpb, if_neg hpa, hk_new, if_neg hps]; exact hkp
  have hks3 : hk_ (stH (am_new h s 6 0) s a b) s = 6 := by rw [hk_stH, if_neg hsb, if_neg hsa]; exact hks1
  have e5 : am_eq (fun r => r = p ∨ r = s ∨ r = a ∨ r = b) h (am_sI (am_sR (am_sR (stH (am_new h s 6 0) s a b) p 1 s) p 0 (100 + 4 * d)) p 2 q) := am_eq_tr (am_eq_tr (am_eq_tr (am_eq_tr (am_eq_new (Or.inr (Or.inl rfl))) (am_eq_stH (Or.inr (Or.inl rfl)) (Or.inr (Or.inr (Or.inl rfl))) (Or.inr (Or.inr (Or.inr rfl))))) (am_eq_sR (Or.inl rfl))) (am_eq_sR (Or.inl rfl))) (am_eq_sI (Or.inl rfl))
  have hSo : ∀ r, (fun r => r = p ∨ r = s ∨ r = a ∨ r = b) r → offD r := fun r z => by unfold offD; rcases z with z | z | z | z <;> omega
  have hD5 := DL_off hSo e5 hn6 hD
  have hB5 := XB_eq hSo e5 hn6 hB
  have hT5 : ST (am_sI (am_sR (am_sR (stH (am_new h s 6 0) s a b) p 1 s) p 0 (100 + 4 * d)) p 2 q) s a b := ⟨⟨hks3, by show hr_ (am_sR (am_sR (stH (am_new h s 6 0) s a b) p 1 s) p 0 (100 + 4 * d)) s 0 = a; rw [hr_sR, if_neg (fun q => hps q.1.symm), hr_sR, if_neg (fun q => hps q.1.symm)]; exact hr_stH0 hsa hsb, by show hr_ (am_sR (am_sR (stH (am_new h s 6 0) s a b) p 1 s) p 0 (100 + 4 * d)) s 1 = b; rw [hr_sR, if_neg (fun q => hps q.1.symm), hr_sR, if_neg (fun q => hps q.1.symm)]; exact hr_stH1, by show hk_ (stH (am_new h s 6 0) s a b) a = 9; rw [hk_stH, if_neg hab.symm, if_pos rfl], by show hn_ (stH (am_new h s 6 0) s a b) a = 40; rw [hn_stH, if_neg hab.symm, if_pos rfl], by show hk_ (stH (am_new h s 6 0) s a b) b = 10; rw [hk_stH, if_pos rfl], by show hn_ (stH (am_new h s 6 0) s a b) b = 25; rw [hn_stH, if_pos rfl]⟩, hab.symm, hsa, hsb, Or.inr hof.2.2.1, Or.inr hof.2.2.2⟩
  refine am_intro rfl htr rfl (Nat.le_of_ble_eq_true rfl) (fun Z hC hR hI => ?_)
  replace hI := hI rfl
  change am_W Z 0 0 0 [.ref (p), .ref (100 + 4 * d), .int (q)] [] h
  refine am_aload_n hC dX3_init_0 rfl ?_
  refine am_objinit hC (by omega) tw_549 tw_28 tw_29 (by decide) ⟨rfl, Nat.le_of_ble_eq_true rfl⟩ dX3_init_1 ?_
  refine am_aload_n hC dX3_init_4 rfl ?_
  refine am_newO hC (ci := 5) (N := 2) s rfl hs (by omega) tw_550 tw_63 tw_6 (by decide) (by decide) dX3_init_5 ?_
  refine am_dup hC dX3_init_8 rfl ?_
  refine am_callIN hC [] (by omega) mf_X4_init tw_551 (c_X4_init _ _ (am_tr hC) (am_new h s 6 0) s a b hks1 ha1 hb1 hab (by omega) (by omega) (by omega)) rfl ⟨rfl, Nat.le_of_ble_eq_true rfl⟩ ⟨by decide, by decide⟩ (by decide) (by decide) dX3_init_9 rfl (fun _ _ q _ => False.elim q) (fun v h' hp hlc => ?_)
  obtain ⟨rfl, z8⟩ := hp
  subst z8
  have hkp : hk_ (stH (am_new h s 6 0) s a b) p = 5 := hkp2
  refine am_putFR hC hI (ci := 4) (N := 3) (j := 1) rfl hkp (by decide) rfl rfl rfl (Or.inl ⟨_, rfl⟩) rfl tw_554 dX3_init_12 ?_
  refine am_aload_n hC dX3_init_15 rfl ?_
  refine am_aload_n hC dX3_init_16 rfl ?_
  refine am_putFR hC hI (ci := 4) (N := 3) (j := 0) rfl hkp (by decide) rfl rfl rfl (Or.inl ⟨_, rfl⟩) rfl tw_553 dX3_init_17 ?_
  refine am_aload_n hC dX3_init_20 rfl ?_
  refine am_iload_n hC dX3_init_21 rfl ?_
  refine am_putFI hC hI (ci := 4) (N := 3) (j := 2) rfl hkp (by decide) rfl rfl rfl rfl tw_555 dX3_init_22 ?_
  refine am_aload_n hC dX3_init_25 rfl ?_
  have hks3 : hk_ (am_sI (am_sR (am_sR (stH (am_new h s 6 0) s a b) p 1 s) p 0 (100 + 4 * d)) p 2 q) s = 6 := hks3
  have hrp : hr_ (am_sI (am_sR (am_sR (stH (am_new h s 6 0) s a b) p 1 s) p 0 (100 + 4 * d)) p 2 q) p 1 = s := by rw [hr_sI, hr_sR, if_neg (fun q => absurd q.2 (by decide)), hr_sR, if_pos ⟨rfl, rfl⟩]
  refine am_get (v := .ref (s)) hC (ci := 4) (N := 3) (j := 1) rfl hkp (by decide) tw_554 (Or.inl rfl) dX3_init_26 (am_rfe hrp) ?_
  refine am_aload_n hC dX3_init_29 rfl ?_
  refine am_callVN hC (ci := 5) (N := 2) [.ref (100 + 4 * d)] rfl hks3 rfl mf_X4_takeFrom tw_552 (c_X4_takeFrom _ _ (am_tr hC) (am_sI (am_sR (am_sR (stH (am_new h s 6 0) s a b) p 1 s) p 0 (100 + 4 * d)) p 2 q) n hD5 hn6 hB5 s a b hT5 d hd) rfl ⟨rfl, Nat.le_of_ble_eq_true rfl⟩ ⟨by decide, by decide⟩ (by decide) (by decide) dX3_init_30 rfl (fun _ _ q _ => False.elim q) (fun v h' hp hlc => ?_)
  obtain ⟨rfl, e6, s1, s2⟩ := hp
  have ep := e6 p (fun z => by rcases z with z | z; exact hpa z; exact hpb z)
  have hST := ST_eq (fun z => by rcases z with z | z; exact hsa z; exact hsb z) e6 hlc hT5
  refine am_vret hC hR (by decide) (by decide) dX3_init_33 ?_
  exact ⟨rfl, am_eq_tr e5 (am_eq_mono (fun r z => Or.inr (Or.inr z)) e6), ep.1.trans hkp2, (ep.2.2.2.1 _).trans hrp, (ep.2.2.2.1 _).trans (by rw [hr_sI, hr_sR, if_pos ⟨rfl, rfl⟩]), (ep.2.2.1 _).trans (by rw [hi_sI, if_pos ⟨rfl, rfl⟩]), hST, fun k hk => (s1 k hk).trans (sdF_eq hSo e5 hD hn6 hd), fun k hk => (s2 k hk).trans (congrArg b2i (exF_eq hSo e5 hD hn6 hd))⟩
