/-! ===== the law's loop ===== -/
theorem and31 (y : Int32) : ∃ k, k < 32 ∧ y &&& nI 31 = nI k := by
  refine ⟨(y &&& nI 31).toBitVec.toNat, ?_, ?_⟩
  · have e : (y &&& nI 31).toBitVec = y.toBitVec &&& 31#32 := Int32.toBitVec_and y (nI 31)
    rw [e, BitVec.toNat_and]
    exact Nat.lt_of_le_of_lt Nat.and_le_right (by decide)
  · apply Int32.toBitVec_inj.mp
    show _ = (Int32.ofNat _).toBitVec
    rw [Int32.toBitVec_ofNat']
    rw [BitVec.ofNat_toNat, BitVec.setWidth_eq]
theorem len_5 {L i : Nat} (hL : L ≤ 2560) (hi : i ≤ 2564) : (nI L - nI 5 < nI i) ↔ L < i + 5 := by
  by_cases z : 5 ≤ L
  · have e : nI L - nI 5 = nI (L - 5) := pk_sub (by omega)
    rw [e, nI_ltI (by omega) (by omega)]
    omega
  · have e : nI L - nI 5 < 0 := by
      have : L = 0 ∨ L = 1 ∨ L = 2 ∨ L = 3 ∨ L = 4 := by omega
      rcases this with rfl | rfl | rfl | rfl | rfl <;> decide
    exact ⟨fun _ => by omega, fun _ => Int32.lt_of_lt_of_le e (Int32.not_lt.mp (nI_pos (by omega)))⟩
set_option maxRecDepth 100000 in
set_option maxHeartbeats 4000000 in
theorem law_loop {Z : am_Z} {L : Nat} {xs : Nat → Int32} (hC : am_OK Z "HousePlansLaw" cL_law 7 20 601024 7293033) (hS : SCR Z L xs) (hL : L ≤ 2560) (hfin : ∀ (kc ks : Nat) (ls : List Value) (h : am_H), kc ≤ 601024 → ks ≤ 7293033 → am_W Z kc ks 1536 ls [.int (nI 1)] h) : ∀ (q i kc ks : Nat) (h : am_H) (n np nq : Nat), i ≤ 2564 → L < i + 5 * q → kc + 10 * q ≤ 601024 → ks + 200 * q ≤ 7293033 → INV h n np nq → am_W Z kc ks 23 [.ref (41), .ref (3), .ref (14), .ref (40), .int (nI i), .null, .null] [] h := by
  intro q
  induction q with
  | zero =>
    intro i kc ks h n np nq hi hq hkc hks hI
    refine am_iload hC dL_law_23 rfl ?_
    refine am_aload_n hC dL_law_25 rfl ?_
    refine am_slen hC hS dL_law_26 ?_
    refine am_iconst (v := nI 5) hC dL_law_27 (by decide) ?_
    refine am_isubE (z := nI L - nI 5) hC dL_law_28 rfl ?_
    refine am_icmp_gt (tgt := 1535) hC dL_law_29 (by decide) (fun c_29 => ?_) (fun c_29 => absurd ((len_5 hL hi).mpr (by omega)) c_29)
    refine am_iconst (v := nI 1) hC dL_law_1535 (by decide) ?_
    exact hfin _ _ _ _ (by omega) (by omega)
  | succ q ih =>
    intro i kc ks h n np nq hi hq hkc hks hI
    refine am_iload hC dL_law_23 rfl ?_
    refine am_aload_n hC dL_law_25 rfl ?_
    refine am_slen hC hS dL_law_26 ?_
    refine am_iconst (v := nI 5) hC dL_law_27 (by decide) ?_
    refine am_isubE (z := nI L - nI 5) hC dL_law_28 rfl ?_
    refine am_icmp_gt (tgt := 1535) hC dL_law_29 (by decide) (fun c_29 => ?_) (fun c_29 => ?_)
    · refine am_iconst (v := nI 1) hC dL_law_1535 (by decide) ?_
      exact hfin _ _ _ _ (by omega) (by omega)
    · have hi5 : i + 5 ≤ L := by have := mt (len_5 hL hi).mpr c_29; omega
      refine am_aload_n hC dL_law_32 rfl ?_
      refine am_iload hC dL_law_33 rfl ?_
      refine am_sld hC hS (j := i) rfl (by omega) dL_law_35 ?_
      refine am_bipush (v := nI 31) hC dL_law_36 (by decide) ?_
      refine am_iandE (z := xs i &&& nI 31) hC dL_law_38 rfl ?_
      have hend : ∀ (h' : am_H) (n' np' nq' : Nat), INV h' n' np' nq' → am_W Z (kc + 10) (ks + 200) 1529 [.ref (41), .ref (3), .ref (14), .ref (40), .int (nI i), .null, .null] [] h' := fun h' n' np' nq' hI' => by
        refine am_iinc (v := nI (i + 5)) hC dL_law_1529 rfl (nI_add (i) 5) (by decide) ?_
        change am_W _ _ _ _ [.ref (41), .ref (3), .ref (14), .ref (40), .int (nI (i + 5)), .null, .null] _ _
        refine am_goto (tgt := 23) hC dL_law_1532 (by decide) ?_
        exact ih (i + 5) _ _ h' n' np' nq' (by omega) (by omega) (by omega) (by omega) hI'
      obtain ⟨k, hk, ek⟩ := and31 (xs i)
      rw [ek]
      by_cases z0 : k = 0
      · rw [z0]
        refine am_tabIn (x := nI 0) (off := 101) (tgt := 140) hC dL_law_39 (by decide) (by decide) (by decide) (by decide) ?_
        exact lc_begin hC hS hL hI hi5 (by omega) (by omega) hend
      by_cases z1 : k = 1
      · rw [z1]
        refine am_tabIn (x := nI 1) (off := 145) (tgt := 184) hC dL_law_39 (by decide) (by decide) (by decide) (by decide) ?_
        exact lc_tell hC hS hL hI hi5 (by omega) (by omega) hend
      by_cases z2 : k = 2
      · rw [z2]
        refine am_tabIn (x := nI 2) (off := 237) (tgt := 276) hC dL_law_39 (by decide) (by decide) (by decide) (by decide) ?_
        exact lc_setExit hC hS hL hI hi5 (by omega) (by omega) hend
      by_cases z3 : k = 3
      · rw [z3]
        refine am_tabIn (x := nI 3) (off := 352) (tgt := 391) hC dL_law_39 (by decide) (by decide) (by decide) (by decide) ?_
        exact lc_refer hC hS hL hI hi5 (by omega) (by omega) hend
      by_cases z4 : k = 4
      · rw [z4]
        refine am_tabIn (x := nI 4) (off := 467) (tgt := 506) hC dL_law_39 (by decide) (by decide) (by decide) (by decide) ?_
        exact lc_drawings hC hS hL hI hi5 (by omega) (by omega) hend
      by_cases z5 : k = 5
      · rw [z5]
        refine am_tabIn (x := nI 5) (off := 480) (tgt := 519) hC dL_law_39 (by decide) (by decide) (by decide) (by decide) ?_
        exact lc_side hC hS hL hI hi5 (by omega) (by omega) hend
      by_cases z6 : k = 6
      · rw [z6]
        refine am_tabIn (x := nI 6) (off := 548) (tgt := 587) hC dL_law_39 (by decide) (by decide) (by decide) (by decide) ?_
        exact lc_hasExit hC hS hL hI hi5 (by omega) (by omega) hend
      by_cases z7 : k = 7
      · rw [z7]
        refine am_tabIn (x := nI 7) (off := 623) (tgt := 662) hC dL_law_39 (by decide) (by decide) (by decide) (by decide) ?_
        exact lc_rooms hC hS hL hI hi5 (by omega) (by omega) hend
      by_cases z8 : k = 8
      · rw [z8]
        refine am_tabIn (x := nI 8) (off := 679) (tgt := 718) hC dL_law_39 (by decide) (by decide) (by decide) (by decide) ?_
        exact lc_room hC hS hL hI hi5 (by omega) (by omega) hend
      by_cases z9 : k = 9
      · rw [z9]
        refine am_tabIn (x := nI 9) (off := 747) (tgt := 786) hC dL_law_39 (by decide) (by decide) (by decide) (by decide) ?_
        exact lc_size hC hS hL hI hi5 (by omega) (by omega) hend
      by_cases z10 : k = 10
      · rw [z10]
        refine am_tabIn (x := nI 10) (off := 815) (tgt := 854) hC dL_law_39 (by decide) (by decide) (by decide) (by decide) ?_
        exact lc_doorsOut hC hS hL hI hi5 (by omega) (by omega) hend
      by_cases z11 : k = 11
      · rw [z11]
        refine am_tabIn (x := nI 11) (off := 883) (tgt := 922) hC dL_law_39 (by decide) (by decide) (by decide) (by decide) ?_
        exact lc_doorThatHelps hC hS hL hI hi5 (by omega) (by omega) hend
      by_cases z12 : k = 12
      · rw [z12]
        refine am_tabIn (x := nI 12) (off := 951) (tgt := 990) hC dL_law_39 (by decide) (by decide) (by decide) (by decide) ?_
        exact lc_lock hC hS hL hI hi5 (by omega) (by omega) hend
      by_cases z13 : k = 13
      · rw [z13]
        refine am_tabIn (x := nI 13) (off := 999) (tgt := 1038) hC dL_law_39 (by decide) (by decide) (by decide) (by decide) ?_
        exact lc_unlock hC hS hL hI hi5 (by omega) (by omega) hend
      by_cases z14 : k = 14
      · rw [z14]
        refine am_tabIn (x := nI 14) (off := 1047) (tgt := 1086) hC dL_law_39 (by decide) (by decide) (by decide) (by decide) ?_
        exact lc_lend hC hS hL hI hi5 (by omega) (by omega) hend
      by_cases z15 : k = 15
      · rw [z15]
        refine am_tabIn (x := nI 15) (off := 1127) (tgt := 1166) hC dL_law_39 (by decide) (by decide) (by decide) (by decide) ?_
        exact lc_canChange hC hS hL hI hi5 (by omega) (by omega) hend
      by_cases z16 : k = 16
      · rw [z16]
        refine am_tabIn (x := nI 16) (off := 1183) (tgt := 1222) hC dL_law_39 (by decide) (by decide) (by decide) (by decide) ?_
        exact lc_grant hC hS hL hI hi5 (by omega) (by omega) hend
      by_cases z17 : k = 17
      · rw [z17]
        refine am_tabIn (x := nI 17) (off := 1239) (tgt := 1278) hC dL_law_39 (by decide) (by decide) (by decide) (by decide) ?_
        exact lc_holds hC hS hL hI hi5 (by omega) (by omega) hend
      by_cases z18 : k = 18
      · rw [z18]
        refine am_tabIn (x := nI 18) (off := 1302) (tgt := 1341) hC dL_law_39 (by decide) (by decide) (by decide) (by decide) ?_
        exact lc_print hC hS hL hI hi5 (by omega) (by omega) hend
      by_cases z19 : k = 19
      · rw [z19]
        refine am_tabIn (x := nI 19) (off := 1358) (tgt := 1397) hC dL_law_39 (by decide) (by decide) (by decide) (by decide) ?_
        exact lc_permitOf hC hS hL hI hi5 (by omega) (by omega) hend
      by_cases z20 : k = 20
      · rw [z20]
        refine am_tabIn (x := nI 20) (off := 1414) (tgt := 1453) hC dL_law_39 (by decide) (by decide) (by decide) (by decide) ?_
        exact lc_isGood hC hS hL hI hi5 (by omega) (by omega) hend
      by_cases z21 : k = 21
      · rw [z21]
        refine am_tabIn (x := nI 21) (off := 1477) (tgt := 1516) hC dL_law_39 (by decide) (by decide) (by decide) (by decide) ?_
        exact lc_old hC hS hL hI hi5 (by omega) (by omega) hend
      refine am_tabOut (x := nI k) (tgt := 1529) hC dL_law_39 (Or.inr ?_) (by decide) ?_
      · rw [nI_toInt (by omega)]; omega
      · exact am_more (by omega) (by omega) (hend h n np nq hI)
/-! ===== the law's start ===== -/
def h00 : am_H := ((fun r => if r = 1 then 14 else if r = 2 then 15 else if r = 41 then 14 else 0), (fun _ => 0), (fun _ _ => 0), (fun _ _ => 0), fun _ _ => 0)
theorem hk_00 {r : Nat} (h1 : r ≠ 1) (h2 : r ≠ 2) (h3 : r ≠ 41) : hk_ h00 r = 0 := by
  show (if r = 1 then 14 else if r = 2 then 15 else if r = 41 then 14 else 0) = 0
  rw [if_neg h1, if_neg h2, if_neg h3]
theorem INV_0 {h1 h2 h3 h4 : am_H} (f1 : FC h1) (l4 : LT h1 4 0 0 100 1) (l5 : LT h1 5 0 0 200 3) (l6 : LT h1 6 0 0 300 4) (e1 : am_eq (fun r => 3 ≤ r ∧ r ≤ 13) h00 h1) (e2 : h2 = am_new h1 14 8 0) (f3 : FM h3) (e3 : am_eq (fun r => 14 ≤ r ∧ r ≤ 32) h2 h3) (le3 : am_le h2 h3) (z1 : ∀ q ∈ rp_KM, q.1 ≠ 14 → ∀ j, hi_ h3 q.1 j = 0) (z2 : ∀ j, hi_ h3 14 j = 0) (e4 : h4 = am_new h3 40 13 1) : INV h4 0 0 0 := by
  have d1 : ∀ r, 13 < r → r ≠ 41 → hk_ h1 r = 0 := fun r hr h41 => (e1 r (by omega)).1.trans (hk_00 (by omega) (by omega) h41)
  have E2 : am_eq (fun r => 14 ≤ r ∧ r ≤ 40) h1 h2 := by rw [e2]; exact am_eq_new (by decide)
  have E4 : am_eq (fun r => 14 ≤ r ∧ r ≤ 40) h3 h4 := by rw [e4]; exact am_eq_new (by decide)
  have E : am_eq (fun r => 14 ≤ r ∧ r ≤ 40) h1 h4 := am_eq_tr E2 (am_eq_tr (am_eq_mono (fun r hr => by omega) e3) E4)
  have l2 : am_le h1 h2 := by rw [e2]; exact am_le_new (d1 14 (by decide) (by decide))
  have k40 : hk_ h3 40 = 0 := by
    rw [(e3 40 (by decide)).1, e2, hk_new, if_neg (by decide)]
    exact d1 40 (by decide) (by decide)
  have l4' : am_le h3 h4 := by rw [e4]; exact am_le_new k40
  have le : am_le h1 h4 := am_le_tr l2 (am_le_tr le3 l4')
  have FM4 : FM h4 := FM_eq (S := fun r => r = 40) (by decide) (by rw [e4]; exact am_eq_new rfl) l4' f3
  have q4 : ∀ r, r ≠ 40 → ∀ j, hi_ h4 r j = hi_ h3 r j := fun r hr j => by rw [e4, hi_new, if_neg hr]
  refine ⟨⟨⟨FC_eq (fun r hr => by omega) E le f1, fun i hi => absurd hi (Nat.not_lt_zero i), fun d hd => absurd hd (Nat.not_lt_zero d)⟩, ⟨by decide, by decide, by decide⟩, ⟨⟨0, LT_eq (fun r hr z => by unfold SL at z; omega) E le l4⟩, ⟨0, LT_eq (fun r hr z => by unfold SL at z; omega) E le l5⟩, ⟨0, LT_eq (fun r hr z => by unfold SL at z; omega) E le l6⟩⟩, ⟨fun i hi => absurd hi (Nat.not_lt_zero i), fun i hi => absurd hi (Nat.not_lt_zero i)⟩, fun r hr => ?_⟩, ⟨⟨FM4, by decide, ?_, fun d hd => absurd hd (Nat.not_lt_zero d), fun d hd => absurd hd (Nat.not_lt_zero d), fun d hd => absurd hd (Nat.not_lt_zero d), fun _ => 0, fun d hd => absurd hd (Nat.not_lt_zero d)⟩, ⟨?_, ?_⟩, fun d hd => absurd hd (Nat.not_lt_zero d), fun d _ hd => ?_, fun i hi => absurd hi (Nat.not_lt_zero i), fun i hi => absurd hi (Nat.not_lt_zero i)⟩, ?_⟩
  · unfold ded at hr
    exact (E r (by omega)).1.trans (d1 r (by omega) (by omega))
  · rw [q4 14 (by decide)]; exact z2 0
  · rw [q4 14 (by decide)]; exact z2 10
  · rw [q4 14 (by decide)]; exact z2 14
  · rw [q4 16 (by decide), q4 17 (by decide)]
    exact ⟨z1 (16, 9, 6) (by decide) (by decide) d, z1 (17, 9, 6) (by decide) (by decide) d⟩
  · rw [e4]
    exact ⟨by rw [hk_new, if_pos rfl], by rw [hn_new, if_pos rfl]⟩
set_option maxRecDepth 100000 in
set_option maxHeartbeats 4000000 in
theorem law_all {Z : am_Z} {L : Nat} {xs : Nat → Int32} (hC : am_OK Z "HousePlansLaw" cL_law 7 20 601024 7293033) (hS : SCR Z L xs) (hL : L ≤ 2560) (hfin : ∀ (kc ks : Nat) (ls : List Value) (h : am_H), kc ≤ 601024 → ks ≤ 7293033 → am_W Z kc ks 1536 ls [.int (nI 1)] h) : am_W Z 0 0 0 [.ref (41), .null, .null, .null, .null, .null, .null] [] h00 := by
  refine am_newO hC (ci := 6) (N := 4) 3 rfl (hk_00 (by decide) (by decide) (by decide)) (by decide) tw_23 tw_24 tw_1 (by decide) (by decide) dL_law_0 ?_
  refine am_dup hC dL_law_3 rfl ?_
  refine am_callI hC [] (by decide) mf_X5_init tw_25 (c_X5_init _ _ (am_tr hC) (am_new h00 3 7 0) rfl rfl (fun r h1 h2 => by rw [hk_new, if_neg (by omega)]; exact hk_00 (by omega) (by omega) (by omega)) (fun L c h1 h2 h3 => by rw [hk_new, if_neg (by unfold rw_; omega)]; exact hk_00 (by unfold rw_; omega) (by unfold rw_; omega) (by unfold rw_; omega))) rfl ⟨rfl, Nat.le_of_ble_eq_true rfl⟩ ⟨by decide, by decide⟩ (by decide) (by decide) dL_law_4 rfl (fun _ _ q _ => False.elim q) (fun v h1 hp hlc => ?_)
  obtain ⟨rfl, f1, l4, l5, l6, e1⟩ := hp
  have e1 : am_eq (fun r => 3 ≤ r ∧ r ≤ 13) h00 h1 := am_eq_tr (am_eq_new (by decide)) e1
  have d1 : ∀ r, 13 < r → r ≠ 41 → hk_ h1 r = 0 := fun r hr h41 => (e1 r (by omega)).1.trans (hk_00 (by omega) (by omega) h41)
  refine am_astore_n hC dL_law_7 (by decide) ?_
  change am_W _ _ _ _ [.ref (41), .ref (3), .null, .null, .null, .null, .null] _ _
  refine am_newO hC (ci := 7) (N := 20) 14 rfl (d1 14 (by decide) (by decide)) (by decide) tw_642 tw_643 tw_7 (by decide) (by decide) dL_law_8 ?_
  obtain ⟨h2, e2⟩ : ∃ g, g = am_new h1 14 8 0 := ⟨_, rfl⟩
  rw [← e2]
  have k2 : ∀ r, r ≠ 14 → hk_ h2 r = hk_ h1 r := fun r hr => by rw [e2, hk_new, if_neg hr]
  refine am_dup hC dL_law_11 rfl ?_
  refine am_callI hC [] (by decide) mf_X6_init tw_644 (c_X6_init _ _ (am_tr hC) h2 (by rw [e2, hk_new, if_pos rfl]) (by rw [e2, hn_new, if_pos rfl]) (fun j => by rw [e2, hi_new, if_pos rfl]) (fun r h1 h2 => (k2 r (by omega)).trans (d1 r (by omega) (by omega)))) rfl ⟨rfl, Nat.le_of_ble_eq_true rfl⟩ ⟨by decide, by decide⟩ (by decide) (by decide) dL_law_12 rfl (fun _ _ q _ => False.elim q) (fun v h3 hp hlc => ?_)
  obtain ⟨rfl, f3, e3, z1, z2⟩ := hp
  have k40 : hk_ h3 40 = 0 := (e3 40 (by decide)).1.trans ((k2 40 (by decide)).trans (d1 40 (by decide) (by decide)))
  have le3 := hlc
  refine am_astore_n hC dL_law_15 (by decide) ?_
  change am_W _ _ _ _ [.ref (41), .ref (3), .ref (14), .null, .null, .null, .null] _ _
  refine am_iconst (v := nI 1) hC dL_law_16 (by decide) ?_
  refine am_newA hC (at_ := .long) 40 (kk := 13) (N := 1) (by decide) k40 (by decide) rfl (by decide) tw_860 (by decide) (by decide) dL_law_17 ?_
  obtain ⟨h4, e4⟩ : ∃ g, g = am_new h3 40 13 1 := ⟨_, rfl⟩
  rw [← e4]
  have hI : INV h4 0 0 0 := INV_0 f1 l4 l5 l6 e1 e2 f3 e3 le3 z1 z2 e4
  refine am_astore_n hC dL_law_19 (by decide) ?_
  change am_W _ _ _ _ [.ref (41), .ref (3), .ref (14), .ref (40), .null, .null, .null] _ _
  refine am_iconst (v := nI 0) hC dL_law_20 (by decide) ?_
  refine am_istore hC dL_law_21 (by decide) ?_
  change am_W _ _ _ _ [.ref (41), .ref (3), .ref (14), .ref (40), .int (nI 0), .null, .null] _ _
  exact law_loop hC hS hL hfin 513 0 _ _ h4 0 0 0 (by decide) (by omega) (by decide) (by decide) hI
