/-! ===== the class's calls: permits and prints ===== -/
def CJ (h : am_H) (n np nq : Nat) : Prop := (FC h ∧ DL h n ∧ XB h n) ∧ (n ≤ 6 ∧ np ≤ 20 ∧ nq ≤ 30) ∧ ((∃ c, LT h 4 n c 100 1) ∧ (∃ c, LT h 5 np c 200 3) ∧ ∃ c, LT h 6 nq c 300 4) ∧ ((∀ i, i < np → PMx h n i) ∧ ∀ i, i < nq → PNx h n i) ∧ True
theorem CJ_of {h : am_H} {n np nq : Nat} (hc : CI h n np nq) : CJ h n np nq := ⟨hc.1, hc.2.1, hc.2.2.1, hc.2.2.2.1, trivial⟩
def pdH (h : am_H) (i : Nat) : Nat := (hr_ h (200 + 4 * i) 0 - 100) / 4
def qdH (h : am_H) (i : Nat) : Nat := (hr_ h (300 + 4 * i) 0 - 100) / 4
/-- what is kept at a and b is what drawing d is -/
def KP (h : am_H) (a b d : Nat) : Prop := (∀ s, s < 40 → hi_ h a s = sdH h d s) ∧ ∀ k, k < 25 → hi_ h b k = b2i (exH h d k)
def KPm (h : am_H) (i : Nat) : Prop := KP h (202 + 4 * i) (203 + 4 * i) (pdH h i)
def KQm (h : am_H) (i : Nat) : Prop := KP h (302 + 4 * i) (303 + 4 * i) (qdH h i)
/-- the highest permit for drawing d that holds -/
def HPm (h : am_H) (np d : Nat) (R : Int32) : Prop := (R = -1 ∧ ∀ k, k < np → ¬ (pdH h k = d ∧ KPm h k)) ∨ ∃ k, k < np ∧ R = nI k ∧ (pdH h k = d ∧ KPm h k) ∧ ∀ j, k < j → j < np → ¬ (pdH h j = d ∧ KPm h j)
theorem pd_of {h : am_H} {i d : Nat} (e : hr_ h (200 + 4 * i) 0 = 100 + 4 * d) : pdH h i = d := by unfold pdH; omega
theorem qd_of {h : am_H} {i d : Nat} (e : hr_ h (300 + 4 * i) 0 = 100 + 4 * d) : qdH h i = d := by unfold qdH; omega
theorem HPm_u {h : am_H} {np d : Nat} {R R' : Int32} (hn : np < 2 ^ 31) (a : HPm h np d R) (b : HPm h np d R') : R = R' := by
  rcases a with ⟨rfl, a⟩ | ⟨k, hk, rfl, a1, a2⟩ <;> rcases b with ⟨rfl, b⟩ | ⟨k', hk', rfl, b1, b2⟩
  · rfl
  · exact absurd b1 (a k' hk')
  · exact absurd a1 (b k hk)
  · rcases Nat.lt_trichotomy k k' with z | z | z
    · exact absurd b1 (a2 k' z hk')
    · rw [z]
    · exact absurd a1 (b2 k z hk)
set_option maxRecDepth 100000 in
set_option maxHeartbeats 4000000 in
theorem c_X2_isValid (G : am_G) (l : Launch) (htr : l.stackTraces = false) (h : am_H) (n np nq : Nat) (hci : CJ h n np nq) (i : Nat) (hi : i < np) : am_Met G l yX2_isValid (.code yX2_isValid cX2_isValid 1 (some .boolean)) 10 0 0 [.ref (200 + 4 * i)] h (fun v h' => h' = h ∧ ∃ R : Bool, v = some (.int (b2i R)) ∧ (R = true ↔ KPm h i)) (am_no) := by
  have hF := hci.1.1
  have hD := hci.1.2.1
  have hB := hci.1.2.2
  have hn6 := hci.2.1.1
  have hn20 := hci.2.1.2.1
  have hn30 := hci.2.1.2.2
  obtain ⟨⟨c4, l4⟩, ⟨c5, l5⟩, ⟨c6, l6⟩⟩ := hci.2.2.1
  have hpi := hci.2.2.2.1.1 i hi
  obtain ⟨d, hd, hdd⟩ := hpi.2.2.2
  refine am_intro rfl htr rfl (Nat.le_of_ble_eq_true rfl) (fun Z hC hR hI => ?_)
  change am_W Z 0 0 0 [.ref (200 + 4 * i)] [] h
  refine am_aload_n hC dX2_isValid_0 rfl ?_
  refine am_get (v := .ref (201 + 4 * i)) hC (ci := 3) (N := 2) (j := 1) rfl hpi.1 (by decide) tw_517 (Or.inl rfl) dX2_isValid_1 (am_rfe hpi.2.1) ?_
  refine am_aload_n hC dX2_isValid_4 rfl ?_
  refine am_get (v := .ref (100 + 4 * d)) hC (ci := 3) (N := 2) (j := 0) rfl hpi.1 (by decide) tw_515 (Or.inl rfl) dX2_isValid_5 (am_rfe hdd) ?_
  refine am_callVN hC (ci := 5) (N := 2) [.ref (100 + 4 * d)] rfl hpi.2.2.1.1.1 rfl mf_X4_isThatOf tw_532 (c_X4_isThatOf _ _ (am_tr hC) h n hD hn6 hB _ _ _ hpi.2.2.1 d hd) rfl ⟨rfl, Nat.le_of_ble_eq_true rfl⟩ ⟨by decide, by decide⟩ (by decide) (by decide) dX2_isValid_8 rfl (fun _ _ q _ => False.elim q) (fun v h' hp hlc => ?_)
  obtain ⟨z8, R, z9, hR9⟩ := hp
  have z8 := z8.symm
  subst z8
  subst z9
  refine am_iret hC hR (nar_b2i _) (by decide) (by decide) dX2_isValid_11 ?_
  refine ⟨rfl, R, rfl, ?_⟩
  unfold KPm
  rw [pd_of hdd]
  exact hR9
set_option maxRecDepth 100000 in
set_option maxHeartbeats 4000000 in
theorem c_X3_isOld (G : am_G) (l : Launch) (htr : l.stackTraces = false) (h : am_H) (n np nq : Nat) (hci : CJ h n np nq) (i : Nat) (hi : i < nq) : am_Met G l yX3_isOld (.code yX3_isOld cX3_isOld 1 (some .boolean)) 10 0 0 [.ref (300 + 4 * i)] h (fun v h' => h' = h ∧ ∃ R : Bool, v = some (.int (b2i R)) ∧ (R = true ↔ ¬ KQm h i)) (am_no) := by
  have hF := hci.1.1
  have hD := hci.1.2.1
  have hB := hci.1.2.2
  have hn6 := hci.2.1.1
  have hn20 := hci.2.1.2.1
  have hn30 := hci.2.1.2.2
  obtain ⟨⟨c4, l4⟩, ⟨c5, l5⟩, ⟨c6, l6⟩⟩ := hci.2.2.1
  have hpi := hci.2.2.2.1.2 i hi
  obtain ⟨d, hd, hdd⟩ := hpi.2.2.2
  refine am_intro rfl htr rfl (Nat.le_of_ble_eq_true rfl) (fun Z hC hR hI => ?_)
  change am_W Z 0 0 0 [.ref (300 + 4 * i)] [] h
  refine am_aload_n hC dX3_isOld_0 rfl ?_
  refine am_get (v := .ref (301 + 4 * i)) hC (ci := 4) (N := 3) (j := 1) rfl hpi.1 (by decide) tw_554 (Or.inl rfl) dX3_isOld_1 (am_rfe hpi.2.1) ?_
  refine am_aload_n hC dX3_isOld_4 rfl ?_
  refine am_get (v := .ref (100 + 4 * d)) hC (ci := 4) (N := 3) (j := 0) rfl hpi.1 (by decide) tw_553 (Or.inl rfl) dX3_isOld_5 (am_rfe hdd) ?_
  refine am_callVN hC (ci := 5) (N := 2) [.ref (100 + 4 * d)] rfl hpi.2.2.1.1.1 rfl mf_X4_isThatOf tw_572 (c_X4_isThatOf _ _ (am_tr hC) h n hD hn6 hB _ _ _ hpi.2.2.1 d hd) rfl ⟨rfl, Nat.le_of_ble_eq_true rfl⟩ ⟨by decide, by decide⟩ (by decide) (by decide) dX3_isOld_8 rfl (fun _ _ q _ => False.elim q) (fun v h' hp hlc => ?_)
  obtain ⟨z8, R, z9, hR9⟩ := hp
  have z8 := z8.symm
  subst z8
  subst z9
  refine am_if_ne (tgt := 18) hC dX3_isOld_11 (by decide) (fun c_11 => ?_) (fun c_11 => ?_)
  · refine am_iconst (v := nI 0) hC dX3_isOld_18 (by decide) ?_
    refine am_iret hC hR rfl (by decide) (by decide) dX3_isOld_19 ?_
    refine ⟨rfl, !R, ?_, ?_⟩
    · first
      | (rw [b2i_0.mp c_11]; rfl)
      | (rw [b2i_ne c_11]; rfl)
    · unfold KQm
      rw [qd_of hdd, ← show _ ↔ KP h (302 + 4 * i) (303 + 4 * i) d from hR9]
      cases R <;> decide
  · refine am_iconst (v := nI 1) hC dX3_isOld_14 (by decide) ?_
    refine am_goto (tgt := 19) hC dX3_isOld_15 (by decide) ?_
    refine am_iret hC hR rfl (by decide) (by decide) dX3_isOld_19 ?_
    refine ⟨rfl, !R, ?_, ?_⟩
    · first
      | (rw [b2i_0.mp c_11]; rfl)
      | (rw [b2i_ne c_11]; rfl)
    · unfold KQm
      rw [qd_of hdd, ← show _ ↔ KP h (302 + 4 * i) (303 + 4 * i) d from hR9]
      cases R <;> decide
set_option maxRecDepth 100000 in
set_option maxHeartbeats 4000000 in
theorem c_X5_holds (G : am_G) (l : Launch) (htr : l.stackTraces = false) (h : am_H) (n np nq : Nat) (hci : CI h n np nq) (P : Int32) : am_Met G l yX5_holds (.code yX5_holds cX5_holds 2 (some .boolean)) 11 8 48 [.ref (3), .int (P)] h (fun v h' => (k3 (IX np P) true true) = 0 ∧ h' = h ∧ ∃ R : Bool, v = some (.int (b2i R)) ∧ (R = true ↔ KPm h (dn P))) (fun X h' => h' = h ∧ EX ["java/lang/IndexOutOfBoundsException", "java/lang/IllegalArgumentException", "java/lang/IllegalStateException"] (k3 (IX np P) true true) X) := by
  have hF := hci.1.1
  have hD := hci.1.2.1
  have hB := hci.1.2.2
  have hn6 := hci.2.1.1
  have hn20 := hci.2.1.2.1
  have hn30 := hci.2.1.2.2
  obtain ⟨⟨c4, l4⟩, ⟨c5, l5⟩, ⟨c6, l6⟩⟩ := hci.2.2.1
  refine am_intro rfl htr rfl (Nat.le_of_ble_eq_true rfl) (fun Z hC hR hI => ?_)
  change am_W Z 0 0 0 [.ref (3), .int (P)] [] h
  refine am_iload_n hC dX5_holds_0 rfl ?_
  refine am_if_lt (tgt := 15) hC dX5_holds_1 (by decide) (fun c_1 => ?_) (fun c_1 => ?_)
  · refine am_throw hC hR (X := "java/lang/IndexOutOfBoundsException") (text := "no such permit") (by decide +kernel) tw_280 tw_18 tw_527 xw_RX5_150 ⟨rfl, Nat.le_of_ble_eq_true rfl⟩ (by decide) (by decide) (by decide) dX5_holds_15 dX5_holds_18 dX5_holds_19 dX5_holds_21 dX5_holds_24 ?_
    refine ⟨rfl, EX_1 (IX_n (by omega) (fun ⟨j, hj, e⟩ => ?_))⟩
    subst e
    first
      | exact nI_pos (by omega) c_1
      | exact c_12 (nI_lt hj (by omega))
  · refine am_iload_n hC dX5_holds_4 rfl ?_
    refine am_aload_n hC dX5_holds_5 rfl ?_
    refine am_get (v := .ref (5)) hC (ci := 6) (N := 4) (j := 1) rfl (kC_3 hF) (by decide) tw_95 (Or.inl rfl) dX5_holds_6 (am_rfe (rC_3_1 hF)) ?_
    refine am_callV hC (ci := 0) (N := 3) [] rfl (kC_5 hF) rfl mf_Jx4a65c_size_8abf5 tw_111 (c_size _ _ (am_tr hC) h 5 np c5 200 3 l5) rfl ⟨rfl, Nat.le_of_ble_eq_true rfl⟩ ⟨by decide, by decide⟩ (by decide) (by decide) dX5_holds_9 rfl (fun _ _ q _ => False.elim q) (fun v h' hp hlc => ?_)
    obtain ⟨z8, z9⟩ := hp
    have z8 := z8.symm
    subst z8
    subst z9
    refine am_icmp_lt (tgt := 25) hC dX5_holds_12 (by decide) (fun c_12 => ?_) (fun c_12 => ?_)
    · obtain ⟨j, hj0, e⟩ := nI_of c_1
      subst e
      have hj : j < np := (nI_ltI hj0 (by omega)).mp c_12
      refine am_aload_n hC dX5_holds_25 rfl ?_
      refine am_get (v := .ref (5)) hC (ci := 6) (N := 4) (j := 1) rfl (kC_3 hF) (by decide) tw_95 (Or.inl rfl) dX5_holds_26 (am_rfe (rC_3_1 hF)) ?_
      refine am_iload_n hC dX5_holds_29 rfl ?_
      refine am_callV hC (ci := 0) (N := 3) [.int (nI j)] rfl (kC_5 hF) rfl mf_Jx4a65c_get_915e3 tw_296 (c_get _ _ (am_tr hC) h 5 np c5 200 3 j l5 hj) rfl ⟨rfl, Nat.le_of_ble_eq_true rfl⟩ ⟨by decide, by decide⟩ (by decide) (by decide) dX5_holds_30 rfl (fun _ _ q _ => False.elim q) (fun v h' hp hlc => ?_)
      obtain ⟨z8, z9⟩ := hp
      have z8 := z8.symm
      subst z8
      subst z9
      refine am_cast hC (ci := 3) (N := 2) rfl (hci.2.2.2.1.1 j hj).1 tw_506 dX5_holds_33 ?_
      refine am_callVN hC (ci := 3) (N := 2) [] rfl (hci.2.2.2.1.1 j hj).1 rfl mf_X2_isValid tw_528 (c_X2_isValid _ _ (am_tr hC) h n np nq (CJ_of hci) j hj) rfl ⟨rfl, Nat.le_of_ble_eq_true rfl⟩ ⟨by decide, by decide⟩ (by decide) (by decide) dX5_holds_36 rfl (fun _ _ q _ => False.elim q) (fun v h' hp hlc => ?_)
      obtain ⟨z8, R, z9, hR9⟩ := hp
      have z8 := z8.symm
      subst z8
      subst z9
      refine am_iret hC hR (nar_b2i _) (by decide) (by decide) dX5_holds_39 ?_
      refine ⟨k3_0 (IX_y (by omega) hj rfl) rfl rfl, rfl, R, rfl, ?_⟩
      rw [dn_nI (by omega)]
      exact hR9
    · refine am_throw hC hR (X := "java/lang/IndexOutOfBoundsException") (text := "no such permit") (by decide +kernel) tw_280 tw_18 tw_527 xw_RX5_150 ⟨rfl, Nat.le_of_ble_eq_true rfl⟩ (by decide) (by decide) (by decide) dX5_holds_15 dX5_holds_18 dX5_holds_19 dX5_holds_21 dX5_holds_24 ?_
      refine ⟨rfl, EX_1 (IX_n (by omega) (fun ⟨j, hj, e⟩ => ?_))⟩
      subst e
      first
        | exact nI_pos (by omega) c_1
        | exact c_12 (nI_lt hj (by omega))
theorem nm1 (m : Nat) : nI (m + 1) - 1 = nI m := by rw [← nI_1 m]; exact Int32.add_sub_cancel _ _
theorem nmm (m : Nat) : nI m + Int32.ofInt (-1) = nI m - 1 := (Int32.sub_eq_add_neg (nI m) 1).symm
set_option maxRecDepth 100000 in
set_option maxHeartbeats 4000000 in
theorem c_X5_highestPermit (G : am_G) (l : Launch) (htr : l.stackTraces = false) (h : am_H) (n np nq : Nat) (hci : CJ h n np nq) (d : Nat) (hd : d < n) : am_Met G l yX5_highestPermit (.code yX5_highestPermit cX5_highestPermit 4 (some .int)) 11 0 0 [.ref (3), .ref (100 + 4 * d)] h (fun v h' => h' = h ∧ ∃ R, v = some (.int R) ∧ HPm h np d R) (am_no) := by
  have hF := hci.1.1
  have hD := hci.1.2.1
  have hB := hci.1.2.2
  have hn6 := hci.2.1.1
  have hn20 := hci.2.1.2.1
  have hn30 := hci.2.1.2.2
  obtain ⟨⟨c4, l4⟩, ⟨c5, l5⟩, ⟨c6, l6⟩⟩ := hci.2.2.1
  refine am_intro rfl htr rfl (Nat.le_of_ble_eq_true rfl) (fun Z hC hR hI => ?_)
  change am_W Z 0 0 0 [.ref (3), .ref (100 + 4 * d), .null, .null] [] h
  have loop : ∀ (m : Nat), m ≤ np → (∀ j, m ≤ j → j < np → ¬ (pdH h j = d ∧ KPm h j)) → am_W Z (0 + 0) (0 + 0) 10 [.ref (3), .ref (100 + 4 * d), .int (nI m - 1), .null] [] h := by
    intro m
    induction m with
    | zero =>
      intro hm hs
      refine am_iload_n hC dX5_highestPermit_10 rfl ?_
      refine am_if_lt (tgt := 49) hC dX5_highestPermit_11 (by decide) (fun c_11 => ?_) (fun c_11 => absurd (by decide) c_11)
      refine am_iconst (v := -1) hC dX5_highestPermit_49 (by decide) ?_
      refine am_iret hC hR rfl (by decide) (by decide) dX5_highestPermit_50 ?_
      exact ⟨rfl, _, rfl, Or.inl ⟨rfl, fun k hk => hs k (Nat.zero_le _) hk⟩⟩
    | succ m ih =>
      intro hm hs
      have em : nI (m + 1) - 1 = nI m := nm1 m
      rw [em]
      have hj : m < np := by omega
      obtain ⟨d2, hd2, hdd⟩ := (hci.2.2.2.1.1 m hj).2.2.2
      refine am_iload_n hC dX5_highestPermit_10 rfl ?_
      refine am_if_lt (tgt := 49) hC dX5_highestPermit_11 (by decide) (fun c_11 => absurd c_11 (nI_pos (by omega))) (fun c_11 => ?_)
      refine am_aload_n hC dX5_highestPermit_14 rfl ?_
      refine am_get (v := .ref (5)) hC (ci := 6) (N := 4) (j := 1) rfl (kC_3 hF) (by decide) tw_95 (Or.inl rfl) dX5_highestPermit_15 (am_rfe (rC_3_1 hF)) ?_
      refine am_iload_n hC dX5_highestPermit_18 rfl ?_
      refine am_callV hC (ci := 0) (N := 3) [.int (nI m)] rfl (kC_5 hF) rfl mf_Jx4a65c_get_915e3 tw_296 (c_get _ _ (am_tr hC) h 5 np c5 200 3 m l5 hj) rfl ⟨rfl, Nat.le_of_ble_eq_true rfl⟩ ⟨by decide, by decide⟩ (by decide) (by decide) dX5_highestPermit_19 rfl (fun _ _ q _ => False.elim q) (fun v h' hp hlc => ?_)
      obtain ⟨z8, z9⟩ := hp
      have z8 := z8.symm
      subst z8
      subst z9
      refine am_cast hC (ci := 3) (N := 2) rfl (hci.2.2.2.1.1 m hj).1 tw_506 dX5_highestPermit_22 ?_
      refine am_astore_n hC dX5_highestPermit_25 (by decide) ?_
      change am_W _ _ _ _ [.ref (3), .ref (100 + 4 * d), .int (nI m), .ref (200 + 4 * m)] _ _
      refine am_aload_n hC dX5_highestPermit_26 rfl ?_
      refine am_getN (v := .ref (100 + 4 * d2)) hC (ci := 3) (N := 2) (j := 0) rfl (hci.2.2.2.1.1 m hj).1 (by decide) tw_516 dX5_highestPermit_27 (am_rfe hdd) ?_
      refine am_aload_n hC dX5_highestPermit_30 rfl ?_
      refine am_acmp_ne (tgt := 43) hC (Or.inr ⟨by omega, by omega⟩) dX5_highestPermit_31 (by decide) (fun c_31 => ?_) (fun c_31 => ?_)
      · refine am_iinc (v := nI m - 1) hC dX5_highestPermit_43 rfl (nmm m) (by decide) ?_
        change am_W _ _ _ _ [.ref (3), .ref (100 + 4 * d), .int (nI m - 1), .ref (200 + 4 * m)] _ _
        refine am_goto (tgt := 10) hC dX5_highestPermit_46 (by decide) ?_
        refine am_fgt (ls' := [.ref (3), .ref (100 + 4 * d), .int (nI m - 1), .null]) ⟨Or.inl rfl, ⟨Or.inl rfl, ⟨Or.inl rfl, ⟨Or.inr rfl, trivial⟩⟩⟩⟩ (ih (by omega) (fun j hj1 hj2 => ?_))
        rcases Nat.lt_or_eq_of_le hj1 with z | z
        · exact hs j z hj2
        · subst z
          rintro ⟨z1, z2⟩
          rw [pd_of hdd] at z1
          first
            | exact c_31 (by omega)
            | (rw [hR9.mpr z2] at c_38; exact absurd c_38 (by decide))
      · refine am_aload_n hC dX5_highestPermit_34 rfl ?_
        refine am_callVN hC (ci := 3) (N := 2) [] rfl (hci.2.2.2.1.1 m hj).1 rfl mf_X2_isValid tw_528 (c_X2_isValid _ _ (am_tr hC) h n np nq hci m hj) rfl ⟨rfl, Nat.le_of_ble_eq_true rfl⟩ ⟨by decide, by decide⟩ (by decide) (by decide) dX5_highestPermit_35 rfl (fun _ _ q _ => False.elim q) (fun v h' hp hlc => ?_)
        obtain ⟨z8, R, z9, hR9⟩ := hp
        have z8 := z8.symm
        subst z8
        subst z9
        refine am_if_eq (tgt := 43) hC dX5_highestPermit_38 (by decide) (fun c_38 => ?_) (fun c_38 => ?_)
        · refine am_iinc (v := nI m - 1) hC dX5_highestPermit_43 rfl (nmm m) (by decide) ?_
          change am_W _ _ _ _ [.ref (3), .ref (100 + 4 * d), .int (nI m - 1), .ref (200 + 4 * m)] _ _
          refine am_goto (tgt := 10) hC dX5_highestPermit_46 (by decide) ?_
          refine am_fgt (ls' := [.ref (3), .ref (100 + 4 * d), .int (nI m - 1), .null]) ⟨Or.inl rfl, ⟨Or.inl rfl, ⟨Or.inl rfl, ⟨Or.inr rfl, trivial⟩⟩⟩⟩ (ih (by omega) (fun j hj1 hj2 => ?_))
          rcases Nat.lt_or_eq_of_le hj1 with z | z
          · exact hs j z hj2
          · subst z
            rintro ⟨z1, z2⟩
            rw [pd_of hdd] at z1
            first
              | exact c_31 (by omega)
              | (rw [hR9.mpr z2] at c_38; exact absurd c_38 (by decide))
        · refine am_iload_n hC dX5_highestPermit_41 rfl ?_
          refine am_iret hC hR rfl (by decide) (by decide) dX5_highestPermit_42 ?_
          exact ⟨rfl, _, rfl, Or.inr ⟨m, hj, rfl, ⟨(pd_of hdd).trans (by omega), hR9.mp (b2i_ne c_38)⟩, fun j h1 h2 => hs j (by omega) h2⟩⟩
  refine am_aload_n hC dX5_highestPermit_0 rfl ?_
  refine am_get (v := .ref (5)) hC (ci := 6) (N := 4) (j := 1) rfl (kC_3 hF) (by decide) tw_95 (Or.inl rfl) dX5_highestPermit_1 (am_rfe (rC_3_1 hF)) ?_
  refine am_callV hC (ci := 0) (N := 3) [] rfl (kC_5 hF) rfl mf_Jx4a65c_size_8abf5 tw_111 (c_size _ _ (am_tr hC) h 5 np c5 200 3 l5) rfl ⟨rfl, Nat.le_of_ble_eq_true rfl⟩ ⟨by decide, by decide⟩ (by decide) (by decide) dX5_highestPermit_4 rfl (fun _ _ q _ => False.elim q) (fun v h' hp hlc => ?_)
  obtain ⟨z8, z9⟩ := hp
  have z8 := z8.symm
  subst z8
  subst z9
  refine am_iconst (v := nI 1) hC dX5_highestPermit_7 (by decide) ?_
  refine am_isubE (z := nI np - 1) hC dX5_highestPermit_8 rfl ?_
  refine am_istore_n hC dX5_highestPermit_9 (by decide) ?_
  change am_W _ _ _ _ [.ref (3), .ref (100 + 4 * d), .int (nI np - 1), .null] _ _
  exact loop np (Nat.le_refl _) (fun j h1 h2 => by omega)
set_option maxRecDepth 100000 in
set_option maxHeartbeats 4000000 in
theorem c_X5_permitOf (G : am_G) (l : Launch) (htr : l.stackTraces = false) (h : am_H) (n np nq : Nat) (hci : CI h n np nq) (P : Int32) : am_Met G l yX5_permitOf (.code yX5_permitOf cX5_permitOf 2 (some .int)) 9 8 48 [.ref (3), .int (P)] h (fun v h' => (k3 (IX nq P) true true) = 0 ∧ h' = h ∧ v = some (.int (hi_ h (300 + 4 * dn P) 2))) (fun X h' => h' = h ∧ EX ["java/lang/IndexOutOfBoundsException", "java/lang/IllegalArgumentException", "java/lang/IllegalStateException"] (k3 (IX nq P) true true) X) := by
  have hF := hci.1.1
  have hD := hci.1.2.1
  have hB := hci.1.2.2
  have hn6 := hci.2.1.1
  have hn20 := hci.2.1.2.1
  have hn30 := hci.2.1.2.2
  obtain ⟨⟨c4, l4⟩, ⟨c5, l5⟩, ⟨c6, l6⟩⟩ := hci.2.2.1
  refine am_intro rfl htr rfl (Nat.le_of_ble_eq_true rfl) (fun Z hC hR hI => ?_)
  change am_W Z 0 0 0 [.ref (3), .int (P)] [] h
  refine am_aload_n hC dX5_permitOf_0 rfl ?_
  refine am_iload_n hC dX5_permitOf_1 rfl ?_
  refine am_callV hC (ci := 6) (N := 4) [.int (P)] rfl (kC_3 hF) rfl mf_X5_printAt tw_430 (c_X5_printAt _ _ (am_tr hC) h n np nq hci P) rfl ⟨rfl, Nat.le_of_ble_eq_true rfl⟩ ⟨by decide, by decide⟩ (by decide) (by decide) dX5_permitOf_2 rfl (fun X g hx hle => am_out hC hR (by decide) (by decide) (by obtain ⟨hx1, hx2, hx⟩ := hx; subst hx1; subst hx2; exact ⟨rfl, EX_1 ((IX_n (by omega) hx))⟩)) (fun v h' hp hlc => ?_)
  obtain ⟨z8, j, hj, z7, z9⟩ := hp
  have z8 := z8.symm
  subst z8
  subst z9
  subst z7
  refine am_getN (v := .int (hi_ h (300 + 4 * j) 2)) hC (ci := 4) (N := 3) (j := 2) rfl (hci.2.2.2.1.2 j hj).1 (by decide) tw_556 dX5_permitOf_5 rfl ?_
  refine am_iret hC hR rfl (by decide) (by decide) dX5_permitOf_8 ?_
  refine ⟨k3_0 (IX_y (by omega) hj rfl) rfl rfl, rfl, ?_⟩
  rw [dn_nI (by omega)]
set_option maxRecDepth 100000 in
set_option maxHeartbeats 4000000 in
theorem c_X5_isGood (G : am_G) (l : Launch) (htr : l.stackTraces = false) (h : am_H) (n np nq : Nat) (hci : CI h n np nq) (P : Int32) : am_Met G l yX5_isGood (.code yX5_isGood cX5_isGood 3 (some .boolean)) 11 8 48 [.ref (3), .int (P)] h (fun v h' => (k3 (IX nq P) true true) = 0 ∧ h' = h ∧ ∃ R : Bool, v = some (.int (b2i R)) ∧ (R = true ↔ hi_ h (300 + 4 * dn P) 2 ≠ -1 ∧ KQm h (dn P))) (fun X h' => h' = h ∧ EX ["java/lang/IndexOutOfBoundsException", "java/lang/IllegalArgumentException", "java/lang/IllegalStateException"] (k3 (IX nq P) true true) X) := by
  have hF := hci.1.1
  have hD := hci.1.2.1
  have hB := hci.1.2.2
  have hn6 := hci.2.1.1
  have hn20 := hci.2.1.2.1
  have hn30 := hci.2.1.2.2
  obtain ⟨⟨c4, l4⟩, ⟨c5, l5⟩, ⟨c6, l6⟩⟩ := hci.2.2.1
  refine am_intro rfl htr rfl (Nat.le_of_ble_eq_true rfl) (fun Z hC hR hI => ?_)
  change am_W Z 0 0 0 [.ref (3), .int (P), .null] [] h
  refine am_aload_n hC dX5_isGood_0 rfl ?_
  refine am_iload_n hC dX5_isGood_1 rfl ?_
  refine am_callV hC (ci := 6) (N := 4) [.int (P)] rfl (kC_3 hF) rfl mf_X5_printAt tw_430 (c_X5_printAt _ _ (am_tr hC) h n np nq hci P) rfl ⟨rfl, Nat.le_of_ble_eq_true rfl⟩ ⟨by decide, by decide⟩ (by decide) (by decide) dX5_isGood_2 rfl (fun X g hx hle => am_out hC hR (by decide) (by decide) (by obtain ⟨hx1, hx2, hx⟩ := hx; subst hx1; subst hx2; exact ⟨rfl, EX_1 ((IX_n (by omega) hx))⟩)) (fun v h' hp hlc => ?_)
  obtain ⟨z8, j, hj, z7, z9⟩ := hp
  have z8 := z8.symm
  subst z8
  subst z9
  subst z7
  refine am_astore_n hC dX5_isGood_5 (by decide) ?_
  change am_W _ _ _ _ [.ref (3), .int (nI j), .ref (300 + 4 * j)] _ _
  refine am_aload_n hC dX5_isGood_6 rfl ?_
  refine am_getN (v := .int (hi_ h (300 + 4 * j) 2)) hC (ci := 4) (N := 3) (j := 2) rfl (hci.2.2.2.1.2 j hj).1 (by decide) tw_556 dX5_isGood_7 rfl ?_
  refine am_iconst (v := -1) hC dX5_isGood_10 (by decide) ?_
  refine am_icmp_eq (tgt := 25) hC dX5_isGood_11 (by decide) (fun c_11 => ?_) (fun c_11 => ?_)
  · refine am_iconst (v := nI 0) hC dX5_isGood_25 (by decide) ?_
    refine am_iret hC hR rfl (by decide) (by decide) dX5_isGood_26 ?_
    first
      | (refine ⟨k3_0 (IX_y (by omega) hj rfl) rfl rfl, rfl, true, rfl, ?_⟩; rw [dn_nI (by omega)]; exact ⟨fun _ => ⟨c_11, Classical.byContradiction (fun z => by rw [hR9.mpr z] at c_18; exact c_18 rfl)⟩, fun _ => rfl⟩)
      | (refine ⟨k3_0 (IX_y (by omega) hj rfl) rfl rfl, rfl, true, rfl, ?_⟩; rw [dn_nI (by omega)]; exact ⟨fun _ => ⟨c_11, Classical.byContradiction (fun z => by rw [hR9.mpr z] at c_18; exact absurd c_18 (by decide))⟩, fun _ => rfl⟩)
      | (refine ⟨k3_0 (IX_y (by omega) hj rfl) rfl rfl, rfl, false, rfl, ?_⟩; rw [dn_nI (by omega)]; exact ⟨fun z => absurd z (by decide), fun z => absurd c_11 z.1⟩)
      | (refine ⟨k3_0 (IX_y (by omega) hj rfl) rfl rfl, rfl, false, rfl, ?_⟩; rw [dn_nI (by omega)]; exact ⟨fun z => absurd z (by decide), fun z => absurd z.2 (hR9.mp (b2i_ne c_18))⟩)
  · refine am_aload_n hC dX5_isGood_14 rfl ?_
    refine am_callVN hC (ci := 4) (N := 3) [] rfl (hci.2.2.2.1.2 j hj).1 rfl mf_X3_isOld tw_568 (c_X3_isOld _ _ (am_tr hC) h n np nq (CJ_of hci) j hj) rfl ⟨rfl, Nat.le_of_ble_eq_true rfl⟩ ⟨by decide, by decide⟩ (by decide) (by decide) dX5_isGood_15 rfl (fun _ _ q _ => False.elim q) (fun v h' hp hlc => ?_)
    obtain ⟨z8, R, z9, hR9⟩ := hp
    have z8 := z8.symm
    subst z8
    subst z9
    refine am_if_ne (tgt := 25) hC dX5_isGood_18 (by decide) (fun c_18 => ?_) (fun c_18 => ?_)
    · refine am_iconst (v := nI 0) hC dX5_isGood_25 (by decide) ?_
      refine am_iret hC hR rfl (by decide) (by decide) dX5_isGood_26 ?_
      first
        | (refine ⟨k3_0 (IX_y (by omega) hj rfl) rfl rfl, rfl, true, rfl, ?_⟩; rw [dn_nI (by omega)]; exact ⟨fun _ => ⟨c_11, Classical.byContradiction (fun z => by rw [hR9.mpr z] at c_18; exact c_18 rfl)⟩, fun _ => rfl⟩)
        | (refine ⟨k3_0 (IX_y (by omega) hj rfl) rfl rfl, rfl, true, rfl, ?_⟩; rw [dn_nI (by omega)]; exact ⟨fun _ => ⟨c_11, Classical.byContradiction (fun z => by rw [hR9.mpr z] at c_18; exact absurd c_18 (by decide))⟩, fun _ => rfl⟩)
        | (refine ⟨k3_0 (IX_y (by omega) hj rfl) rfl rfl, rfl, false, rfl, ?_⟩; rw [dn_nI (by omega)]; exact ⟨fun z => absurd z (by decide), fun z => absurd c_11 z.1⟩)
        | (refine ⟨k3_0 (IX_y (by omega) hj rfl) rfl rfl, rfl, false, rfl, ?_⟩; rw [dn_nI (by omega)]; exact ⟨fun z => absurd z (by decide), fun z => absurd z.2 (hR9.mp (b2i_ne c_18))⟩)
    · refine am_iconst (v := nI 1) hC dX5_isGood_21 (by decide) ?_
      refine am_goto (tgt := 26) hC dX5_isGood_22 (by decide) ?_
      refine am_iret hC hR rfl (by decide) (by decide) dX5_isGood_26 ?_
      first
        | (refine ⟨k3_0 (IX_y (by omega) hj rfl) rfl rfl, rfl, true, rfl, ?_⟩; rw [dn_nI (by omega)]; exact ⟨fun _ => ⟨c_11, Classical.byContradiction (fun z => by rw [hR9.mpr z] at c_18; exact c_18 rfl)⟩, fun _ => rfl⟩)
        | (refine ⟨k3_0 (IX_y (by omega) hj rfl) rfl rfl, rfl, true, rfl, ?_⟩; rw [dn_nI (by omega)]; exact ⟨fun _ => ⟨c_11, Classical.byContradiction (fun z => by rw [hR9.mpr z] at c_18; exact absurd c_18 (by decide))⟩, fun _ => rfl⟩)
        | (refine ⟨k3_0 (IX_y (by omega) hj rfl) rfl rfl, rfl, false, rfl, ?_⟩; rw [dn_nI (by omega)]; exact ⟨fun z => absurd z (by decide), fun z => absurd c_11 z.1⟩)
        | (refine ⟨k3_0 (IX_y (by omega) hj rfl) rfl rfl, rfl, false, rfl, ?_⟩; rw [dn_nI (by omega)]; exact ⟨fun z => absurd z (by decide), fun z => absurd z.2 (hR9.mp (b2i_ne c_18))⟩)
def pex (p : Nat → Bool) (i : Nat) (b : Bool) : Nat → Bool := fun j => if j = i then b else p j
set_option maxRecDepth 100000 in
set_option maxHeartbeats 4000000 in
theorem c_X5_old (G : am_G) (l : Launch) (htr : l.stackTraces = false) (h : am_H) (n np nq : Nat) (hci : CI h n np nq) : am_Met G l yX5_old (.code yX5_old cX5_old 3 (some .int)) 11 0 0 [.ref (3)] h (fun v h' => h' = h ∧ ∃ p : Nat → Bool, (∀ i, i < nq → (p i = true ↔ ¬ KQm h i)) ∧ v = some (.int (nI (cnt p nq)))) (am_no) := by
  have hF := hci.1.1
  have hD := hci.1.2.1
  have hB := hci.1.2.2
  have hn6 := hci.2.1.1
  have hn20 := hci.2.1.2.1
  have hn30 := hci.2.1.2.2
  obtain ⟨⟨c4, l4⟩, ⟨c5, l5⟩, ⟨c6, l6⟩⟩ := hci.2.2.1
  refine am_intro rfl htr rfl (Nat.le_of_ble_eq_true rfl) (fun Z hC hR hI => ?_)
  change am_W Z 0 0 0 [.ref (3), .null, .null] [] h
  have loop : ∀ (m i : Nat) (p : Nat → Bool), i + m = nq → (∀ j, j < i → (p j = true ↔ ¬ KQm h j)) → am_W Z 0 0 4 [.ref (3), .int (nI (cnt p i)), .int (nI i)] [] h := by
    intro m
    induction m with
    | zero =>
      intro i p him hs
      obtain rfl : i = nq := by omega
      refine am_iload_n hC dX5_old_4 rfl ?_
      refine am_aload_n hC dX5_old_5 rfl ?_
      refine am_get (v := .ref (6)) hC (ci := 6) (N := 4) (j := 2) rfl (kC_3 hF) (by decide) tw_96 (Or.inl rfl) dX5_old_6 (am_rfe (rC_3_2 hF)) ?_
      refine am_callV hC (ci := 0) (N := 3) [] rfl (kC_6 hF) rfl mf_Jx4a65c_size_8abf5 tw_111 (c_size _ _ (am_tr hC) h 6 i c6 300 4 l6) rfl ⟨rfl, Nat.le_of_ble_eq_true rfl⟩ ⟨by decide, by decide⟩ (by decide) (by decide) dX5_old_9 rfl (fun _ _ q _ => False.elim q) (fun v h' hp hlc => ?_)
      obtain ⟨z8, z9⟩ := hp
      have z8 := z8.symm
      subst z8
      subst z9
      refine am_icmp_ge (tgt := 41) hC dX5_old_12 (by decide) (fun c_12 => ?_) (fun c_12 => absurd (nI_le (by omega) (by omega)) c_12)
      refine am_iload_n hC dX5_old_41 rfl ?_
      refine am_iret hC hR rfl (by decide) (by decide) dX5_old_42 ?_
      exact ⟨rfl, p, hs, rfl⟩
    | succ m ih =>
      intro i p him hs
      have hi : i < nq := by omega
      have hcp := cnt_le p i
      refine am_iload_n hC dX5_old_4 rfl ?_
      refine am_aload_n hC dX5_old_5 rfl ?_
      refine am_get (v := .ref (6)) hC (ci := 6) (N := 4) (j := 2) rfl (kC_3 hF) (by decide) tw_96 (Or.inl rfl) dX5_old_6 (am_rfe (rC_3_2 hF)) ?_
      refine am_callV hC (ci := 0) (N := 3) [] rfl (kC_6 hF) rfl mf_Jx4a65c_size_8abf5 tw_111 (c_size _ _ (am_tr hC) h 6 nq c6 300 4 l6) rfl ⟨rfl, Nat.le_of_ble_eq_true rfl⟩ ⟨by decide, by decide⟩ (by decide) (by decide) dX5_old_9 rfl (fun _ _ q _ => False.elim q) (fun v h' hp hlc => ?_)
      obtain ⟨z8, z9⟩ := hp
      have z8 := z8.symm
      subst z8
      subst z9
      refine am_icmp_ge (tgt := 41) hC dX5_old_12 (by decide) (fun c_12 => absurd c_12 (nI_ge (by omega) (by omega))) (fun c_12 => ?_)
      refine am_aload_n hC dX5_old_15 rfl ?_
      refine am_get (v := .ref (6)) hC (ci := 6) (N := 4) (j := 2) rfl (kC_3 hF) (by decide) tw_96 (Or.inl rfl) dX5_old_16 (am_rfe (rC_3_2 hF)) ?_
      refine am_iload_n hC dX5_old_19 rfl ?_
      refine am_callV hC (ci := 0) (N := 3) [.int (nI i)] rfl (kC_6 hF) rfl mf_Jx4a65c_get_915e3 tw_296 (c_get _ _ (am_tr hC) h 6 nq c6 300 4 i l6 hi) rfl ⟨rfl, Nat.le_of_ble_eq_true rfl⟩ ⟨by decide, by decide⟩ (by decide) (by decide) dX5_old_20 rfl (fun _ _ q _ => False.elim q) (fun v h' hp hlc => ?_)
      obtain ⟨z8, z9⟩ := hp
      have z8 := z8.symm
      subst z8
      subst z9
      refine am_cast hC (ci := 4) (N := 3) rfl (hci.2.2.2.1.2 i hi).1 tw_435 dX5_old_23 ?_
      refine am_callVN hC (ci := 4) (N := 3) [] rfl (hci.2.2.2.1.2 i hi).1 rfl mf_X3_isOld tw_568 (c_X3_isOld _ _ (am_tr hC) h n np nq (CJ_of hci) i hi) rfl ⟨rfl, Nat.le_of_ble_eq_true rfl⟩ ⟨by decide, by decide⟩ (by decide) (by decide) dX5_old_26 rfl (fun _ _ q _ => False.elim q) (fun v h' hp hlc => ?_)
      obtain ⟨z8, R, z9, hR9⟩ := hp
      have z8 := z8.symm
      subst z8
      subst z9
      refine am_if_eq (tgt := 35) hC dX5_old_29 (by decide) (fun c_29 => ?_) (fun c_29 => ?_)
      · refine am_iinc (v := nI (i + 1)) hC dX5_old_35 rfl (nI_1 (i)) (by decide) ?_
        change am_W _ _ _ _ [.ref (3), .int (nI (cnt p i)), .int (nI (i + 1))] _ _
        refine am_goto (tgt := 4) hC dX5_old_38 (by decide) ?_
        have hc9 : cnt (pex p i false) (i + 1) = cnt p i := by
          rw [cnt_n (show pex p i false i = false from if_pos rfl), cnt_cg (p := pex p i false) (q := p) (fun j hj => if_neg (Nat.ne_of_lt hj))]
        have k9 := ih (i + 1) (pex p i false) (by omega) (fun j hj => by
          rcases Nat.lt_or_eq_of_le (Nat.le_of_lt_succ hj) with z | z
          · rw [show pex p i false j = p j from if_neg (Nat.ne_of_lt z)]; exact hs j z
          · subst z
            rw [show pex p j false j = false from if_pos rfl]
            exact ⟨fun z => absurd z (by decide), fun z => by rw [hR9.mpr z] at c_29; exact absurd c_29 (by decide)⟩)
        rw [hc9] at k9
        exact k9
      · refine am_iinc (v := nI (cnt p i + 1)) hC dX5_old_32 rfl (nI_1 (cnt p i)) (by decide) ?_
        change am_W _ _ _ _ [.ref (3), .int (nI (cnt p i + 1)), .int (nI i)] _ _
        refine am_iinc (v := nI (i + 1)) hC dX5_old_35 rfl (nI_1 (i)) (by decide) ?_
        change am_W _ _ _ _ [.ref (3), .int (nI (cnt p i + 1)), .int (nI (i + 1))] _ _
        refine am_goto (tgt := 4) hC dX5_old_38 (by decide) ?_
        have hc9 : cnt (pex p i true) (i + 1) = cnt p i + 1 := by
          rw [cnt_y (show pex p i true i = true from if_pos rfl), cnt_cg (p := pex p i true) (q := p) (fun j hj => if_neg (Nat.ne_of_lt hj))]
        have k9 := ih (i + 1) (pex p i true) (by omega) (fun j hj => by
          rcases Nat.lt_or_eq_of_le (Nat.le_of_lt_succ hj) with z | z
          · rw [show pex p i true j = p j from if_neg (Nat.ne_of_lt z)]; exact hs j z
          · subst z
            rw [show pex p j true j = true from if_pos rfl]
            exact ⟨fun _ => hR9.mp (b2i_ne c_29), fun _ => rfl⟩)
        rw [hc9] at k9
        exact k9
  refine am_iconst (v := nI 0) hC dX5_old_0 (by decide) ?_
  refine am_istore_n hC dX5_old_1 (by decide) ?_
  change am_W _ _ _ _ [.ref (3), .int (nI 0), .null] _ _
  refine am_iconst (v := nI 0) hC dX5_old_2 (by decide) ?_
  refine am_istore_n hC dX5_old_3 (by decide) ?_
  change am_W _ _ _ _ [.ref (3), .int (nI 0), .int (nI 0)] _ _
  exact loop nq 0 (fun _ => false) (Nat.zero_add _) (fun j hj => absurd hj (Nat.not_lt_zero j))
