/-! ===== the class's calls: what they share ===== -/
def dn (p : Int32) : Nat := p.toNatClampNeg
theorem dn_nI {j : Nat} (h : j < 2 ^ 31) : dn (nI j) = j := nI_clamp h
/-- the number of the first exception that applies -/
def k3 (a b c : Bool) : Nat := if a = false then 1 else if b = false then 2 else if c = false then 3 else 0
def EX (l : List String) (k : Nat) (X : String) : Prop := ∃ i, k = i + 1 ∧ l[i]? = some X
theorem EX_1 {a b c : Bool} {X : String} {l : List String} (ha : a = false) : EX (X :: l) (k3 a b c) X := ⟨0, if_pos ha, rfl⟩
theorem EX_2 {a b c : Bool} {X Y : String} {l : List String} (ha : a = true) (hb : b = false) : EX (Y :: X :: l) (k3 a b c) X := ⟨1, by subst ha; subst hb; rfl, rfl⟩
theorem EX_3 {a b c : Bool} {X Y V : String} {l : List String} (ha : a = true) (hb : b = true) (hc : c = false) : EX (Y :: V :: X :: l) (k3 a b c) X := ⟨2, by subst ha; subst hb; subst hc; rfl, rfl⟩
theorem k3_0 {a b c : Bool} (ha : a = true) (hb : b = true) (hc : c = true) : k3 a b c = 0 := by subst ha; subst hb; subst hc; rfl
def IW (w : Int32) : Bool := decide (-1 ≤ w) && decide (w ≤ 2)
theorem and_ff {a b : Bool} (h : b = false) : (a && b) = false := by subst h; exact Bool.and_false a
theorem and_fl {a b : Bool} (h : a = false) : (a && b) = false := by subst h; rfl
theorem and_tt {a b : Bool} (ha : a = true) (hb : b = true) : (a && b) = true := by subst ha; subst hb; rfl
set_option maxRecDepth 100000 in
set_option maxHeartbeats 4000000 in
theorem c_X0_changer (G : am_G) (l : Launch) (htr : l.stackTraces = false) (h : am_H) (n : Nat) (hD : DL h n) (d : Nat) (hd : d < n) : am_Met G l yX0_changer (.code yX0_changer cX0_changer 1 (some .int)) 1 0 0 [.ref (100 + 4 * d)] h (fun v h' => h' = h ∧ v = some (.int (chg h d))) (am_no) := by
  refine am_intro rfl htr rfl (Nat.le_of_ble_eq_true rfl) (fun Z hC hR hI => ?_)
  change am_W Z 0 0 0 [.ref (100 + 4 * d)] [] h
  refine am_aload_n hC dX0_changer_0 rfl ?_
  refine am_get (v := .int (hi_ h (100 + 4 * d) 4)) hC (ci := 1) (N := 5) (j := 4) rfl (dk0 hD hd) (by decide) tw_202 (Or.inl rfl) dX0_changer_1 rfl ?_
  refine am_iconst (v := -1) hC dX0_changer_4 (by decide) ?_
  refine am_icmp_eq (tgt := 15) hC dX0_changer_5 (by decide) (fun c_5 => ?_) (fun c_5 => ?_)
  · refine am_aload_n hC dX0_changer_15 rfl ?_
    refine am_get (v := .int (hi_ h (100 + 4 * d) 3)) hC (ci := 1) (N := 5) (j := 3) rfl (dk0 hD hd) (by decide) tw_200 (Or.inl rfl) dX0_changer_16 rfl ?_
    refine am_iret hC hR rfl (by decide) (by decide) dX0_changer_19 ?_
    refine ⟨rfl, ?_⟩
    unfold chg
    first | rw [if_pos c_5] | rw [if_neg c_5]
  · refine am_aload_n hC dX0_changer_8 rfl ?_
    refine am_get (v := .int (hi_ h (100 + 4 * d) 4)) hC (ci := 1) (N := 5) (j := 4) rfl (dk0 hD hd) (by decide) tw_202 (Or.inl rfl) dX0_changer_9 rfl ?_
    refine am_goto (tgt := 19) hC dX0_changer_12 (by decide) ?_
    refine am_iret hC hR rfl (by decide) (by decide) dX0_changer_19 ?_
    refine ⟨rfl, ?_⟩
    unfold chg
    first | rw [if_pos c_5] | rw [if_neg c_5]
set_option maxRecDepth 100000 in
set_option maxHeartbeats 4000000 in
theorem c_X5_drawingAt (G : am_G) (l : Launch) (htr : l.stackTraces = false) (h : am_H) (n np nq : Nat) (hci : CI h n np nq) (p : Int32) : am_Met G l yX5_drawingAt (.code yX5_drawingAt cX5_drawingAt 2 (some (.object "HousePlans$Drawing"))) 8 1 6 [.ref (3), .int (p)] h (fun v h' => h' = h ∧ ∃ j, j < n ∧ p = nI j ∧ v = some (.ref (100 + 4 * j))) (fun X h' => X = "java/lang/IndexOutOfBoundsException" ∧ h' = h ∧ ¬ ∃ j, j < n ∧ p = nI j) := by
  have hF := hci.1.1
  have hD := hci.1.2.1
  have hB := hci.1.2.2
  have hn6 := hci.2.1.1
  have hn20 := hci.2.1.2.1
  have hn30 := hci.2.1.2.2
  obtain ⟨⟨c4, l4⟩, ⟨c5, l5⟩, ⟨c6, l6⟩⟩ := hci.2.2.1
  refine am_intro rfl htr rfl (Nat.le_of_ble_eq_true rfl) (fun Z hC hR hI => ?_)
  change am_W Z 0 0 0 [.ref (3), .int (p)] [] h
  refine am_iload_n hC dX5_drawingAt_0 rfl ?_
  refine am_if_lt (tgt := 15) hC dX5_drawingAt_1 (by decide) (fun c_1 => ?_) (fun c_1 => ?_)
  · refine am_throw hC hR (X := "java/lang/IndexOutOfBoundsException") (text := "no such drawing") (by decide +kernel) tw_280 tw_18 tw_289 xw_RX5_150 ⟨rfl, Nat.le_of_ble_eq_true rfl⟩ (by decide) (by decide) (by decide) dX5_drawingAt_15 dX5_drawingAt_18 dX5_drawingAt_19 dX5_drawingAt_21 dX5_drawingAt_24 ?_
    exact ⟨rfl, rfl, fun ⟨j, hj, e⟩ => by
      subst e
      first
        | exact nI_pos (by omega) c_1
        | exact c_12 (nI_lt hj (by omega))⟩
  · refine am_iload_n hC dX5_drawingAt_4 rfl ?_
    refine am_aload_n hC dX5_drawingAt_5 rfl ?_
    refine am_get (v := .ref (4)) hC (ci := 6) (N := 4) (j := 0) rfl (kC_3 hF) (by decide) tw_94 (Or.inl rfl) dX5_drawingAt_6 (am_rfe (rC_3_0 hF)) ?_
    refine am_callV hC (ci := 0) (N := 3) [] rfl (kC_4 hF) rfl mf_Jx4a65c_size_8abf5 tw_111 (c_size _ _ (am_tr hC) h 4 n c4 100 1 l4) rfl ⟨rfl, Nat.le_of_ble_eq_true rfl⟩ ⟨by decide, by decide⟩ (by decide) (by decide) dX5_drawingAt_9 rfl (fun _ _ q _ => False.elim q) (fun v h' hp hlc => ?_)
    obtain ⟨z8, z9⟩ := hp
    have z8 := z8.symm
    subst z8
    subst z9
    refine am_icmp_lt (tgt := 25) hC dX5_drawingAt_12 (by decide) (fun c_12 => ?_) (fun c_12 => ?_)
    · obtain ⟨j, hj0, e⟩ := nI_of c_1
      subst e
      have hj : j < n := (nI_ltI hj0 (by omega)).mp c_12
      refine am_aload_n hC dX5_drawingAt_25 rfl ?_
      refine am_get (v := .ref (4)) hC (ci := 6) (N := 4) (j := 0) rfl (kC_3 hF) (by decide) tw_94 (Or.inl rfl) dX5_drawingAt_26 (am_rfe (rC_3_0 hF)) ?_
      refine am_iload_n hC dX5_drawingAt_29 rfl ?_
      refine am_callV hC (ci := 0) (N := 3) [.int (nI j)] rfl (kC_4 hF) rfl mf_Jx4a65c_get_915e3 tw_296 (c_get _ _ (am_tr hC) h 4 n c4 100 1 j l4 hj) rfl ⟨rfl, Nat.le_of_ble_eq_true rfl⟩ ⟨by decide, by decide⟩ (by decide) (by decide) dX5_drawingAt_30 rfl (fun _ _ q _ => False.elim q) (fun v h' hp hlc => ?_)
      obtain ⟨z8, z9⟩ := hp
      have z8 := z8.symm
      subst z8
      subst z9
      refine am_cast hC (ci := 1) (N := 5) rfl (l4.2.2.2.2.2.2.1 j hj).2 tw_183 dX5_drawingAt_33 ?_
      refine am_aret hC hR (Or.inl ⟨_, rfl⟩) (by decide) (by decide) dX5_drawingAt_36 ?_
      exact ⟨rfl, j, hj, rfl, rfl⟩
    · refine am_throw hC hR (X := "java/lang/IndexOutOfBoundsException") (text := "no such drawing") (by decide +kernel) tw_280 tw_18 tw_289 xw_RX5_150 ⟨rfl, Nat.le_of_ble_eq_true rfl⟩ (by decide) (by decide) (by decide) dX5_drawingAt_15 dX5_drawingAt_18 dX5_drawingAt_19 dX5_drawingAt_21 dX5_drawingAt_24 ?_
      exact ⟨rfl, rfl, fun ⟨j, hj, e⟩ => by
        subst e
        first
          | exact nI_pos (by omega) c_1
          | exact c_12 (nI_lt hj (by omega))⟩
set_option maxRecDepth 100000 in
set_option maxHeartbeats 4000000 in
theorem c_X5_printAt (G : am_G) (l : Launch) (htr : l.stackTraces = false) (h : am_H) (n np nq : Nat) (hci : CI h n np nq) (p : Int32) : am_Met G l yX5_printAt (.code yX5_printAt cX5_printAt 2 (some (.object "HousePlans$Print"))) 8 1 6 [.ref (3), .int (p)] h (fun v h' => h' = h ∧ ∃ j, j < nq ∧ p = nI j ∧ v = some (.ref (300 + 4 * j))) (fun X h' => X = "java/lang/IndexOutOfBoundsException" ∧ h' = h ∧ ¬ ∃ j, j < nq ∧ p = nI j) := by
  have hF := hci.1.1
  have hD := hci.1.2.1
  have hB := hci.1.2.2
  have hn6 := hci.2.1.1
  have hn20 := hci.2.1.2.1
  have hn30 := hci.2.1.2.2
  obtain ⟨⟨c4, l4⟩, ⟨c5, l5⟩, ⟨c6, l6⟩⟩ := hci.2.2.1
  refine am_intro rfl htr rfl (Nat.le_of_ble_eq_true rfl) (fun Z hC hR hI => ?_)
  change am_W Z 0 0 0 [.ref (3), .int (p)] [] h
  refine am_iload_n hC dX5_printAt_0 rfl ?_
  refine am_if_lt (tgt := 15) hC dX5_printAt_1 (by decide) (fun c_1 => ?_) (fun c_1 => ?_)
  · refine am_throw hC hR (X := "java/lang/IndexOutOfBoundsException") (text := "no such print") (by decide +kernel) tw_280 tw_18 tw_434 xw_RX5_150 ⟨rfl, Nat.le_of_ble_eq_true rfl⟩ (by decide) (by decide) (by decide) dX5_printAt_15 dX5_printAt_18 dX5_printAt_19 dX5_printAt_21 dX5_printAt_24 ?_
    exact ⟨rfl, rfl, fun ⟨j, hj, e⟩ => by
      subst e
      first
        | exact nI_pos (by omega) c_1
        | exact c_12 (nI_lt hj (by omega))⟩
  · refine am_iload_n hC dX5_printAt_4 rfl ?_
    refine am_aload_n hC dX5_printAt_5 rfl ?_
    refine am_get (v := .ref (6)) hC (ci := 6) (N := 4) (j := 2) rfl (kC_3 hF) (by decide) tw_96 (Or.inl rfl) dX5_printAt_6 (am_rfe (rC_3_2 hF)) ?_
    refine am_callV hC (ci := 0) (N := 3) [] rfl (kC_6 hF) rfl mf_Jx4a65c_size_8abf5 tw_111 (c_size _ _ (am_tr hC) h 6 nq c6 300 4 l6) rfl ⟨rfl, Nat.le_of_ble_eq_true rfl⟩ ⟨by decide, by decide⟩ (by decide) (by decide) dX5_printAt_9 rfl (fun _ _ q _ => False.elim q) (fun v h' hp hlc => ?_)
    obtain ⟨z8, z9⟩ := hp
    have z8 := z8.symm
    subst z8
    subst z9
    refine am_icmp_lt (tgt := 25) hC dX5_printAt_12 (by decide) (fun c_12 => ?_) (fun c_12 => ?_)
    · obtain ⟨j, hj0, e⟩ := nI_of c_1
      subst e
      have hj : j < nq := (nI_ltI hj0 (by omega)).mp c_12
      refine am_aload_n hC dX5_printAt_25 rfl ?_
      refine am_get (v := .ref (6)) hC (ci := 6) (N := 4) (j := 2) rfl (kC_3 hF) (by decide) tw_96 (Or.inl rfl) dX5_printAt_26 (am_rfe (rC_3_2 hF)) ?_
      refine am_iload_n hC dX5_printAt_29 rfl ?_
      refine am_callV hC (ci := 0) (N := 3) [.int (nI j)] rfl (kC_6 hF) rfl mf_Jx4a65c_get_915e3 tw_296 (c_get _ _ (am_tr hC) h 6 nq c6 300 4 j l6 hj) rfl ⟨rfl, Nat.le_of_ble_eq_true rfl⟩ ⟨by decide, by decide⟩ (by decide) (by decide) dX5_printAt_30 rfl (fun _ _ q _ => False.elim q) (fun v h' hp hlc => ?_)
      obtain ⟨z8, z9⟩ := hp
      have z8 := z8.symm
      subst z8
      subst z9
      refine am_cast hC (ci := 4) (N := 3) rfl (l6.2.2.2.2.2.2.1 j hj).2 tw_435 dX5_printAt_33 ?_
      refine am_aret hC hR (Or.inl ⟨_, rfl⟩) (by decide) (by decide) dX5_printAt_36 ?_
      exact ⟨rfl, j, hj, rfl, rfl⟩
    · refine am_throw hC hR (X := "java/lang/IndexOutOfBoundsException") (text := "no such print") (by decide +kernel) tw_280 tw_18 tw_434 xw_RX5_150 ⟨rfl, Nat.le_of_ble_eq_true rfl⟩ (by decide) (by decide) (by decide) dX5_printAt_15 dX5_printAt_18 dX5_printAt_19 dX5_printAt_21 dX5_printAt_24 ?_
      exact ⟨rfl, rfl, fun ⟨j, hj, e⟩ => by
        subst e
        first
          | exact nI_pos (by omega) c_1
          | exact c_12 (nI_lt hj (by omega))⟩
set_option maxRecDepth 100000 in
set_option maxHeartbeats 4000000 in
theorem c_X5_needChanger (G : am_G) (l : Launch) (htr : l.stackTraces = false) (h : am_H) (n : Nat) (hD : DL h n) (d : Nat) (hd : d < n) (p : Int32) : am_Met G l yX5_needChanger (.code yX5_needChanger cX5_needChanger 2 none) 7 1 6 [.ref (100 + 4 * d), .int (p)] h (fun v h' => v = none ∧ h' = h ∧ chg h d = p) (fun X h' => X = "java/lang/IllegalStateException" ∧ h' = h ∧ ¬ chg h d = p) := by
  refine am_intro rfl htr rfl (Nat.le_of_ble_eq_true rfl) (fun Z hC hR hI => ?_)
  change am_W Z 0 0 0 [.ref (100 + 4 * d), .int (p)] [] h
  refine am_aload_n hC dX5_needChanger_0 rfl ?_
  refine am_callVN hC (ci := 1) (N := 5) [] rfl (dk0 hD hd) rfl mf_X0_changer tw_337 (c_X0_changer _ _ (am_tr hC) h n hD d hd) rfl ⟨rfl, Nat.le_of_ble_eq_true rfl⟩ ⟨by decide, by decide⟩ (by decide) (by decide) dX5_needChanger_1 rfl (fun _ _ q _ => False.elim q) (fun v h' hp hlc => ?_)
  obtain ⟨z8, z9⟩ := hp
  have z8 := z8.symm
  subst z8
  subst z9
  refine am_iload_n hC dX5_needChanger_4 rfl ?_
  refine am_icmp_eq (tgt := 18) hC dX5_needChanger_5 (by decide) (fun c_5 => ?_) (fun c_5 => ?_)
  · refine am_vret hC hR (by decide) (by decide) dX5_needChanger_18 ?_
    exact ⟨rfl, rfl, c_5⟩
  · refine am_throw hC hR (X := "java/lang/IllegalStateException") (text := "the person cannot change the drawing") (by decide +kernel) tw_115 tw_13 tw_341 xw_RX5_37 ⟨rfl, Nat.le_of_ble_eq_true rfl⟩ (by decide) (by decide) (by decide) dX5_needChanger_8 dX5_needChanger_11 dX5_needChanger_12 dX5_needChanger_14 dX5_needChanger_17 ?_
    exact ⟨rfl, rfl, c_5⟩
set_option maxRecDepth 100000 in
set_option maxHeartbeats 4000000 in
theorem c_X5_needLocker (G : am_G) (l : Launch) (htr : l.stackTraces = false) (h : am_H) (n : Nat) (hD : DL h n) (d : Nat) (hd : d < n) (p : Int32) : am_Met G l yX5_needLocker (.code yX5_needLocker cX5_needLocker 2 none) 7 1 6 [.ref (100 + 4 * d), .int (p)] h (fun v h' => v = none ∧ h' = h ∧ hi_ h (100 + 4 * d) 3 = p) (fun X h' => X = "java/lang/IllegalStateException" ∧ h' = h ∧ ¬ hi_ h (100 + 4 * d) 3 = p) := by
  refine am_intro rfl htr rfl (Nat.le_of_ble_eq_true rfl) (fun Z hC hR hI => ?_)
  change am_W Z 0 0 0 [.ref (100 + 4 * d), .int (p)] [] h
  refine am_aload_n hC dX5_needLocker_0 rfl ?_
  refine am_getN (v := .int (hi_ h (100 + 4 * d) 3)) hC (ci := 1) (N := 5) (j := 3) rfl (dk0 hD hd) (by decide) tw_201 dX5_needLocker_1 rfl ?_
  refine am_iload_n hC dX5_needLocker_4 rfl ?_
  refine am_icmp_eq (tgt := 18) hC dX5_needLocker_5 (by decide) (fun c_5 => ?_) (fun c_5 => ?_)
  · refine am_vret hC hR (by decide) (by decide) dX5_needLocker_18 ?_
    exact ⟨rfl, rfl, c_5⟩
  · refine am_throw hC hR (X := "java/lang/IllegalStateException") (text := "the person has not locked the drawing") (by decide +kernel) tw_115 tw_13 tw_491 xw_RX5_37 ⟨rfl, Nat.le_of_ble_eq_true rfl⟩ (by decide) (by decide) (by decide) dX5_needLocker_8 dX5_needLocker_11 dX5_needLocker_12 dX5_needLocker_14 dX5_needLocker_17 ?_
    exact ⟨rfl, rfl, c_5⟩
