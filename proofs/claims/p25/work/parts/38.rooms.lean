/-! ===== the class's calls: rooms ===== -/
def VR (sd : Nat → Int32) (v : Int32) : Prop := ∃ ro, RoomOK sd ro ∧ v = nI (cnt (fun c => decide (ro c = c)) 25)
def VM (sd : Nat → Int32) (c : Nat) (v : Int32) : Prop := ∃ ro, RoomOK sd ro ∧ v = nI (ro c)
def VS (sd : Nat → Int32) (c : Nat) (v : Int32) : Prop := ∃ ro, RoomOK sd ro ∧ v = nI (cnt (fun x => decide (ro x = ro c)) 25)
def VD (sd : Nat → Int32) (ex : Nat → Bool) (c : Nat) (v : Int32) : Prop := ∃ ro D, RoomOK sd ro ∧ DistOK 25 (exR ex ro) (adjD sd ro) D ∧ v = dI (D (ro c))
def VH (sd : Nat → Int32) (ex : Nat → Bool) (c : Nat) (v : Int32) : Prop := ∃ ro D, RoomOK sd ro ∧ DistOK 25 (exR ex ro) (adjD sd ro) D ∧ ((∃ k, D (ro c) = some k) → v = -1) ∧ (D (ro c) = none → ∃ D2, DistOK 25 (fun r => r = ro c) (adjD sd ro) D2 ∧ v = fi_ (pw sd ro D D2) 0 40)
def VW (sd : Nat → Int32) (ex : Nat → Bool) (R : Bool) : Prop := ∃ ro D, RoomOK sd ro ∧ DistOK 25 (exR ex ro) (adjD sd ro) D ∧ (R = true ↔ ∀ c, c < 25 → D (ro c) ≠ none)
theorem cnt_cg {p q : Nat → Bool} : ∀ {m : Nat}, (∀ i, i < m → p i = q i) → cnt p m = cnt q m
  | 0, _ => rfl
  | m + 1, h => by
    show cnt p m + _ = cnt q m + _
    rw [cnt_cg (fun i hi => h i (by omega)), h m (by omega)]
theorem adj_ro {sd : Nat → Int32} {ro ro' : Nat → Nat} (e : ∀ c, c < 25 → ro c = ro' c) {a b : Nat} (h : adjD sd ro a b) : adjD sd ro' a b := by
  obtain ⟨s, h1, h2, h3⟩ := h
  refine ⟨s, h1, h2, ?_⟩
  rw [← e _ (fc_lt h1), ← e _ (sc_lt h1)]
  exact h3
theorem Dist_ro {sd : Nat → Int32} {src src' : Nat → Prop} {ro ro' : Nat → Nat} (e : ∀ c, c < 25 → ro c = ro' c) (hs : ∀ r, r < 25 → (src r ↔ src' r)) {D : Nat → Option Nat} (h : DistOK 25 src (adjD sd ro) D) : DistOK 25 src' (adjD sd ro') D :=
  Dist_cg hs (fun _ _ _ _ => ⟨adj_ro e, adj_ro (fun c hc => (e c hc).symm)⟩) h
theorem exR_ro {ex : Nat → Bool} {ro ro' : Nat → Nat} (e : ∀ c, c < 25 → ro c = ro' c) (r : Nat) : exR ex ro r ↔ exR ex ro' r :=
  ⟨fun ⟨c, h1, h2, h3⟩ => ⟨c, h1, by rw [← e c h1]; exact h2, h3⟩, fun ⟨c, h1, h2, h3⟩ => ⟨c, h1, by rw [e c h1]; exact h2, h3⟩⟩
theorem VR_u {sd : Nat → Int32} {v v' : Int32} (h : VR sd v) (h' : VR sd v') : v = v' := by
  obtain ⟨ro, a, rfl⟩ := h
  obtain ⟨ro', a', rfl⟩ := h'
  rw [cnt_cg (fun i hi => by rw [Room_uniq a a' hi])]
theorem VM_u {sd : Nat → Int32} {c : Nat} {v v' : Int32} (hc : c < 25) (h : VM sd c v) (h' : VM sd c v') : v = v' := by
  obtain ⟨ro, a, rfl⟩ := h
  obtain ⟨ro', a', rfl⟩ := h'
  rw [Room_uniq a a' hc]
theorem VS_u {sd : Nat → Int32} {c : Nat} {v v' : Int32} (hc : c < 25) (h : VS sd c v) (h' : VS sd c v') : v = v' := by
  obtain ⟨ro, a, rfl⟩ := h
  obtain ⟨ro', a', rfl⟩ := h'
  rw [cnt_cg (fun i hi => by rw [Room_uniq a a' hi, Room_uniq a a' hc])]
theorem VD_D {sd : Nat → Int32} {ex : Nat → Bool} {ro ro' : Nat → Nat} {D D' : Nat → Option Nat} (a : RoomOK sd ro) (a' : RoomOK sd ro') (d : DistOK 25 (exR ex ro) (adjD sd ro) D) (d' : DistOK 25 (exR ex ro') (adjD sd ro') D') (r : Nat) (hr : r < 25) : D r = D' r :=
  Dist_uniq (Dist_ro (fun c hc => Room_uniq a a' hc) (fun r _ => exR_ro (fun c hc => Room_uniq a a' hc) r) d) d' hr
theorem VD_u {sd : Nat → Int32} {ex : Nat → Bool} {c : Nat} {v v' : Int32} (hc : c < 25) (h : VD sd ex c v) (h' : VD sd ex c v') : v = v' := by
  obtain ⟨ro, D, a, d, rfl⟩ := h
  obtain ⟨ro', D', a', d', rfl⟩ := h'
  rw [Room_uniq a a' hc, VD_D a a' d d' _ (Room_lt a' hc)]
theorem fi_cg {p q : Nat → Bool} : ∀ (m i : Nat), (∀ s, s < i + m → p s = q s) → fi_ p i m = fi_ q i m
  | 0, _, _ => rfl
  | m + 1, i, h => by
    show (if p i = true then nI i else _) = (if q i = true then nI i else _)
    rw [h i (by omega), fi_cg m (i + 1) (fun s hs => h s (by omega))]
theorem VH_u {sd : Nat → Int32} {ex : Nat → Bool} {c : Nat} {v v' : Int32} (hc : c < 25) (h : VH sd ex c v) (h' : VH sd ex c v') : v = v' := by
  obtain ⟨ro, D, a, d, e1, e2⟩ := h
  obtain ⟨ro', D', a', d', e1', e2'⟩ := h'
  have er := Room_uniq a a' hc
  have eD := VD_D a a' d d'
  rw [← er, ← eD _ (Room_lt a hc)] at e1' e2'
  cases q : D (ro c) with
  | some k => rw [e1 ⟨k, q⟩, e1' ⟨k, q⟩]
  | none =>
    obtain ⟨D2, f1, f2⟩ := e2 q
    obtain ⟨D2', f1', f2'⟩ := e2' q
    rw [f2, f2']
    have e2 : ∀ r, r < 25 → D2 r = D2' r := fun r hr => Dist_uniq (Dist_ro (fun c hc => Room_uniq a a' hc) (fun r _ => Iff.rfl) f1) f1' hr
    refine fi_cg 40 0 (fun s hs => ?_)
    unfold pw
    have hf := fc_lt (by omega : s < 40)
    have hg := sc_lt (by omega : s < 40)
    rw [e2 _ (Room_lt a hf), e2 _ (Room_lt a hg), eD _ (Room_lt a hf), eD _ (Room_lt a hg), Room_uniq a a' hf, Room_uniq a a' hg]
theorem VW_u {sd : Nat → Int32} {ex : Nat → Bool} {R R' : Bool} (h : VW sd ex R) (h' : VW sd ex R') : R = R' := by
  obtain ⟨ro, D, a, d, e⟩ := h
  obtain ⟨ro', D', a', d', e'⟩ := h'
  have : (∀ c, c < 25 → D (ro c) ≠ none) ↔ ∀ c, c < 25 → D' (ro' c) ≠ none :=
    ⟨fun z c hc => by rw [← Room_uniq a a' hc, ← VD_D a a' d d' _ (Room_lt a hc)]; exact z c hc, fun z c hc => by rw [Room_uniq a a' hc, VD_D a a' d d' _ (Room_lt a' hc)]; exact z c hc⟩
  rw [this, ← e'] at e
  cases R <;> cases R' <;> simp_all
def FS (r : Nat) : Prop := 9 ≤ r ∧ r ≤ 13
set_option maxRecDepth 100000 in
set_option maxHeartbeats 4000000 in
theorem c_X5_rooms (G : am_G) (l : Launch) (htr : l.stackTraces = false) (h : am_H) (n np nq : Nat) (hci : CI h n np nq) (D : Int32) : am_Met G l yX5_rooms (.code yX5_rooms cX5_rooms 2 (some .int)) 11 8 48 [.ref (3), .int (D)] h (fun v h' => (k3 (IX n D) true true) = 0 ∧ am_eq FS h h' ∧ ∃ x, v = some (.int x) ∧ VR (sdH h (dn D)) x) (fun X h' => h' = h ∧ EX ["java/lang/IndexOutOfBoundsException", "java/lang/IllegalArgumentException", "java/lang/IllegalStateException"] (k3 (IX n D) true true) X) := by
  have hF := hci.1.1
  have hD := hci.1.2.1
  have hB := hci.1.2.2
  have hn6 := hci.2.1.1
  have hn20 := hci.2.1.2.1
  have hn30 := hci.2.1.2.2
  obtain ⟨⟨c4, l4⟩, ⟨c5, l5⟩, ⟨c6, l6⟩⟩ := hci.2.2.1
  refine am_intro rfl htr rfl (Nat.le_of_ble_eq_true rfl) (fun Z hC hR hI => ?_)
  change am_W Z 0 0 0 [.ref (3), .int (D)] [] h
  refine am_aload_n hC dX5_rooms_0 rfl ?_
  refine am_get (v := .ref (7)) hC (ci := 6) (N := 4) (j := 3) rfl (kC_3 hF) (by decide) tw_97 (Or.inl rfl) dX5_rooms_1 (am_rfe (rC_3_3 hF)) ?_
  refine am_aload_n hC dX5_rooms_4 rfl ?_
  refine am_iload_n hC dX5_rooms_5 rfl ?_
  refine am_callV hC (ci := 6) (N := 4) [.int (D)] rfl (kC_3 hF) rfl mf_X5_drawingAt tw_276 (c_X5_drawingAt _ _ (am_tr hC) h n np nq hci D) rfl ⟨rfl, Nat.le_of_ble_eq_true rfl⟩ ⟨by decide, by decide⟩ (by decide) (by decide) dX5_rooms_6 rfl (fun X g hx hle => am_out hC hR (by decide) (by decide) (by obtain ⟨hx1, hx2, hx⟩ := hx; subst hx1; subst hx2; exact ⟨rfl, EX_1 ((IX_n (by omega) hx))⟩)) (fun v h' hp hlc => ?_)
  obtain ⟨z8, d, hd, z7, z9⟩ := hp
  have z8 := z8.symm
  subst z8
  subst z9
  subst z7
  refine am_callVN hC (ci := 2) (N := 4) [.ref (100 + 4 * d)] rfl (kC_7 hF) rfl mf_X1_lookAt tw_365 (c_X1_lookAt _ _ (am_tr hC) h hF n hD hn6 hB d hd) rfl ⟨rfl, Nat.le_of_ble_eq_true rfl⟩ ⟨by decide, by decide⟩ (by decide) (by decide) dX5_rooms_9 rfl (fun _ _ q _ => False.elim q) (fun v h1 hp l1 => ?_)
  obtain ⟨rfl, e1, ro, Dx, k1, k2, k3, k4, k5, k6⟩ := hp
  have eF : am_eq FS h h1 := am_eq_mono (fun r z => ⟨z.1, by have := z.2; omega⟩) e1
  have hci1 := CI_eq (S := FS) (fun r z => ⟨z.1, by have := z.2; omega⟩) eF l1 hci
  have hF0 := hF
  have hF := hci1.1.1
  have hrl : ∀ c, c < 25 → ro c < 25 := fun c hc => Room_lt k3 hc
  refine am_aload_n hC dX5_rooms_12 rfl ?_
  refine am_get (v := .ref (7)) hC (ci := 6) (N := 4) (j := 3) rfl (kC_3 hF) (by decide) tw_97 (Or.inl rfl) dX5_rooms_13 (am_rfe (rC_3_3 hF)) ?_
  refine am_callVN hC (ci := 2) (N := 4) [] rfl (kC_7 hF) rfl mf_X1_countRooms tw_410 (c_X1_countRooms _ _ (am_tr hC) h1 hF ro k4 hrl) rfl ⟨rfl, Nat.le_of_ble_eq_true rfl⟩ ⟨by decide, by decide⟩ (by decide) (by decide) dX5_rooms_16 rfl (fun _ _ q _ => False.elim q) (fun v h' hp hlc => ?_)
  obtain ⟨rfl, q9⟩ := hp
  have q9 := q9.symm
  subst q9
  refine am_iret hC hR rfl (by decide) (by decide) dX5_rooms_19 ?_
  refine ⟨k3_0 (IX_y (by omega) hd rfl) rfl rfl, eF, ?_⟩
  rw [dn_nI (by omega)]
  exact ⟨_, rfl, ro, k3, rfl⟩
set_option maxRecDepth 100000 in
set_option maxHeartbeats 4000000 in
theorem c_X5_room (G : am_G) (l : Launch) (htr : l.stackTraces = false) (h : am_H) (n np nq : Nat) (hci : CI h n np nq) (D : Int32) (C : Int32) : am_Met G l yX5_room (.code yX5_room cX5_room 4 (some .int)) 11 8 48 [.ref (3), .int (D), .int (C)] h (fun v h' => (k3 (IX n D) (IX 25 C) true) = 0 ∧ am_eq FS h h' ∧ ∃ x, v = some (.int x) ∧ VM (sdH h (dn D)) (dn C) x) (fun X h' => h' = h ∧ EX ["java/lang/IndexOutOfBoundsException", "java/lang/IllegalArgumentException", "java/lang/IllegalStateException"] (k3 (IX n D) (IX 25 C) true) X) := by
  have hF := hci.1.1
  have hD := hci.1.2.1
  have hB := hci.1.2.2
  have hn6 := hci.2.1.1
  have hn20 := hci.2.1.2.1
  have hn30 := hci.2.1.2.2
  obtain ⟨⟨c4, l4⟩, ⟨c5, l5⟩, ⟨c6, l6⟩⟩ := hci.2.2.1
  refine am_intro rfl htr rfl (Nat.le_of_ble_eq_true rfl) (fun Z hC hR hI => ?_)
  change am_W Z 0 0 0 [.ref (3), .int (D), .int (C), .null] [] h
  refine am_aload_n hC dX5_room_0 rfl ?_
  refine am_iload_n hC dX5_room_1 rfl ?_
  refine am_callV hC (ci := 6) (N := 4) [.int (D)] rfl (kC_3 hF) rfl mf_X5_drawingAt tw_276 (c_X5_drawingAt _ _ (am_tr hC) h n np nq hci D) rfl ⟨rfl, Nat.le_of_ble_eq_true rfl⟩ ⟨by decide, by decide⟩ (by decide) (by decide) dX5_room_2 rfl (fun X g hx hle => am_out hC hR (by decide) (by decide) (by obtain ⟨hx1, hx2, hx⟩ := hx; subst hx1; subst hx2; exact ⟨rfl, EX_1 ((IX_n (by omega) hx))⟩)) (fun v h' hp hlc => ?_)
  obtain ⟨z8, d, hd, z7, z9⟩ := hp
  have z8 := z8.symm
  subst z8
  subst z9
  subst z7
  refine am_astore_n hC dX5_room_5 (by decide) ?_
  change am_W _ _ _ _ [.ref (3), .int (nI d), .int (C), .ref (100 + 4 * d)] _ _
  refine am_iload_n hC dX5_room_6 rfl ?_
  refine am_callS hC [.int (C)] mf_X5_needCell tw_346 (c_X5_needCell _ _ (am_tr hC) h (C)) rfl ⟨rfl, Nat.le_of_ble_eq_true rfl⟩ ⟨by decide, by decide⟩ (by decide) (by decide) dX5_room_7 rfl (fun X g hx hle => am_out hC hR (by decide) (by decide) (by obtain ⟨hx1, hx2, hx⟩ := hx; subst hx1; subst hx2; exact ⟨rfl, EX_2 (IX_y (by omega) hd rfl) (IX_n (by decide) hx)⟩)) (fun v h' hp hlc => ?_)
  obtain ⟨rfl, z8, c, hs0, z7⟩ := hp
  have z8 := z8.symm
  subst z8
  subst z7
  refine am_aload_n hC dX5_room_10 rfl ?_
  refine am_get (v := .ref (7)) hC (ci := 6) (N := 4) (j := 3) rfl (kC_3 hF) (by decide) tw_97 (Or.inl rfl) dX5_room_11 (am_rfe (rC_3_3 hF)) ?_
  refine am_aload_n hC dX5_room_14 rfl ?_
  refine am_callVN hC (ci := 2) (N := 4) [.ref (100 + 4 * d)] rfl (kC_7 hF) rfl mf_X1_lookAt tw_365 (c_X1_lookAt _ _ (am_tr hC) h hF n hD hn6 hB d hd) rfl ⟨rfl, Nat.le_of_ble_eq_true rfl⟩ ⟨by decide, by decide⟩ (by decide) (by decide) dX5_room_15 rfl (fun _ _ q _ => False.elim q) (fun v h1 hp l1 => ?_)
  obtain ⟨rfl, e1, ro, Dx, k1, k2, k3, k4, k5, k6⟩ := hp
  have eF : am_eq FS h h1 := am_eq_mono (fun r z => ⟨z.1, by have := z.2; omega⟩) e1
  have hci1 := CI_eq (S := FS) (fun r z => ⟨z.1, by have := z.2; omega⟩) eF l1 hci
  have hF0 := hF
  have hF := hci1.1.1
  have hrl : ∀ c, c < 25 → ro c < 25 := fun c hc => Room_lt k3 hc
  refine am_aload_n hC dX5_room_18 rfl ?_
  refine am_get (v := .ref (7)) hC (ci := 6) (N := 4) (j := 3) rfl (kC_3 hF) (by decide) tw_97 (Or.inl rfl) dX5_room_19 (am_rfe (rC_3_3 hF)) ?_
  refine am_getN (v := .ref (11)) hC (ci := 2) (N := 4) (j := 1) rfl (kC_7 hF) (by decide) tw_81 dX5_room_22 (am_rfe (rC_7_1 hF)) ?_
  refine am_iload_n hC dX5_room_25 rfl ?_
  refine am_ialdE (v := nI (ro c)) hC (j := c) (N := 25) (kC_11 hF) (nC_11 hF) rfl (by omega) (by decide) dX5_room_26 (k4 c hs0) ?_
  refine am_iret hC hR rfl (by decide) (by decide) dX5_room_27 ?_
  refine ⟨k3_0 (IX_y (by omega) hd rfl) (IX_y (by decide) hs0 rfl) rfl, eF, ?_⟩
  rw [dn_nI (by omega), dn_nI (by omega)]
  exact ⟨_, rfl, ro, k3, rfl⟩
set_option maxRecDepth 100000 in
set_option maxHeartbeats 4000000 in
theorem c_X5_size (G : am_G) (l : Launch) (htr : l.stackTraces = false) (h : am_H) (n np nq : Nat) (hci : CI h n np nq) (D : Int32) (C : Int32) : am_Met G l yX5_size (.code yX5_size cX5_size 4 (some .int)) 11 8 48 [.ref (3), .int (D), .int (C)] h (fun v h' => (k3 (IX n D) (IX 25 C) true) = 0 ∧ am_eq FS h h' ∧ ∃ x, v = some (.int x) ∧ VS (sdH h (dn D)) (dn C) x) (fun X h' => h' = h ∧ EX ["java/lang/IndexOutOfBoundsException", "java/lang/IllegalArgumentException", "java/lang/IllegalStateException"] (k3 (IX n D) (IX 25 C) true) X) := by
  have hF := hci.1.1
  have hD := hci.1.2.1
  have hB := hci.1.2.2
  have hn6 := hci.2.1.1
  have hn20 := hci.2.1.2.1
  have hn30 := hci.2.1.2.2
  obtain ⟨⟨c4, l4⟩, ⟨c5, l5⟩, ⟨c6, l6⟩⟩ := hci.2.2.1
  refine am_intro rfl htr rfl (Nat.le_of_ble_eq_true rfl) (fun Z hC hR hI => ?_)
  change am_W Z 0 0 0 [.ref (3), .int (D), .int (C), .null] [] h
  refine am_aload_n hC dX5_size_0 rfl ?_
  refine am_iload_n hC dX5_size_1 rfl ?_
  refine am_callV hC (ci := 6) (N := 4) [.int (D)] rfl (kC_3 hF) rfl mf_X5_drawingAt tw_276 (c_X5_drawingAt _ _ (am_tr hC) h n np nq hci D) rfl ⟨rfl, Nat.le_of_ble_eq_true rfl⟩ ⟨by decide, by decide⟩ (by decide) (by decide) dX5_size_2 rfl (fun X g hx hle => am_out hC hR (by decide) (by decide) (by obtain ⟨hx1, hx2, hx⟩ := hx; subst hx1; subst hx2; exact ⟨rfl, EX_1 ((IX_n (by omega) hx))⟩)) (fun v h' hp hlc => ?_)
  obtain ⟨z8, d, hd, z7, z9⟩ := hp
  have z8 := z8.symm
  subst z8
  subst z9
  subst z7
  refine am_astore_n hC dX5_size_5 (by decide) ?_
  change am_W _ _ _ _ [.ref (3), .int (nI d), .int (C), .ref (100 + 4 * d)] _ _
  refine am_iload_n hC dX5_size_6 rfl ?_
  refine am_callS hC [.int (C)] mf_X5_needCell tw_346 (c_X5_needCell _ _ (am_tr hC) h (C)) rfl ⟨rfl, Nat.le_of_ble_eq_true rfl⟩ ⟨by decide, by decide⟩ (by decide) (by decide) dX5_size_7 rfl (fun X g hx hle => am_out hC hR (by decide) (by decide) (by obtain ⟨hx1, hx2, hx⟩ := hx; subst hx1; subst hx2; exact ⟨rfl, EX_2 (IX_y (by omega) hd rfl) (IX_n (by decide) hx)⟩)) (fun v h' hp hlc => ?_)
  obtain ⟨rfl, z8, c, hs0, z7⟩ := hp
  have z8 := z8.symm
  subst z8
  subst z7
  refine am_aload_n hC dX5_size_10 rfl ?_
  refine am_get (v := .ref (7)) hC (ci := 6) (N := 4) (j := 3) rfl (kC_3 hF) (by decide) tw_97 (Or.inl rfl) dX5_size_11 (am_rfe (rC_3_3 hF)) ?_
  refine am_aload_n hC dX5_size_14 rfl ?_
  refine am_callVN hC (ci := 2) (N := 4) [.ref (100 + 4 * d)] rfl (kC_7 hF) rfl mf_X1_lookAt tw_365 (c_X1_lookAt _ _ (am_tr hC) h hF n hD hn6 hB d hd) rfl ⟨rfl, Nat.le_of_ble_eq_true rfl⟩ ⟨by decide, by decide⟩ (by decide) (by decide) dX5_size_15 rfl (fun _ _ q _ => False.elim q) (fun v h1 hp l1 => ?_)
  obtain ⟨rfl, e1, ro, Dx, k1, k2, k3, k4, k5, k6⟩ := hp
  have eF : am_eq FS h h1 := am_eq_mono (fun r z => ⟨z.1, by have := z.2; omega⟩) e1
  have hci1 := CI_eq (S := FS) (fun r z => ⟨z.1, by have := z.2; omega⟩) eF l1 hci
  have hF0 := hF
  have hF := hci1.1.1
  have hrl : ∀ c, c < 25 → ro c < 25 := fun c hc => Room_lt k3 hc
  refine am_aload_n hC dX5_size_18 rfl ?_
  refine am_get (v := .ref (7)) hC (ci := 6) (N := 4) (j := 3) rfl (kC_3 hF) (by decide) tw_97 (Or.inl rfl) dX5_size_19 (am_rfe (rC_3_3 hF)) ?_
  refine am_aload_n hC dX5_size_22 rfl ?_
  refine am_get (v := .ref (7)) hC (ci := 6) (N := 4) (j := 3) rfl (kC_3 hF) (by decide) tw_97 (Or.inl rfl) dX5_size_23 (am_rfe (rC_3_3 hF)) ?_
  refine am_getN (v := .ref (11)) hC (ci := 2) (N := 4) (j := 1) rfl (kC_7 hF) (by decide) tw_81 dX5_size_26 (am_rfe (rC_7_1 hF)) ?_
  refine am_iload_n hC dX5_size_29 rfl ?_
  refine am_ialdE (v := nI (ro c)) hC (j := c) (N := 25) (kC_11 hF) (nC_11 hF) rfl (by omega) (by decide) dX5_size_30 (k4 c hs0) ?_
  refine am_callVN hC (ci := 2) (N := 4) [.int (nI (ro c))] rfl (kC_7 hF) rfl mf_X1_countCells tw_418 (c_X1_countCells _ _ (am_tr hC) h1 hF ro k4 hrl (ro c) (hrl c hs0)) rfl ⟨rfl, Nat.le_of_ble_eq_true rfl⟩ ⟨by decide, by decide⟩ (by decide) (by decide) dX5_size_31 rfl (fun _ _ q _ => False.elim q) (fun v h' hp hlc => ?_)
  obtain ⟨rfl, q9⟩ := hp
  have q9 := q9.symm
  subst q9
  refine am_iret hC hR rfl (by decide) (by decide) dX5_size_34 ?_
  refine ⟨k3_0 (IX_y (by omega) hd rfl) (IX_y (by decide) hs0 rfl) rfl, eF, ?_⟩
  rw [dn_nI (by omega), dn_nI (by omega)]
  exact ⟨_, rfl, ro, k3, rfl⟩
set_option maxRecDepth 100000 in
set_option maxHeartbeats 4000000 in
theorem c_X5_doorsOut (G : am_G) (l : Launch) (htr : l.stackTraces = false) (h : am_H) (n np nq : Nat) (hci : CI h n np nq) (D : Int32) (C : Int32) : am_Met G l yX5_doorsOut (.code yX5_doorsOut cX5_doorsOut 4 (some .int)) 11 8 48 [.ref (3), .int (D), .int (C)] h (fun v h' => (k3 (IX n D) (IX 25 C) true) = 0 ∧ am_eq FS h h' ∧ ∃ x, v = some (.int x) ∧ VD (sdH h (dn D)) (exH h (dn D)) (dn C) x) (fun X h' => h' = h ∧ EX ["java/lang/IndexOutOfBoundsException", "java/lang/IllegalArgumentException", "java/lang/IllegalStateException"] (k3 (IX n D) (IX 25 C) true) X) := by
  have hF := hci.1.1
  have hD := hci.1.2.1
  have hB := hci.1.2.2
  have hn6 := hci.2.1.1
  have hn20 := hci.2.1.2.1
  have hn30 := hci.2.1.2.2
  obtain ⟨⟨c4, l4⟩, ⟨c5, l5⟩, ⟨c6, l6⟩⟩ := hci.2.2.1
  refine am_intro rfl htr rfl (Nat.le_of_ble_eq_true rfl) (fun Z hC hR hI => ?_)
  change am_W Z 0 0 0 [.ref (3), .int (D), .int (C), .null] [] h
  refine am_aload_n hC dX5_doorsOut_0 rfl ?_
  refine am_iload_n hC dX5_doorsOut_1 rfl ?_
  refine am_callV hC (ci := 6) (N := 4) [.int (D)] rfl (kC_3 hF) rfl mf_X5_drawingAt tw_276 (c_X5_drawingAt _ _ (am_tr hC) h n np nq hci D) rfl ⟨rfl, Nat.le_of_ble_eq_true rfl⟩ ⟨by decide, by decide⟩ (by decide) (by decide) dX5_doorsOut_2 rfl (fun X g hx hle => am_out hC hR (by decide) (by decide) (by obtain ⟨hx1, hx2, hx⟩ := hx; subst hx1; subst hx2; exact ⟨rfl, EX_1 ((IX_n (by omega) hx))⟩)) (fun v h' hp hlc => ?_)
  obtain ⟨z8, d, hd, z7, z9⟩ := hp
  have z8 := z8.symm
  subst z8
  subst z9
  subst z7
  refine am_astore_n hC dX5_doorsOut_5 (by decide) ?_
  change am_W _ _ _ _ [.ref (3), .int (nI d), .int (C), .ref (100 + 4 * d)] _ _
  refine am_iload_n hC dX5_doorsOut_6 rfl ?_
  refine am_callS hC [.int (C)] mf_X5_needCell tw_346 (c_X5_needCell _ _ (am_tr hC) h (C)) rfl ⟨rfl, Nat.le_of_ble_eq_true rfl⟩ ⟨by decide, by decide⟩ (by decide) (by decide) dX5_doorsOut_7 rfl (fun X g hx hle => am_out hC hR (by decide) (by decide) (by obtain ⟨hx1, hx2, hx⟩ := hx; subst hx1; subst hx2; exact ⟨rfl, EX_2 (IX_y (by omega) hd rfl) (IX_n (by decide) hx)⟩)) (fun v h' hp hlc => ?_)
  obtain ⟨rfl, z8, c, hs0, z7⟩ := hp
  have z8 := z8.symm
  subst z8
  subst z7
  refine am_aload_n hC dX5_doorsOut_10 rfl ?_
  refine am_get (v := .ref (7)) hC (ci := 6) (N := 4) (j := 3) rfl (kC_3 hF) (by decide) tw_97 (Or.inl rfl) dX5_doorsOut_11 (am_rfe (rC_3_3 hF)) ?_
  refine am_aload_n hC dX5_doorsOut_14 rfl ?_
  refine am_callVN hC (ci := 2) (N := 4) [.ref (100 + 4 * d)] rfl (kC_7 hF) rfl mf_X1_lookAt tw_365 (c_X1_lookAt _ _ (am_tr hC) h hF n hD hn6 hB d hd) rfl ⟨rfl, Nat.le_of_ble_eq_true rfl⟩ ⟨by decide, by decide⟩ (by decide) (by decide) dX5_doorsOut_15 rfl (fun _ _ q _ => False.elim q) (fun v h1 hp l1 => ?_)
  obtain ⟨rfl, e1, ro, Dx, k1, k2, k3, k4, k5, k6⟩ := hp
  have eF : am_eq FS h h1 := am_eq_mono (fun r z => ⟨z.1, by have := z.2; omega⟩) e1
  have hci1 := CI_eq (S := FS) (fun r z => ⟨z.1, by have := z.2; omega⟩) eF l1 hci
  have hF0 := hF
  have hF := hci1.1.1
  have hrl : ∀ c, c < 25 → ro c < 25 := fun c hc => Room_lt k3 hc
  refine am_aload_n hC dX5_doorsOut_18 rfl ?_
  refine am_get (v := .ref (7)) hC (ci := 6) (N := 4) (j := 3) rfl (kC_3 hF) (by decide) tw_97 (Or.inl rfl) dX5_doorsOut_19 (am_rfe (rC_3_3 hF)) ?_
  refine am_getN (v := .ref (12)) hC (ci := 2) (N := 4) (j := 2) rfl (kC_7 hF) (by decide) tw_83 dX5_doorsOut_22 (am_rfe (rC_7_2 hF)) ?_
  refine am_aload_n hC dX5_doorsOut_25 rfl ?_
  refine am_get (v := .ref (7)) hC (ci := 6) (N := 4) (j := 3) rfl (kC_3 hF) (by decide) tw_97 (Or.inl rfl) dX5_doorsOut_26 (am_rfe (rC_3_3 hF)) ?_
  refine am_getN (v := .ref (11)) hC (ci := 2) (N := 4) (j := 1) rfl (kC_7 hF) (by decide) tw_81 dX5_doorsOut_29 (am_rfe (rC_7_1 hF)) ?_
  refine am_iload_n hC dX5_doorsOut_32 rfl ?_
  refine am_ialdE (v := nI (ro c)) hC (j := c) (N := 25) (kC_11 hF) (nC_11 hF) rfl (by omega) (by decide) dX5_doorsOut_33 (k4 c hs0) ?_
  refine am_ialdE (v := dI (Dx (ro c))) hC (j := ro c) (N := 25) (kC_12 hF) (nC_12 hF) rfl (hrl c hs0) (by decide) dX5_doorsOut_34 (k6 _ (hrl c hs0)) ?_
  refine am_iret hC hR rfl (by decide) (by decide) dX5_doorsOut_35 ?_
  refine ⟨k3_0 (IX_y (by omega) hd rfl) (IX_y (by decide) hs0 rfl) rfl, eF, ?_⟩
  rw [dn_nI (by omega), dn_nI (by omega)]
  exact ⟨_, rfl, ro, Dx, k3, k5, rfl⟩
set_option maxRecDepth 100000 in
set_option maxHeartbeats 4000000 in
theorem c_X5_doorThatHelps (G : am_G) (l : Launch) (htr : l.stackTraces = false) (h : am_H) (n np nq : Nat) (hci : CI h n np nq) (D : Int32) (C : Int32) : am_Met G l yX5_doorThatHelps (.code yX5_doorThatHelps cX5_doorThatHelps 4 (some .int)) 11 8 48 [.ref (3), .int (D), .int (C)] h (fun v h' => (k3 (IX n D) (IX 25 C) true) = 0 ∧ am_eq FS h h' ∧ ∃ x, v = some (.int x) ∧ VH (sdH h (dn D)) (exH h (dn D)) (dn C) x) (fun X h' => h' = h ∧ EX ["java/lang/IndexOutOfBoundsException", "java/lang/IllegalArgumentException", "java/lang/IllegalStateException"] (k3 (IX n D) (IX 25 C) true) X) := by
  have hF := hci.1.1
  have hD := hci.1.2.1
  have hB := hci.1.2.2
  have hn6 := hci.2.1.1
  have hn20 := hci.2.1.2.1
  have hn30 := hci.2.1.2.2
  obtain ⟨⟨c4, l4⟩, ⟨c5, l5⟩, ⟨c6, l6⟩⟩ := hci.2.2.1
  refine am_intro rfl htr rfl (Nat.le_of_ble_eq_true rfl) (fun Z hC hR hI => ?_)
  change am_W Z 0 0 0 [.ref (3), .int (D), .int (C), .null] [] h
  refine am_aload_n hC dX5_doorThatHelps_0 rfl ?_
  refine am_iload_n hC dX5_doorThatHelps_1 rfl ?_
  refine am_callV hC (ci := 6) (N := 4) [.int (D)] rfl (kC_3 hF) rfl mf_X5_drawingAt tw_276 (c_X5_drawingAt _ _ (am_tr hC) h n np nq hci D) rfl ⟨rfl, Nat.le_of_ble_eq_true rfl⟩ ⟨by decide, by decide⟩ (by decide) (by decide) dX5_doorThatHelps_2 rfl (fun X g hx hle => am_out hC hR (by decide) (by decide) (by obtain ⟨hx1, hx2, hx⟩ := hx; subst hx1; subst hx2; exact ⟨rfl, EX_1 ((IX_n (by omega) hx))⟩)) (fun v h' hp hlc => ?_)
  obtain ⟨z8, d, hd, z7, z9⟩ := hp
  have z8 := z8.symm
  subst z8
  subst z9
  subst z7
  refine am_astore_n hC dX5_doorThatHelps_5 (by decide) ?_
  change am_W _ _ _ _ [.ref (3), .int (nI d), .int (C), .ref (100 + 4 * d)] _ _
  refine am_iload_n hC dX5_doorThatHelps_6 rfl ?_
  refine am_callS hC [.int (C)] mf_X5_needCell tw_346 (c_X5_needCell _ _ (am_tr hC) h (C)) rfl ⟨rfl, Nat.le_of_ble_eq_true rfl⟩ ⟨by decide, by decide⟩ (by decide) (by decide) dX5_doorThatHelps_7 rfl (fun X g hx hle => am_out hC hR (by decide) (by decide) (by obtain ⟨hx1, hx2, hx⟩ := hx; subst hx1; subst hx2; exact ⟨rfl, EX_2 (IX_y (by omega) hd rfl) (IX_n (by decide) hx)⟩)) (fun v h' hp hlc => ?_)
  obtain ⟨rfl, z8, c, hs0, z7⟩ := hp
  have z8 := z8.symm
  subst z8
  subst z7
  refine am_aload_n hC dX5_doorThatHelps_10 rfl ?_
  refine am_get (v := .ref (7)) hC (ci := 6) (N := 4) (j := 3) rfl (kC_3 hF) (by decide) tw_97 (Or.inl rfl) dX5_doorThatHelps_11 (am_rfe (rC_3_3 hF)) ?_
  refine am_aload_n hC dX5_doorThatHelps_14 rfl ?_
  refine am_callVN hC (ci := 2) (N := 4) [.ref (100 + 4 * d)] rfl (kC_7 hF) rfl mf_X1_lookAt tw_365 (c_X1_lookAt _ _ (am_tr hC) h hF n hD hn6 hB d hd) rfl ⟨rfl, Nat.le_of_ble_eq_true rfl⟩ ⟨by decide, by decide⟩ (by decide) (by decide) dX5_doorThatHelps_15 rfl (fun _ _ q _ => False.elim q) (fun v h1 hp l1 => ?_)
  obtain ⟨rfl, e1, ro, Dx, k1, k2, k3, k4, k5, k6⟩ := hp
  have eF : am_eq FS h h1 := am_eq_mono (fun r z => ⟨z.1, by have := z.2; omega⟩) e1
  have hci1 := CI_eq (S := FS) (fun r z => ⟨z.1, by have := z.2; omega⟩) eF l1 hci
  have hF0 := hF
  have hF := hci1.1.1
  have hrl : ∀ c, c < 25 → ro c < 25 := fun c hc => Room_lt k3 hc
  refine am_aload_n hC dX5_doorThatHelps_18 rfl ?_
  refine am_get (v := .ref (7)) hC (ci := 6) (N := 4) (j := 3) rfl (kC_3 hF) (by decide) tw_97 (Or.inl rfl) dX5_doorThatHelps_19 (am_rfe (rC_3_3 hF)) ?_
  refine am_aload_n hC dX5_doorThatHelps_22 rfl ?_
  refine am_get (v := .ref (7)) hC (ci := 6) (N := 4) (j := 3) rfl (kC_3 hF) (by decide) tw_97 (Or.inl rfl) dX5_doorThatHelps_23 (am_rfe (rC_3_3 hF)) ?_
  refine am_getN (v := .ref (11)) hC (ci := 2) (N := 4) (j := 1) rfl (kC_7 hF) (by decide) tw_81 dX5_doorThatHelps_26 (am_rfe (rC_7_1 hF)) ?_
  refine am_iload_n hC dX5_doorThatHelps_29 rfl ?_
  refine am_ialdE (v := nI (ro c)) hC (j := c) (N := 25) (kC_11 hF) (nC_11 hF) rfl (by omega) (by decide) dX5_doorThatHelps_30 (k4 c hs0) ?_
  refine am_callVN hC (ci := 2) (N := 4) [.int (nI (ro c))] rfl (kC_7 hF) rfl mf_X1_wallThatHelps tw_475 (c_X1_wallThatHelps _ _ (am_tr hC) h1 hF ro (PR_cg (fun s hs => (k1 s hs).symm) k3) k4 Dx k6 (fun r hr k hk => Dist_lt k5 hr hk) (ro c) (hrl c hs0)) rfl ⟨rfl, Nat.le_of_ble_eq_true rfl⟩ ⟨by decide, by decide⟩ (by decide) (by decide) dX5_doorThatHelps_31 rfl (fun _ _ q _ => False.elim q) (fun v h2 hp hlc => ?_)
  obtain ⟨e3, R, rfl, f1, f2⟩ := hp
  have eF := am_eq_tr eF (am_eq_mono (fun r z => by rw [z]; exact ⟨by decide, by decide⟩) e3)
  refine am_iret hC hR rfl (by decide) (by decide) dX5_doorThatHelps_34 ?_
  refine ⟨k3_0 (IX_y (by omega) hd rfl) (IX_y (by decide) hs0 rfl) rfl, eF, ?_⟩
  rw [dn_nI (by omega), dn_nI (by omega)]
  refine ⟨_, rfl, ro, Dx, k3, k5, f1, fun q => ?_⟩
  obtain ⟨D2, g1, g2⟩ := f2 q
  refine ⟨D2, Dist_cg (fun _ _ => Iff.rfl) (fun a b _ _ => ⟨adjD_cg k1, adjD_cg (fun s hs => (k1 s hs).symm)⟩) g1, g2.trans (fi_cg 40 0 (fun s hs => ?_))⟩
  unfold pw
  show (decide (hi_ h1 9 s = 1) && _) = _
  rw [k1 s (by omega)]
