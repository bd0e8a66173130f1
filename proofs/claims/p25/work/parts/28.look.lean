/-! ===== the floor looks at a drawing, and is asked ===== -/
theorem Conn_cg {sd sd' : Nat → Int32} (e : ∀ s, s < 40 → sd s = sd' s) {a b : Nat} (h : Conn sd a b) : Conn sd' a b := fun P hp hc => h P hp (fun s hs ho => hc s hs (by rw [← e s hs]; exact ho))
theorem PR_cg {sd sd' : Nat → Int32} (e : ∀ s, s < 40 → sd s = sd' s) {ro : Nat → Nat} (h : RoomOK sd ro) : RoomOK sd' ro := ⟨fun s hs ho => h.1 s hs (by rw [e s hs]; exact ho), fun c hc => ⟨(h.2 c hc).1, Conn_cg e (h.2 c hc).2⟩⟩
theorem adjD_cg {sd sd' : Nat → Int32} (e : ∀ s, s < 40 → sd s = sd' s) {ro : Nat → Nat} {a b : Nat} (h : adjD sd ro a b) : adjD sd' ro a b := by
  obtain ⟨s, h1, h2, h3⟩ := h
  exact ⟨s, h1, by rw [← e s h1]; exact h2, h3⟩
theorem Dist_cg {N : Nat} {src src' : Nat → Prop} {adj adj' : Nat → Nat → Prop} {D : Nat → Option Nat} (hs : ∀ r, r < N → (src r ↔ src' r)) (ha : ∀ a b, a < N → b < N → (adj a b ↔ adj' a b)) (h : DistOK N src adj D) : DistOK N src' adj' D :=
  ⟨fun r hr z => h.1 r hr ((hs r hr).mpr z), fun r hr k hk => (h.2.1 r hr k hk).elim (fun z => Or.inl ⟨z.1, (hs r hr).mp z.2⟩) (fun ⟨r', k', a, b, c⟩ => Or.inr ⟨r', k', a, (ha r' r a hr).mp b, c⟩), fun r r' hr hr' z => h.2.2 r r' hr hr' ((ha r r' hr hr').mpr z)⟩
/-- a room with an exit -/
def exR (ex : Nat → Bool) (ro : Nat → Nat) (r : Nat) : Prop := ∃ c, c < 25 ∧ ro c = r ∧ ex c = true
/-- the floor holds: sides, exits, rooms, doors out -/
def LK (h : am_H) (sd : Nat → Int32) (ex : Nat → Bool) (ro : Nat → Nat) (D : Nat → Option Nat) : Prop :=
  (∀ s, s < 40 → hi_ h 9 s = sd s) ∧ (∀ c, c < 25 → hi_ h 10 c = b2i (ex c)) ∧ RoomOK sd ro ∧ (∀ c, c < 25 → hi_ h 11 c = nI (ro c)) ∧ DistOK 25 (exR ex ro) (adjD sd ro) D ∧ ∀ r, r < 25 → hi_ h 12 r = dI (D r)
theorem ST_floor {h : am_H} (hF : FC h) : ST h 8 9 10 := ⟨⟨kC_8 hF, rC_8_0 hF, rC_8_1 hF, kC_9 hF, nC_9 hF, kC_10 hF, nC_10 hF⟩, by decide, by decide, by decide, Or.inl (by decide), Or.inl (by decide)⟩
def sdH (h : am_H) (d s : Nat) : Int32 := sdF (tC h) (rC h) 6 d s
def exH (h : am_H) (d c : Nat) : Bool := exF (xC h) (rC h) 6 d c
set_option maxRecDepth 100000 in
set_option maxHeartbeats 4000000 in
theorem c_X1_findWaysOut (G : am_G) (l : Launch) (htr : l.stackTraces = false) (h : am_H) (hF : FC h) (ro : Nat → Nat) (hro : RoomOK (fun s => hi_ h 9 s) ro) (hr11 : ∀ c, c < 25 → hi_ h 11 c = nI (ro c)) (ex : Nat → Bool) (hex : ∀ c, c < 25 → hi_ h 10 c = b2i (ex c)) : am_Met G l yX1_findWaysOut (.code yX1_findWaysOut cX1_findWaysOut 2 none) 5 0 0 [.ref (7)] h (fun v h' => v = none ∧ am_eq (fun r => r = 12) h h' ∧ ∃ D, DistOK 25 (exR ex ro) (adjD (fun s => hi_ h 9 s) ro) D ∧ ∀ r, r < 25 → hi_ h' 12 r = dI (D r)) (am_no) := by
  refine am_intro rfl htr rfl (Nat.le_of_ble_eq_true rfl) (fun Z hC hR hI => ?_)
  change am_W Z 0 0 0 [.ref (7), .null] [] h
  have hS : ∀ r, r = 12 → r ≤ 2 ∨ 9 ≤ r := fun r q => by omega
  have loop : ∀ (m i : Nat) (g : am_H), i + m = 25 → am_eq (fun r => r = 12) h g → am_le h g → (∀ r, r < 25 → ((∃ c, c < i ∧ ro c = r ∧ ex c = true) → hi_ g 12 r = 0) ∧ (¬ (∃ c, c < i ∧ ro c = r ∧ ex c = true) → hi_ g 12 r = -1)) → am_W Z (0 + 0) (0 + 0) 10 [.ref (7), .int (nI i)] [] g := by
    intro m
    induction m with
    | zero =>
      intro i g him e hle hs
      obtain rfl : i = 25 := by omega
      have hF := FC_eq hS e hle hF
      have hro' : RoomOK (fun s => hi_ g 9 s) ro := PR_cg (fun s _ => ((e 9 (by decide)).2.2.1 s).symm) hro
      have hr11' : ∀ c, c < 25 → hi_ g 11 c = nI (ro c) := fun c hc => ((e 11 (by decide)).2.2.1 c).trans (hr11 c hc)
      refine am_iload_n hC dX1_findWaysOut_10 rfl ?_
      refine am_bipush (v := nI 25) hC dX1_findWaysOut_11 (by decide) ?_
      refine am_icmp_ge (tgt := 46) hC dX1_findWaysOut_13 (by decide) (fun c_13 => ?_) (fun c_13 => absurd (nI_le (by omega) (by omega)) c_13)
      refine am_aload_n hC dX1_findWaysOut_46 rfl ?_
      refine am_aload_n hC dX1_findWaysOut_47 rfl ?_
      refine am_get (v := .ref (12)) hC (ci := 2) (N := 4) (j := 2) rfl (kC_7 hF) (by decide) tw_82 (Or.inl rfl) dX1_findWaysOut_48 (am_rfe (rC_7_2 hF)) ?_
      refine am_callV hC (ci := 2) (N := 4) [.ref (12)] rfl (kC_7 hF) rfl mf_X1_goThroughDoors tw_403 (c_X1_goThroughDoors _ _ (am_tr hC) g hF ro hro' hr11' 12 (Or.inl rfl) (exR ex ro) hs) rfl ⟨rfl, Nat.le_of_ble_eq_true rfl⟩ ⟨by decide, by decide⟩ (by decide) (by decide) dX1_findWaysOut_51 rfl (fun _ _ q _ => False.elim q) (fun v h' hp hlc => ?_)
      obtain ⟨rfl, e2, D, hd, hv⟩ := hp
      refine am_vret hC hR (by decide) (by decide) dX1_findWaysOut_54 ?_
      exact ⟨rfl, am_eq_tr e e2, D, Dist_cg (fun _ _ => Iff.rfl) (fun a b _ _ => ⟨fun z => adjD_cg (fun s _ => (e 9 (by decide)).2.2.1 s) z, fun z => adjD_cg (fun s _ => ((e 9 (by decide)).2.2.1 s).symm) z⟩) hd, hv⟩
    | succ m ih =>
      intro i g him e hle hs
      have hF := FC_eq hS e hle hF
      have hx : hi_ g 10 i = b2i (ex i) := ((e 10 (by decide)).2.2.1 i).trans (hex i (by omega))
      have hr : hi_ g 11 i = nI (ro i) := ((e 11 (by decide)).2.2.1 i).trans (hr11 i (by omega))
      have hrl := Room_lt hro (by omega : i < 25)
      refine am_iload_n hC dX1_findWaysOut_10 rfl ?_
      refine am_bipush (v := nI 25) hC dX1_findWaysOut_11 (by decide) ?_
      refine am_icmp_ge (tgt := 46) hC dX1_findWaysOut_13 (by decide) (fun c_13 => absurd c_13 (nI_ge (by omega) (by omega))) (fun c_13 => ?_)
      refine am_aload_n hC dX1_findWaysOut_16 rfl ?_
      refine am_get (v := .ref (8)) hC (ci := 2) (N := 4) (j := 0) rfl (kC_7 hF) (by decide) tw_79 (Or.inl rfl) dX1_findWaysOut_17 (am_rfe (rC_7_0 hF)) ?_
      refine am_getN (v := .ref (10)) hC (ci := 5) (N := 2) (j := 1) rfl (kC_8 hF) (by decide) tw_71 dX1_findWaysOut_20 (am_rfe (rC_8_1 hF)) ?_
      refine am_iload_n hC dX1_findWaysOut_23 rfl ?_
      refine am_zaldE (v := b2i (ex i)) hC (j := i) (N := 25) (kC_10 hF) (nC_10 hF) rfl (by omega) (by decide) dX1_findWaysOut_24 hx ?_
      refine am_if_eq (tgt := 40) hC dX1_findWaysOut_25 (by decide) (fun c_25 => ?_) (fun c_25 => ?_)
      · refine am_iinc (v := nI (i + 1)) hC dX1_findWaysOut_40 rfl (nI_1 (i)) (by decide) ?_
        change am_W _ _ _ _ [.ref (7), .int (nI (i + 1))] _ _
        refine am_goto (tgt := 10) hC dX1_findWaysOut_43 (by decide) ?_
        refine ih (i + 1) _ (by omega) e hle (fun r hr9 => ⟨fun ⟨c, h1, h2, h3⟩ => ?_, fun z => (hs r hr9).2 (fun ⟨c, h1, h2, h3⟩ => z ⟨c, by omega, h2, h3⟩)⟩)
        have hci : c < i := by rcases Nat.lt_or_ge c i with q | q; exact q; (rw [show c = i by omega, b2i_0.mp c_25] at h3; cases h3)
        exact (hs r hr9).1 ⟨c, hci, h2, h3⟩
      · refine am_aload_n hC dX1_findWaysOut_28 rfl ?_
        refine am_get (v := .ref (12)) hC (ci := 2) (N := 4) (j := 2) rfl (kC_7 hF) (by decide) tw_82 (Or.inl rfl) dX1_findWaysOut_29 (am_rfe (rC_7_2 hF)) ?_
        refine am_aload_n hC dX1_findWaysOut_32 rfl ?_
        refine am_get (v := .ref (11)) hC (ci := 2) (N := 4) (j := 1) rfl (kC_7 hF) (by decide) tw_80 (Or.inl rfl) dX1_findWaysOut_33 (am_rfe (rC_7_1 hF)) ?_
        refine am_iload_n hC dX1_findWaysOut_36 rfl ?_
        refine am_ialdE (v := nI (ro i)) hC (j := i) (N := 25) (kC_11 hF) (nC_11 hF) rfl (by omega) (by decide) dX1_findWaysOut_37 hr ?_
        refine am_iconst (v := nI 0) hC dX1_findWaysOut_38 (by decide) ?_
        refine am_iast hC (j := ro i) (N := 25) (kC_12 hF) (nC_12 hF) rfl (by omega) (by decide) dX1_findWaysOut_39 ?_
        refine am_iinc (v := nI (i + 1)) hC dX1_findWaysOut_40 rfl (nI_1 (i)) (by decide) ?_
        change am_W _ _ _ _ [.ref (7), .int (nI (i + 1))] _ _
        refine am_goto (tgt := 10) hC dX1_findWaysOut_43 (by decide) ?_
        refine ih (i + 1) _ (by omega) (am_eq_tr e (am_eq_sI rfl)) (am_le_tr hle (am_le_sI _ _ _ _)) (fun r hr9 => ⟨fun z => ?_, fun z => ?_⟩)
        · rw [hi_sI]
          by_cases q : r = ro i
          · rw [if_pos ⟨rfl, q⟩]; rfl
          · rw [if_neg (fun z => q z.2)]
            obtain ⟨c, h1, h2, h3⟩ := z
            exact (hs r hr9).1 ⟨c, by rcases Nat.lt_or_ge c i with q2 | q2; exact q2; exact absurd (h2.symm.trans (by rw [show c = i by omega])) q, h2, h3⟩
        · rw [hi_sI]
          by_cases q : r = ro i
          · exact absurd ⟨i, by omega, q.symm, Bool.not_eq_false _ ▸ (fun z => c_25 (b2i_0.mpr z))⟩ z
          · rw [if_neg (fun z => q z.2)]; exact (hs r hr9).2 (fun ⟨c, h1, h2, h3⟩ => z ⟨c, by omega, h2, h3⟩)
  refine am_aload_n hC dX1_findWaysOut_0 rfl ?_
  refine am_get (v := .ref (12)) hC (ci := 2) (N := 4) (j := 2) rfl (kC_7 hF) (by decide) tw_82 (Or.inl rfl) dX1_findWaysOut_1 (am_rfe (rC_7_2 hF)) ?_
  refine am_iconst (v := -1) hC dX1_findWaysOut_4 (by decide) ?_
  refine am_callS hC [.ref (12), .int (-1)] mf_J7_fill_53178 tw_402 (c_fill _ _ (am_tr hC) h 12 25 (-1) (kC_12 hF) (nC_12 hF) (by decide)) rfl ⟨rfl, Nat.le_of_ble_eq_true rfl⟩ ⟨by decide, by decide⟩ (by decide) (by decide) dX1_findWaysOut_5 rfl (fun _ _ q _ => False.elim q) (fun v h1 hp hlc => ?_)
  obtain ⟨rfl, e1, s1⟩ := hp
  refine am_iconst (v := nI 0) hC dX1_findWaysOut_8 (by decide) ?_
  refine am_istore_n hC dX1_findWaysOut_9 (by decide) ?_
  change am_W _ _ _ _ [.ref (7), .int (nI 0)] _ _
  exact loop 25 0 h1 rfl e1 hlc (fun r hr => ⟨fun ⟨c, hc, _⟩ => absurd hc (Nat.not_lt_zero c), fun _ => s1 r hr⟩)
set_option maxRecDepth 100000 in
set_option maxHeartbeats 4000000 in
theorem c_X1_lookAt (G : am_G) (l : Launch) (htr : l.stackTraces = false) (h : am_H) (hF : FC h) (n : Nat) (hD : DL h n) (hn6 : n ≤ 6) (hB : XB h n) (d : Nat) (hd : d < n) : am_Met G l yX1_lookAt (.code yX1_lookAt cX1_lookAt 2 none) 10 0 0 [.ref (7), .ref (100 + 4 * d)] h (fun v h' => v = none ∧ am_eq (fun r => 9 ≤ r ∧ r ≤ 12) h h' ∧ ∃ ro D, LK h' (sdH h d) (exH h d) ro D) (am_no) := by
  refine am_intro rfl htr rfl (Nat.le_of_ble_eq_true rfl) (fun Z hC hR hI => ?_)
  change am_W Z 0 0 0 [.ref (7), .ref (100 + 4 * d)] [] h
  refine am_aload_n hC dX1_lookAt_0 rfl ?_
  refine am_get (v := .ref (8)) hC (ci := 2) (N := 4) (j := 0) rfl (kC_7 hF) (by decide) tw_79 (Or.inl rfl) dX1_lookAt_1 (am_rfe (rC_7_0 hF)) ?_
  refine am_aload_n hC dX1_lookAt_4 rfl ?_
  refine am_callVN hC (ci := 5) (N := 2) [.ref (100 + 4 * d)] rfl (kC_8 hF) rfl mf_X4_takeFrom tw_369 (c_X4_takeFrom _ _ (am_tr hC) h n hD hn6 hB 8 9 10 (ST_floor hF) d hd) rfl ⟨rfl, Nat.le_of_ble_eq_true rfl⟩ ⟨by decide, by decide⟩ (by decide) (by decide) dX1_lookAt_5 rfl (fun _ _ q _ => False.elim q) (fun v h1 hp l1 => ?_)
  obtain ⟨rfl, e1, s1, x1⟩ := hp
  have hF := FC_eq (fun r q => by omega) e1 l1 hF
  refine am_aload_n hC dX1_lookAt_8 rfl ?_
  refine am_callV hC (ci := 2) (N := 4) [] rfl (kC_7 hF) rfl mf_X1_findRooms tw_381 (c_X1_findRooms _ _ (am_tr hC) h1 hF) rfl ⟨rfl, Nat.le_of_ble_eq_true rfl⟩ ⟨by decide, by decide⟩ (by decide) (by decide) dX1_lookAt_9 rfl (fun _ _ q _ => False.elim q) (fun v h2 hp l2 => ?_)
  obtain ⟨rfl, e2, ro, hro, r2⟩ := hp
  have hF := FC_eq (fun r q => by omega) e2 l2 hF
  have hro' : RoomOK (fun s => hi_ h2 9 s) ro := PR_cg (fun s _ => ((e2 9 (by decide)).2.2.1 s).symm) hro
  have hx2 : ∀ c, c < 25 → hi_ h2 10 c = b2i (exH h d c) := fun c hc => ((e2 10 (by decide)).2.2.1 c).trans (x1 c hc)
  refine am_aload_n hC dX1_lookAt_12 rfl ?_
  refine am_callV hC (ci := 2) (N := 4) [] rfl (kC_7 hF) rfl mf_X1_findWaysOut tw_398 (c_X1_findWaysOut _ _ (am_tr hC) h2 hF ro hro' r2 (exH h d) hx2) rfl ⟨rfl, Nat.le_of_ble_eq_true rfl⟩ ⟨by decide, by decide⟩ (by decide) (by decide) dX1_lookAt_13 rfl (fun _ _ q _ => False.elim q) (fun v h3 hp l3 => ?_)
  obtain ⟨rfl, e3, D, hd3, hv3⟩ := hp
  refine am_vret hC hR (by decide) (by decide) dX1_lookAt_16 ?_
  have es : ∀ s, s < 40 → hi_ h2 9 s = sdH h d s := fun s hs => ((e2 9 (by decide)).2.2.1 s).trans (s1 s hs)
  refine ⟨rfl, am_eq_tr (am_eq_mono (fun r q => by omega) e1) (am_eq_tr (am_eq_mono (fun r q => by omega) e2) (am_eq_mono (fun r q => by omega) e3)), ro, D, fun s hs => ((e3 9 (by decide)).2.2.1 s).trans (es s hs), fun c hc => ((e3 10 (by decide)).2.2.1 c).trans (hx2 c hc), PR_cg es hro', fun c hc => ((e3 11 (by decide)).2.2.1 c).trans (r2 c hc), ?_, hv3⟩
  exact Dist_cg (fun _ _ => Iff.rfl) (fun a b _ _ => ⟨fun z => adjD_cg es z, fun z => adjD_cg (fun s hs => (es s hs).symm) z⟩) hd3
/-- how many of the first i cells have p -/
def cnt (p : Nat → Bool) : Nat → Nat
  | 0 => 0
  | i + 1 => cnt p i + if p i = true then 1 else 0
theorem cnt_le (p : Nat → Bool) : ∀ i, cnt p i ≤ i
  | 0 => Nat.le_refl 0
  | i + 1 => by
    have := cnt_le p i
    show cnt p i + (if p i = true then 1 else 0) ≤ i + 1
    split <;> omega
theorem cnt_y {p : Nat → Bool} {i : Nat} (h : p i = true) : cnt p (i + 1) = cnt p i + 1 := by
  show cnt p i + (if p i = true then 1 else 0) = _
  rw [if_pos h]
theorem cnt_n {p : Nat → Bool} {i : Nat} (h : p i = false) : cnt p (i + 1) = cnt p i := by
  show cnt p i + (if p i = true then 1 else 0) = _
  rw [if_neg (by rw [h]; decide)]
  rfl
set_option maxRecDepth 100000 in
set_option maxHeartbeats 4000000 in
theorem c_X1_countRooms (G : am_G) (l : Launch) (htr : l.stackTraces = false) (h : am_H) (hF : FC h) (ro : Nat → Nat) (hr11 : ∀ c, c < 25 → hi_ h 11 c = nI (ro c)) (hrl : ∀ c, c < 25 → ro c < 25)  : am_Met G l yX1_countRooms (.code yX1_countRooms cX1_countRooms 3 (some .int)) 1 0 0 [.ref (7)] h (fun v h' => v = some (.int (nI (cnt (fun c => decide (ro c = c)) 25))) ∧ h' = h) (am_no) := by
  refine am_intro rfl htr rfl (Nat.le_of_ble_eq_true rfl) (fun Z hC hR hI => ?_)
  change am_W Z 0 0 0 [.ref (7), .null, .null] [] h
  have loop : ∀ (m i : Nat), i + m = 25 → am_W Z 0 0 4 [.ref (7), .int (nI (cnt (fun c => decide (ro c = c)) i)), .int (nI i)] [] h := by
    intro m
    induction m with
    | zero =>
      intro i him
      obtain rfl : i = 25 := by omega
      refine am_iload_n hC dX1_countRooms_4 rfl ?_
      refine am_bipush (v := nI 25) hC dX1_countRooms_5 (by decide) ?_
      refine am_icmp_ge (tgt := 29) hC dX1_countRooms_7 (by decide) (fun c_7 => ?_) (fun c_7 => absurd (nI_le (by omega) (by omega)) c_7)
      refine am_iload_n hC dX1_countRooms_29 rfl ?_
      refine am_iret hC hR rfl (by decide) (by decide) dX1_countRooms_30 ?_
      exact ⟨rfl, rfl⟩
    | succ m ih =>
      intro i him
      have hr := hr11 i (by omega)
      have hrl1 := hrl i (by omega)
      have hcl := cnt_le (fun c => decide (ro c = c)) i
      refine am_iload_n hC dX1_countRooms_4 rfl ?_
      refine am_bipush (v := nI 25) hC dX1_countRooms_5 (by decide) ?_
      refine am_icmp_ge (tgt := 29) hC dX1_countRooms_7 (by decide) (fun c_7 => absurd c_7 (nI_ge (by omega) (by omega))) (fun c_7 => ?_)
      refine am_aload_n hC dX1_countRooms_10 rfl ?_
      refine am_get (v := .ref (11)) hC (ci := 2) (N := 4) (j := 1) rfl (kC_7 hF) (by decide) tw_80 (Or.inl rfl) dX1_countRooms_11 (am_rfe (rC_7_1 hF)) ?_
      refine am_iload_n hC dX1_countRooms_14 rfl ?_
      refine am_ialdE (v := nI (ro i)) hC (j := i) (N := 25) (kC_11 hF) (nC_11 hF) rfl (by omega) (by decide) dX1_countRooms_15 hr ?_
      refine am_iload_n hC dX1_countRooms_16 rfl ?_
      refine am_icmp_ne (tgt := 23) hC dX1_countRooms_17 (by decide) (fun c_17 => ?_) (fun c_17 => ?_)
      · replace c_17 : ¬ (ro i) = i := fun q9 => c_17 ((nI_eq (a := (ro i)) (b := i) (by omega) (by omega)).mpr q9)
        refine am_iinc (v := nI (i + 1)) hC dX1_countRooms_23 rfl (nI_1 (i)) (by decide) ?_
        change am_W _ _ _ _ [.ref (7), .int (nI (cnt (fun c => decide (ro c = c)) i)), .int (nI (i + 1))] _ _
        refine am_goto (tgt := 4) hC dX1_countRooms_26 (by decide) ?_
        have en := cnt_n (p := (fun c => decide (ro c = c))) (i := i) (decide_eq_false c_17)
        have := ih (i + 1) (by omega)
        rw [en] at this
        exact this
      · replace c_17 : (ro i) = i := (nI_eq (a := (ro i)) (b := i) (by omega) (by omega)).mp c_17
        refine am_iinc (v := nI (cnt (fun c => decide (ro c = c)) i + 1)) hC dX1_countRooms_20 rfl (nI_1 (cnt (fun c => decide (ro c = c)) i)) (by decide) ?_
        change am_W _ _ _ _ [.ref (7), .int (nI (cnt (fun c => decide (ro c = c)) i + 1)), .int (nI i)] _ _
        refine am_iinc (v := nI (i + 1)) hC dX1_countRooms_23 rfl (nI_1 (i)) (by decide) ?_
        change am_W _ _ _ _ [.ref (7), .int (nI (cnt (fun c => decide (ro c = c)) i + 1)), .int (nI (i + 1))] _ _
        refine am_goto (tgt := 4) hC dX1_countRooms_26 (by decide) ?_
        have ey := cnt_y (p := (fun c => decide (ro c = c))) (i := i) (decide_eq_true c_17)
        have := ih (i + 1) (by omega)
        rw [ey] at this
        exact this
  refine am_iconst (v := nI 0) hC dX1_countRooms_0 (by decide) ?_
  refine am_istore_n hC dX1_countRooms_1 (by decide) ?_
  change am_W _ _ _ _ [.ref (7), .int (nI 0), .null] _ _
  refine am_iconst (v := nI 0) hC dX1_countRooms_2 (by decide) ?_
  refine am_istore_n hC dX1_countRooms_3 (by decide) ?_
  change am_W _ _ _ _ [.ref (7), .int (nI 0), .int (nI 0)] _ _
  exact loop 25 0 rfl
set_option maxRecDepth 100000 in
set_option maxHeartbeats 4000000 in
theorem c_X1_countCells (G : am_G) (l : Launch) (htr : l.stackTraces = false) (h : am_H) (hF : FC h) (ro : Nat → Nat) (hr11 : ∀ c, c < 25 → hi_ h 11 c = nI (ro c)) (hrl : ∀ c, c < 25 → ro c < 25) (q : Nat) (hq : q < 25) : am_Met G l yX1_countCells (.code yX1_countCells cX1_countCells 4 (some .int)) 1 0 0 [.ref (7), .int (nI q)] h (fun v h' => v = some (.int (nI (cnt (fun c => decide (ro c = q)) 25))) ∧ h' = h) (am_no) := by
  refine am_intro rfl htr rfl (Nat.le_of_ble_eq_true rfl) (fun Z hC hR hI => ?_)
  change am_W Z 0 0 0 [.ref (7), .int (nI q), .null, .null] [] h
  have loop : ∀ (m i : Nat), i + m = 25 → am_W Z 0 0 4 [.ref (7), .int (nI q), .int (nI (cnt (fun c => decide (ro c = q)) i)), .int (nI i)] [] h := by
    intro m
    induction m with
    | zero =>
      intro i him
      obtain rfl : i = 25 := by omega
      refine am_iload_n hC dX1_countCells_4 rfl ?_
      refine am_bipush (v := nI 25) hC dX1_countCells_5 (by decide) ?_
      refine am_icmp_ge (tgt := 29) hC dX1_countCells_7 (by decide) (fun c_7 => ?_) (fun c_7 => absurd (nI_le (by omega) (by omega)) c_7)
      refine am_iload_n hC dX1_countCells_29 rfl ?_
      refine am_iret hC hR rfl (by decide) (by decide) dX1_countCells_30 ?_
      exact ⟨rfl, rfl⟩
    | succ m ih =>
      intro i him
      have hr := hr11 i (by omega)
      have hrl1 := hrl i (by omega)
      have hcl := cnt_le (fun c => decide (ro c = q)) i
      refine am_iload_n hC dX1_countCells_4 rfl ?_
      refine am_bipush (v := nI 25) hC dX1_countCells_5 (by decide) ?_
      refine am_icmp_ge (tgt := 29) hC dX1_countCells_7 (by decide) (fun c_7 => absurd c_7 (nI_ge (by omega) (by omega))) (fun c_7 => ?_)
      refine am_aload_n hC dX1_countCells_10 rfl ?_
      refine am_get (v := .ref (11)) hC (ci := 2) (N := 4) (j := 1) rfl (kC_7 hF) (by decide) tw_80 (Or.inl rfl) dX1_countCells_11 (am_rfe (rC_7_1 hF)) ?_
      refine am_iload_n hC dX1_countCells_14 rfl ?_
      refine am_ialdE (v := nI (ro i)) hC (j := i) (N := 25) (kC_11 hF) (nC_11 hF) rfl (by omega) (by decide) dX1_countCells_15 hr ?_
      refine am_iload_n hC dX1_countCells_16 rfl ?_
      refine am_icmp_ne (tgt := 23) hC dX1_countCells_17 (by decide) (fun c_17 => ?_) (fun c_17 => ?_)
      · replace c_17 : ¬ (ro i) = q := fun q9 => c_17 ((nI_eq (a := (ro i)) (b := q) (by omega) (by omega)).mpr q9)
        refine am_iinc (v := nI (i + 1)) hC dX1_countCells_23 rfl (nI_1 (i)) (by decide) ?_
        change am_W _ _ _ _ [.ref (7), .int (nI q), .int (nI (cnt (fun c => decide (ro c = q)) i)), .int (nI (i + 1))] _ _
        refine am_goto (tgt := 4) hC dX1_countCells_26 (by decide) ?_
        have en := cnt_n (p := (fun c => decide (ro c = q))) (i := i) (decide_eq_false c_17)
        have := ih (i + 1) (by omega)
        rw [en] at this
        exact this
      · replace c_17 : (ro i) = q := (nI_eq (a := (ro i)) (b := q) (by omega) (by omega)).mp c_17
        refine am_iinc (v := nI (cnt (fun c => decide (ro c = q)) i + 1)) hC dX1_countCells_20 rfl (nI_1 (cnt (fun c => decide (ro c = q)) i)) (by decide) ?_
        change am_W _ _ _ _ [.ref (7), .int (nI q), .int (nI (cnt (fun c => decide (ro c = q)) i + 1)), .int (nI i)] _ _
        refine am_iinc (v := nI (i + 1)) hC dX1_countCells_23 rfl (nI_1 (i)) (by decide) ?_
        change am_W _ _ _ _ [.ref (7), .int (nI q), .int (nI (cnt (fun c => decide (ro c = q)) i + 1)), .int (nI (i + 1))] _ _
        refine am_goto (tgt := 4) hC dX1_countCells_26 (by decide) ?_
        have ey := cnt_y (p := (fun c => decide (ro c = q))) (i := i) (decide_eq_true c_17)
        have := ih (i + 1) (by omega)
        rw [ey] at this
        exact this
  refine am_iconst (v := nI 0) hC dX1_countCells_0 (by decide) ?_
  refine am_istore_n hC dX1_countCells_1 (by decide) ?_
  change am_W _ _ _ _ [.ref (7), .int (nI q), .int (nI 0), .null] _ _
  refine am_iconst (v := nI 0) hC dX1_countCells_2 (by decide) ?_
  refine am_istore_n hC dX1_countCells_3 (by decide) ?_
  change am_W _ _ _ _ [.ref (7), .int (nI q), .int (nI 0), .int (nI 0)] _ _
  exact loop 25 0 rfl
set_option maxRecDepth 100000 in
set_option maxHeartbeats 4000000 in
theorem c_X1_everyRoom (G : am_G) (l : Launch) (htr : l.stackTraces = false) (h : am_H) (hF : FC h) (ro : Nat → Nat) (hr11 : ∀ c, c < 25 → hi_ h 11 c = nI (ro c)) (hrl : ∀ c, c < 25 → ro c < 25) (D : Nat → Option Nat) (hv : ∀ r, r < 25 → hi_ h 12 r = dI (D r)) (hdl : ∀ r, r < 25 → ∀ k, D r = some k → k < 25) : am_Met G l yX1_everyRoomHasWayOut (.code yX1_everyRoomHasWayOut cX1_everyRoomHasWayOut 2 (some .boolean)) 1 0 0 [.ref (7)] h (fun v h' => h' = h ∧ ∃ R : Bool, v = some (.int (b2i R)) ∧ (R = true ↔ ∀ c, c < 25 → D (ro c) ≠ none)) (am_no) := by
  refine am_intro rfl htr rfl (Nat.le_of_ble_eq_true rfl) (fun Z hC hR hI => ?_)
  change am_W Z 0 0 0 [.ref (7), .null] [] h
  have loop : ∀ (m i : Nat), i + m = 25 → (∀ c, c < i → D (ro c) ≠ none) → am_W Z 0 0 2 [.ref (7), .int (nI i)] [] h := by
    intro m
    induction m with
    | zero =>
      intro i him hs
      obtain rfl : i = 25 := by omega
      refine am_iload_n hC dX1_everyRoomHasWayOut_2 rfl ?_
      refine am_bipush (v := nI 25) hC dX1_everyRoomHasWayOut_3 (by decide) ?_
      refine am_icmp_ge (tgt := 31) hC dX1_everyRoomHasWayOut_5 (by decide) (fun c_5 => ?_) (fun c_5 => absurd (nI_le (by omega) (by omega)) c_5)
      refine am_iconst (v := nI 1) hC dX1_everyRoomHasWayOut_31 (by decide) ?_
      refine am_iret hC hR rfl (by decide) (by decide) dX1_everyRoomHasWayOut_32 ?_
      exact ⟨rfl, true, rfl, fun _ => hs, fun _ => rfl⟩
    | succ m ih =>
      intro i him hs
      have hr := hr11 i (by omega)
      have hrl1 := hrl i (by omega)
      have hvi := hv _ hrl1
      have hdn := dI_none (o := D (ro i)) (fun j hj => by have := hdl _ hrl1 j hj; omega)
      refine am_iload_n hC dX1_everyRoomHasWayOut_2 rfl ?_
      refine am_bipush (v := nI 25) hC dX1_everyRoomHasWayOut_3 (by decide) ?_
      refine am_icmp_ge (tgt := 31) hC dX1_everyRoomHasWayOut_5 (by decide) (fun c_5 => absurd c_5 (nI_ge (by omega) (by omega))) (fun c_5 => ?_)
      refine am_aload_n hC dX1_everyRoomHasWayOut_8 rfl ?_
      refine am_get (v := .ref (12)) hC (ci := 2) (N := 4) (j := 2) rfl (kC_7 hF) (by decide) tw_82 (Or.inl rfl) dX1_everyRoomHasWayOut_9 (am_rfe (rC_7_2 hF)) ?_
      refine am_aload_n hC dX1_everyRoomHasWayOut_12 rfl ?_
      refine am_get (v := .ref (11)) hC (ci := 2) (N := 4) (j := 1) rfl (kC_7 hF) (by decide) tw_80 (Or.inl rfl) dX1_everyRoomHasWayOut_13 (am_rfe (rC_7_1 hF)) ?_
      refine am_iload_n hC dX1_everyRoomHasWayOut_16 rfl ?_
      refine am_ialdE (v := nI (ro i)) hC (j := i) (N := 25) (kC_11 hF) (nC_11 hF) rfl (by omega) (by decide) dX1_everyRoomHasWayOut_17 hr ?_
      refine am_ialdE (v := dI (D (ro i))) hC (j := ro i) (N := 25) (kC_12 hF) (nC_12 hF) rfl (by omega) (by decide) dX1_everyRoomHasWayOut_18 hvi ?_
      refine am_iconst (v := -1) hC dX1_everyRoomHasWayOut_19 (by decide) ?_
      refine am_icmp_ne (tgt := 25) hC dX1_everyRoomHasWayOut_20 (by decide) (fun c_20 => ?_) (fun c_20 => ?_)
      · refine am_iinc (v := nI (i + 1)) hC dX1_everyRoomHasWayOut_25 rfl (nI_1 (i)) (by decide) ?_
        change am_W _ _ _ _ [.ref (7), .int (nI (i + 1))] _ _
        refine am_goto (tgt := 2) hC dX1_everyRoomHasWayOut_28 (by decide) ?_
        exact ih (i + 1) (by omega) (fun c hc => by
          by_cases q : c = i
          · rw [q]; exact fun z => c_20 (hdn.mpr z)
          · exact hs c (by omega))
      · refine am_iconst (v := nI 0) hC dX1_everyRoomHasWayOut_23 (by decide) ?_
        refine am_iret hC hR rfl (by decide) (by decide) dX1_everyRoomHasWayOut_24 ?_
        exact ⟨rfl, false, rfl, fun q => Bool.noConfusion q, fun q => absurd (hdn.mp c_20) (q i (by omega))⟩
  refine am_iconst (v := nI 0) hC dX1_everyRoomHasWayOut_0 (by decide) ?_
  refine am_istore_n hC dX1_everyRoomHasWayOut_1 (by decide) ?_
  change am_W _ _ _ _ [.ref (7), .int (nI 0)] _ _
  exact loop 25 0 rfl (fun c hc => absurd hc (Nat.not_lt_zero c))
set_option maxRecDepth 100000 in
set_option maxHeartbeats 4000000 in
theorem c_X1_leadsOut (G : am_G) (l : Launch) (htr : l.stackTraces = false) (h : am_H) (hF : FC h) (D D2 : Nat → Option Nat) (hv : ∀ r, r < 25 → hi_ h 12 r = dI (D r)) (hdl : ∀ r, r < 25 → ∀ k, D r = some k → k < 25) (hv2 : ∀ r, r < 25 → hi_ h 13 r = dI (D2 r)) (hdl2 : ∀ r, r < 25 → ∀ k, D2 r = some k → k < 25) (a b : Nat) (ha : a < 25) (hb : b < 25) : am_Met G l yX1_leadsOut (.code yX1_leadsOut cX1_leadsOut 3 (some .boolean)) 1 0 0 [.ref (7), .int (nI a), .int (nI b)] h (fun v h' => v = some (.int (b2i ((D2 a).isSome && (D b).isSome))) ∧ h' = h) (am_no) := by
  refine am_intro rfl htr rfl (Nat.le_of_ble_eq_true rfl) (fun Z hC hR hI => ?_)
  change am_W Z 0 0 0 [.ref (7), .int (nI a), .int (nI b)] [] h
  refine am_aload_n hC dX1_leadsOut_0 rfl ?_
  refine am_get (v := .ref (13)) hC (ci := 2) (N := 4) (j := 3) rfl (kC_7 hF) (by decide) tw_84 (Or.inl rfl) dX1_leadsOut_1 (am_rfe (rC_7_3 hF)) ?_
  refine am_iload_n hC dX1_leadsOut_4 rfl ?_
  refine am_ialdE (v := dI (D2 a)) hC (j := a) (N := 25) (kC_13 hF) (nC_13 hF) rfl (by omega) (by decide) dX1_leadsOut_5 (hv2 a ha) ?_
  refine am_iconst (v := -1) hC dX1_leadsOut_6 (by decide) ?_
  refine am_icmp_eq (tgt := 24) hC dX1_leadsOut_7 (by decide) (fun c_7 => ?_) (fun c_7 => ?_)
  · refine am_iconst (v := nI 0) hC dX1_leadsOut_24 (by decide) ?_
    refine am_iret hC hR rfl (by decide) (by decide) dX1_leadsOut_25 ?_
    have n2 := dI_none (o := D2 a) (fun j hj => by have := hdl2 _ ha j hj; omega)
    have n1 := dI_none (o := D b) (fun j hj => by have := hdl _ hb j hj; omega)
    refine ⟨?_, rfl⟩
    cases e2 : D2 a with
    | none => first | exact absurd (n2.mpr e2) c_7 | rfl
    | some k2 =>
      cases e1 : D b with
      | none => first | exact absurd (n1.mpr e1) c_17 | rfl
      | some k1 => first | rfl | (rw [n2.mp c_7] at e2; cases e2) | (rw [n1.mp c_17] at e1; cases e1)
  · refine am_aload_n hC dX1_leadsOut_10 rfl ?_
    refine am_get (v := .ref (12)) hC (ci := 2) (N := 4) (j := 2) rfl (kC_7 hF) (by decide) tw_82 (Or.inl rfl) dX1_leadsOut_11 (am_rfe (rC_7_2 hF)) ?_
    refine am_iload_n hC dX1_leadsOut_14 rfl ?_
    refine am_ialdE (v := dI (D b)) hC (j := b) (N := 25) (kC_12 hF) (nC_12 hF) rfl (by omega) (by decide) dX1_leadsOut_15 (hv b hb) ?_
    refine am_iconst (v := -1) hC dX1_leadsOut_16 (by decide) ?_
    refine am_icmp_eq (tgt := 24) hC dX1_leadsOut_17 (by decide) (fun c_17 => ?_) (fun c_17 => ?_)
    · refine am_iconst (v := nI 0) hC dX1_leadsOut_24 (by decide) ?_
      refine am_iret hC hR rfl (by decide) (by decide) dX1_leadsOut_25 ?_
      have n2 := dI_none (o := D2 a) (fun j hj => by have := hdl2 _ ha j hj; omega)
      have n1 := dI_none (o := D b) (fun j hj => by have := hdl _ hb j hj; omega)
      refine ⟨?_, rfl⟩
      cases e2 : D2 a with
      | none => first | exact absurd (n2.mpr e2) c_7 | rfl
      | some k2 =>
        cases e1 : D b with
        | none => first | exact absurd (n1.mpr e1) c_17 | rfl
        | some k1 => first | rfl | (rw [n2.mp c_7] at e2; cases e2) | (rw [n1.mp c_17] at e1; cases e1)
    · refine am_iconst (v := nI 1) hC dX1_leadsOut_20 (by decide) ?_
      refine am_goto (tgt := 25) hC dX1_leadsOut_21 (by decide) ?_
      refine am_iret hC hR rfl (by decide) (by decide) dX1_leadsOut_25 ?_
      have n2 := dI_none (o := D2 a) (fun j hj => by have := hdl2 _ ha j hj; omega)
      have n1 := dI_none (o := D b) (fun j hj => by have := hdl _ hb j hj; omega)
      refine ⟨?_, rfl⟩
      cases e2 : D2 a with
      | none => first | exact absurd (n2.mpr e2) c_7 | rfl
      | some k2 =>
        cases e1 : D b with
        | none => first | exact absurd (n1.mpr e1) c_17 | rfl
        | some k1 => first | rfl | (rw [n2.mp c_7] at e2; cases e2) | (rw [n1.mp c_17] at e1; cases e1)
