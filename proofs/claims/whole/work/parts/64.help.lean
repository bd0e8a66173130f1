/-! ===== the law's helpers: a call of the class, its throws caught ===== -/
def OA (h : am_H) : Prop := hk_ h 40 = 13 ∧ hn_ h 40 = 1
theorem OA_le {h h' : am_H} (hle : am_le h h') (ho : OA h) : OA h' := by
  obtain ⟨a, b⟩ := hle 40 (by rw [ho.1]; decide)
  exact ⟨a.trans ho.1, b.trans ho.2⟩
/-- K is thrown (0: nothing); if nothing, x is answered, and lies in out -/
def PO (K : Nat) (h : am_H) (Q : Int32 → am_H → Prop) (v : Option Value) (h' : am_H) : Prop := v = some (.int (nI K)) ∧ (K ≠ 0 → am_eq FS h h' ∧ am_le h h') ∧ (K = 0 → ∃ x h1, am_le h h1 ∧ h' = am_sL h1 40 0 x.toInt64 ∧ Q x h1)
def PN (K : Nat) (h : am_H) (Q : am_H → Prop) (v : Option Value) (h' : am_H) : Prop := v = some (.int (nI K)) ∧ (K ≠ 0 → am_eq FS h h' ∧ am_le h h') ∧ (K = 0 → am_le h h' ∧ Q h')
theorem po_x {K c : Nat} {h h' : am_H} {Q : Prop} (hK : K = c) (hc : c ≠ 0) (e : am_eq FS h h') (hle : am_le h h') : some (Value.int (nI c)) = some (.int (nI K)) ∧ (K ≠ 0 → am_eq FS h h' ∧ am_le h h') ∧ (K = 0 → Q) := ⟨by rw [hK], fun _ => ⟨e, hle⟩, fun z => absurd (hK.symm.trans z) hc⟩
theorem po_n {K : Nat} {h h1 h' : am_H} {Q : Int32 → am_H → Prop} {x : Int32} (hK : K = 0) (hle : am_le h h1) (e : h' = am_sL h1 40 0 x.toInt64) (hQ : Q x h1) : PO K h Q (some (.int (nI 0))) h' := ⟨by rw [hK], fun z => absurd hK z, fun _ => ⟨x, h1, hle, e, hQ⟩⟩
theorem pn_n {K : Nat} {h h' : am_H} {Q : am_H → Prop} (hK : K = 0) (hle : am_le h h') (hQ : Q h') : PN K h Q (some (.int (nI 0))) h' := ⟨by rw [hK], fun z => absurd hK z, fun _ => ⟨hle, hQ⟩⟩
theorem lz_0 {B : Bool} (c : b2i B = 0) : (b2i B).toInt64 = 0 := by rw [c]; rfl
theorem lz_1 {B : Bool} (c : ¬ b2i B = 0) : (b2i B).toInt64 = 1 := by
  cases B
  · exact absurd rfl c
  · rfl
theorem FC_3 {h : am_H} {n np nq : Nat} (hc : CI h n np nq) : hk_ h 3 = 7 := (hc.1.1.1 (3, 7, 0) (by decide)).1
theorem k3_tt1 {a : Bool} {i : Nat} : k3 a true true ≠ i + 2 := fun h => by
  have e : k3 a true true ≤ 1 := by cases a <;> decide
  omega
theorem k3_t3 {a b : Bool} {i : Nat} : k3 a b true ≠ i + 3 := fun h => by
  have e : k3 a b true ≤ 2 := by cases a <;> cases b <;> decide
  omega
theorem Room_ex (sd : Nat → Int32) : ∃ ro, RoomOK sd ro := by
  have key : ∀ i, i ≤ 40 → ∃ ro, PR sd i ro := fun i => by
    induction i with
    | zero => exact fun _ => ⟨_, PR_0 sd⟩
    | succ i ih =>
      intro hi
      obtain ⟨ro, hr⟩ := ih (by omega)
      by_cases ho : opn (sd i)
      · exact ⟨_, PR_join hr (by omega) ho⟩
      · exact ⟨ro, PR_skip hr ho⟩
  exact key 40 (Nat.le_refl 40)
theorem VW_ex (sd : Nat → Int32) (ex : Nat → Bool) : ∃ R, VW sd ex R := by
  obtain ⟨ro, hr⟩ := Room_ex sd
  obtain ⟨D, hD⟩ := Dist_ex 25 (exR ex ro) (adjD sd ro)
  by_cases z : ∀ c, c < 25 → D (ro c) ≠ none
  · exact ⟨true, ro, D, hr, hD, ⟨fun _ => z, fun _ => rfl⟩⟩
  · exact ⟨false, ro, D, hr, hD, ⟨fun q => absurd q (by decide), fun q => absurd q z⟩⟩
set_option maxRecDepth 100000 in
set_option maxHeartbeats 4000000 in
theorem c_L_begin (G : am_G) (l : Launch) (htr : l.stackTraces = false) (h : am_H) (n np nq : Nat) (hci : CI h n np nq) (ho : OA h) : am_Met G l yL_begin (.codeWith yL_begin cL_begin 3 (some .int) [((0 : Nat), (8 : Nat), (11 : Nat), (13 : Nat))]) 10 8 160 [.ref (3), .ref (40)] h (PO (k3 (decide (n < 6)) true true) h (fun (x : Int32) (h1 : am_H) => x = nI n ∧ am_eq (SB n) h h1 ∧ CI h1 (n + 1) np nq ∧ ND h1 n)) (am_no) := by
  refine am_introW rfl htr rfl (Nat.le_of_ble_eq_true rfl) (fun Z hC hR hI => ?_)
  change am_W Z 0 0 0 [.ref (3), .ref (40), .null] [] h
  refine am_aload_n hC dL_begin_0 rfl ?_
  refine am_iconst (v := nI 0) hC dL_begin_1 (by decide) ?_
  refine am_aload_n hC dL_begin_2 rfl ?_
  have hx : ∀ (X : String) (h1 : am_H), (h1 = h ∧ EX ["java/lang/IllegalStateException"] (k3 (decide (n < 6)) true true) X) → am_le h h1 → am_WX Z (0 + 8) (0 + 160) 3 [.ref (3), .ref (40), .null] [.int (nI 0), .ref (40)] h1 X := by
    intro X h1 hE hle
    obtain ⟨e, i, hK, hX⟩ := hE
    have e : am_eq FS h h1 := by rw [e]; exact am_eq_rf _ _
    obtain _ | i := i
    · obtain rfl : _ = X := Option.some.inj hX
      refine am_catch hC hR [] ⟨0, 8, 11, 13⟩ [] rfl (fun z hz => nomatch hz) (by decide) (by decide) tw_162 tw_169 (i := 2) (len := 1) (by decide) (Or.inr ⟨2, rfl, dL_begin_11, rfl⟩) ?_
      change am_W Z _ _ 12 [.ref (3), .ref (40), .null] [] _
      refine am_iconst (v := nI 1) hC dL_begin_12 (by decide) ?_
      refine am_iret hC hR rfl (by decide) (by decide) dL_begin_13 ?_
      exact po_x hK (by decide) e hle
    · exact nomatch hX
  refine am_callV hC (ci := 6) (N := 4) [] rfl (FC_3 hci) rfl mf_X5_begin tw_163 (c_X5_begin _ _ (am_tr hC) h n np nq hci) rfl ⟨rfl, Nat.le_of_ble_eq_true rfl⟩ ⟨by decide, by decide⟩ (by decide) (by decide) dL_begin_3 rfl hx (fun v h1 hp hlc => ?_)
  obtain ⟨x, hv, hK, hQ⟩ : ∃ x, v = some (.int x) ∧ k3 (decide (n < 6)) true true = 0 ∧ (fun (x : Int32) (h1 : am_H) => x = nI n ∧ am_eq (SB n) h h1 ∧ CI h1 (n + 1) np nq ∧ ND h1 n) x h1 := by
    obtain ⟨hK, rfl, e1, -, e2, e3⟩ := hp
    exact ⟨_, rfl, hK, rfl, e1, e2, e3⟩
  subst hv
  have hO : OA h1 := OA_le hlc ho
  refine am_i2l hC dL_begin_6 ?_
  refine am_last hC (j := 0) (N := 1) hO.1 hO.2 rfl (by decide) (by decide) dL_begin_7 ?_
  refine am_goto (tgt := 14) hC dL_begin_8 (by decide) ?_
  refine am_iconst (v := nI 0) hC dL_begin_14 (by decide) ?_
  refine am_iret hC hR rfl (by decide) (by decide) dL_begin_15 ?_
  exact po_n hK hlc rfl hQ
set_option maxRecDepth 100000 in
set_option maxHeartbeats 4000000 in
theorem c_L_tell (G : am_G) (l : Launch) (htr : l.stackTraces = false) (h : am_H) (n np nq : Nat) (hci : CI h n np nq) (ho : OA h) (D : Int32) (P : Int32) (S : Int32) (W : Int32) : am_Met G l yL_tell (.codeWith yL_tell cL_tell 7 (some .int) [((0 : Nat), (14 : Nat), (17 : Nat), (19 : Nat)), ((0 : Nat), (14 : Nat), (21 : Nat), (21 : Nat)), ((0 : Nat), (14 : Nat), (25 : Nat), (13 : Nat))]) 10 8 48 [.ref (3), .int (D), .int (P), .int (S), .int (W), .ref (40)] h (PO (k3 (IX n D) (IX 6 P && IX 40 S && IW W) (decide (chg h (dn D) = P))) h (fun (x : Int32) (h1 : am_H) => x = tC h (dn D) (dn S) ∧ h1 = am_sI h (101 + 4 * dn D) (dn S) W)) (am_no) := by
  refine am_introW rfl htr rfl (Nat.le_of_ble_eq_true rfl) (fun Z hC hR hI => ?_)
  change am_W Z 0 0 0 [.ref (3), .int (D), .int (P), .int (S), .int (W), .ref (40), .null] [] h
  refine am_aload hC dL_tell_0 rfl ?_
  refine am_iconst (v := nI 0) hC dL_tell_2 (by decide) ?_
  refine am_aload_n hC dL_tell_3 rfl ?_
  refine am_iload_n hC dL_tell_4 rfl ?_
  refine am_iload_n hC dL_tell_5 rfl ?_
  refine am_iload_n hC dL_tell_6 rfl ?_
  refine am_iload hC dL_tell_7 rfl ?_
  have hx : ∀ (X : String) (h1 : am_H), (h1 = h ∧ EX ["java/lang/IndexOutOfBoundsException", "java/lang/IllegalArgumentException", "java/lang/IllegalStateException"] (k3 (IX n D) (IX 6 P && IX 40 S && IW W) (decide (chg h (dn D) = P))) X) → am_le h h1 → am_WX Z (0 + 8) (0 + 48) 9 [.ref (3), .int (D), .int (P), .int (S), .int (W), .ref (40), .null] [.int (nI 0), .ref (40)] h1 X := by
    intro X h1 hE hle
    obtain ⟨e, i, hK, hX⟩ := hE
    have e : am_eq FS h h1 := by rw [e]; exact am_eq_rf _ _
    obtain _ | _ | _ | i := i
    · obtain rfl : _ = X := Option.some.inj hX
      refine am_catch hC hR [] ⟨0, 14, 17, 19⟩ [⟨0, 14, 21, 21⟩, ⟨0, 14, 25, 13⟩] rfl (fun z hz => nomatch hz) (by decide) (by decide) tw_327 tw_339 (i := 6) (len := 2) (by decide) (Or.inl ⟨dL_tell_17, rfl⟩) ?_
      change am_W Z _ _ 19 [.ref (3), .int (D), .int (P), .int (S), .int (W), .ref (40), .null] [] _
      refine am_iconst (v := nI 1) hC dL_tell_19 (by decide) ?_
      refine am_iret hC hR rfl (by decide) (by decide) dL_tell_20 ?_
      exact po_x hK (by decide) e hle
    · obtain rfl : _ = X := Option.some.inj hX
      refine am_catch hC hR [⟨0, 14, 17, 19⟩] ⟨0, 14, 21, 21⟩ [⟨0, 14, 25, 13⟩] rfl (fun z hz => by obtain rfl := List.mem_singleton.mp hz; exact ⟨"java/lang/IndexOutOfBoundsException", by decide, tw_327, by decide⟩) (by decide) (by decide) tw_328 tw_358 (i := 6) (len := 2) (by decide) (Or.inl ⟨dL_tell_21, rfl⟩) ?_
      change am_W Z _ _ 23 [.ref (3), .int (D), .int (P), .int (S), .int (W), .ref (40), .null] [] _
      refine am_iconst (v := nI 2) hC dL_tell_23 (by decide) ?_
      refine am_iret hC hR rfl (by decide) (by decide) dL_tell_24 ?_
      exact po_x hK (by decide) e hle
    · obtain rfl : _ = X := Option.some.inj hX
      refine am_catch hC hR [⟨0, 14, 17, 19⟩, ⟨0, 14, 21, 21⟩] ⟨0, 14, 25, 13⟩ [] rfl (fun z hz => by rcases List.mem_cons.mp hz with rfl | hz; exact ⟨"java/lang/IndexOutOfBoundsException", by decide, tw_327, by decide⟩; obtain rfl := List.mem_singleton.mp hz; exact ⟨"java/lang/IllegalArgumentException", by decide, tw_328, by decide⟩) (by decide) (by decide) tw_162 tw_169 (i := 6) (len := 2) (by decide) (Or.inl ⟨dL_tell_25, rfl⟩) ?_
      change am_W Z _ _ 27 [.ref (3), .int (D), .int (P), .int (S), .int (W), .ref (40), .null] [] _
      refine am_iconst (v := nI 3) hC dL_tell_27 (by decide) ?_
      refine am_iret hC hR rfl (by decide) (by decide) dL_tell_28 ?_
      exact po_x hK (by decide) e hle
    · exact nomatch hX
  refine am_callV hC (ci := 6) (N := 4) [.int (D), .int (P), .int (S), .int (W)] rfl (FC_3 hci) rfl mf_X5_tell tw_329 (c_X5_tell _ _ (am_tr hC) h n np nq hci D P S W) rfl ⟨rfl, Nat.le_of_ble_eq_true rfl⟩ ⟨by decide, by decide⟩ (by decide) (by decide) dL_tell_9 rfl hx (fun v h1 hp hlc => ?_)
  obtain ⟨x, hv, hK, hQ⟩ : ∃ x, v = some (.int x) ∧ k3 (IX n D) (IX 6 P && IX 40 S && IW W) (decide (chg h (dn D) = P)) = 0 ∧ (fun (x : Int32) (h1 : am_H) => x = tC h (dn D) (dn S) ∧ h1 = am_sI h (101 + 4 * dn D) (dn S) W) x h1 := by
    obtain ⟨hK, rfl, e⟩ := hp
    exact ⟨_, rfl, hK, rfl, e⟩
  subst hv
  have hO : OA h1 := OA_le hlc ho
  refine am_i2l hC dL_tell_12 ?_
  refine am_last hC (j := 0) (N := 1) hO.1 hO.2 rfl (by decide) (by decide) dL_tell_13 ?_
  refine am_goto (tgt := 29) hC dL_tell_14 (by decide) ?_
  refine am_iconst (v := nI 0) hC dL_tell_29 (by decide) ?_
  refine am_iret hC hR rfl (by decide) (by decide) dL_tell_30 ?_
  exact po_n hK hlc rfl hQ
set_option maxRecDepth 100000 in
set_option maxHeartbeats 4000000 in
theorem c_L_setExit (G : am_G) (l : Launch) (htr : l.stackTraces = false) (h : am_H) (n np nq : Nat) (hci : CI h n np nq) (ho : OA h) (D : Int32) (P : Int32) (S : Int32) (b : Bool) : am_Met G l yL_setExit (.codeWith yL_setExit cL_setExit 7 (some .int) [((0 : Nat), (21 : Nat), (24 : Nat), (19 : Nat)), ((0 : Nat), (21 : Nat), (28 : Nat), (21 : Nat)), ((0 : Nat), (21 : Nat), (32 : Nat), (13 : Nat))]) 10 8 48 [.ref (3), .int (D), .int (P), .int (S), .int (b2i b), .ref (40)] h (PO (k3 (IX n D) (IX 6 P && IX 25 S) (decide (chg h (dn D) = P))) h (fun (x : Int32) (h1 : am_H) => x = b2i (xC h (dn D) (dn S)) ∧ h1 = am_sI h (102 + 4 * dn D) (dn S) (b2i b))) (am_no) := by
  refine am_introW rfl htr rfl (Nat.le_of_ble_eq_true rfl) (fun Z hC hR hI => ?_)
  change am_W Z 0 0 0 [.ref (3), .int (D), .int (P), .int (S), .int (b2i b), .ref (40), .null] [] h
  refine am_aload hC dL_setExit_0 rfl ?_
  refine am_iconst (v := nI 0) hC dL_setExit_2 (by decide) ?_
  refine am_aload_n hC dL_setExit_3 rfl ?_
  refine am_iload_n hC dL_setExit_4 rfl ?_
  refine am_iload_n hC dL_setExit_5 rfl ?_
  refine am_iload_n hC dL_setExit_6 rfl ?_
  refine am_iload hC dL_setExit_7 rfl ?_
  have hx : ∀ (X : String) (h1 : am_H), (h1 = h ∧ EX ["java/lang/IndexOutOfBoundsException", "java/lang/IllegalArgumentException", "java/lang/IllegalStateException"] (k3 (IX n D) (IX 6 P && IX 25 S) (decide (chg h (dn D) = P))) X) → am_le h h1 → am_WX Z (0 + 8) (0 + 48) 9 [.ref (3), .int (D), .int (P), .int (S), .int (b2i b), .ref (40), .null] [.int (nI 0), .ref (40)] h1 X := by
    intro X h1 hE hle
    obtain ⟨e, i, hK, hX⟩ := hE
    have e : am_eq FS h h1 := by rw [e]; exact am_eq_rf _ _
    obtain _ | _ | _ | i := i
    · obtain rfl : _ = X := Option.some.inj hX
      refine am_catch hC hR [] ⟨0, 21, 24, 19⟩ [⟨0, 21, 28, 21⟩, ⟨0, 21, 32, 13⟩] rfl (fun z hz => nomatch hz) (by decide) (by decide) tw_327 tw_339 (i := 6) (len := 2) (by decide) (Or.inl ⟨dL_setExit_24, rfl⟩) ?_
      change am_W Z _ _ 26 [.ref (3), .int (D), .int (P), .int (S), .int (b2i b), .ref (40), .null] [] _
      refine am_iconst (v := nI 1) hC dL_setExit_26 (by decide) ?_
      refine am_iret hC hR rfl (by decide) (by decide) dL_setExit_27 ?_
      exact po_x hK (by decide) e hle
    · obtain rfl : _ = X := Option.some.inj hX
      refine am_catch hC hR [⟨0, 21, 24, 19⟩] ⟨0, 21, 28, 21⟩ [⟨0, 21, 32, 13⟩] rfl (fun z hz => by obtain rfl := List.mem_singleton.mp hz; exact ⟨"java/lang/IndexOutOfBoundsException", by decide, tw_327, by decide⟩) (by decide) (by decide) tw_328 tw_358 (i := 6) (len := 2) (by decide) (Or.inl ⟨dL_setExit_28, rfl⟩) ?_
      change am_W Z _ _ 30 [.ref (3), .int (D), .int (P), .int (S), .int (b2i b), .ref (40), .null] [] _
      refine am_iconst (v := nI 2) hC dL_setExit_30 (by decide) ?_
      refine am_iret hC hR rfl (by decide) (by decide) dL_setExit_31 ?_
      exact po_x hK (by decide) e hle
    · obtain rfl : _ = X := Option.some.inj hX
      refine am_catch hC hR [⟨0, 21, 24, 19⟩, ⟨0, 21, 28, 21⟩] ⟨0, 21, 32, 13⟩ [] rfl (fun z hz => by rcases List.mem_cons.mp hz with rfl | hz; exact ⟨"java/lang/IndexOutOfBoundsException", by decide, tw_327, by decide⟩; obtain rfl := List.mem_singleton.mp hz; exact ⟨"java/lang/IllegalArgumentException", by decide, tw_328, by decide⟩) (by decide) (by decide) tw_162 tw_169 (i := 6) (len := 2) (by decide) (Or.inl ⟨dL_setExit_32, rfl⟩) ?_
      change am_W Z _ _ 34 [.ref (3), .int (D), .int (P), .int (S), .int (b2i b), .ref (40), .null] [] _
      refine am_iconst (v := nI 3) hC dL_setExit_34 (by decide) ?_
      refine am_iret hC hR rfl (by decide) (by decide) dL_setExit_35 ?_
      exact po_x hK (by decide) e hle
    · exact nomatch hX
  refine am_callV hC (ci := 6) (N := 4) [.int (D), .int (P), .int (S), .int (b2i b)] rfl (FC_3 hci) rfl mf_X5_setExit tw_388 (c_X5_setExit _ _ (am_tr hC) h n np nq hci D P S b) rfl ⟨rfl, Nat.le_of_ble_eq_true rfl⟩ ⟨by decide, by decide⟩ (by decide) (by decide) dL_setExit_9 rfl hx (fun v h1 hp hlc => ?_)
  obtain ⟨B, hv, hK, hQ⟩ : ∃ B : Bool, v = some (.int (b2i B)) ∧ k3 (IX n D) (IX 6 P && IX 25 S) (decide (chg h (dn D) = P)) = 0 ∧ (fun (x : Int32) (h1 : am_H) => x = b2i (xC h (dn D) (dn S)) ∧ h1 = am_sI h (102 + 4 * dn D) (dn S) (b2i b)) (b2i B) h1 := by
    obtain ⟨hK, rfl, e⟩ := hp
    exact ⟨_, rfl, hK, rfl, e⟩
  subst hv
  have hO : OA h1 := OA_le hlc ho
  refine am_if_eq (tgt := 19) hC dL_setExit_12 (by decide) (fun c_12 => ?_) (fun c_12 => ?_)
  · refine am_lconst (v := 0) hC dL_setExit_19 (by decide) ?_
    refine am_last hC (j := 0) (N := 1) hO.1 hO.2 rfl (by decide) (by decide) dL_setExit_20 ?_
    refine am_goto (tgt := 36) hC dL_setExit_21 (by decide) ?_
    refine am_iconst (v := nI 0) hC dL_setExit_36 (by decide) ?_
    refine am_iret hC hR rfl (by decide) (by decide) dL_setExit_37 ?_
    exact po_n hK hlc (by rw [← lz_0 c_12]) hQ
  · refine am_lconst (v := 1) hC dL_setExit_15 (by decide) ?_
    refine am_goto (tgt := 20) hC dL_setExit_16 (by decide) ?_
    refine am_last hC (j := 0) (N := 1) hO.1 hO.2 rfl (by decide) (by decide) dL_setExit_20 ?_
    refine am_goto (tgt := 36) hC dL_setExit_21 (by decide) ?_
    refine am_iconst (v := nI 0) hC dL_setExit_36 (by decide) ?_
    refine am_iret hC hR rfl (by decide) (by decide) dL_setExit_37 ?_
    exact po_n hK hlc (by rw [← lz_1 c_12]) hQ
set_option maxRecDepth 100000 in
set_option maxHeartbeats 4000000 in
theorem c_L_refer (G : am_G) (l : Launch) (htr : l.stackTraces = false) (h : am_H) (n np nq : Nat) (hci : CI h n np nq) (ho : OA h) (D : Int32) (P : Int32) (O : Int32) (b : Bool) : am_Met G l yL_refer (.codeWith yL_refer cL_refer 7 (some .int) [((0 : Nat), (21 : Nat), (24 : Nat), (19 : Nat)), ((0 : Nat), (21 : Nat), (28 : Nat), (21 : Nat)), ((0 : Nat), (21 : Nat), (32 : Nat), (13 : Nat))]) 10 8 48 [.ref (3), .int (D), .int (P), .int (O), .int (b2i b), .ref (40)] h (PO (k3 (IX n D && IX n O) (IX 6 P) (decide (chg h (dn D) = P) && !(b && ldF (rC h) 6 (dn O) (dn D)))) h (fun (x : Int32) (h1 : am_H) => x = b2i (rC h (dn D) (dn O)) ∧ h1 = am_sR h (103 + 4 * dn D) (dn O) (if b = true then 100 + 4 * dn O else 0))) (am_no) := by
  refine am_introW rfl htr rfl (Nat.le_of_ble_eq_true rfl) (fun Z hC hR hI => ?_)
  change am_W Z 0 0 0 [.ref (3), .int (D), .int (P), .int (O), .int (b2i b), .ref (40), .null] [] h
  refine am_aload hC dL_refer_0 rfl ?_
  refine am_iconst (v := nI 0) hC dL_refer_2 (by decide) ?_
  refine am_aload_n hC dL_refer_3 rfl ?_
  refine am_iload_n hC dL_refer_4 rfl ?_
  refine am_iload_n hC dL_refer_5 rfl ?_
  refine am_iload_n hC dL_refer_6 rfl ?_
  refine am_iload hC dL_refer_7 rfl ?_
  have hx : ∀ (X : String) (h1 : am_H), (h1 = h ∧ EX ["java/lang/IndexOutOfBoundsException", "java/lang/IllegalArgumentException", "java/lang/IllegalStateException"] (k3 (IX n D && IX n O) (IX 6 P) (decide (chg h (dn D) = P) && !(b && ldF (rC h) 6 (dn O) (dn D)))) X) → am_le h h1 → am_WX Z (0 + 8) (0 + 48) 9 [.ref (3), .int (D), .int (P), .int (O), .int (b2i b), .ref (40), .null] [.int (nI 0), .ref (40)] h1 X := by
    intro X h1 hE hle
    obtain ⟨e, i, hK, hX⟩ := hE
    have e : am_eq FS h h1 := by rw [e]; exact am_eq_rf _ _
    obtain _ | _ | _ | i := i
    · obtain rfl : _ = X := Option.some.inj hX
      refine am_catch hC hR [] ⟨0, 21, 24, 19⟩ [⟨0, 21, 28, 21⟩, ⟨0, 21, 32, 13⟩] rfl (fun z hz => nomatch hz) (by decide) (by decide) tw_327 tw_339 (i := 6) (len := 2) (by decide) (Or.inl ⟨dL_refer_24, rfl⟩) ?_
      change am_W Z _ _ 26 [.ref (3), .int (D), .int (P), .int (O), .int (b2i b), .ref (40), .null] [] _
      refine am_iconst (v := nI 1) hC dL_refer_26 (by decide) ?_
      refine am_iret hC hR rfl (by decide) (by decide) dL_refer_27 ?_
      exact po_x hK (by decide) e hle
    · obtain rfl : _ = X := Option.some.inj hX
      refine am_catch hC hR [⟨0, 21, 24, 19⟩] ⟨0, 21, 28, 21⟩ [⟨0, 21, 32, 13⟩] rfl (fun z hz => by obtain rfl := List.mem_singleton.mp hz; exact ⟨"java/lang/IndexOutOfBoundsException", by decide, tw_327, by decide⟩) (by decide) (by decide) tw_328 tw_358 (i := 6) (len := 2) (by decide) (Or.inl ⟨dL_refer_28, rfl⟩) ?_
      change am_W Z _ _ 30 [.ref (3), .int (D), .int (P), .int (O), .int (b2i b), .ref (40), .null] [] _
      refine am_iconst (v := nI 2) hC dL_refer_30 (by decide) ?_
      refine am_iret hC hR rfl (by decide) (by decide) dL_refer_31 ?_
      exact po_x hK (by decide) e hle
    · obtain rfl : _ = X := Option.some.inj hX
      refine am_catch hC hR [⟨0, 21, 24, 19⟩, ⟨0, 21, 28, 21⟩] ⟨0, 21, 32, 13⟩ [] rfl (fun z hz => by rcases List.mem_cons.mp hz with rfl | hz; exact ⟨"java/lang/IndexOutOfBoundsException", by decide, tw_327, by decide⟩; obtain rfl := List.mem_singleton.mp hz; exact ⟨"java/lang/IllegalArgumentException", by decide, tw_328, by decide⟩) (by decide) (by decide) tw_162 tw_169 (i := 6) (len := 2) (by decide) (Or.inl ⟨dL_refer_32, rfl⟩) ?_
      change am_W Z _ _ 34 [.ref (3), .int (D), .int (P), .int (O), .int (b2i b), .ref (40), .null] [] _
      refine am_iconst (v := nI 3) hC dL_refer_34 (by decide) ?_
      refine am_iret hC hR rfl (by decide) (by decide) dL_refer_35 ?_
      exact po_x hK (by decide) e hle
    · exact nomatch hX
  refine am_callV hC (ci := 6) (N := 4) [.int (D), .int (P), .int (O), .int (b2i b)] rfl (FC_3 hci) rfl mf_X5_refer tw_399 (c_X5_refer _ _ (am_tr hC) h n np nq hci D P O b) rfl ⟨rfl, Nat.le_of_ble_eq_true rfl⟩ ⟨by decide, by decide⟩ (by decide) (by decide) dL_refer_9 rfl hx (fun v h1 hp hlc => ?_)
  obtain ⟨B, hv, hK, hQ⟩ : ∃ B : Bool, v = some (.int (b2i B)) ∧ k3 (IX n D && IX n O) (IX 6 P) (decide (chg h (dn D) = P) && !(b && ldF (rC h) 6 (dn O) (dn D))) = 0 ∧ (fun (x : Int32) (h1 : am_H) => x = b2i (rC h (dn D) (dn O)) ∧ h1 = am_sR h (103 + 4 * dn D) (dn O) (if b = true then 100 + 4 * dn O else 0)) (b2i B) h1 := by
    obtain ⟨hK, rfl, e⟩ := hp
    exact ⟨_, rfl, hK, rfl, e⟩
  subst hv
  have hO : OA h1 := OA_le hlc ho
  refine am_if_eq (tgt := 19) hC dL_refer_12 (by decide) (fun c_12 => ?_) (fun c_12 => ?_)
  · refine am_lconst (v := 0) hC dL_refer_19 (by decide) ?_
    refine am_last hC (j := 0) (N := 1) hO.1 hO.2 rfl (by decide) (by decide) dL_refer_20 ?_
    refine am_goto (tgt := 36) hC dL_refer_21 (by decide) ?_
    refine am_iconst (v := nI 0) hC dL_refer_36 (by decide) ?_
    refine am_iret hC hR rfl (by decide) (by decide) dL_refer_37 ?_
    exact po_n hK hlc (by rw [← lz_0 c_12]) hQ
  · refine am_lconst (v := 1) hC dL_refer_15 (by decide) ?_
    refine am_goto (tgt := 20) hC dL_refer_16 (by decide) ?_
    refine am_last hC (j := 0) (N := 1) hO.1 hO.2 rfl (by decide) (by decide) dL_refer_20 ?_
    refine am_goto (tgt := 36) hC dL_refer_21 (by decide) ?_
    refine am_iconst (v := nI 0) hC dL_refer_36 (by decide) ?_
    refine am_iret hC hR rfl (by decide) (by decide) dL_refer_37 ?_
    exact po_n hK hlc (by rw [← lz_1 c_12]) hQ
set_option maxRecDepth 100000 in
set_option maxHeartbeats 4000000 in
theorem c_L_side (G : am_G) (l : Launch) (htr : l.stackTraces = false) (h : am_H) (n np nq : Nat) (hci : CI h n np nq) (ho : OA h) (D : Int32) (S : Int32) : am_Met G l yL_side (.codeWith yL_side cL_side 5 (some .int) [((0 : Nat), (10 : Nat), (13 : Nat), (19 : Nat)), ((0 : Nat), (10 : Nat), (17 : Nat), (21 : Nat))]) 10 8 48 [.ref (3), .int (D), .int (S), .ref (40)] h (PO (k3 (IX n D) (IX 40 S) true) h (fun (x : Int32) (h1 : am_H) => x = sdH h (dn D) (dn S) ∧ h1 = h)) (am_no) := by
  refine am_introW rfl htr rfl (Nat.le_of_ble_eq_true rfl) (fun Z hC hR hI => ?_)
  change am_W Z 0 0 0 [.ref (3), .int (D), .int (S), .ref (40), .null] [] h
  refine am_aload_n hC dL_side_0 rfl ?_
  refine am_iconst (v := nI 0) hC dL_side_1 (by decide) ?_
  refine am_aload_n hC dL_side_2 rfl ?_
  refine am_iload_n hC dL_side_3 rfl ?_
  refine am_iload_n hC dL_side_4 rfl ?_
  have hx : ∀ (X : String) (h1 : am_H), (h1 = h ∧ EX ["java/lang/IndexOutOfBoundsException", "java/lang/IllegalArgumentException", "java/lang/IllegalStateException"] (k3 (IX n D) (IX 40 S) true) X) → am_le h h1 → am_WX Z (0 + 8) (0 + 48) 5 [.ref (3), .int (D), .int (S), .ref (40), .null] [.int (nI 0), .ref (40)] h1 X := by
    intro X h1 hE hle
    obtain ⟨e, i, hK, hX⟩ := hE
    have e : am_eq FS h h1 := by rw [e]; exact am_eq_rf _ _
    obtain _ | _ | _ | i := i
    · obtain rfl : _ = X := Option.some.inj hX
      refine am_catch hC hR [] ⟨0, 10, 13, 19⟩ [⟨0, 10, 17, 21⟩] rfl (fun z hz => nomatch hz) (by decide) (by decide) tw_327 tw_339 (i := 4) (len := 2) (by decide) (Or.inl ⟨dL_side_13, rfl⟩) ?_
      change am_W Z _ _ 15 [.ref (3), .int (D), .int (S), .ref (40), .null] [] _
      refine am_iconst (v := nI 1) hC dL_side_15 (by decide) ?_
      refine am_iret hC hR rfl (by decide) (by decide) dL_side_16 ?_
      exact po_x hK (by decide) e hle
    · obtain rfl : _ = X := Option.some.inj hX
      refine am_catch hC hR [⟨0, 10, 13, 19⟩] ⟨0, 10, 17, 21⟩ [] rfl (fun z hz => by obtain rfl := List.mem_singleton.mp hz; exact ⟨"java/lang/IndexOutOfBoundsException", by decide, tw_327, by decide⟩) (by decide) (by decide) tw_328 tw_358 (i := 4) (len := 2) (by decide) (Or.inl ⟨dL_side_17, rfl⟩) ?_
      change am_W Z _ _ 19 [.ref (3), .int (D), .int (S), .ref (40), .null] [] _
      refine am_iconst (v := nI 2) hC dL_side_19 (by decide) ?_
      refine am_iret hC hR rfl (by decide) (by decide) dL_side_20 ?_
      exact po_x hK (by decide) e hle
    · exact absurd hK (k3_t3)
    · exact nomatch hX
  refine am_callV hC (ci := 6) (N := 4) [.int (D), .int (S)] rfl (FC_3 hci) rfl mf_X5_side tw_414 (c_X5_side _ _ (am_tr hC) h n np nq hci D S) rfl ⟨rfl, Nat.le_of_ble_eq_true rfl⟩ ⟨by decide, by decide⟩ (by decide) (by decide) dL_side_5 rfl hx (fun v h1 hp hlc => ?_)
  obtain ⟨x, hv, hK, hQ⟩ : ∃ x, v = some (.int x) ∧ k3 (IX n D) (IX 40 S) true = 0 ∧ (fun (x : Int32) (h1 : am_H) => x = sdH h (dn D) (dn S) ∧ h1 = h) x h1 := by
    obtain ⟨hK, rfl, e⟩ := hp
    exact ⟨_, rfl, hK, rfl, e⟩
  subst hv
  have hO : OA h1 := OA_le hlc ho
  refine am_i2l hC dL_side_8 ?_
  refine am_last hC (j := 0) (N := 1) hO.1 hO.2 rfl (by decide) (by decide) dL_side_9 ?_
  refine am_goto (tgt := 21) hC dL_side_10 (by decide) ?_
  refine am_iconst (v := nI 0) hC dL_side_21 (by decide) ?_
  refine am_iret hC hR rfl (by decide) (by decide) dL_side_22 ?_
  exact po_n hK hlc rfl hQ
set_option maxRecDepth 100000 in
set_option maxHeartbeats 4000000 in
theorem c_L_hasExit (G : am_G) (l : Launch) (htr : l.stackTraces = false) (h : am_H) (n np nq : Nat) (hci : CI h n np nq) (ho : OA h) (D : Int32) (S : Int32) : am_Met G l yL_hasExit (.codeWith yL_hasExit cL_hasExit 5 (some .int) [((0 : Nat), (17 : Nat), (20 : Nat), (19 : Nat)), ((0 : Nat), (17 : Nat), (24 : Nat), (21 : Nat))]) 10 8 48 [.ref (3), .int (D), .int (S), .ref (40)] h (PO (k3 (IX n D) (IX 25 S) true) h (fun (x : Int32) (h1 : am_H) => x = b2i (exH h (dn D) (dn S)) ∧ h1 = h)) (am_no) := by
  refine am_introW rfl htr rfl (Nat.le_of_ble_eq_true rfl) (fun Z hC hR hI => ?_)
  change am_W Z 0 0 0 [.ref (3), .int (D), .int (S), .ref (40), .null] [] h
  refine am_aload_n hC dL_hasExit_0 rfl ?_
  refine am_iconst (v := nI 0) hC dL_hasExit_1 (by decide) ?_
  refine am_aload_n hC dL_hasExit_2 rfl ?_
  refine am_iload_n hC dL_hasExit_3 rfl ?_
  refine am_iload_n hC dL_hasExit_4 rfl ?_
  have hx : ∀ (X : String) (h1 : am_H), (h1 = h ∧ EX ["java/lang/IndexOutOfBoundsException", "java/lang/IllegalArgumentException", "java/lang/IllegalStateException"] (k3 (IX n D) (IX 25 S) true) X) → am_le h h1 → am_WX Z (0 + 8) (0 + 48) 5 [.ref (3), .int (D), .int (S), .ref (40), .null] [.int (nI 0), .ref (40)] h1 X := by
    intro X h1 hE hle
    obtain ⟨e, i, hK, hX⟩ := hE
    have e : am_eq FS h h1 := by rw [e]; exact am_eq_rf _ _
    obtain _ | _ | _ | i := i
    · obtain rfl : _ = X := Option.some.inj hX
      refine am_catch hC hR [] ⟨0, 17, 20, 19⟩ [⟨0, 17, 24, 21⟩] rfl (fun z hz => nomatch hz) (by decide) (by decide) tw_327 tw_339 (i := 4) (len := 2) (by decide) (Or.inl ⟨dL_hasExit_20, rfl⟩) ?_
      change am_W Z _ _ 22 [.ref (3), .int (D), .int (S), .ref (40), .null] [] _
      refine am_iconst (v := nI 1) hC dL_hasExit_22 (by decide) ?_
      refine am_iret hC hR rfl (by decide) (by decide) dL_hasExit_23 ?_
      exact po_x hK (by decide) e hle
    · obtain rfl : _ = X := Option.some.inj hX
      refine am_catch hC hR [⟨0, 17, 20, 19⟩] ⟨0, 17, 24, 21⟩ [] rfl (fun z hz => by obtain rfl := List.mem_singleton.mp hz; exact ⟨"java/lang/IndexOutOfBoundsException", by decide, tw_327, by decide⟩) (by decide) (by decide) tw_328 tw_358 (i := 4) (len := 2) (by decide) (Or.inl ⟨dL_hasExit_24, rfl⟩) ?_
      change am_W Z _ _ 26 [.ref (3), .int (D), .int (S), .ref (40), .null] [] _
      refine am_iconst (v := nI 2) hC dL_hasExit_26 (by decide) ?_
      refine am_iret hC hR rfl (by decide) (by decide) dL_hasExit_27 ?_
      exact po_x hK (by decide) e hle
    · exact absurd hK (k3_t3)
    · exact nomatch hX
  refine am_callV hC (ci := 6) (N := 4) [.int (D), .int (S)] rfl (FC_3 hci) rfl mf_X5_hasExit tw_422 (c_X5_hasExit _ _ (am_tr hC) h n np nq hci D S) rfl ⟨rfl, Nat.le_of_ble_eq_true rfl⟩ ⟨by decide, by decide⟩ (by decide) (by decide) dL_hasExit_5 rfl hx (fun v h1 hp hlc => ?_)
  obtain ⟨B, hv, hK, hQ⟩ : ∃ B : Bool, v = some (.int (b2i B)) ∧ k3 (IX n D) (IX 25 S) true = 0 ∧ (fun (x : Int32) (h1 : am_H) => x = b2i (exH h (dn D) (dn S)) ∧ h1 = h) (b2i B) h1 := by
    obtain ⟨hK, rfl, e⟩ := hp
    exact ⟨_, rfl, hK, rfl, e⟩
  subst hv
  have hO : OA h1 := OA_le hlc ho
  refine am_if_eq (tgt := 15) hC dL_hasExit_8 (by decide) (fun c_8 => ?_) (fun c_8 => ?_)
  · refine am_lconst (v := 0) hC dL_hasExit_15 (by decide) ?_
    refine am_last hC (j := 0) (N := 1) hO.1 hO.2 rfl (by decide) (by decide) dL_hasExit_16 ?_
    refine am_goto (tgt := 28) hC dL_hasExit_17 (by decide) ?_
    refine am_iconst (v := nI 0) hC dL_hasExit_28 (by decide) ?_
    refine am_iret hC hR rfl (by decide) (by decide) dL_hasExit_29 ?_
    exact po_n hK hlc (by rw [← lz_0 c_8]) hQ
  · refine am_lconst (v := 1) hC dL_hasExit_11 (by decide) ?_
    refine am_goto (tgt := 16) hC dL_hasExit_12 (by decide) ?_
    refine am_last hC (j := 0) (N := 1) hO.1 hO.2 rfl (by decide) (by decide) dL_hasExit_16 ?_
    refine am_goto (tgt := 28) hC dL_hasExit_17 (by decide) ?_
    refine am_iconst (v := nI 0) hC dL_hasExit_28 (by decide) ?_
    refine am_iret hC hR rfl (by decide) (by decide) dL_hasExit_29 ?_
    exact po_n hK hlc (by rw [← lz_1 c_8]) hQ
set_option maxRecDepth 100000 in
set_option maxHeartbeats 4000000 in
theorem c_L_rooms (G : am_G) (l : Launch) (htr : l.stackTraces = false) (h : am_H) (n np nq : Nat) (hci : CI h n np nq) (ho : OA h) (D : Int32) : am_Met G l yL_rooms (.codeWith yL_rooms cL_rooms 4 (some .int) [((0 : Nat), (9 : Nat), (12 : Nat), (19 : Nat))]) 12 8 48 [.ref (3), .int (D), .ref (40)] h (PO (k3 (IX n D) true true) h (fun (x : Int32) (h1 : am_H) => am_eq FS h h1 ∧ VR (sdH h (dn D)) x)) (am_no) := by
  refine am_introW rfl htr rfl (Nat.le_of_ble_eq_true rfl) (fun Z hC hR hI => ?_)
  change am_W Z 0 0 0 [.ref (3), .int (D), .ref (40), .null] [] h
  refine am_aload_n hC dL_rooms_0 rfl ?_
  refine am_iconst (v := nI 0) hC dL_rooms_1 (by decide) ?_
  refine am_aload_n hC dL_rooms_2 rfl ?_
  refine am_iload_n hC dL_rooms_3 rfl ?_
  have hx : ∀ (X : String) (h1 : am_H), (h1 = h ∧ EX ["java/lang/IndexOutOfBoundsException", "java/lang/IllegalArgumentException", "java/lang/IllegalStateException"] (k3 (IX n D) true true) X) → am_le h h1 → am_WX Z (0 + 8) (0 + 48) 4 [.ref (3), .int (D), .ref (40), .null] [.int (nI 0), .ref (40)] h1 X := by
    intro X h1 hE hle
    obtain ⟨e, i, hK, hX⟩ := hE
    have e : am_eq FS h h1 := by rw [e]; exact am_eq_rf _ _
    obtain _ | _ | _ | i := i
    · obtain rfl : _ = X := Option.some.inj hX
      refine am_catch hC hR [] ⟨0, 9, 12, 19⟩ [] rfl (fun z hz => nomatch hz) (by decide) (by decide) tw_327 tw_339 (i := 3) (len := 1) (by decide) (Or.inr ⟨3, rfl, dL_rooms_12, rfl⟩) ?_
      change am_W Z _ _ 13 [.ref (3), .int (D), .ref (40), .null] [] _
      refine am_iconst (v := nI 1) hC dL_rooms_13 (by decide) ?_
      refine am_iret hC hR rfl (by decide) (by decide) dL_rooms_14 ?_
      exact po_x hK (by decide) e hle
    · exact absurd hK (k3_tt1)
    · exact absurd hK (k3_t3)
    · exact nomatch hX
  refine am_callV hC (ci := 6) (N := 4) [.int (D)] rfl (FC_3 hci) rfl mf_X5_rooms tw_430 (c_X5_rooms _ _ (am_tr hC) h n np nq hci D) rfl ⟨rfl, Nat.le_of_ble_eq_true rfl⟩ ⟨by decide, by decide⟩ (by decide) (by decide) dL_rooms_4 rfl hx (fun v h1 hp hlc => ?_)
  obtain ⟨x, hv, hK, hQ⟩ : ∃ x, v = some (.int x) ∧ k3 (IX n D) true true = 0 ∧ (fun (x : Int32) (h1 : am_H) => am_eq FS h h1 ∧ VR (sdH h (dn D)) x) x h1 := by
    obtain ⟨hK, e, x, rfl, hV⟩ := hp
    exact ⟨x, rfl, hK, e, hV⟩
  subst hv
  have hO : OA h1 := OA_le hlc ho
  refine am_i2l hC dL_rooms_7 ?_
  refine am_last hC (j := 0) (N := 1) hO.1 hO.2 rfl (by decide) (by decide) dL_rooms_8 ?_
  refine am_goto (tgt := 15) hC dL_rooms_9 (by decide) ?_
  refine am_iconst (v := nI 0) hC dL_rooms_15 (by decide) ?_
  refine am_iret hC hR rfl (by decide) (by decide) dL_rooms_16 ?_
  exact po_n hK hlc rfl hQ
set_option maxRecDepth 100000 in
set_option maxHeartbeats 4000000 in
theorem c_L_room (G : am_G) (l : Launch) (htr : l.stackTraces = false) (h : am_H) (n np nq : Nat) (hci : CI h n np nq) (ho : OA h) (D : Int32) (C : Int32) : am_Met G l yL_room (.codeWith yL_room cL_room 5 (some .int) [((0 : Nat), (10 : Nat), (13 : Nat), (19 : Nat)), ((0 : Nat), (10 : Nat), (17 : Nat), (21 : Nat))]) 12 8 48 [.ref (3), .int (D), .int (C), .ref (40)] h (PO (k3 (IX n D) (IX 25 C) true) h (fun (x : Int32) (h1 : am_H) => am_eq FS h h1 ∧ VM (sdH h (dn D)) (dn C) x)) (am_no) := by
  refine am_introW rfl htr rfl (Nat.le_of_ble_eq_true rfl) (fun Z hC hR hI => ?_)
  change am_W Z 0 0 0 [.ref (3), .int (D), .int (C), .ref (40), .null] [] h
  refine am_aload_n hC dL_room_0 rfl ?_
  refine am_iconst (v := nI 0) hC dL_room_1 (by decide) ?_
  refine am_aload_n hC dL_room_2 rfl ?_
  refine am_iload_n hC dL_room_3 rfl ?_
  refine am_iload_n hC dL_room_4 rfl ?_
  have hx : ∀ (X : String) (h1 : am_H), (h1 = h ∧ EX ["java/lang/IndexOutOfBoundsException", "java/lang/IllegalArgumentException", "java/lang/IllegalStateException"] (k3 (IX n D) (IX 25 C) true) X) → am_le h h1 → am_WX Z (0 + 8) (0 + 48) 5 [.ref (3), .int (D), .int (C), .ref (40), .null] [.int (nI 0), .ref (40)] h1 X := by
    intro X h1 hE hle
    obtain ⟨e, i, hK, hX⟩ := hE
    have e : am_eq FS h h1 := by rw [e]; exact am_eq_rf _ _
    obtain _ | _ | _ | i := i
    · obtain rfl : _ = X := Option.some.inj hX
      refine am_catch hC hR [] ⟨0, 10, 13, 19⟩ [⟨0, 10, 17, 21⟩] rfl (fun z hz => nomatch hz) (by decide) (by decide) tw_327 tw_339 (i := 4) (len := 2) (by decide) (Or.inl ⟨dL_room_13, rfl⟩) ?_
      change am_W Z _ _ 15 [.ref (3), .int (D), .int (C), .ref (40), .null] [] _
      refine am_iconst (v := nI 1) hC dL_room_15 (by decide) ?_
      refine am_iret hC hR rfl (by decide) (by decide) dL_room_16 ?_
      exact po_x hK (by decide) e hle
    · obtain rfl : _ = X := Option.some.inj hX
      refine am_catch hC hR [⟨0, 10, 13, 19⟩] ⟨0, 10, 17, 21⟩ [] rfl (fun z hz => by obtain rfl := List.mem_singleton.mp hz; exact ⟨"java/lang/IndexOutOfBoundsException", by decide, tw_327, by decide⟩) (by decide) (by decide) tw_328 tw_358 (i := 4) (len := 2) (by decide) (Or.inl ⟨dL_room_17, rfl⟩) ?_
      change am_W Z _ _ 19 [.ref (3), .int (D), .int (C), .ref (40), .null] [] _
      refine am_iconst (v := nI 2) hC dL_room_19 (by decide) ?_
      refine am_iret hC hR rfl (by decide) (by decide) dL_room_20 ?_
      exact po_x hK (by decide) e hle
    · exact absurd hK (k3_t3)
    · exact nomatch hX
  refine am_callV hC (ci := 6) (N := 4) [.int (D), .int (C)] rfl (FC_3 hci) rfl mf_X5_room tw_478 (c_X5_room _ _ (am_tr hC) h n np nq hci D C) rfl ⟨rfl, Nat.le_of_ble_eq_true rfl⟩ ⟨by decide, by decide⟩ (by decide) (by decide) dL_room_5 rfl hx (fun v h1 hp hlc => ?_)
  obtain ⟨x, hv, hK, hQ⟩ : ∃ x, v = some (.int x) ∧ k3 (IX n D) (IX 25 C) true = 0 ∧ (fun (x : Int32) (h1 : am_H) => am_eq FS h h1 ∧ VM (sdH h (dn D)) (dn C) x) x h1 := by
    obtain ⟨hK, e, x, rfl, hV⟩ := hp
    exact ⟨x, rfl, hK, e, hV⟩
  subst hv
  have hO : OA h1 := OA_le hlc ho
  refine am_i2l hC dL_room_8 ?_
  refine am_last hC (j := 0) (N := 1) hO.1 hO.2 rfl (by decide) (by decide) dL_room_9 ?_
  refine am_goto (tgt := 21) hC dL_room_10 (by decide) ?_
  refine am_iconst (v := nI 0) hC dL_room_21 (by decide) ?_
  refine am_iret hC hR rfl (by decide) (by decide) dL_room_22 ?_
  exact po_n hK hlc rfl hQ
set_option maxRecDepth 100000 in
set_option maxHeartbeats 4000000 in
theorem c_L_size (G : am_G) (l : Launch) (htr : l.stackTraces = false) (h : am_H) (n np nq : Nat) (hci : CI h n np nq) (ho : OA h) (D : Int32) (C : Int32) : am_Met G l yL_size (.codeWith yL_size cL_size 5 (some .int) [((0 : Nat), (10 : Nat), (13 : Nat), (19 : Nat)), ((0 : Nat), (10 : Nat), (17 : Nat), (21 : Nat))]) 12 8 48 [.ref (3), .int (D), .int (C), .ref (40)] h (PO (k3 (IX n D) (IX 25 C) true) h (fun (x : Int32) (h1 : am_H) => am_eq FS h h1 ∧ VS (sdH h (dn D)) (dn C) x)) (am_no) := by
  refine am_introW rfl htr rfl (Nat.le_of_ble_eq_true rfl) (fun Z hC hR hI => ?_)
  change am_W Z 0 0 0 [.ref (3), .int (D), .int (C), .ref (40), .null] [] h
  refine am_aload_n hC dL_size_0 rfl ?_
  refine am_iconst (v := nI 0) hC dL_size_1 (by decide) ?_
  refine am_aload_n hC dL_size_2 rfl ?_
  refine am_iload_n hC dL_size_3 rfl ?_
  refine am_iload_n hC dL_size_4 rfl ?_
  have hx : ∀ (X : String) (h1 : am_H), (h1 = h ∧ EX ["java/lang/IndexOutOfBoundsException", "java/lang/IllegalArgumentException", "java/lang/IllegalStateException"] (k3 (IX n D) (IX 25 C) true) X) → am_le h h1 → am_WX Z (0 + 8) (0 + 48) 5 [.ref (3), .int (D), .int (C), .ref (40), .null] [.int (nI 0), .ref (40)] h1 X := by
    intro X h1 hE hle
    obtain ⟨e, i, hK, hX⟩ := hE
    have e : am_eq FS h h1 := by rw [e]; exact am_eq_rf _ _
    obtain _ | _ | _ | i := i
    · obtain rfl : _ = X := Option.some.inj hX
      refine am_catch hC hR [] ⟨0, 10, 13, 19⟩ [⟨0, 10, 17, 21⟩] rfl (fun z hz => nomatch hz) (by decide) (by decide) tw_327 tw_339 (i := 4) (len := 2) (by decide) (Or.inl ⟨dL_size_13, rfl⟩) ?_
      change am_W Z _ _ 15 [.ref (3), .int (D), .int (C), .ref (40), .null] [] _
      refine am_iconst (v := nI 1) hC dL_size_15 (by decide) ?_
      refine am_iret hC hR rfl (by decide) (by decide) dL_size_16 ?_
      exact po_x hK (by decide) e hle
    · obtain rfl : _ = X := Option.some.inj hX
      refine am_catch hC hR [⟨0, 10, 13, 19⟩] ⟨0, 10, 17, 21⟩ [] rfl (fun z hz => by obtain rfl := List.mem_singleton.mp hz; exact ⟨"java/lang/IndexOutOfBoundsException", by decide, tw_327, by decide⟩) (by decide) (by decide) tw_328 tw_358 (i := 4) (len := 2) (by decide) (Or.inl ⟨dL_size_17, rfl⟩) ?_
      change am_W Z _ _ 19 [.ref (3), .int (D), .int (C), .ref (40), .null] [] _
      refine am_iconst (v := nI 2) hC dL_size_19 (by decide) ?_
      refine am_iret hC hR rfl (by decide) (by decide) dL_size_20 ?_
      exact po_x hK (by decide) e hle
    · exact absurd hK (k3_t3)
    · exact nomatch hX
  refine am_callV hC (ci := 6) (N := 4) [.int (D), .int (C)] rfl (FC_3 hci) rfl mf_X5_size tw_485 (c_X5_size _ _ (am_tr hC) h n np nq hci D C) rfl ⟨rfl, Nat.le_of_ble_eq_true rfl⟩ ⟨by decide, by decide⟩ (by decide) (by decide) dL_size_5 rfl hx (fun v h1 hp hlc => ?_)
  obtain ⟨x, hv, hK, hQ⟩ : ∃ x, v = some (.int x) ∧ k3 (IX n D) (IX 25 C) true = 0 ∧ (fun (x : Int32) (h1 : am_H) => am_eq FS h h1 ∧ VS (sdH h (dn D)) (dn C) x) x h1 := by
    obtain ⟨hK, e, x, rfl, hV⟩ := hp
    exact ⟨x, rfl, hK, e, hV⟩
  subst hv
  have hO : OA h1 := OA_le hlc ho
  refine am_i2l hC dL_size_8 ?_
  refine am_last hC (j := 0) (N := 1) hO.1 hO.2 rfl (by decide) (by decide) dL_size_9 ?_
  refine am_goto (tgt := 21) hC dL_size_10 (by decide) ?_
  refine am_iconst (v := nI 0) hC dL_size_21 (by decide) ?_
  refine am_iret hC hR rfl (by decide) (by decide) dL_size_22 ?_
  exact po_n hK hlc rfl hQ
set_option maxRecDepth 100000 in
set_option maxHeartbeats 4000000 in
theorem c_L_doorsOut (G : am_G) (l : Launch) (htr : l.stackTraces = false) (h : am_H) (n np nq : Nat) (hci : CI h n np nq) (ho : OA h) (D : Int32) (C : Int32) : am_Met G l yL_doorsOut (.codeWith yL_doorsOut cL_doorsOut 5 (some .int) [((0 : Nat), (10 : Nat), (13 : Nat), (19 : Nat)), ((0 : Nat), (10 : Nat), (17 : Nat), (21 : Nat))]) 12 8 48 [.ref (3), .int (D), .int (C), .ref (40)] h (PO (k3 (IX n D) (IX 25 C) true) h (fun (x : Int32) (h1 : am_H) => am_eq FS h h1 ∧ VD (sdH h (dn D)) (exH h (dn D)) (dn C) x)) (am_no) := by
  refine am_introW rfl htr rfl (Nat.le_of_ble_eq_true rfl) (fun Z hC hR hI => ?_)
  change am_W Z 0 0 0 [.ref (3), .int (D), .int (C), .ref (40), .null] [] h
  refine am_aload_n hC dL_doorsOut_0 rfl ?_
  refine am_iconst (v := nI 0) hC dL_doorsOut_1 (by decide) ?_
  refine am_aload_n hC dL_doorsOut_2 rfl ?_
  refine am_iload_n hC dL_doorsOut_3 rfl ?_
  refine am_iload_n hC dL_doorsOut_4 rfl ?_
  have hx : ∀ (X : String) (h1 : am_H), (h1 = h ∧ EX ["java/lang/IndexOutOfBoundsException", "java/lang/IllegalArgumentException", "java/lang/IllegalStateException"] (k3 (IX n D) (IX 25 C) true) X) → am_le h h1 → am_WX Z (0 + 8) (0 + 48) 5 [.ref (3), .int (D), .int (C), .ref (40), .null] [.int (nI 0), .ref (40)] h1 X := by
    intro X h1 hE hle
    obtain ⟨e, i, hK, hX⟩ := hE
    have e : am_eq FS h h1 := by rw [e]; exact am_eq_rf _ _
    obtain _ | _ | _ | i := i
    · obtain rfl : _ = X := Option.some.inj hX
      refine am_catch hC hR [] ⟨0, 10, 13, 19⟩ [⟨0, 10, 17, 21⟩] rfl (fun z hz => nomatch hz) (by decide) (by decide) tw_327 tw_339 (i := 4) (len := 2) (by decide) (Or.inl ⟨dL_doorsOut_13, rfl⟩) ?_
      change am_W Z _ _ 15 [.ref (3), .int (D), .int (C), .ref (40), .null] [] _
      refine am_iconst (v := nI 1) hC dL_doorsOut_15 (by decide) ?_
      refine am_iret hC hR rfl (by decide) (by decide) dL_doorsOut_16 ?_
      exact po_x hK (by decide) e hle
    · obtain rfl : _ = X := Option.some.inj hX
      refine am_catch hC hR [⟨0, 10, 13, 19⟩] ⟨0, 10, 17, 21⟩ [] rfl (fun z hz => by obtain rfl := List.mem_singleton.mp hz; exact ⟨"java/lang/IndexOutOfBoundsException", by decide, tw_327, by decide⟩) (by decide) (by decide) tw_328 tw_358 (i := 4) (len := 2) (by decide) (Or.inl ⟨dL_doorsOut_17, rfl⟩) ?_
      change am_W Z _ _ 19 [.ref (3), .int (D), .int (C), .ref (40), .null] [] _
      refine am_iconst (v := nI 2) hC dL_doorsOut_19 (by decide) ?_
      refine am_iret hC hR rfl (by decide) (by decide) dL_doorsOut_20 ?_
      exact po_x hK (by decide) e hle
    · exact absurd hK (k3_t3)
    · exact nomatch hX
  refine am_callV hC (ci := 6) (N := 4) [.int (D), .int (C)] rfl (FC_3 hci) rfl mf_X5_doorsOut tw_496 (c_X5_doorsOut _ _ (am_tr hC) h n np nq hci D C) rfl ⟨rfl, Nat.le_of_ble_eq_true rfl⟩ ⟨by decide, by decide⟩ (by decide) (by decide) dL_doorsOut_5 rfl hx (fun v h1 hp hlc => ?_)
  obtain ⟨x, hv, hK, hQ⟩ : ∃ x, v = some (.int x) ∧ k3 (IX n D) (IX 25 C) true = 0 ∧ (fun (x : Int32) (h1 : am_H) => am_eq FS h h1 ∧ VD (sdH h (dn D)) (exH h (dn D)) (dn C) x) x h1 := by
    obtain ⟨hK, e, x, rfl, hV⟩ := hp
    exact ⟨x, rfl, hK, e, hV⟩
  subst hv
  have hO : OA h1 := OA_le hlc ho
  refine am_i2l hC dL_doorsOut_8 ?_
  refine am_last hC (j := 0) (N := 1) hO.1 hO.2 rfl (by decide) (by decide) dL_doorsOut_9 ?_
  refine am_goto (tgt := 21) hC dL_doorsOut_10 (by decide) ?_
  refine am_iconst (v := nI 0) hC dL_doorsOut_21 (by decide) ?_
  refine am_iret hC hR rfl (by decide) (by decide) dL_doorsOut_22 ?_
  exact po_n hK hlc rfl hQ
set_option maxRecDepth 100000 in
set_option maxHeartbeats 4000000 in
theorem c_L_doorThatHelps (G : am_G) (l : Launch) (htr : l.stackTraces = false) (h : am_H) (n np nq : Nat) (hci : CI h n np nq) (ho : OA h) (D : Int32) (C : Int32) : am_Met G l yL_doorThatHelps (.codeWith yL_doorThatHelps cL_doorThatHelps 5 (some .int) [((0 : Nat), (10 : Nat), (13 : Nat), (19 : Nat)), ((0 : Nat), (10 : Nat), (17 : Nat), (21 : Nat))]) 12 8 48 [.ref (3), .int (D), .int (C), .ref (40)] h (PO (k3 (IX n D) (IX 25 C) true) h (fun (x : Int32) (h1 : am_H) => am_eq FS h h1 ∧ VH (sdH h (dn D)) (exH h (dn D)) (dn C) x)) (am_no) := by
  refine am_introW rfl htr rfl (Nat.le_of_ble_eq_true rfl) (fun Z hC hR hI => ?_)
  change am_W Z 0 0 0 [.ref (3), .int (D), .int (C), .ref (40), .null] [] h
  refine am_aload_n hC dL_doorThatHelps_0 rfl ?_
  refine am_iconst (v := nI 0) hC dL_doorThatHelps_1 (by decide) ?_
  refine am_aload_n hC dL_doorThatHelps_2 rfl ?_
  refine am_iload_n hC dL_doorThatHelps_3 rfl ?_
  refine am_iload_n hC dL_doorThatHelps_4 rfl ?_
  have hx : ∀ (X : String) (h1 : am_H), (h1 = h ∧ EX ["java/lang/IndexOutOfBoundsException", "java/lang/IllegalArgumentException", "java/lang/IllegalStateException"] (k3 (IX n D) (IX 25 C) true) X) → am_le h h1 → am_WX Z (0 + 8) (0 + 48) 5 [.ref (3), .int (D), .int (C), .ref (40), .null] [.int (nI 0), .ref (40)] h1 X := by
    intro X h1 hE hle
    obtain ⟨e, i, hK, hX⟩ := hE
    have e : am_eq FS h h1 := by rw [e]; exact am_eq_rf _ _
    obtain _ | _ | _ | i := i
    · obtain rfl : _ = X := Option.some.inj hX
      refine am_catch hC hR [] ⟨0, 10, 13, 19⟩ [⟨0, 10, 17, 21⟩] rfl (fun z hz => nomatch hz) (by decide) (by decide) tw_327 tw_339 (i := 4) (len := 2) (by decide) (Or.inl ⟨dL_doorThatHelps_13, rfl⟩) ?_
      change am_W Z _ _ 15 [.ref (3), .int (D), .int (C), .ref (40), .null] [] _
      refine am_iconst (v := nI 1) hC dL_doorThatHelps_15 (by decide) ?_
      refine am_iret hC hR rfl (by decide) (by decide) dL_doorThatHelps_16 ?_
      exact po_x hK (by decide) e hle
    · obtain rfl : _ = X := Option.some.inj hX
      refine am_catch hC hR [⟨0, 10, 13, 19⟩] ⟨0, 10, 17, 21⟩ [] rfl (fun z hz => by obtain rfl := List.mem_singleton.mp hz; exact ⟨"java/lang/IndexOutOfBoundsException", by decide, tw_327, by decide⟩) (by decide) (by decide) tw_328 tw_358 (i := 4) (len := 2) (by decide) (Or.inl ⟨dL_doorThatHelps_17, rfl⟩) ?_
      change am_W Z _ _ 19 [.ref (3), .int (D), .int (C), .ref (40), .null] [] _
      refine am_iconst (v := nI 2) hC dL_doorThatHelps_19 (by decide) ?_
      refine am_iret hC hR rfl (by decide) (by decide) dL_doorThatHelps_20 ?_
      exact po_x hK (by decide) e hle
    · exact absurd hK (k3_t3)
    · exact nomatch hX
  refine am_callV hC (ci := 6) (N := 4) [.int (D), .int (C)] rfl (FC_3 hci) rfl mf_X5_doorThatHelps tw_503 (c_X5_doorThatHelps _ _ (am_tr hC) h n np nq hci D C) rfl ⟨rfl, Nat.le_of_ble_eq_true rfl⟩ ⟨by decide, by decide⟩ (by decide) (by decide) dL_doorThatHelps_5 rfl hx (fun v h1 hp hlc => ?_)
  obtain ⟨x, hv, hK, hQ⟩ : ∃ x, v = some (.int x) ∧ k3 (IX n D) (IX 25 C) true = 0 ∧ (fun (x : Int32) (h1 : am_H) => am_eq FS h h1 ∧ VH (sdH h (dn D)) (exH h (dn D)) (dn C) x) x h1 := by
    obtain ⟨hK, e, x, rfl, hV⟩ := hp
    exact ⟨x, rfl, hK, e, hV⟩
  subst hv
  have hO : OA h1 := OA_le hlc ho
  refine am_i2l hC dL_doorThatHelps_8 ?_
  refine am_last hC (j := 0) (N := 1) hO.1 hO.2 rfl (by decide) (by decide) dL_doorThatHelps_9 ?_
  refine am_goto (tgt := 21) hC dL_doorThatHelps_10 (by decide) ?_
  refine am_iconst (v := nI 0) hC dL_doorThatHelps_21 (by decide) ?_
  refine am_iret hC hR rfl (by decide) (by decide) dL_doorThatHelps_22 ?_
  exact po_n hK hlc rfl hQ
set_option maxRecDepth 100000 in
set_option maxHeartbeats 4000000 in
theorem c_L_lock (G : am_G) (l : Launch) (htr : l.stackTraces = false) (h : am_H) (n np nq : Nat) (hci : CI h n np nq) (D : Int32) (P : Int32) : am_Met G l yL_lock (.codeWith yL_lock cL_lock 4 (some .int) [((0 : Nat), (6 : Nat), (9 : Nat), (19 : Nat)), ((0 : Nat), (6 : Nat), (12 : Nat), (21 : Nat)), ((0 : Nat), (6 : Nat), (15 : Nat), (13 : Nat))]) 10 8 48 [.ref (3), .int (D), .int (P)] h (PN (k3 (IX n D) (IX 6 P) (decide (hi_ h (100 + 4 * dn D) 3 = -1))) h (fun (h1 : am_H) => h1 = am_sI h (100 + 4 * dn D) 3 P)) (am_no) := by
  refine am_introW rfl htr rfl (Nat.le_of_ble_eq_true rfl) (fun Z hC hR hI => ?_)
  change am_W Z 0 0 0 [.ref (3), .int (D), .int (P), .null] [] h
  refine am_aload_n hC dL_lock_0 rfl ?_
  refine am_iload_n hC dL_lock_1 rfl ?_
  refine am_iload_n hC dL_lock_2 rfl ?_
  have hx : ∀ (X : String) (h1 : am_H), (h1 = h ∧ EX ["java/lang/IndexOutOfBoundsException", "java/lang/IllegalArgumentException", "java/lang/IllegalStateException"] (k3 (IX n D) (IX 6 P) (decide (hi_ h (100 + 4 * dn D) 3 = -1))) X) → am_le h h1 → am_WX Z (0 + 8) (0 + 48) 3 [.ref (3), .int (D), .int (P), .null] [] h1 X := by
    intro X h1 hE hle
    obtain ⟨e, i, hK, hX⟩ := hE
    have e : am_eq FS h h1 := by rw [e]; exact am_eq_rf _ _
    obtain _ | _ | _ | i := i
    · obtain rfl : _ = X := Option.some.inj hX
      refine am_catch hC hR [] ⟨0, 6, 9, 19⟩ [⟨0, 6, 12, 21⟩, ⟨0, 6, 15, 13⟩] rfl (fun z hz => nomatch hz) (by decide) (by decide) tw_327 tw_339 (i := 3) (len := 1) (by decide) (Or.inr ⟨3, rfl, dL_lock_9, rfl⟩) ?_
      change am_W Z _ _ 10 [.ref (3), .int (D), .int (P), .null] [] _
      refine am_iconst (v := nI 1) hC dL_lock_10 (by decide) ?_
      refine am_iret hC hR rfl (by decide) (by decide) dL_lock_11 ?_
      exact po_x hK (by decide) e hle
    · obtain rfl : _ = X := Option.some.inj hX
      refine am_catch hC hR [⟨0, 6, 9, 19⟩] ⟨0, 6, 12, 21⟩ [⟨0, 6, 15, 13⟩] rfl (fun z hz => by obtain rfl := List.mem_singleton.mp hz; exact ⟨"java/lang/IndexOutOfBoundsException", by decide, tw_327, by decide⟩) (by decide) (by decide) tw_328 tw_358 (i := 3) (len := 1) (by decide) (Or.inr ⟨3, rfl, dL_lock_12, rfl⟩) ?_
      change am_W Z _ _ 13 [.ref (3), .int (D), .int (P), .null] [] _
      refine am_iconst (v := nI 2) hC dL_lock_13 (by decide) ?_
      refine am_iret hC hR rfl (by decide) (by decide) dL_lock_14 ?_
      exact po_x hK (by decide) e hle
    · obtain rfl : _ = X := Option.some.inj hX
      refine am_catch hC hR [⟨0, 6, 9, 19⟩, ⟨0, 6, 12, 21⟩] ⟨0, 6, 15, 13⟩ [] rfl (fun z hz => by rcases List.mem_cons.mp hz with rfl | hz; exact ⟨"java/lang/IndexOutOfBoundsException", by decide, tw_327, by decide⟩; obtain rfl := List.mem_singleton.mp hz; exact ⟨"java/lang/IllegalArgumentException", by decide, tw_328, by decide⟩) (by decide) (by decide) tw_162 tw_169 (i := 3) (len := 1) (by decide) (Or.inr ⟨3, rfl, dL_lock_15, rfl⟩) ?_
      change am_W Z _ _ 16 [.ref (3), .int (D), .int (P), .null] [] _
      refine am_iconst (v := nI 3) hC dL_lock_16 (by decide) ?_
      refine am_iret hC hR rfl (by decide) (by decide) dL_lock_17 ?_
      exact po_x hK (by decide) e hle
    · exact nomatch hX
  refine am_callV hC (ci := 6) (N := 4) [.int (D), .int (P)] rfl (FC_3 hci) rfl mf_X5_lock tw_518 (c_X5_lock _ _ (am_tr hC) h n np nq hci D P) rfl ⟨rfl, Nat.le_of_ble_eq_true rfl⟩ ⟨by decide, by decide⟩ (by decide) (by decide) dL_lock_3 rfl hx (fun v h1 hp hlc => ?_)
  obtain ⟨hv, hK, hQ⟩ : v = none ∧ k3 (IX n D) (IX 6 P) (decide (hi_ h (100 + 4 * dn D) 3 = -1)) = 0 ∧ (fun (h1 : am_H) => h1 = am_sI h (100 + 4 * dn D) 3 P) h1 := by
    obtain ⟨hK, e0, e⟩ := hp
    exact ⟨e0, hK, e⟩
  subst hv
  refine am_goto (tgt := 18) hC dL_lock_6 (by decide) ?_
  refine am_iconst (v := nI 0) hC dL_lock_18 (by decide) ?_
  refine am_iret hC hR rfl (by decide) (by decide) dL_lock_19 ?_
  exact pn_n hK hlc hQ
set_option maxRecDepth 100000 in
set_option maxHeartbeats 4000000 in
theorem c_L_unlock (G : am_G) (l : Launch) (htr : l.stackTraces = false) (h : am_H) (n np nq : Nat) (hci : CI h n np nq) (D : Int32) (P : Int32) : am_Met G l yL_unlock (.codeWith yL_unlock cL_unlock 4 (some .int) [((0 : Nat), (6 : Nat), (9 : Nat), (19 : Nat)), ((0 : Nat), (6 : Nat), (12 : Nat), (21 : Nat)), ((0 : Nat), (6 : Nat), (15 : Nat), (13 : Nat))]) 10 8 48 [.ref (3), .int (D), .int (P)] h (PN (k3 (IX n D) (IX 6 P) (decide (hi_ h (100 + 4 * dn D) 3 = P) && decide (hi_ h (100 + 4 * dn D) 4 = -1))) h (fun (h1 : am_H) => h1 = am_sI h (100 + 4 * dn D) 3 (-1))) (am_no) := by
  refine am_introW rfl htr rfl (Nat.le_of_ble_eq_true rfl) (fun Z hC hR hI => ?_)
  change am_W Z 0 0 0 [.ref (3), .int (D), .int (P), .null] [] h
  refine am_aload_n hC dL_unlock_0 rfl ?_
  refine am_iload_n hC dL_unlock_1 rfl ?_
  refine am_iload_n hC dL_unlock_2 rfl ?_
  have hx : ∀ (X : String) (h1 : am_H), (h1 = h ∧ EX ["java/lang/IndexOutOfBoundsException", "java/lang/IllegalArgumentException", "java/lang/IllegalStateException"] (k3 (IX n D) (IX 6 P) (decide (hi_ h (100 + 4 * dn D) 3 = P) && decide (hi_ h (100 + 4 * dn D) 4 = -1))) X) → am_le h h1 → am_WX Z (0 + 8) (0 + 48) 3 [.ref (3), .int (D), .int (P), .null] [] h1 X := by
    intro X h1 hE hle
    obtain ⟨e, i, hK, hX⟩ := hE
    have e : am_eq FS h h1 := by rw [e]; exact am_eq_rf _ _
    obtain _ | _ | _ | i := i
    · obtain rfl : _ = X := Option.some.inj hX
      refine am_catch hC hR [] ⟨0, 6, 9, 19⟩ [⟨0, 6, 12, 21⟩, ⟨0, 6, 15, 13⟩] rfl (fun z hz => nomatch hz) (by decide) (by decide) tw_327 tw_339 (i := 3) (len := 1) (by decide) (Or.inr ⟨3, rfl, dL_unlock_9, rfl⟩) ?_
      change am_W Z _ _ 10 [.ref (3), .int (D), .int (P), .null] [] _
      refine am_iconst (v := nI 1) hC dL_unlock_10 (by decide) ?_
      refine am_iret hC hR rfl (by decide) (by decide) dL_unlock_11 ?_
      exact po_x hK (by decide) e hle
    · obtain rfl : _ = X := Option.some.inj hX
      refine am_catch hC hR [⟨0, 6, 9, 19⟩] ⟨0, 6, 12, 21⟩ [⟨0, 6, 15, 13⟩] rfl (fun z hz => by obtain rfl := List.mem_singleton.mp hz; exact ⟨"java/lang/IndexOutOfBoundsException", by decide, tw_327, by decide⟩) (by decide) (by decide) tw_328 tw_358 (i := 3) (len := 1) (by decide) (Or.inr ⟨3, rfl, dL_unlock_12, rfl⟩) ?_
      change am_W Z _ _ 13 [.ref (3), .int (D), .int (P), .null] [] _
      refine am_iconst (v := nI 2) hC dL_unlock_13 (by decide) ?_
      refine am_iret hC hR rfl (by decide) (by decide) dL_unlock_14 ?_
      exact po_x hK (by decide) e hle
    · obtain rfl : _ = X := Option.some.inj hX
      refine am_catch hC hR [⟨0, 6, 9, 19⟩, ⟨0, 6, 12, 21⟩] ⟨0, 6, 15, 13⟩ [] rfl (fun z hz => by rcases List.mem_cons.mp hz with rfl | hz; exact ⟨"java/lang/IndexOutOfBoundsException", by decide, tw_327, by decide⟩; obtain rfl := List.mem_singleton.mp hz; exact ⟨"java/lang/IllegalArgumentException", by decide, tw_328, by decide⟩) (by decide) (by decide) tw_162 tw_169 (i := 3) (len := 1) (by decide) (Or.inr ⟨3, rfl, dL_unlock_15, rfl⟩) ?_
      change am_W Z _ _ 16 [.ref (3), .int (D), .int (P), .null] [] _
      refine am_iconst (v := nI 3) hC dL_unlock_16 (by decide) ?_
      refine am_iret hC hR rfl (by decide) (by decide) dL_unlock_17 ?_
      exact po_x hK (by decide) e hle
    · exact nomatch hX
  refine am_callV hC (ci := 6) (N := 4) [.int (D), .int (P)] rfl (FC_3 hci) rfl mf_X5_unlock tw_526 (c_X5_unlock _ _ (am_tr hC) h n np nq hci D P) rfl ⟨rfl, Nat.le_of_ble_eq_true rfl⟩ ⟨by decide, by decide⟩ (by decide) (by decide) dL_unlock_3 rfl hx (fun v h1 hp hlc => ?_)
  obtain ⟨hv, hK, hQ⟩ : v = none ∧ k3 (IX n D) (IX 6 P) (decide (hi_ h (100 + 4 * dn D) 3 = P) && decide (hi_ h (100 + 4 * dn D) 4 = -1)) = 0 ∧ (fun (h1 : am_H) => h1 = am_sI h (100 + 4 * dn D) 3 (-1)) h1 := by
    obtain ⟨hK, e0, e⟩ := hp
    exact ⟨e0, hK, e⟩
  subst hv
  refine am_goto (tgt := 18) hC dL_unlock_6 (by decide) ?_
  refine am_iconst (v := nI 0) hC dL_unlock_18 (by decide) ?_
  refine am_iret hC hR rfl (by decide) (by decide) dL_unlock_19 ?_
  exact pn_n hK hlc hQ
set_option maxRecDepth 100000 in
set_option maxHeartbeats 4000000 in
theorem c_L_lend (G : am_G) (l : Launch) (htr : l.stackTraces = false) (h : am_H) (n np nq : Nat) (hci : CI h n np nq) (ho : OA h) (D : Int32) (P : Int32) (O : Int32) : am_Met G l yL_lend (.codeWith yL_lend cL_lend 6 (some .int) [((0 : Nat), (12 : Nat), (15 : Nat), (19 : Nat)), ((0 : Nat), (12 : Nat), (19 : Nat), (21 : Nat)), ((0 : Nat), (12 : Nat), (23 : Nat), (13 : Nat))]) 10 8 48 [.ref (3), .int (D), .int (P), .int (O), .ref (40)] h (PO (k3 (IX n D) (IX 6 P && ((decide (O = -1) || IX 6 O) && !decide (P = O))) (decide (hi_ h (100 + 4 * dn D) 3 = P))) h (fun (x : Int32) (h1 : am_H) => x = hi_ h (100 + 4 * dn D) 4 ∧ h1 = am_sI h (100 + 4 * dn D) 4 O)) (am_no) := by
  refine am_introW rfl htr rfl (Nat.le_of_ble_eq_true rfl) (fun Z hC hR hI => ?_)
  change am_W Z 0 0 0 [.ref (3), .int (D), .int (P), .int (O), .ref (40), .null] [] h
  refine am_aload hC dL_lend_0 rfl ?_
  refine am_iconst (v := nI 0) hC dL_lend_2 (by decide) ?_
  refine am_aload_n hC dL_lend_3 rfl ?_
  refine am_iload_n hC dL_lend_4 rfl ?_
  refine am_iload_n hC dL_lend_5 rfl ?_
  refine am_iload_n hC dL_lend_6 rfl ?_
  have hx : ∀ (X : String) (h1 : am_H), (h1 = h ∧ EX ["java/lang/IndexOutOfBoundsException", "java/lang/IllegalArgumentException", "java/lang/IllegalStateException"] (k3 (IX n D) (IX 6 P && ((decide (O = -1) || IX 6 O) && !decide (P = O))) (decide (hi_ h (100 + 4 * dn D) 3 = P))) X) → am_le h h1 → am_WX Z (0 + 8) (0 + 48) 7 [.ref (3), .int (D), .int (P), .int (O), .ref (40), .null] [.int (nI 0), .ref (40)] h1 X := by
    intro X h1 hE hle
    obtain ⟨e, i, hK, hX⟩ := hE
    have e : am_eq FS h h1 := by rw [e]; exact am_eq_rf _ _
    obtain _ | _ | _ | i := i
    · obtain rfl : _ = X := Option.some.inj hX
      refine am_catch hC hR [] ⟨0, 12, 15, 19⟩ [⟨0, 12, 19, 21⟩, ⟨0, 12, 23, 13⟩] rfl (fun z hz => nomatch hz) (by decide) (by decide) tw_327 tw_339 (i := 5) (len := 2) (by decide) (Or.inl ⟨dL_lend_15, rfl⟩) ?_
      change am_W Z _ _ 17 [.ref (3), .int (D), .int (P), .int (O), .ref (40), .null] [] _
      refine am_iconst (v := nI 1) hC dL_lend_17 (by decide) ?_
      refine am_iret hC hR rfl (by decide) (by decide) dL_lend_18 ?_
      exact po_x hK (by decide) e hle
    · obtain rfl : _ = X := Option.some.inj hX
      refine am_catch hC hR [⟨0, 12, 15, 19⟩] ⟨0, 12, 19, 21⟩ [⟨0, 12, 23, 13⟩] rfl (fun z hz => by obtain rfl := List.mem_singleton.mp hz; exact ⟨"java/lang/IndexOutOfBoundsException", by decide, tw_327, by decide⟩) (by decide) (by decide) tw_328 tw_358 (i := 5) (len := 2) (by decide) (Or.inl ⟨dL_lend_19, rfl⟩) ?_
      change am_W Z _ _ 21 [.ref (3), .int (D), .int (P), .int (O), .ref (40), .null] [] _
      refine am_iconst (v := nI 2) hC dL_lend_21 (by decide) ?_
      refine am_iret hC hR rfl (by decide) (by decide) dL_lend_22 ?_
      exact po_x hK (by decide) e hle
    · obtain rfl : _ = X := Option.some.inj hX
      refine am_catch hC hR [⟨0, 12, 15, 19⟩, ⟨0, 12, 19, 21⟩] ⟨0, 12, 23, 13⟩ [] rfl (fun z hz => by rcases List.mem_cons.mp hz with rfl | hz; exact ⟨"java/lang/IndexOutOfBoundsException", by decide, tw_327, by decide⟩; obtain rfl := List.mem_singleton.mp hz; exact ⟨"java/lang/IllegalArgumentException", by decide, tw_328, by decide⟩) (by decide) (by decide) tw_162 tw_169 (i := 5) (len := 2) (by decide) (Or.inl ⟨dL_lend_23, rfl⟩) ?_
      change am_W Z _ _ 25 [.ref (3), .int (D), .int (P), .int (O), .ref (40), .null] [] _
      refine am_iconst (v := nI 3) hC dL_lend_25 (by decide) ?_
      refine am_iret hC hR rfl (by decide) (by decide) dL_lend_26 ?_
      exact po_x hK (by decide) e hle
    · exact nomatch hX
  refine am_callV hC (ci := 6) (N := 4) [.int (D), .int (P), .int (O)] rfl (FC_3 hci) rfl mf_X5_lend tw_538 (c_X5_lend _ _ (am_tr hC) h n np nq hci D P O) rfl ⟨rfl, Nat.le_of_ble_eq_true rfl⟩ ⟨by decide, by decide⟩ (by decide) (by decide) dL_lend_7 rfl hx (fun v h1 hp hlc => ?_)
  obtain ⟨x, hv, hK, hQ⟩ : ∃ x, v = some (.int x) ∧ k3 (IX n D) (IX 6 P && ((decide (O = -1) || IX 6 O) && !decide (P = O))) (decide (hi_ h (100 + 4 * dn D) 3 = P)) = 0 ∧ (fun (x : Int32) (h1 : am_H) => x = hi_ h (100 + 4 * dn D) 4 ∧ h1 = am_sI h (100 + 4 * dn D) 4 O) x h1 := by
    obtain ⟨hK, rfl, e⟩ := hp
    exact ⟨_, rfl, hK, rfl, e⟩
  subst hv
  have hO : OA h1 := OA_le hlc ho
  refine am_i2l hC dL_lend_10 ?_
  refine am_last hC (j := 0) (N := 1) hO.1 hO.2 rfl (by decide) (by decide) dL_lend_11 ?_
  refine am_goto (tgt := 27) hC dL_lend_12 (by decide) ?_
  refine am_iconst (v := nI 0) hC dL_lend_27 (by decide) ?_
  refine am_iret hC hR rfl (by decide) (by decide) dL_lend_28 ?_
  exact po_n hK hlc rfl hQ
set_option maxRecDepth 100000 in
set_option maxHeartbeats 4000000 in
theorem c_L_canChange (G : am_G) (l : Launch) (htr : l.stackTraces = false) (h : am_H) (n np nq : Nat) (hci : CI h n np nq) (ho : OA h) (D : Int32) : am_Met G l yL_canChange (.codeWith yL_canChange cL_canChange 4 (some .int) [((0 : Nat), (9 : Nat), (12 : Nat), (19 : Nat))]) 10 8 48 [.ref (3), .int (D), .ref (40)] h (PO (k3 (IX n D) true true) h (fun (x : Int32) (h1 : am_H) => x = chg h (dn D) ∧ h1 = h)) (am_no) := by
  refine am_introW rfl htr rfl (Nat.le_of_ble_eq_true rfl) (fun Z hC hR hI => ?_)
  change am_W Z 0 0 0 [.ref (3), .int (D), .ref (40), .null] [] h
  refine am_aload_n hC dL_canChange_0 rfl ?_
  refine am_iconst (v := nI 0) hC dL_canChange_1 (by decide) ?_
  refine am_aload_n hC dL_canChange_2 rfl ?_
  refine am_iload_n hC dL_canChange_3 rfl ?_
  have hx : ∀ (X : String) (h1 : am_H), (h1 = h ∧ EX ["java/lang/IndexOutOfBoundsException", "java/lang/IllegalArgumentException", "java/lang/IllegalStateException"] (k3 (IX n D) true true) X) → am_le h h1 → am_WX Z (0 + 8) (0 + 48) 4 [.ref (3), .int (D), .ref (40), .null] [.int (nI 0), .ref (40)] h1 X := by
    intro X h1 hE hle
    obtain ⟨e, i, hK, hX⟩ := hE
    have e : am_eq FS h h1 := by rw [e]; exact am_eq_rf _ _
    obtain _ | _ | _ | i := i
    · obtain rfl : _ = X := Option.some.inj hX
      refine am_catch hC hR [] ⟨0, 9, 12, 19⟩ [] rfl (fun z hz => nomatch hz) (by decide) (by decide) tw_327 tw_339 (i := 3) (len := 1) (by decide) (Or.inr ⟨3, rfl, dL_canChange_12, rfl⟩) ?_
      change am_W Z _ _ 13 [.ref (3), .int (D), .ref (40), .null] [] _
      refine am_iconst (v := nI 1) hC dL_canChange_13 (by decide) ?_
      refine am_iret hC hR rfl (by decide) (by decide) dL_canChange_14 ?_
      exact po_x hK (by decide) e hle
    · exact absurd hK (k3_tt1)
    · exact absurd hK (k3_t3)
    · exact nomatch hX
  refine am_callV hC (ci := 6) (N := 4) [.int (D)] rfl (FC_3 hci) rfl mf_X5_canChange tw_546 (c_X5_canChange _ _ (am_tr hC) h n np nq hci D) rfl ⟨rfl, Nat.le_of_ble_eq_true rfl⟩ ⟨by decide, by decide⟩ (by decide) (by decide) dL_canChange_4 rfl hx (fun v h1 hp hlc => ?_)
  obtain ⟨x, hv, hK, hQ⟩ : ∃ x, v = some (.int x) ∧ k3 (IX n D) true true = 0 ∧ (fun (x : Int32) (h1 : am_H) => x = chg h (dn D) ∧ h1 = h) x h1 := by
    obtain ⟨hK, rfl, e⟩ := hp
    exact ⟨_, rfl, hK, rfl, e⟩
  subst hv
  have hO : OA h1 := OA_le hlc ho
  refine am_i2l hC dL_canChange_7 ?_
  refine am_last hC (j := 0) (N := 1) hO.1 hO.2 rfl (by decide) (by decide) dL_canChange_8 ?_
  refine am_goto (tgt := 15) hC dL_canChange_9 (by decide) ?_
  refine am_iconst (v := nI 0) hC dL_canChange_15 (by decide) ?_
  refine am_iret hC hR rfl (by decide) (by decide) dL_canChange_16 ?_
  exact po_n hK hlc rfl hQ
set_option maxRecDepth 100000 in
set_option maxHeartbeats 4000000 in
theorem c_L_grant (G : am_G) (l : Launch) (htr : l.stackTraces = false) (h : am_H) (n np nq : Nat) (hci : CI h n np nq) (ho : OA h) (D : Int32) (R : Bool) (hVR : VW (sdH h (dn D)) (exH h (dn D)) R) : am_Met G l yL_grant (.codeWith yL_grant cL_grant 4 (some .int) [((0 : Nat), (9 : Nat), (12 : Nat), (19 : Nat)), ((0 : Nat), (9 : Nat), (15 : Nat), (13 : Nat))]) 12 10 190 [.ref (3), .int (D), .ref (40)] h (PO (k3 (IX n D) (decide (np < 20) && R) true) h (fun (x : Int32) (h1 : am_H) => x = nI np ∧ am_eq (SG np) h h1 ∧ CI h1 n (np + 1) nq ∧ pdH h1 np = dn D ∧ (∀ s, s < 40 → hi_ h1 (202 + 4 * np) s = sdH h (dn D) s) ∧ ∀ k, k < 25 → hi_ h1 (203 + 4 * np) k = b2i (exH h (dn D) k))) (am_no) := by
  refine am_introW rfl htr rfl (Nat.le_of_ble_eq_true rfl) (fun Z hC hR hI => ?_)
  change am_W Z 0 0 0 [.ref (3), .int (D), .ref (40), .null] [] h
  refine am_aload_n hC dL_grant_0 rfl ?_
  refine am_iconst (v := nI 0) hC dL_grant_1 (by decide) ?_
  refine am_aload_n hC dL_grant_2 rfl ?_
  refine am_iload_n hC dL_grant_3 rfl ?_
  have hx : ∀ (X : String) (h1 : am_H), (am_eq FS h h1 ∧ am_le h h1 ∧ ∀ R : Bool, VW (sdH h (dn D)) (exH h (dn D)) R → EX ["java/lang/IndexOutOfBoundsException", "java/lang/IllegalStateException"] (k3 (IX n D) (decide (np < 20) && R) true) X) → am_le h h1 → am_WX Z (0 + 10) (0 + 190) 4 [.ref (3), .int (D), .ref (40), .null] [.int (nI 0), .ref (40)] h1 X := by
    intro X h1 hE hle
    have e := hE.1
    obtain ⟨i, hK, hX⟩ := hE.2.2 R hVR
    obtain _ | _ | i := i
    · obtain rfl : _ = X := Option.some.inj hX
      refine am_catch hC hR [] ⟨0, 9, 12, 19⟩ [⟨0, 9, 15, 13⟩] rfl (fun z hz => nomatch hz) (by decide) (by decide) tw_327 tw_339 (i := 3) (len := 1) (by decide) (Or.inr ⟨3, rfl, dL_grant_12, rfl⟩) ?_
      change am_W Z _ _ 13 [.ref (3), .int (D), .ref (40), .null] [] _
      refine am_iconst (v := nI 1) hC dL_grant_13 (by decide) ?_
      refine am_iret hC hR rfl (by decide) (by decide) dL_grant_14 ?_
      exact po_x hK (by decide) e hle
    · obtain rfl : _ = X := Option.some.inj hX
      refine am_catch hC hR [⟨0, 9, 12, 19⟩] ⟨0, 9, 15, 13⟩ [] rfl (fun z hz => by obtain rfl := List.mem_singleton.mp hz; exact ⟨"java/lang/IndexOutOfBoundsException", by decide, tw_327, by decide⟩) (by decide) (by decide) tw_162 tw_169 (i := 3) (len := 1) (by decide) (Or.inr ⟨3, rfl, dL_grant_15, rfl⟩) ?_
      change am_W Z _ _ 16 [.ref (3), .int (D), .ref (40), .null] [] _
      refine am_iconst (v := nI 2) hC dL_grant_16 (by decide) ?_
      refine am_iret hC hR rfl (by decide) (by decide) dL_grant_17 ?_
      exact po_x hK (by decide) e hle
    · exact nomatch hX
  refine am_callV hC (ci := 6) (N := 4) [.int (D)] rfl (FC_3 hci) rfl mf_X5_grant tw_553 (c_X5_grant _ _ (am_tr hC) h n np nq hci D) rfl ⟨rfl, Nat.le_of_ble_eq_true rfl⟩ ⟨by decide, by decide⟩ (by decide) (by decide) dL_grant_4 rfl hx (fun v h1 hp hlc => ?_)
  obtain ⟨x, hv, hK, hQ⟩ : ∃ x, v = some (.int x) ∧ k3 (IX n D) (decide (np < 20) && R) true = 0 ∧ (fun (x : Int32) (h1 : am_H) => x = nI np ∧ am_eq (SG np) h h1 ∧ CI h1 n (np + 1) nq ∧ pdH h1 np = dn D ∧ (∀ s, s < 40 → hi_ h1 (202 + 4 * np) s = sdH h (dn D) s) ∧ ∀ k, k < 25 → hi_ h1 (203 + 4 * np) k = b2i (exH h (dn D) k)) x h1 := by
    obtain ⟨hK, rfl, e1, -, e2⟩ := hp
    exact ⟨_, rfl, hK R hVR, rfl, e1, e2⟩
  subst hv
  have hO : OA h1 := OA_le hlc ho
  refine am_i2l hC dL_grant_7 ?_
  refine am_last hC (j := 0) (N := 1) hO.1 hO.2 rfl (by decide) (by decide) dL_grant_8 ?_
  refine am_goto (tgt := 18) hC dL_grant_9 (by decide) ?_
  refine am_iconst (v := nI 0) hC dL_grant_18 (by decide) ?_
  refine am_iret hC hR rfl (by decide) (by decide) dL_grant_19 ?_
  exact po_n hK hlc rfl hQ
set_option maxRecDepth 100000 in
set_option maxHeartbeats 4000000 in
theorem c_L_holds (G : am_G) (l : Launch) (htr : l.stackTraces = false) (h : am_H) (n np nq : Nat) (hci : CI h n np nq) (ho : OA h) (P : Int32) : am_Met G l yL_holds (.codeWith yL_holds cL_holds 4 (some .int) [((0 : Nat), (16 : Nat), (19 : Nat), (19 : Nat))]) 12 8 48 [.ref (3), .int (P), .ref (40)] h (PO (k3 (IX np P) true true) h (fun (x : Int32) (h1 : am_H) => ∃ R : Bool, x = b2i R ∧ (R = true ↔ KPm h (dn P)) ∧ h1 = h)) (am_no) := by
  refine am_introW rfl htr rfl (Nat.le_of_ble_eq_true rfl) (fun Z hC hR hI => ?_)
  change am_W Z 0 0 0 [.ref (3), .int (P), .ref (40), .null] [] h
  refine am_aload_n hC dL_holds_0 rfl ?_
  refine am_iconst (v := nI 0) hC dL_holds_1 (by decide) ?_
  refine am_aload_n hC dL_holds_2 rfl ?_
  refine am_iload_n hC dL_holds_3 rfl ?_
  have hx : ∀ (X : String) (h1 : am_H), (h1 = h ∧ EX ["java/lang/IndexOutOfBoundsException", "java/lang/IllegalArgumentException", "java/lang/IllegalStateException"] (k3 (IX np P) true true) X) → am_le h h1 → am_WX Z (0 + 8) (0 + 48) 4 [.ref (3), .int (P), .ref (40), .null] [.int (nI 0), .ref (40)] h1 X := by
    intro X h1 hE hle
    obtain ⟨e, i, hK, hX⟩ := hE
    have e : am_eq FS h h1 := by rw [e]; exact am_eq_rf _ _
    obtain _ | _ | _ | i := i
    · obtain rfl : _ = X := Option.some.inj hX
      refine am_catch hC hR [] ⟨0, 16, 19, 19⟩ [] rfl (fun z hz => nomatch hz) (by decide) (by decide) tw_327 tw_339 (i := 3) (len := 1) (by decide) (Or.inr ⟨3, rfl, dL_holds_19, rfl⟩) ?_
      change am_W Z _ _ 20 [.ref (3), .int (P), .ref (40), .null] [] _
      refine am_iconst (v := nI 1) hC dL_holds_20 (by decide) ?_
      refine am_iret hC hR rfl (by decide) (by decide) dL_holds_21 ?_
      exact po_x hK (by decide) e hle
    · exact absurd hK (k3_tt1)
    · exact absurd hK (k3_t3)
    · exact nomatch hX
  refine am_callV hC (ci := 6) (N := 4) [.int (P)] rfl (FC_3 hci) rfl mf_X5_holds tw_583 (c_X5_holds _ _ (am_tr hC) h n np nq hci P) rfl ⟨rfl, Nat.le_of_ble_eq_true rfl⟩ ⟨by decide, by decide⟩ (by decide) (by decide) dL_holds_4 rfl hx (fun v h1 hp hlc => ?_)
  obtain ⟨B, hv, hK, hQ⟩ : ∃ B : Bool, v = some (.int (b2i B)) ∧ k3 (IX np P) true true = 0 ∧ (fun (x : Int32) (h1 : am_H) => ∃ R : Bool, x = b2i R ∧ (R = true ↔ KPm h (dn P)) ∧ h1 = h) (b2i B) h1 := by
    obtain ⟨hK, e, R, rfl, hR9⟩ := hp
    exact ⟨R, rfl, hK, R, rfl, hR9, e⟩
  subst hv
  have hO : OA h1 := OA_le hlc ho
  refine am_if_eq (tgt := 14) hC dL_holds_7 (by decide) (fun c_7 => ?_) (fun c_7 => ?_)
  · refine am_lconst (v := 0) hC dL_holds_14 (by decide) ?_
    refine am_last hC (j := 0) (N := 1) hO.1 hO.2 rfl (by decide) (by decide) dL_holds_15 ?_
    refine am_goto (tgt := 22) hC dL_holds_16 (by decide) ?_
    refine am_iconst (v := nI 0) hC dL_holds_22 (by decide) ?_
    refine am_iret hC hR rfl (by decide) (by decide) dL_holds_23 ?_
    exact po_n hK hlc (by rw [← lz_0 c_7]) hQ
  · refine am_lconst (v := 1) hC dL_holds_10 (by decide) ?_
    refine am_goto (tgt := 15) hC dL_holds_11 (by decide) ?_
    refine am_last hC (j := 0) (N := 1) hO.1 hO.2 rfl (by decide) (by decide) dL_holds_15 ?_
    refine am_goto (tgt := 22) hC dL_holds_16 (by decide) ?_
    refine am_iconst (v := nI 0) hC dL_holds_22 (by decide) ?_
    refine am_iret hC hR rfl (by decide) (by decide) dL_holds_23 ?_
    exact po_n hK hlc (by rw [← lz_1 c_7]) hQ
set_option maxRecDepth 100000 in
set_option maxHeartbeats 4000000 in
theorem c_L_print (G : am_G) (l : Launch) (htr : l.stackTraces = false) (h : am_H) (n np nq : Nat) (hci : CI h n np nq) (ho : OA h) (D : Int32) : am_Met G l yL_print (.codeWith yL_print cL_print 4 (some .int) [((0 : Nat), (9 : Nat), (12 : Nat), (19 : Nat)), ((0 : Nat), (9 : Nat), (15 : Nat), (13 : Nat))]) 13 10 190 [.ref (3), .int (D), .ref (40)] h (PO (k3 (IX n D) (decide (nq < 30)) true) h (fun (x : Int32) (h1 : am_H) => x = nI nq ∧ am_eq (SP nq) h h1 ∧ CI h1 n np (nq + 1) ∧ qdH h1 nq = dn D ∧ (∀ s, s < 40 → hi_ h1 (302 + 4 * nq) s = sdH h (dn D) s) ∧ (∀ k, k < 25 → hi_ h1 (303 + 4 * nq) k = b2i (exH h (dn D) k)) ∧ HPm h np (dn D) (hi_ h1 (300 + 4 * nq) 2))) (am_no) := by
  refine am_introW rfl htr rfl (Nat.le_of_ble_eq_true rfl) (fun Z hC hR hI => ?_)
  change am_W Z 0 0 0 [.ref (3), .int (D), .ref (40), .null] [] h
  refine am_aload_n hC dL_print_0 rfl ?_
  refine am_iconst (v := nI 0) hC dL_print_1 (by decide) ?_
  refine am_aload_n hC dL_print_2 rfl ?_
  refine am_iload_n hC dL_print_3 rfl ?_
  have hx : ∀ (X : String) (h1 : am_H), (h1 = h ∧ EX ["java/lang/IndexOutOfBoundsException", "java/lang/IllegalStateException"] (k3 (IX n D) (decide (nq < 30)) true) X) → am_le h h1 → am_WX Z (0 + 10) (0 + 190) 4 [.ref (3), .int (D), .ref (40), .null] [.int (nI 0), .ref (40)] h1 X := by
    intro X h1 hE hle
    obtain ⟨e, i, hK, hX⟩ := hE
    have e : am_eq FS h h1 := by rw [e]; exact am_eq_rf _ _
    obtain _ | _ | i := i
    · obtain rfl : _ = X := Option.some.inj hX
      refine am_catch hC hR [] ⟨0, 9, 12, 19⟩ [⟨0, 9, 15, 13⟩] rfl (fun z hz => nomatch hz) (by decide) (by decide) tw_327 tw_339 (i := 3) (len := 1) (by decide) (Or.inr ⟨3, rfl, dL_print_12, rfl⟩) ?_
      change am_W Z _ _ 13 [.ref (3), .int (D), .ref (40), .null] [] _
      refine am_iconst (v := nI 1) hC dL_print_13 (by decide) ?_
      refine am_iret hC hR rfl (by decide) (by decide) dL_print_14 ?_
      exact po_x hK (by decide) e hle
    · obtain rfl : _ = X := Option.some.inj hX
      refine am_catch hC hR [⟨0, 9, 12, 19⟩] ⟨0, 9, 15, 13⟩ [] rfl (fun z hz => by obtain rfl := List.mem_singleton.mp hz; exact ⟨"java/lang/IndexOutOfBoundsException", by decide, tw_327, by decide⟩) (by decide) (by decide) tw_162 tw_169 (i := 3) (len := 1) (by decide) (Or.inr ⟨3, rfl, dL_print_15, rfl⟩) ?_
      change am_W Z _ _ 16 [.ref (3), .int (D), .ref (40), .null] [] _
      refine am_iconst (v := nI 2) hC dL_print_16 (by decide) ?_
      refine am_iret hC hR rfl (by decide) (by decide) dL_print_17 ?_
      exact po_x hK (by decide) e hle
    · exact nomatch hX
  refine am_callV hC (ci := 6) (N := 4) [.int (D)] rfl (FC_3 hci) rfl mf_X5_print tw_596 (c_X5_print _ _ (am_tr hC) h n np nq hci D) rfl ⟨rfl, Nat.le_of_ble_eq_true rfl⟩ ⟨by decide, by decide⟩ (by decide) (by decide) dL_print_4 rfl hx (fun v h1 hp hlc => ?_)
  obtain ⟨x, hv, hK, hQ⟩ : ∃ x, v = some (.int x) ∧ k3 (IX n D) (decide (nq < 30)) true = 0 ∧ (fun (x : Int32) (h1 : am_H) => x = nI nq ∧ am_eq (SP nq) h h1 ∧ CI h1 n np (nq + 1) ∧ qdH h1 nq = dn D ∧ (∀ s, s < 40 → hi_ h1 (302 + 4 * nq) s = sdH h (dn D) s) ∧ (∀ k, k < 25 → hi_ h1 (303 + 4 * nq) k = b2i (exH h (dn D) k)) ∧ HPm h np (dn D) (hi_ h1 (300 + 4 * nq) 2)) x h1 := by
    obtain ⟨hK, rfl, e1, -, e2⟩ := hp
    exact ⟨_, rfl, hK, rfl, e1, e2⟩
  subst hv
  have hO : OA h1 := OA_le hlc ho
  refine am_i2l hC dL_print_7 ?_
  refine am_last hC (j := 0) (N := 1) hO.1 hO.2 rfl (by decide) (by decide) dL_print_8 ?_
  refine am_goto (tgt := 18) hC dL_print_9 (by decide) ?_
  refine am_iconst (v := nI 0) hC dL_print_18 (by decide) ?_
  refine am_iret hC hR rfl (by decide) (by decide) dL_print_19 ?_
  exact po_n hK hlc rfl hQ
set_option maxRecDepth 100000 in
set_option maxHeartbeats 4000000 in
theorem c_L_permitOf (G : am_G) (l : Launch) (htr : l.stackTraces = false) (h : am_H) (n np nq : Nat) (hci : CI h n np nq) (ho : OA h) (P : Int32) : am_Met G l yL_permitOf (.codeWith yL_permitOf cL_permitOf 4 (some .int) [((0 : Nat), (9 : Nat), (12 : Nat), (19 : Nat))]) 10 8 48 [.ref (3), .int (P), .ref (40)] h (PO (k3 (IX nq P) true true) h (fun (x : Int32) (h1 : am_H) => x = hi_ h (300 + 4 * dn P) 2 ∧ h1 = h)) (am_no) := by
  refine am_introW rfl htr rfl (Nat.le_of_ble_eq_true rfl) (fun Z hC hR hI => ?_)
  change am_W Z 0 0 0 [.ref (3), .int (P), .ref (40), .null] [] h
  refine am_aload_n hC dL_permitOf_0 rfl ?_
  refine am_iconst (v := nI 0) hC dL_permitOf_1 (by decide) ?_
  refine am_aload_n hC dL_permitOf_2 rfl ?_
  refine am_iload_n hC dL_permitOf_3 rfl ?_
  have hx : ∀ (X : String) (h1 : am_H), (h1 = h ∧ EX ["java/lang/IndexOutOfBoundsException", "java/lang/IllegalArgumentException", "java/lang/IllegalStateException"] (k3 (IX nq P) true true) X) → am_le h h1 → am_WX Z (0 + 8) (0 + 48) 4 [.ref (3), .int (P), .ref (40), .null] [.int (nI 0), .ref (40)] h1 X := by
    intro X h1 hE hle
    obtain ⟨e, i, hK, hX⟩ := hE
    have e : am_eq FS h h1 := by rw [e]; exact am_eq_rf _ _
    obtain _ | _ | _ | i := i
    · obtain rfl : _ = X := Option.some.inj hX
      refine am_catch hC hR [] ⟨0, 9, 12, 19⟩ [] rfl (fun z hz => nomatch hz) (by decide) (by decide) tw_327 tw_339 (i := 3) (len := 1) (by decide) (Or.inr ⟨3, rfl, dL_permitOf_12, rfl⟩) ?_
      change am_W Z _ _ 13 [.ref (3), .int (P), .ref (40), .null] [] _
      refine am_iconst (v := nI 1) hC dL_permitOf_13 (by decide) ?_
      refine am_iret hC hR rfl (by decide) (by decide) dL_permitOf_14 ?_
      exact po_x hK (by decide) e hle
    · exact absurd hK (k3_tt1)
    · exact absurd hK (k3_t3)
    · exact nomatch hX
  refine am_callV hC (ci := 6) (N := 4) [.int (P)] rfl (FC_3 hci) rfl mf_X5_permitOf tw_626 (c_X5_permitOf _ _ (am_tr hC) h n np nq hci P) rfl ⟨rfl, Nat.le_of_ble_eq_true rfl⟩ ⟨by decide, by decide⟩ (by decide) (by decide) dL_permitOf_4 rfl hx (fun v h1 hp hlc => ?_)
  obtain ⟨x, hv, hK, hQ⟩ : ∃ x, v = some (.int x) ∧ k3 (IX nq P) true true = 0 ∧ (fun (x : Int32) (h1 : am_H) => x = hi_ h (300 + 4 * dn P) 2 ∧ h1 = h) x h1 := by
    obtain ⟨hK, e, rfl⟩ := hp
    exact ⟨_, rfl, hK, rfl, e⟩
  subst hv
  have hO : OA h1 := OA_le hlc ho
  refine am_i2l hC dL_permitOf_7 ?_
  refine am_last hC (j := 0) (N := 1) hO.1 hO.2 rfl (by decide) (by decide) dL_permitOf_8 ?_
  refine am_goto (tgt := 15) hC dL_permitOf_9 (by decide) ?_
  refine am_iconst (v := nI 0) hC dL_permitOf_15 (by decide) ?_
  refine am_iret hC hR rfl (by decide) (by decide) dL_permitOf_16 ?_
  exact po_n hK hlc rfl hQ
set_option maxRecDepth 100000 in
set_option maxHeartbeats 4000000 in
theorem c_L_isGood (G : am_G) (l : Launch) (htr : l.stackTraces = false) (h : am_H) (n np nq : Nat) (hci : CI h n np nq) (ho : OA h) (P : Int32) : am_Met G l yL_isGood (.codeWith yL_isGood cL_isGood 4 (some .int) [((0 : Nat), (16 : Nat), (19 : Nat), (19 : Nat))]) 12 8 48 [.ref (3), .int (P), .ref (40)] h (PO (k3 (IX nq P) true true) h (fun (x : Int32) (h1 : am_H) => ∃ R : Bool, x = b2i R ∧ (R = true ↔ hi_ h (300 + 4 * dn P) 2 ≠ -1 ∧ KQm h (dn P)) ∧ h1 = h)) (am_no) := by
  refine am_introW rfl htr rfl (Nat.le_of_ble_eq_true rfl) (fun Z hC hR hI => ?_)
  change am_W Z 0 0 0 [.ref (3), .int (P), .ref (40), .null] [] h
  refine am_aload_n hC dL_isGood_0 rfl ?_
  refine am_iconst (v := nI 0) hC dL_isGood_1 (by decide) ?_
  refine am_aload_n hC dL_isGood_2 rfl ?_
  refine am_iload_n hC dL_isGood_3 rfl ?_
  have hx : ∀ (X : String) (h1 : am_H), (h1 = h ∧ EX ["java/lang/IndexOutOfBoundsException", "java/lang/IllegalArgumentException", "java/lang/IllegalStateException"] (k3 (IX nq P) true true) X) → am_le h h1 → am_WX Z (0 + 8) (0 + 48) 4 [.ref (3), .int (P), .ref (40), .null] [.int (nI 0), .ref (40)] h1 X := by
    intro X h1 hE hle
    obtain ⟨e, i, hK, hX⟩ := hE
    have e : am_eq FS h h1 := by rw [e]; exact am_eq_rf _ _
    obtain _ | _ | _ | i := i
    · obtain rfl : _ = X := Option.some.inj hX
      refine am_catch hC hR [] ⟨0, 16, 19, 19⟩ [] rfl (fun z hz => nomatch hz) (by decide) (by decide) tw_327 tw_339 (i := 3) (len := 1) (by decide) (Or.inr ⟨3, rfl, dL_isGood_19, rfl⟩) ?_
      change am_W Z _ _ 20 [.ref (3), .int (P), .ref (40), .null] [] _
      refine am_iconst (v := nI 1) hC dL_isGood_20 (by decide) ?_
      refine am_iret hC hR rfl (by decide) (by decide) dL_isGood_21 ?_
      exact po_x hK (by decide) e hle
    · exact absurd hK (k3_tt1)
    · exact absurd hK (k3_t3)
    · exact nomatch hX
  refine am_callV hC (ci := 6) (N := 4) [.int (P)] rfl (FC_3 hci) rfl mf_X5_isGood tw_638 (c_X5_isGood _ _ (am_tr hC) h n np nq hci P) rfl ⟨rfl, Nat.le_of_ble_eq_true rfl⟩ ⟨by decide, by decide⟩ (by decide) (by decide) dL_isGood_4 rfl hx (fun v h1 hp hlc => ?_)
  obtain ⟨B, hv, hK, hQ⟩ : ∃ B : Bool, v = some (.int (b2i B)) ∧ k3 (IX nq P) true true = 0 ∧ (fun (x : Int32) (h1 : am_H) => ∃ R : Bool, x = b2i R ∧ (R = true ↔ hi_ h (300 + 4 * dn P) 2 ≠ -1 ∧ KQm h (dn P)) ∧ h1 = h) (b2i B) h1 := by
    obtain ⟨hK, e, R, rfl, hR9⟩ := hp
    exact ⟨R, rfl, hK, R, rfl, hR9, e⟩
  subst hv
  have hO : OA h1 := OA_le hlc ho
  refine am_if_eq (tgt := 14) hC dL_isGood_7 (by decide) (fun c_7 => ?_) (fun c_7 => ?_)
  · refine am_lconst (v := 0) hC dL_isGood_14 (by decide) ?_
    refine am_last hC (j := 0) (N := 1) hO.1 hO.2 rfl (by decide) (by decide) dL_isGood_15 ?_
    refine am_goto (tgt := 22) hC dL_isGood_16 (by decide) ?_
    refine am_iconst (v := nI 0) hC dL_isGood_22 (by decide) ?_
    refine am_iret hC hR rfl (by decide) (by decide) dL_isGood_23 ?_
    exact po_n hK hlc (by rw [← lz_0 c_7]) hQ
  · refine am_lconst (v := 1) hC dL_isGood_10 (by decide) ?_
    refine am_goto (tgt := 15) hC dL_isGood_11 (by decide) ?_
    refine am_last hC (j := 0) (N := 1) hO.1 hO.2 rfl (by decide) (by decide) dL_isGood_15 ?_
    refine am_goto (tgt := 22) hC dL_isGood_16 (by decide) ?_
    refine am_iconst (v := nI 0) hC dL_isGood_22 (by decide) ?_
    refine am_iret hC hR rfl (by decide) (by decide) dL_isGood_23 ?_
    exact po_n hK hlc (by rw [← lz_1 c_7]) hQ
