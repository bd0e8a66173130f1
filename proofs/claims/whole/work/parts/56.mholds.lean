/-! ===== the model's calls: holds, permitOf, isGood, old ===== -/
/-- what the model keeps at p (outs in row ko, sides in row ks) is what drawing d is -/
def MK (h : am_H) (t : Nat → Nat → Int32) (x r : Nat → Nat → Bool) (ko ks p d : Nat) : Prop := (∀ c, c < 32 → bt (hi_ h ko p) c = exF x r 6 d c) ∧ ∀ s, s < 40 → hi_ h ks (40 * p + s) = sdF t r 6 d s
theorem MK_of {h h' : am_H} {t : Nat → Nat → Int32} {x r : Nat → Nat → Bool} {ko ks p d : Nat} (ho : hi_ h' ko p = hi_ h ko p) (hs : ∀ s, hi_ h' ks s = hi_ h ks s) (hf : (∀ s, s < 40 → hi_ h' 20 (40 * d + s) = sdF t r 6 d s) ∧ ∀ c, c < 32 → bt (hi_ h' 21 d) c = exF x r 6 d c) : (hi_ h' ko p = hi_ h' 21 d ∧ ∀ s, s < 40 → hi_ h' ks (40 * p + s) = hi_ h' 20 (40 * d + s)) ↔ MK h t x r ko ks p d := by
  constructor
  · rintro ⟨a, b⟩
    exact ⟨fun c hc => by rw [← ho, a]; exact hf.2 c hc, fun s h9 => by rw [← hs, b s h9]; exact hf.1 s h9⟩
  · rintro ⟨a, b⟩
    exact ⟨b_ext (fun c hc => by rw [ho, a c hc, hf.2 c hc]), fun s h9 => by rw [hs, b s h9, hf.1 s h9]⟩
def FD (h' : am_H) (n : Nat) (t : Nat → Nat → Int32) (x r : Nat → Nat → Bool) : Prop := ∀ d, d < n → (∀ s, s < 40 → hi_ h' 20 (40 * d + s) = sdF t r 6 d s) ∧ ∀ c, c < 32 → bt (hi_ h' 21 d) c = exF x r 6 d c
theorem S4_of {h h' : am_H} {v : Int32} (e : am_eq SF2 (am_sI h 14 19 v) h') : am_eq S4 (am_sI h 14 19 v) h' := am_eq_mono (fun q z => by unfold SF2 at z; unfold S4; omega) e
theorem out_eq {h h' : am_H} {v : Int32} (e : am_eq S4 (am_sI h 14 19 v) h') {a : Nat} (ha : a ≠ 14) (h4 : a < 20 ∨ 23 < a) (b : Nat) : hi_ h' a b = hi_ h a b := ((e a (by unfold S4; omega)).2.2.1 b).trans (by rw [hi_sI, if_neg (fun z => ha z.1)])
set_option maxRecDepth 100000 in
set_option maxHeartbeats 4000000 in
theorem c_X6_holds (G : am_G) (l : Launch) (htr : l.stackTraces = false) (h : am_H) (n : Nat) (t : Nat → Nat → Int32) (x r : Nat → Nat → Bool) (hT : MT h n t x r) (np : Nat) (hp20 : np ≤ 20) (hx0 : hi_ h 14 10 = nI np) (pd : Nat → Nat) (hpd : ∀ p, p < np → pd p < n ∧ hi_ h 25 p = nI (pd p)) (P : Int32) : am_Met G l yX6_holds (.code yX6_holds cX6_holds 2 (some .boolean)) 4 0 0 [.ref (14), .int (P)] h (fun v h' => ∃ V, v = some (.int V) ∧ am_eq S4 (am_sI h 14 19 (nI (k3 (IX np P) true true))) h' ∧ am_le h h' ∧ ((k3 (IX np P) true true) = 0 → ∃ R : Bool, V = b2i R ∧ (R = true ↔ MK h t x r 27 26 (dn P) (pd (dn P))))) (am_no) := by
  have hM := hT.1
  have hn6 := hT.2.1
  have hn0 := hT.2.2.1
  refine am_intro rfl htr rfl (Nat.le_of_ble_eq_true rfl) (fun Z hC hR hI => ?_)
  change am_W Z 0 0 0 [.ref (14), .int (P)] [] h
  refine am_aload_n hC dX6_holds_0 rfl ?_
  refine am_iload_n hC dX6_holds_1 rfl ?_
  refine am_iconst (v := nI 0) hC dX6_holds_2 (by decide) ?_
  refine am_aload_n hC dX6_holds_3 rfl ?_
  refine am_get (v := .int (nI np)) hC (ci := 7) (N := 20) (j := 10) rfl (kM_14 hM) (by decide) tw_658 (Or.inl rfl) dX6_holds_4 (congrArg Value.int hx0) ?_
  refine am_iconst (v := nI 1) hC dX6_holds_7 (by decide) ?_
  refine am_isubE (z := nI np - 1) hC dX6_holds_8 rfl ?_
  refine am_callS hC [.int (P), .int (nI 0), .int (nI np - 1)] mf_X6_isIn tw_724 (c_X6_isIn _ _ (am_tr hC) h P (nI 0) (nI np - 1)) rfl ⟨rfl, Nat.le_of_ble_eq_true rfl⟩ ⟨by decide, by decide⟩ (by decide) (by decide) dX6_holds_9 rfl (fun _ _ q _ => False.elim q) (fun v h' hp hlc => ?_)
  obtain ⟨rfl, q9⟩ := hp
  have q9 := q9.symm
  subst q9
  rw [show (if nI 0 ≤ P ∧ P ≤ nI np - 1 then (1 : Int32) else 0) = b2i (IX np P) from IX_b (n := np) (by omega)]
  refine am_if_eq (tgt := 19) hC dX6_holds_12 (by decide) (fun c_12 => ?_) (fun c_12 => ?_)
  · refine am_iconst (v := nI 1) hC dX6_holds_19 (by decide) ?_
    refine am_putI hC (ci := 7) (N := 20) (j := 19) rfl (kM_14 hM) (by decide) rfl rfl rfl tw_667 (Or.inl rfl) dX6_holds_20 ?_
    have hM : FM (am_sI h 14 19 (nI 1)) := hM
    refine am_aload_n hC dX6_holds_23 rfl ?_
    refine am_callV hC (ci := 7) (N := 20) [] rfl (kM_14 hM) rfl mf_X6_finds tw_758 (c_X6_finds _ _ (am_tr hC) (am_sI h 14 19 (nI 1)) n t x r (MT_th hT)) rfl ⟨rfl, Nat.le_of_ble_eq_true rfl⟩ ⟨by decide, by decide⟩ (by decide) (by decide) dX6_holds_24 rfl (fun _ _ q _ => False.elim q) (fun v h5 hp l5 => ?_)
    obtain ⟨rfl, e5, hf⟩ := hp
    have e6 := S4_of e5
    have l6 := am_le_tr (am_le_sI h 14 19 (nI 1)) l5
    have hM := FM_eq (S := SF2) (by unfold SF2; omega) e5 l5 hM
    refine am_aload_n hC dX6_holds_27 rfl ?_
    refine am_get (v := .int (nI 1)) hC (ci := 7) (N := 20) (j := 19) rfl (kM_14 hM) (by decide) tw_667 (Or.inl rfl) dX6_holds_28 (congrArg Value.int (((e5 14 (by unfold SF2; omega)).2.2.1 19).trans (by rw [hi_sI, if_pos ⟨rfl, rfl⟩]))) ?_
    refine am_if_ne (tgt := 46) hC dX6_holds_31 (by decide) (fun c_31 => ?_) (fun c_31 => absurd c_31 (by decide))
    refine am_iconst (v := nI 0) hC dX6_holds_46 (by decide) ?_
    refine am_iret hC hR rfl (by decide) (by decide) dX6_holds_47 ?_
    first
      | (have hK : k3 (IX np P) true true = 1 := k3_1 (b2i_0.mp c_12); exact ⟨_, rfl, by rw [hK]; exact e6, l6, fun z => absurd (hK.symm.trans z) (by decide)⟩)
      | (have hK : k3 (IX np (nI p)) true true = 0 := k3_0 hP1 rfl rfl; exact ⟨_, rfl, by rw [hK]; exact e6, l6, fun _ => ⟨R, by rw [b2i_ne c_39]; rfl, by rw [dn_nI (by omega)]; exact hR9.trans (MK_of (out_eq e6 (by decide) (by decide) _) (fun s => out_eq e6 (by decide) (by decide) s) (hf _ hpp.1))⟩⟩)
      | (have hK : k3 (IX np (nI p)) true true = 0 := k3_0 hP1 rfl rfl; exact ⟨_, rfl, by rw [hK]; exact e6, l6, fun _ => ⟨R, by rw [b2i_0.mp c_39]; rfl, by rw [dn_nI (by omega)]; exact hR9.trans (MK_of (out_eq e6 (by decide) (by decide) _) (fun s => out_eq e6 (by decide) (by decide) s) (hf _ hpp.1))⟩⟩)
  · have hP1 := b2i_ne c_12
    obtain ⟨p, hp9, rfl⟩ := (IX_iff (by omega)).mp hP1
    have hpp := hpd p hp9
    refine am_iconst (v := nI 0) hC dX6_holds_15 (by decide) ?_
    refine am_goto (tgt := 20) hC dX6_holds_16 (by decide) ?_
    refine am_putI hC (ci := 7) (N := 20) (j := 19) rfl (kM_14 hM) (by decide) rfl rfl rfl tw_667 (Or.inl rfl) dX6_holds_20 ?_
    have hM : FM (am_sI h 14 19 (nI 0)) := hM
    refine am_aload_n hC dX6_holds_23 rfl ?_
    refine am_callV hC (ci := 7) (N := 20) [] rfl (kM_14 hM) rfl mf_X6_finds tw_758 (c_X6_finds _ _ (am_tr hC) (am_sI h 14 19 (nI 0)) n t x r (MT_th hT)) rfl ⟨rfl, Nat.le_of_ble_eq_true rfl⟩ ⟨by decide, by decide⟩ (by decide) (by decide) dX6_holds_24 rfl (fun _ _ q _ => False.elim q) (fun v h5 hp l5 => ?_)
    obtain ⟨rfl, e5, hf⟩ := hp
    have e6 := S4_of e5
    have l6 := am_le_tr (am_le_sI h 14 19 (nI 0)) l5
    have hM := FM_eq (S := SF2) (by unfold SF2; omega) e5 l5 hM
    refine am_aload_n hC dX6_holds_27 rfl ?_
    refine am_get (v := .int (nI 0)) hC (ci := 7) (N := 20) (j := 19) rfl (kM_14 hM) (by decide) tw_667 (Or.inl rfl) dX6_holds_28 (congrArg Value.int (((e5 14 (by unfold SF2; omega)).2.2.1 19).trans (by rw [hi_sI, if_pos ⟨rfl, rfl⟩]))) ?_
    refine am_if_ne (tgt := 46) hC dX6_holds_31 (by decide) (fun c_31 => absurd (by decide) c_31) (fun c_31 => ?_)
    refine am_aload_n hC dX6_holds_34 rfl ?_
    refine am_iload_n hC dX6_holds_35 rfl ?_
    refine am_callV hC (ci := 7) (N := 20) [.int (nI p)] rfl (kM_14 hM) rfl mf_X6_stands tw_832 (c_X6_stands _ _ (am_tr hC) h5 hM (pd p) (by omega) p (by omega) ((out_eq e6 (by decide) (by decide) _).trans hpp.2)) rfl ⟨rfl, Nat.le_of_ble_eq_true rfl⟩ ⟨by decide, by decide⟩ (by decide) (by decide) dX6_holds_36 rfl (fun _ _ q _ => False.elim q) (fun v h' hp hlc => ?_)
    obtain ⟨z8, R, z9, hR9⟩ := hp
    have z8 := z8.symm
    subst z8
    subst z9
    refine am_if_eq (tgt := 46) hC dX6_holds_39 (by decide) (fun c_39 => ?_) (fun c_39 => ?_)
    · refine am_iconst (v := nI 0) hC dX6_holds_46 (by decide) ?_
      refine am_iret hC hR rfl (by decide) (by decide) dX6_holds_47 ?_
      first
        | (have hK : k3 (IX np P) true true = 1 := k3_1 (b2i_0.mp c_12); exact ⟨_, rfl, by rw [hK]; exact e6, l6, fun z => absurd (hK.symm.trans z) (by decide)⟩)
        | (have hK : k3 (IX np (nI p)) true true = 0 := k3_0 hP1 rfl rfl; exact ⟨_, rfl, by rw [hK]; exact e6, l6, fun _ => ⟨R, by rw [b2i_ne c_39]; rfl, by rw [dn_nI (by omega)]; exact hR9.trans (MK_of (out_eq e6 (by decide) (by decide) _) (fun s => out_eq e6 (by decide) (by decide) s) (hf _ hpp.1))⟩⟩)
        | (have hK : k3 (IX np (nI p)) true true = 0 := k3_0 hP1 rfl rfl; exact ⟨_, rfl, by rw [hK]; exact e6, l6, fun _ => ⟨R, by rw [b2i_0.mp c_39]; rfl, by rw [dn_nI (by omega)]; exact hR9.trans (MK_of (out_eq e6 (by decide) (by decide) _) (fun s => out_eq e6 (by decide) (by decide) s) (hf _ hpp.1))⟩⟩)
    · refine am_iconst (v := nI 1) hC dX6_holds_42 (by decide) ?_
      refine am_goto (tgt := 47) hC dX6_holds_43 (by decide) ?_
      refine am_iret hC hR rfl (by decide) (by decide) dX6_holds_47 ?_
      first
        | (have hK : k3 (IX np P) true true = 1 := k3_1 (b2i_0.mp c_12); exact ⟨_, rfl, by rw [hK]; exact e6, l6, fun z => absurd (hK.symm.trans z) (by decide)⟩)
        | (have hK : k3 (IX np (nI p)) true true = 0 := k3_0 hP1 rfl rfl; exact ⟨_, rfl, by rw [hK]; exact e6, l6, fun _ => ⟨R, by rw [b2i_ne c_39]; rfl, by rw [dn_nI (by omega)]; exact hR9.trans (MK_of (out_eq e6 (by decide) (by decide) _) (fun s => out_eq e6 (by decide) (by decide) s) (hf _ hpp.1))⟩⟩)
        | (have hK : k3 (IX np (nI p)) true true = 0 := k3_0 hP1 rfl rfl; exact ⟨_, rfl, by rw [hK]; exact e6, l6, fun _ => ⟨R, by rw [b2i_0.mp c_39]; rfl, by rw [dn_nI (by omega)]; exact hR9.trans (MK_of (out_eq e6 (by decide) (by decide) _) (fun s => out_eq e6 (by decide) (by decide) s) (hf _ hpp.1))⟩⟩)
set_option maxRecDepth 100000 in
set_option maxHeartbeats 4000000 in
theorem c_X6_isPrint (G : am_G) (l : Launch) (htr : l.stackTraces = false) (h : am_H) (n : Nat) (t : Nat → Nat → Int32) (x r : Nat → Nat → Bool) (hT : MT h n t x r) (nq : Nat) (hq30 : nq ≤ 30) (hx0 : hi_ h 14 14 = nI nq) (qd : Nat → Nat) (hqd : ∀ p, p < nq → qd p < n ∧ hi_ h 29 p = nI (qd p)) (P : Int32) : am_Met G l yX6_isPrint (.code yX6_isPrint cX6_isPrint 2 (some .boolean)) 4 0 0 [.ref (14), .int (P)] h (fun v h' => v = some (.int (b2i (IX nq P))) ∧ am_eq S4 (am_sI h 14 19 (nI (k3 (IX nq P) true true))) h' ∧ am_le h h' ∧ FD h' n t x r) (am_no) := by
  have hM := hT.1
  have hn6 := hT.2.1
  have hn0 := hT.2.2.1
  refine am_intro rfl htr rfl (Nat.le_of_ble_eq_true rfl) (fun Z hC hR hI => ?_)
  change am_W Z 0 0 0 [.ref (14), .int (P)] [] h
  refine am_aload_n hC dX6_isPrint_0 rfl ?_
  refine am_iload_n hC dX6_isPrint_1 rfl ?_
  refine am_iconst (v := nI 0) hC dX6_isPrint_2 (by decide) ?_
  refine am_aload_n hC dX6_isPrint_3 rfl ?_
  refine am_get (v := .int (nI nq)) hC (ci := 7) (N := 20) (j := 14) rfl (kM_14 hM) (by decide) tw_662 (Or.inl rfl) dX6_isPrint_4 (congrArg Value.int hx0) ?_
  refine am_iconst (v := nI 1) hC dX6_isPrint_7 (by decide) ?_
  refine am_isubE (z := nI nq - 1) hC dX6_isPrint_8 rfl ?_
  refine am_callS hC [.int (P), .int (nI 0), .int (nI nq - 1)] mf_X6_isIn tw_724 (c_X6_isIn _ _ (am_tr hC) h P (nI 0) (nI nq - 1)) rfl ⟨rfl, Nat.le_of_ble_eq_true rfl⟩ ⟨by decide, by decide⟩ (by decide) (by decide) dX6_isPrint_9 rfl (fun _ _ q _ => False.elim q) (fun v h' hp hlc => ?_)
  obtain ⟨rfl, q9⟩ := hp
  have q9 := q9.symm
  subst q9
  rw [show (if nI 0 ≤ P ∧ P ≤ nI nq - 1 then (1 : Int32) else 0) = b2i (IX nq P) from IX_b (n := nq) (by omega)]
  refine am_if_eq (tgt := 19) hC dX6_isPrint_12 (by decide) (fun c_12 => ?_) (fun c_12 => ?_)
  · refine am_iconst (v := nI 1) hC dX6_isPrint_19 (by decide) ?_
    refine am_putI hC (ci := 7) (N := 20) (j := 19) rfl (kM_14 hM) (by decide) rfl rfl rfl tw_667 (Or.inl rfl) dX6_isPrint_20 ?_
    have hM : FM (am_sI h 14 19 (nI 1)) := hM
    refine am_aload_n hC dX6_isPrint_23 rfl ?_
    refine am_callV hC (ci := 7) (N := 20) [] rfl (kM_14 hM) rfl mf_X6_finds tw_758 (c_X6_finds _ _ (am_tr hC) (am_sI h 14 19 (nI 1)) n t x r (MT_th hT)) rfl ⟨rfl, Nat.le_of_ble_eq_true rfl⟩ ⟨by decide, by decide⟩ (by decide) (by decide) dX6_isPrint_24 rfl (fun _ _ q _ => False.elim q) (fun v h5 hp l5 => ?_)
    obtain ⟨rfl, e5, hf⟩ := hp
    have e6 := S4_of e5
    have l6 := am_le_tr (am_le_sI h 14 19 (nI 1)) l5
    have hM := FM_eq (S := SF2) (by unfold SF2; omega) e5 l5 hM
    refine am_aload_n hC dX6_isPrint_27 rfl ?_
    refine am_get (v := .int (nI 1)) hC (ci := 7) (N := 20) (j := 19) rfl (kM_14 hM) (by decide) tw_667 (Or.inl rfl) dX6_isPrint_28 (congrArg Value.int (((e5 14 (by unfold SF2; omega)).2.2.1 19).trans (by rw [hi_sI, if_pos ⟨rfl, rfl⟩]))) ?_
    refine am_if_ne (tgt := 38) hC dX6_isPrint_31 (by decide) (fun c_31 => ?_) (fun c_31 => absurd c_31 (by decide))
    refine am_iconst (v := nI 0) hC dX6_isPrint_38 (by decide) ?_
    refine am_iret hC hR rfl (by decide) (by decide) dX6_isPrint_39 ?_
    first
      | (have hK : k3 (IX nq P) true true = 1 := k3_1 (b2i_0.mp c_12); exact ⟨by rw [b2i_0.mp c_12]; rfl, by rw [hK]; exact e6, l6, hf⟩)
      | (have hK : k3 (IX nq P) true true = 0 := k3_0 (b2i_ne c_12) rfl rfl; exact ⟨by rw [b2i_ne c_12]; rfl, by rw [hK]; exact e6, l6, hf⟩)
  · refine am_iconst (v := nI 0) hC dX6_isPrint_15 (by decide) ?_
    refine am_goto (tgt := 20) hC dX6_isPrint_16 (by decide) ?_
    refine am_putI hC (ci := 7) (N := 20) (j := 19) rfl (kM_14 hM) (by decide) rfl rfl rfl tw_667 (Or.inl rfl) dX6_isPrint_20 ?_
    have hM : FM (am_sI h 14 19 (nI 0)) := hM
    refine am_aload_n hC dX6_isPrint_23 rfl ?_
    refine am_callV hC (ci := 7) (N := 20) [] rfl (kM_14 hM) rfl mf_X6_finds tw_758 (c_X6_finds _ _ (am_tr hC) (am_sI h 14 19 (nI 0)) n t x r (MT_th hT)) rfl ⟨rfl, Nat.le_of_ble_eq_true rfl⟩ ⟨by decide, by decide⟩ (by decide) (by decide) dX6_isPrint_24 rfl (fun _ _ q _ => False.elim q) (fun v h5 hp l5 => ?_)
    obtain ⟨rfl, e5, hf⟩ := hp
    have e6 := S4_of e5
    have l6 := am_le_tr (am_le_sI h 14 19 (nI 0)) l5
    have hM := FM_eq (S := SF2) (by unfold SF2; omega) e5 l5 hM
    refine am_aload_n hC dX6_isPrint_27 rfl ?_
    refine am_get (v := .int (nI 0)) hC (ci := 7) (N := 20) (j := 19) rfl (kM_14 hM) (by decide) tw_667 (Or.inl rfl) dX6_isPrint_28 (congrArg Value.int (((e5 14 (by unfold SF2; omega)).2.2.1 19).trans (by rw [hi_sI, if_pos ⟨rfl, rfl⟩]))) ?_
    refine am_if_ne (tgt := 38) hC dX6_isPrint_31 (by decide) (fun c_31 => absurd (by decide) c_31) (fun c_31 => ?_)
    refine am_iconst (v := nI 1) hC dX6_isPrint_34 (by decide) ?_
    refine am_goto (tgt := 39) hC dX6_isPrint_35 (by decide) ?_
    refine am_iret hC hR rfl (by decide) (by decide) dX6_isPrint_39 ?_
    first
      | (have hK : k3 (IX nq P) true true = 1 := k3_1 (b2i_0.mp c_12); exact ⟨by rw [b2i_0.mp c_12]; rfl, by rw [hK]; exact e6, l6, hf⟩)
      | (have hK : k3 (IX nq P) true true = 0 := k3_0 (b2i_ne c_12) rfl rfl; exact ⟨by rw [b2i_ne c_12]; rfl, by rw [hK]; exact e6, l6, hf⟩)
