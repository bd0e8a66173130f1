/-! ===== the model's calls that look ===== -/
def LKm (n : Nat) (t : Nat → Nat → Int32) (x r : Nat → Nat → Bool) (d : Nat) (h' : am_H) : Prop := (∀ d, d < n → (∀ s, s < 40 → hi_ h' 20 (40 * d + s) = sdF t r 6 d s) ∧ ∀ c, c < 32 → bt (hi_ h' 21 d) c = exF x r 6 d c) ∧ ∃ ro D, RoomOK (fun s => sdF t r 6 d s) ro ∧ DistOK 25 (exR (fun c => exF x r 6 d c) ro) (adjD (fun s => sdF t r 6 d s) ro) D ∧ (∀ c, c < 25 → hi_ h' 22 c = nI (ro c)) ∧ ∀ q, q < 25 → hi_ h' 23 q = nI (w99 (D q))
/-- what asks answers -/
def ASK (h : am_H) (n : Nat) (t : Nat → Nat → Int32) (x r : Nat → Nat → Bool) (D C : Int32) (R : Bool) (h' : am_H) : Prop :=
  (R = false → k3 (IX n D) (IX 25 C) true ≠ 0 ∧ h' = am_sI h 14 19 (nI (k3 (IX n D) (IX 25 C) true))) ∧ (R = true → ∃ d c, d < n ∧ c < 25 ∧ D = nI d ∧ C = nI c ∧ am_eq S4 (am_sI h 14 19 (nI 0)) h' ∧ am_le h h' ∧ LKm n t x r d h')
theorem k3_DC {n d c : Nat} (hn : n ≤ 6) (hd : d < n) (hc : c < 25) : k3 (IX n (nI d)) (IX 25 (nI c)) true = 0 := k3_0 (IX_y (by omega) hd rfl) (IX_y (by decide) hc rfl) rfl
set_option maxRecDepth 100000 in
set_option maxHeartbeats 4000000 in
theorem c_X6_asks (G : am_G) (l : Launch) (htr : l.stackTraces = false) (h : am_H) (n : Nat) (t : Nat → Nat → Int32) (x r : Nat → Nat → Bool) (hT : MT h n t x r) (D C : Int32) : am_Met G l yX6_asks (.code yX6_asks cX6_asks 3 (some .boolean)) 4 0 0 [.ref (14), .int (D), .int (C)] h (fun v h' => ∃ R : Bool, v = some (.int (b2i R)) ∧ ASK h n t x r D C R h') (am_no) := by
  have hM := hT.1
  have hn6 := hT.2.1
  have hn0 := hT.2.2.1
  refine am_intro rfl htr rfl (Nat.le_of_ble_eq_true rfl) (fun Z hC hR hI => ?_)
  change am_W Z 0 0 0 [.ref (14), .int (D), .int (C)] [] h
  refine am_aload_n hC dX6_asks_0 rfl ?_
  refine am_aload_n hC dX6_asks_1 rfl ?_
  refine am_iload_n hC dX6_asks_2 rfl ?_
  refine am_callV hC (ci := 7) (N := 20) [.int (D)] rfl (kM_14 hM) rfl mf_X6_isDrawing tw_727 (c_X6_isDrawing _ _ (am_tr hC) h hM n hn6 hn0 D) rfl ⟨rfl, Nat.le_of_ble_eq_true rfl⟩ ⟨by decide, by decide⟩ (by decide) (by decide) dX6_asks_3 rfl (fun _ _ q _ => False.elim q) (fun v h' hp hlc => ?_)
  obtain ⟨z8, z9⟩ := hp
  have z8 := z8.symm
  subst z8
  subst z9
  refine am_if_ne (tgt := 13) hC dX6_asks_6 (by decide) (fun c_6 => ?_) (fun c_6 => ?_)
  · have hD1 := b2i_ne c_6
    obtain ⟨d, hd, rfl⟩ := (IX_iff (by omega)).mp hD1
    refine am_iload_n hC dX6_asks_13 rfl ?_
    refine am_callS hC [.int (C)] mf_X6_isCell tw_739 (c_X6_isCell _ _ (am_tr hC) h C) rfl ⟨rfl, Nat.le_of_ble_eq_true rfl⟩ ⟨by decide, by decide⟩ (by decide) (by decide) dX6_asks_14 rfl (fun _ _ q _ => False.elim q) (fun v h' hp hlc => ?_)
    obtain ⟨z8, z9⟩ := hp
    have z8 := z8.symm
    subst z8
    subst z9
    refine am_if_eq (tgt := 24) hC dX6_asks_17 (by decide) (fun c_17 => ?_) (fun c_17 => ?_)
    · refine am_iconst (v := nI 2) hC dX6_asks_24 (by decide) ?_
      refine am_putI hC (ci := 7) (N := 20) (j := 19) rfl (kM_14 hM) (by decide) rfl rfl rfl tw_667 (Or.inl rfl) dX6_asks_25 ?_
      have hM : FM (am_sI h 14 19 (nI 2)) := hM
      refine am_aload_n hC dX6_asks_28 rfl ?_
      refine am_get (v := .int (nI 2)) hC (ci := 7) (N := 20) (j := 19) rfl (kM_14 hM) (by decide) tw_667 (Or.inl rfl) dX6_asks_29 rfl ?_
      refine am_if_ne (tgt := 40) hC dX6_asks_32 (by decide) (fun c_32 => ?_) (fun c_32 => absurd c_32 (by decide))
      refine am_aload_n hC dX6_asks_40 rfl ?_
      refine am_get (v := .int (nI 2)) hC (ci := 7) (N := 20) (j := 19) rfl (kM_14 hM) (by decide) tw_667 (Or.inl rfl) dX6_asks_41 rfl ?_
      refine am_if_ne (tgt := 51) hC dX6_asks_44 (by decide) (fun c_44 => ?_) (fun c_44 => absurd c_44 (by decide))
      refine am_iconst (v := nI 0) hC dX6_asks_51 (by decide) ?_
      refine am_iret hC hR rfl (by decide) (by decide) dX6_asks_52 ?_
      have hK := (k3_2 hD1 (b2i_0.mp c_17) : k3 _ _ true = 2)
      refine ⟨false, rfl, fun _ => ⟨by rw [hK]; decide, by rw [hK]⟩, fun z => by cases z⟩
    · have hC1 := b2i_ne c_17
      obtain ⟨c, hc, rfl⟩ := (IX_iff (by decide)).mp hC1
      refine am_iconst (v := nI 0) hC dX6_asks_20 (by decide) ?_
      refine am_goto (tgt := 25) hC dX6_asks_21 (by decide) ?_
      refine am_putI hC (ci := 7) (N := 20) (j := 19) rfl (kM_14 hM) (by decide) rfl rfl rfl tw_667 (Or.inl rfl) dX6_asks_25 ?_
      have hM : FM (am_sI h 14 19 (nI 0)) := hM
      refine am_aload_n hC dX6_asks_28 rfl ?_
      refine am_get (v := .int (nI 0)) hC (ci := 7) (N := 20) (j := 19) rfl (kM_14 hM) (by decide) tw_667 (Or.inl rfl) dX6_asks_29 rfl ?_
      refine am_if_ne (tgt := 40) hC dX6_asks_32 (by decide) (fun c_32 => absurd (by decide) c_32) (fun c_32 => ?_)
      refine am_aload_n hC dX6_asks_35 rfl ?_
      refine am_iload_n hC dX6_asks_36 rfl ?_
      refine am_callV hC (ci := 7) (N := 20) [.int (nI d)] rfl (kM_14 hM) rfl mf_X6_looks tw_774 (c_X6_looks _ _ (am_tr hC) (am_sI h 14 19 (nI 0)) n t x r (MT_th hT) d hd) rfl ⟨rfl, Nat.le_of_ble_eq_true rfl⟩ ⟨by decide, by decide⟩ (by decide) (by decide) dX6_asks_37 rfl (fun _ _ q _ => False.elim q) (fun v h5 hp l5 => ?_)
      obtain ⟨rfl, e5, hl5⟩ := hp
      have hM := FM_eq (S := S4) (by unfold S4; omega) e5 l5 hM
      refine am_aload_n hC dX6_asks_40 rfl ?_
      refine am_get (v := .int (nI 0)) hC (ci := 7) (N := 20) (j := 19) rfl (kM_14 hM) (by decide) tw_667 (Or.inl rfl) dX6_asks_41 (congrArg Value.int (((e5 14 (by unfold S4; omega)).2.2.1 19).trans (by rw [hi_sI, if_pos ⟨rfl, rfl⟩]))) ?_
      refine am_if_ne (tgt := 51) hC dX6_asks_44 (by decide) (fun c_44 => absurd (by decide) c_44) (fun c_44 => ?_)
      refine am_iconst (v := nI 1) hC dX6_asks_47 (by decide) ?_
      refine am_goto (tgt := 52) hC dX6_asks_48 (by decide) ?_
      refine am_iret hC hR rfl (by decide) (by decide) dX6_asks_52 ?_
      exact ⟨true, rfl, (fun z => nomatch z), fun _ => ⟨d, c, hd, hc, rfl, rfl, e5, am_le_tr (am_le_sI h 14 19 (nI 0)) l5, hl5⟩⟩
  · refine am_iconst (v := nI 1) hC dX6_asks_9 (by decide) ?_
    refine am_goto (tgt := 25) hC dX6_asks_10 (by decide) ?_
    refine am_putI hC (ci := 7) (N := 20) (j := 19) rfl (kM_14 hM) (by decide) rfl rfl rfl tw_667 (Or.inl rfl) dX6_asks_25 ?_
    have hM : FM (am_sI h 14 19 (nI 1)) := hM
    refine am_aload_n hC dX6_asks_28 rfl ?_
    refine am_get (v := .int (nI 1)) hC (ci := 7) (N := 20) (j := 19) rfl (kM_14 hM) (by decide) tw_667 (Or.inl rfl) dX6_asks_29 rfl ?_
    refine am_if_ne (tgt := 40) hC dX6_asks_32 (by decide) (fun c_32 => ?_) (fun c_32 => absurd c_32 (by decide))
    refine am_aload_n hC dX6_asks_40 rfl ?_
    refine am_get (v := .int (nI 1)) hC (ci := 7) (N := 20) (j := 19) rfl (kM_14 hM) (by decide) tw_667 (Or.inl rfl) dX6_asks_41 rfl ?_
    refine am_if_ne (tgt := 51) hC dX6_asks_44 (by decide) (fun c_44 => ?_) (fun c_44 => absurd c_44 (by decide))
    refine am_iconst (v := nI 0) hC dX6_asks_51 (by decide) ?_
    refine am_iret hC hR rfl (by decide) (by decide) dX6_asks_52 ?_
    have hK := (k3_1 (b := IX 25 C) (b2i_0.mp c_6) : k3 _ _ true = 1)
    refine ⟨false, rfl, fun _ => ⟨by rw [hK]; decide, by rw [hK]⟩, fun z => by cases z⟩
