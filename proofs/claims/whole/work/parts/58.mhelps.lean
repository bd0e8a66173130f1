/-! ===== the model's doorThatHelps ===== -/
theorem w99_n {o : Option Nat} (ho : ∀ k, o = some k → k < 25) : w99 o = 99 ↔ o = none := by
  cases o with
  | none => exact ⟨fun _ => rfl, fun _ => rfl⟩
  | some k => exact ⟨fun z => by have := ho k rfl; have z : k = 99 := z; omega, fun z => by cases z⟩
theorem w99_s {o : Option Nat} (ho : ∀ k, o = some k → k < 25) : o.isSome = decide (w99 o < 99) := by
  cases o with
  | none => rfl
  | some k => have := ho k rfl; exact (decide_eq_true (show k < 99 by omega)).symm
theorem some_ne {o : Option Nat} : o ≠ none ↔ o.isSome = true := by cases o <;> simp
set_option maxRecDepth 100000 in
set_option maxHeartbeats 4000000 in
theorem c_X6_doorThatHelps (G : am_G) (l : Launch) (htr : l.stackTraces = false) (h : am_H) (n : Nat) (t : Nat → Nat → Int32) (x r : Nat → Nat → Bool) (hT : MT h n t x r) (D C : Int32) : am_Met G l yX6_doorThatHelps (.code yX6_doorThatHelps cX6_doorThatHelps 8 (some .int)) 5 0 0 [.ref (14), .int (D), .int (C)] h (fun v h' => ∃ V, v = some (.int V) ∧ ((k3 (IX n D) (IX 25 C) true) ≠ 0 → h' = am_sI h 14 19 (nI (k3 (IX n D) (IX 25 C) true))) ∧ ((k3 (IX n D) (IX 25 C) true) = 0 → VH (fun s => sdF t r 6 (dn D) s) (fun c => exF x r 6 (dn D) c) (dn C) V ∧ am_eq S4 (am_sI h 14 19 (nI 0)) h' ∧ am_le h h')) (am_no) := by
  have hM := hT.1
  have hn6 := hT.2.1
  have hn0 := hT.2.2.1
  refine am_intro rfl htr rfl (Nat.le_of_ble_eq_true rfl) (fun Z hC hR hI => ?_)
  change am_W Z 0 0 0 [.ref (14), .int (D), .int (C), .null, .null, .null, .null, .null] [] h
  refine am_aload_n hC dX6_doorThatHelps_0 rfl ?_
  refine am_iload_n hC dX6_doorThatHelps_1 rfl ?_
  refine am_iload_n hC dX6_doorThatHelps_2 rfl ?_
  refine am_callV hC (ci := 7) (N := 20) [.int (D), .int (C)] rfl (kM_14 hM) rfl mf_X6_asks tw_770 (c_X6_asks _ _ (am_tr hC) h n t x r hT D C) rfl ⟨rfl, Nat.le_of_ble_eq_true rfl⟩ ⟨by decide, by decide⟩ (by decide) (by decide) dX6_doorThatHelps_3 rfl (fun _ _ q _ => False.elim q) (fun v h1 hp l1 => ?_)
  obtain ⟨R, rfl, hA⟩ := hp
  refine am_if_ne (tgt := 11) hC dX6_doorThatHelps_6 (by decide) (fun c_6 => ?_) (fun c_6 => ?_)
  · obtain ⟨d, c, hd, hc, rfl, rfl, e5, l5, hf, ro, Dx, k1, k2, k3_, k4⟩ := hA.2 (b2i_ne c_6)
    have hM := FM_eq (S := S4) (by unfold S4; omega) e5 (fun q hq => l1 q hq) hM
    have hrl : ∀ c, c < 25 → ro c < 25 := fun c hc => Room_lt k1 hc
    obtain ⟨D2, hD2⟩ := Dist_ex 25 (fun q => q = ro c) (adjD (fun s => sdF t r 6 d s) ro)
    have hdl : ∀ q, q < 25 → ∀ k, Dx q = some k → k < 25 := fun q hq k hk => Dist_lt k2 hq hk
    have hw : ∀ q, q < 25 → w99 (Dx q) ≤ 99 := fun q hq => by
      cases e : Dx q with
      | none => exact Nat.le_refl _
      | some k => have := hdl q hq k e; show k ≤ 99; omega
    have hqc := hrl c hc
    refine am_iconst (v := -1) hC dX6_doorThatHelps_11 (by decide) ?_
    refine am_istore_n hC dX6_doorThatHelps_12 (by decide) ?_
    change am_W _ _ _ _ [.ref (14), .int (nI d), .int (nI c), .int (-1), .null, .null, .null, .null] _ _
    refine am_bipush (v := nI 39) hC dX6_doorThatHelps_13 (by decide) ?_
    refine am_istore hC dX6_doorThatHelps_15 (by decide) ?_
    change am_W _ _ _ _ [.ref (14), .int (nI d), .int (nI c), .int (-1), .int (nI 39), .null, .null, .null] _ _
    have sl : ∀ (m : Nat), m ≤ 40 → (Dx (ro c) ≠ none → m = 40) → am_W Z (0 + 0) (0 + 0) 17 [.ref (14), .int (nI d), .int (nI c), .int (fi_ (pw (fun s => sdF t r 6 d s) ro Dx D2) m (40 - m)), .int (nI m - 1), .null, .null, .null] [] h1 := by
      intro m
      induction m with
      | zero =>
        intro hm hno
        refine am_iload hC dX6_doorThatHelps_17 rfl ?_
        refine am_if_lt (tgt := 159) hC dX6_doorThatHelps_19 (by decide) (fun c_19 => ?_) (fun c_19 => absurd (by decide) c_19)
        refine am_iload_n hC dX6_doorThatHelps_159 rfl ?_
        refine am_iret hC hR rfl (by decide) (by decide) dX6_doorThatHelps_160 ?_
        refine ⟨_, rfl, fun z => absurd (k3_DC hn6 hd hc) z, fun _ => ⟨?_, e5, l5⟩⟩
        rw [dn_nI (by omega), dn_nI (by omega)]
        refine ⟨ro, Dx, k1, k2, fun hk => ?_, fun hk => ?_⟩
        · obtain ⟨k, hk⟩ := hk; exact absurd (hno (by rw [hk]; exact (fun z => nomatch z))) (by decide)
        · exact ⟨D2, hD2, rfl⟩
      | succ m ih =>
        intro hm hno
        have hs : m < 40 := by omega
        have hfs := fc_lt hs
        have hgs := sc_lt hs
        have hra := hrl _ hfs
        have hrb := hrl _ hgs
        have hwa := hw _ hra
        have hwb := hw _ hrb
        have hwc := hw _ hqc
        rw [nm1 m]
        have m125 : Dx (ro c) = none → am_W Z (0 + 0) (0 + 0) 125 [.ref (14), .int (nI d), .int (nI c), .int (fi_ (pw (fun s => sdF t r 6 d s) ro Dx D2) (m + 1) (40 - (m + 1))), .int (nI m), .null, .null, .int (b2i ((D2 (ro (fc_ m))).isSome && (Dx (ro (sc_ m))).isSome || (D2 (ro (sc_ m))).isSome && (Dx (ro (fc_ m))).isSome))] [] h1 := by
          intro hDn
          refine am_aload_n hC dX6_doorThatHelps_125 rfl ?_
          refine am_get (v := .ref (20)) hC (ci := 7) (N := 20) (j := 6) rfl (kM_14 hM) (by decide) tw_654 (Or.inl rfl) dX6_doorThatHelps_126 (am_rfe (rM_6 hM)) ?_
          refine am_bipush (v := nI 40) hC dX6_doorThatHelps_129 (by decide) ?_
          refine am_iload_n hC dX6_doorThatHelps_131 rfl ?_
          refine am_imulE (z := nI (40 * d)) hC dX6_doorThatHelps_132 (pk_mul (40) (d)) ?_
          refine am_iload hC dX6_doorThatHelps_133 rfl ?_
          refine am_iaddE (z := nI (40 * d + m)) hC dX6_doorThatHelps_135 (nI_add (40 * d) (m)) ?_
          refine am_ialdE (v := sdF t r 6 d m) hC (j := 40 * d + m) (N := 240) (kM_20 hM) (nM_20 hM) rfl (by omega) (by decide) dX6_doorThatHelps_136 ((hf d hd).1 m hs) ?_
          refine am_iconst (v := nI 1) hC dX6_doorThatHelps_137 (by decide) ?_
          refine am_icmp_ne (tgt := 151) hC dX6_doorThatHelps_138 (by decide) (fun c_138 => ?_) (fun c_138 => ?_)
          · replace c_138 : ¬ sdF t r 6 d m = 1 := c_138
            refine am_iload_n hC dX6_doorThatHelps_151 rfl ?_
            refine am_istore_n hC dX6_doorThatHelps_152 (by decide) ?_
            change am_W _ _ _ _ [.ref (14), .int (nI d), .int (nI c), .int (fi_ (pw (fun s => sdF t r 6 d s) ro Dx D2) (m + 1) (40 - (m + 1))), .int (nI m), .null, .null, .int (b2i ((D2 (ro (fc_ m))).isSome && (Dx (ro (sc_ m))).isSome || (D2 (ro (sc_ m))).isSome && (Dx (ro (fc_ m))).isSome))] _ _
            refine am_iinc (v := nI m - 1) hC dX6_doorThatHelps_153 rfl (nmm m) (by decide) ?_
            change am_W _ _ _ _ [.ref (14), .int (nI d), .int (nI c), .int (fi_ (pw (fun s => sdF t r 6 d s) ro Dx D2) (m + 1) (40 - (m + 1))), .int (nI m - 1), .null, .null, .int (b2i ((D2 (ro (fc_ m))).isSome && (Dx (ro (sc_ m))).isSome || (D2 (ro (sc_ m))).isSome && (Dx (ro (fc_ m))).isSome))] _ _
            refine am_goto (tgt := 17) hC dX6_doorThatHelps_156 (by decide) ?_
            have e8 : 40 - m = (40 - (m + 1)) + 1 := by omega
            have e9 : fi_ (pw (fun s => sdF t r 6 d s) ro Dx D2) m (40 - m) = fi_ (pw (fun s => sdF t r 6 d s) ro Dx D2) (m + 1) (40 - (m + 1)) := by rw [e8]; exact fi_n (by
              show (decide (sdF t r 6 d m = 1) && _) = false
              first
                | (rw [decide_eq_false c_138]; rfl)
                | (rw [b2i_0.mp c_143, Bool.and_false]))
            have k9 := ih (by omega) (fun z => absurd hDn z)
            rw [e9] at k9
            exact am_fgt (ls' := [.ref (14), .int (nI d), .int (nI c), .int (fi_ (pw (fun s => sdF t r 6 d s) ro Dx D2) (m + 1) (40 - (m + 1))), .int (nI m - 1), .null, .null, .null]) ⟨Or.inl rfl, ⟨Or.inl rfl, ⟨Or.inl rfl, ⟨Or.inl rfl, ⟨Or.inl rfl, ⟨Or.inr rfl, ⟨Or.inr rfl, ⟨Or.inr rfl, trivial⟩⟩⟩⟩⟩⟩⟩⟩ k9
          · replace c_138 : sdF t r 6 d m = 1 := c_138
            refine am_iload hC dX6_doorThatHelps_141 rfl ?_
            refine am_if_eq (tgt := 151) hC dX6_doorThatHelps_143 (by decide) (fun c_143 => ?_) (fun c_143 => ?_)
            · refine am_iload_n hC dX6_doorThatHelps_151 rfl ?_
              refine am_istore_n hC dX6_doorThatHelps_152 (by decide) ?_
              change am_W _ _ _ _ [.ref (14), .int (nI d), .int (nI c), .int (fi_ (pw (fun s => sdF t r 6 d s) ro Dx D2) (m + 1) (40 - (m + 1))), .int (nI m), .null, .null, .int (b2i ((D2 (ro (fc_ m))).isSome && (Dx (ro (sc_ m))).isSome || (D2 (ro (sc_ m))).isSome && (Dx (ro (fc_ m))).isSome))] _ _
              refine am_iinc (v := nI m - 1) hC dX6_doorThatHelps_153 rfl (nmm m) (by decide) ?_
              change am_W _ _ _ _ [.ref (14), .int (nI d), .int (nI c), .int (fi_ (pw (fun s => sdF t r 6 d s) ro Dx D2) (m + 1) (40 - (m + 1))), .int (nI m - 1), .null, .null, .int (b2i ((D2 (ro (fc_ m))).isSome && (Dx (ro (sc_ m))).isSome || (D2 (ro (sc_ m))).isSome && (Dx (ro (fc_ m))).isSome))] _ _
              refine am_goto (tgt := 17) hC dX6_doorThatHelps_156 (by decide) ?_
              have e8 : 40 - m = (40 - (m + 1)) + 1 := by omega
              have e9 : fi_ (pw (fun s => sdF t r 6 d s) ro Dx D2) m (40 - m) = fi_ (pw (fun s => sdF t r 6 d s) ro Dx D2) (m + 1) (40 - (m + 1)) := by rw [e8]; exact fi_n (by
                show (decide (sdF t r 6 d m = 1) && _) = false
                first
                  | (rw [decide_eq_false c_138]; rfl)
                  | (rw [b2i_0.mp c_143, Bool.and_false]))
              have k9 := ih (by omega) (fun z => absurd hDn z)
              rw [e9] at k9
              exact am_fgt (ls' := [.ref (14), .int (nI d), .int (nI c), .int (fi_ (pw (fun s => sdF t r 6 d s) ro Dx D2) (m + 1) (40 - (m + 1))), .int (nI m - 1), .null, .null, .null]) ⟨Or.inl rfl, ⟨Or.inl rfl, ⟨Or.inl rfl, ⟨Or.inl rfl, ⟨Or.inl rfl, ⟨Or.inr rfl, ⟨Or.inr rfl, ⟨Or.inr rfl, trivial⟩⟩⟩⟩⟩⟩⟩⟩ k9
            · refine am_iload hC dX6_doorThatHelps_146 rfl ?_
              refine am_goto (tgt := 152) hC dX6_doorThatHelps_148 (by decide) ?_
              refine am_istore_n hC dX6_doorThatHelps_152 (by decide) ?_
              change am_W _ _ _ _ [.ref (14), .int (nI d), .int (nI c), .int (nI m), .int (nI m), .null, .null, .int (b2i ((D2 (ro (fc_ m))).isSome && (Dx (ro (sc_ m))).isSome || (D2 (ro (sc_ m))).isSome && (Dx (ro (fc_ m))).isSome))] _ _
              refine am_iinc (v := nI m - 1) hC dX6_doorThatHelps_153 rfl (nmm m) (by decide) ?_
              change am_W _ _ _ _ [.ref (14), .int (nI d), .int (nI c), .int (nI m), .int (nI m - 1), .null, .null, .int (b2i ((D2 (ro (fc_ m))).isSome && (Dx (ro (sc_ m))).isSome || (D2 (ro (sc_ m))).isSome && (Dx (ro (fc_ m))).isSome))] _ _
              refine am_goto (tgt := 17) hC dX6_doorThatHelps_156 (by decide) ?_
              have e8 : 40 - m = (40 - (m + 1)) + 1 := by omega
              have e9 : fi_ (pw (fun s => sdF t r 6 d s) ro Dx D2) m (40 - m) = nI m := by rw [e8]; exact fi_y (by show (decide (sdF t r 6 d m = 1) && _) = true; rw [decide_eq_true c_138, b2i_ne c_143]; rfl)
              have k9 := ih (by omega) (fun z => absurd hDn z)
              rw [e9] at k9
              exact am_fgt (ls' := [.ref (14), .int (nI d), .int (nI c), .int (nI m), .int (nI m - 1), .null, .null, .null]) ⟨Or.inl rfl, ⟨Or.inl rfl, ⟨Or.inl rfl, ⟨Or.inl rfl, ⟨Or.inl rfl, ⟨Or.inr rfl, ⟨Or.inr rfl, ⟨Or.inr rfl, trivial⟩⟩⟩⟩⟩⟩⟩⟩ k9
        refine am_iload hC dX6_doorThatHelps_17 rfl ?_
        refine am_if_lt (tgt := 159) hC dX6_doorThatHelps_19 (by decide) (fun c_19 => absurd c_19 (nI_pos (by omega))) (fun c_19 => ?_)
        refine am_aload_n hC dX6_doorThatHelps_22 rfl ?_
        refine am_get (v := .ref (23)) hC (ci := 7) (N := 20) (j := 9) rfl (kM_14 hM) (by decide) tw_657 (Or.inl rfl) dX6_doorThatHelps_23 (am_rfe (rM_9 hM)) ?_
        refine am_aload_n hC dX6_doorThatHelps_26 rfl ?_
        refine am_get (v := .ref (22)) hC (ci := 7) (N := 20) (j := 8) rfl (kM_14 hM) (by decide) tw_656 (Or.inl rfl) dX6_doorThatHelps_27 (am_rfe (rM_8 hM)) ?_
        refine am_iload_n hC dX6_doorThatHelps_30 rfl ?_
        refine am_ialdE (v := nI (ro c)) hC (j := c) (N := 25) (kM_22 hM) (nM_22 hM) rfl (by omega) (by decide) dX6_doorThatHelps_31 (k3_ c hc) ?_
        refine am_ialdE (v := nI (w99 (Dx (ro c)))) hC (j := ro c) (N := 25) (kM_23 hM) (nM_23 hM) rfl hqc (by decide) dX6_doorThatHelps_32 (k4 _ hqc) ?_
        refine am_bipush (v := nI 99) hC dX6_doorThatHelps_33 (by decide) ?_
        refine am_icmp_ne (tgt := 159) hC dX6_doorThatHelps_35 (by decide) (fun c_35 => ?_) (fun c_35 => ?_)
        · replace c_35 : ¬ (w99 (Dx (ro c))) = 99 := fun q9 => c_35 ((nI_eq (a := (w99 (Dx (ro c)))) (b := 99) (by omega) (by omega)).mpr q9)
          refine am_iload_n hC dX6_doorThatHelps_159 rfl ?_
          refine am_iret hC hR rfl (by decide) (by decide) dX6_doorThatHelps_160 ?_
          have hDs : Dx (ro c) ≠ none := fun z => c_35 ((w99_n (hdl _ hqc)).mpr z)
          have h40 : m + 1 = 40 := hno hDs
          obtain rfl : m = 39 := by omega
          refine ⟨_, rfl, fun z => absurd (k3_DC hn6 hd hc) z, fun _ => ⟨?_, e5, l5⟩⟩
          rw [dn_nI (by omega), dn_nI (by omega)]
          refine ⟨ro, Dx, k1, k2, fun hk => ?_, fun hk => ?_⟩
          · rfl
          · exact absurd hk hDs
        · replace c_35 : (w99 (Dx (ro c))) = 99 := (nI_eq (a := (w99 (Dx (ro c)))) (b := 99) (by omega) (by omega)).mp c_35
          refine am_aload_n hC dX6_doorThatHelps_38 rfl ?_
          refine am_get (v := .ref (22)) hC (ci := 7) (N := 20) (j := 8) rfl (kM_14 hM) (by decide) tw_656 (Or.inl rfl) dX6_doorThatHelps_39 (am_rfe (rM_8 hM)) ?_
          refine am_iload hC dX6_doorThatHelps_42 rfl ?_
          refine am_callS hC [.int (nI m)] mf_X6_low tw_778 (c_X6_low _ _ (am_tr hC) _ m hs) rfl ⟨rfl, Nat.le_of_ble_eq_true rfl⟩ ⟨by decide, by decide⟩ (by decide) (by decide) dX6_doorThatHelps_44 rfl (fun _ _ q _ => False.elim q) (fun v h' hp hlc => ?_)
          obtain ⟨rfl, q9⟩ := hp
          have q9 := q9.symm
          subst q9
          refine am_ialdE (v := nI (ro (fc_ m))) hC (j := fc_ m) (N := 25) (kM_22 hM) (nM_22 hM) rfl (by omega) (by decide) dX6_doorThatHelps_47 (k3_ _ hfs) ?_
          refine am_istore hC dX6_doorThatHelps_48 (by decide) ?_
          change am_W _ _ _ _ [.ref (14), .int (nI d), .int (nI c), .int (fi_ (pw (fun s => sdF t r 6 d s) ro Dx D2) (m + 1) (40 - (m + 1))), .int (nI m), .int (nI (ro (fc_ m))), .null, .null] _ _
          refine am_aload_n hC dX6_doorThatHelps_50 rfl ?_
          refine am_get (v := .ref (22)) hC (ci := 7) (N := 20) (j := 8) rfl (kM_14 hM) (by decide) tw_656 (Or.inl rfl) dX6_doorThatHelps_51 (am_rfe (rM_8 hM)) ?_
          refine am_iload hC dX6_doorThatHelps_54 rfl ?_
          refine am_callS hC [.int (nI m)] mf_X6_high tw_781 (c_X6_high _ _ (am_tr hC) _ m hs) rfl ⟨rfl, Nat.le_of_ble_eq_true rfl⟩ ⟨by decide, by decide⟩ (by decide) (by decide) dX6_doorThatHelps_56 rfl (fun _ _ q _ => False.elim q) (fun v h' hp hlc => ?_)
          obtain ⟨rfl, q9⟩ := hp
          have q9 := q9.symm
          subst q9
          refine am_ialdE (v := nI (ro (sc_ m))) hC (j := sc_ m) (N := 25) (kM_22 hM) (nM_22 hM) rfl (by omega) (by decide) dX6_doorThatHelps_59 (k3_ _ hgs) ?_
          refine am_istore hC dX6_doorThatHelps_60 (by decide) ?_
          change am_W _ _ _ _ [.ref (14), .int (nI d), .int (nI c), .int (fi_ (pw (fun s => sdF t r 6 d s) ro Dx D2) (m + 1) (40 - (m + 1))), .int (nI m), .int (nI (ro (fc_ m))), .int (nI (ro (sc_ m))), .null] _ _
          refine am_aload_n hC dX6_doorThatHelps_62 rfl ?_
          refine am_get (v := .ref (23)) hC (ci := 7) (N := 20) (j := 9) rfl (kM_14 hM) (by decide) tw_657 (Or.inl rfl) dX6_doorThatHelps_63 (am_rfe (rM_9 hM)) ?_
          refine am_iload hC dX6_doorThatHelps_66 rfl ?_
          refine am_ialdE (v := nI (w99 (Dx (ro (fc_ m))))) hC (j := ro (fc_ m)) (N := 25) (kM_23 hM) (nM_23 hM) rfl (by omega) (by decide) dX6_doorThatHelps_68 (k4 _ hra) ?_
          refine am_bipush (v := nI 99) hC dX6_doorThatHelps_69 (by decide) ?_
          refine am_icmp_ge (tgt := 90) hC dX6_doorThatHelps_71 (by decide) (fun c_71 => ?_) (fun c_71 => ?_)
          · replace c_71 : 99 ≤ (w99 (Dx (ro (fc_ m)))) := (nI_leI (a := 99) (b := (w99 (Dx (ro (fc_ m))))) (by omega) (by omega)).mp c_71
            refine am_aload_n hC dX6_doorThatHelps_90 rfl ?_
            refine am_get (v := .ref (23)) hC (ci := 7) (N := 20) (j := 9) rfl (kM_14 hM) (by decide) tw_657 (Or.inl rfl) dX6_doorThatHelps_91 (am_rfe (rM_9 hM)) ?_
            refine am_iload hC dX6_doorThatHelps_94 rfl ?_
            refine am_ialdE (v := nI (w99 (Dx (ro (sc_ m))))) hC (j := ro (sc_ m)) (N := 25) (kM_23 hM) (nM_23 hM) rfl (by omega) (by decide) dX6_doorThatHelps_96 (k4 _ hrb) ?_
            refine am_bipush (v := nI 99) hC dX6_doorThatHelps_97 (by decide) ?_
            refine am_icmp_ge (tgt := 122) hC dX6_doorThatHelps_99 (by decide) (fun c_99 => ?_) (fun c_99 => ?_)
            · replace c_99 : 99 ≤ (w99 (Dx (ro (sc_ m)))) := (nI_leI (a := 99) (b := (w99 (Dx (ro (sc_ m))))) (by omega) (by omega)).mp c_99
              refine am_iconst (v := nI 0) hC dX6_doorThatHelps_122 (by decide) ?_
              refine am_istore hC dX6_doorThatHelps_123 (by decide) ?_
              change am_W _ _ _ _ [.ref (14), .int (nI d), .int (nI c), .int (fi_ (pw (fun s => sdF t r 6 d s) ro Dx D2) (m + 1) (40 - (m + 1))), .int (nI m), .int (nI (ro (fc_ m))), .int (nI (ro (sc_ m))), .int (nI 0)] _ _
              have hDn : Dx (ro c) = none := (w99_n (hdl _ hqc)).mp c_35
              have k9 := m125 hDn
              have x1 := (w99_s (hdl _ hra))
              have x2 := (w99_s (hdl _ hrb))
              have e9 : b2i ((D2 (ro (fc_ m))).isSome && (Dx (ro (sc_ m))).isSome || (D2 (ro (sc_ m))).isSome && (Dx (ro (fc_ m))).isSome) = nI 0 := by
                rw [x1, x2]
                first
                  | (rw [decide_eq_false (show ¬ w99 (Dx (ro (fc_ m))) < 99 by omega), decide_eq_false (show ¬ w99 (Dx (ro (sc_ m))) < 99 by omega)]; simp only [Bool.and_false, Bool.or_false]; rfl)
                  | (rw [(show (D2 (ro (sc_ m))).isSome = false from Bool.eq_false_iff.mpr (fun z => by rw [hR1.mpr (some_ne.mpr z)] at c_87; exact absurd c_87 (by decide))), decide_eq_false (show ¬ w99 (Dx (ro (sc_ m))) < 99 by omega)]; simp only [Bool.and_false, Bool.false_and, Bool.or_false]; rfl)
                  | (rw [(show (D2 (ro (fc_ m))).isSome = false from Bool.eq_false_iff.mpr (fun z => by rw [hR2.mpr (some_ne.mpr z)] at c_115; exact absurd c_115 (by decide))), decide_eq_false (show ¬ w99 (Dx (ro (fc_ m))) < 99 by omega)]; simp only [Bool.and_false, Bool.false_and, Bool.or_false]; rfl)
                  | (rw [(show (D2 (ro (sc_ m))).isSome = false from Bool.eq_false_iff.mpr (fun z => by rw [hR1.mpr (some_ne.mpr z)] at c_87; exact absurd c_87 (by decide))), (show (D2 (ro (fc_ m))).isSome = false from Bool.eq_false_iff.mpr (fun z => by rw [hR2.mpr (some_ne.mpr z)] at c_115; exact absurd c_115 (by decide)))]; simp only [Bool.and_false, Bool.false_and, Bool.or_false]; rfl)
              rw [e9] at k9
              exact am_fgt (ls' := [.ref (14), .int (nI d), .int (nI c), .int (fi_ (pw (fun s => sdF t r 6 d s) ro Dx D2) (m + 1) (40 - (m + 1))), .int (nI m), .null, .null, .int (nI 0)]) ⟨Or.inl rfl, ⟨Or.inl rfl, ⟨Or.inl rfl, ⟨Or.inl rfl, ⟨Or.inl rfl, ⟨Or.inr rfl, ⟨Or.inr rfl, ⟨Or.inl rfl, trivial⟩⟩⟩⟩⟩⟩⟩⟩ k9
            · replace c_99 : ¬ 99 ≤ (w99 (Dx (ro (sc_ m)))) := fun q9 => c_99 ((nI_leI (a := 99) (b := (w99 (Dx (ro (sc_ m))))) (by omega) (by omega)).mpr q9)
              refine am_aload_n hC dX6_doorThatHelps_102 rfl ?_
              refine am_iload_n hC dX6_doorThatHelps_103 rfl ?_
              refine am_aload_n hC dX6_doorThatHelps_104 rfl ?_
              refine am_get (v := .ref (22)) hC (ci := 7) (N := 20) (j := 8) rfl (kM_14 hM) (by decide) tw_656 (Or.inl rfl) dX6_doorThatHelps_105 (am_rfe (rM_8 hM)) ?_
              refine am_iload_n hC dX6_doorThatHelps_108 rfl ?_
              refine am_ialdE (v := nI (ro c)) hC (j := c) (N := 25) (kM_22 hM) (nM_22 hM) rfl (by omega) (by decide) dX6_doorThatHelps_109 (k3_ c hc) ?_
              refine am_iload hC dX6_doorThatHelps_110 rfl ?_
              refine am_callV hC (ci := 7) (N := 20) [.int (nI d), .int (nI (ro c)), .int (nI (ro (fc_ m)))] rfl (kM_14 hM) rfl mf_X6_isJoined tw_804 (c_X6_isJoined _ _ (am_tr hC) h1 hM d (by omega) (fun s => sdF t r 6 d s) ro (hf d hd).1 k3_ hrl (ro c) (ro (fc_ m)) hqc hra D2 hD2) rfl ⟨rfl, Nat.le_of_ble_eq_true rfl⟩ ⟨by decide, by decide⟩ (by decide) (by decide) dX6_doorThatHelps_112 rfl (fun _ _ q _ => False.elim q) (fun v h' hp hlc => ?_)
              obtain ⟨z8, R2, z9, hR2⟩ := hp
              have z8 := z8.symm
              subst z8
              subst z9
              refine am_if_eq (tgt := 122) hC dX6_doorThatHelps_115 (by decide) (fun c_115 => ?_) (fun c_115 => ?_)
              · refine am_iconst (v := nI 0) hC dX6_doorThatHelps_122 (by decide) ?_
                refine am_istore hC dX6_doorThatHelps_123 (by decide) ?_
                change am_W _ _ _ _ [.ref (14), .int (nI d), .int (nI c), .int (fi_ (pw (fun s => sdF t r 6 d s) ro Dx D2) (m + 1) (40 - (m + 1))), .int (nI m), .int (nI (ro (fc_ m))), .int (nI (ro (sc_ m))), .int (nI 0)] _ _
                have hDn : Dx (ro c) = none := (w99_n (hdl _ hqc)).mp c_35
                have k9 := m125 hDn
                have x1 := (w99_s (hdl _ hra))
                have x2 := (w99_s (hdl _ hrb))
                have e9 : b2i ((D2 (ro (fc_ m))).isSome && (Dx (ro (sc_ m))).isSome || (D2 (ro (sc_ m))).isSome && (Dx (ro (fc_ m))).isSome) = nI 0 := by
                  rw [x1, x2]
                  first
                    | (rw [decide_eq_false (show ¬ w99 (Dx (ro (fc_ m))) < 99 by omega), decide_eq_false (show ¬ w99 (Dx (ro (sc_ m))) < 99 by omega)]; simp only [Bool.and_false, Bool.or_false]; rfl)
                    | (rw [(show (D2 (ro (sc_ m))).isSome = false from Bool.eq_false_iff.mpr (fun z => by rw [hR1.mpr (some_ne.mpr z)] at c_87; exact absurd c_87 (by decide))), decide_eq_false (show ¬ w99 (Dx (ro (sc_ m))) < 99 by omega)]; simp only [Bool.and_false, Bool.false_and, Bool.or_false]; rfl)
                    | (rw [(show (D2 (ro (fc_ m))).isSome = false from Bool.eq_false_iff.mpr (fun z => by rw [hR2.mpr (some_ne.mpr z)] at c_115; exact absurd c_115 (by decide))), decide_eq_false (show ¬ w99 (Dx (ro (fc_ m))) < 99 by omega)]; simp only [Bool.and_false, Bool.false_and, Bool.or_false]; rfl)
                    | (rw [(show (D2 (ro (sc_ m))).isSome = false from Bool.eq_false_iff.mpr (fun z => by rw [hR1.mpr (some_ne.mpr z)] at c_87; exact absurd c_87 (by decide))), (show (D2 (ro (fc_ m))).isSome = false from Bool.eq_false_iff.mpr (fun z => by rw [hR2.mpr (some_ne.mpr z)] at c_115; exact absurd c_115 (by decide)))]; simp only [Bool.and_false, Bool.false_and, Bool.or_false]; rfl)
                rw [e9] at k9
                exact am_fgt (ls' := [.ref (14), .int (nI d), .int (nI c), .int (fi_ (pw (fun s => sdF t r 6 d s) ro Dx D2) (m + 1) (40 - (m + 1))), .int (nI m), .null, .null, .int (nI 0)]) ⟨Or.inl rfl, ⟨Or.inl rfl, ⟨Or.inl rfl, ⟨Or.inl rfl, ⟨Or.inl rfl, ⟨Or.inr rfl, ⟨Or.inr rfl, ⟨Or.inl rfl, trivial⟩⟩⟩⟩⟩⟩⟩⟩ k9
              · refine am_iconst (v := nI 1) hC dX6_doorThatHelps_118 (by decide) ?_
                refine am_goto (tgt := 123) hC dX6_doorThatHelps_119 (by decide) ?_
                refine am_istore hC dX6_doorThatHelps_123 (by decide) ?_
                change am_W _ _ _ _ [.ref (14), .int (nI d), .int (nI c), .int (fi_ (pw (fun s => sdF t r 6 d s) ro Dx D2) (m + 1) (40 - (m + 1))), .int (nI m), .int (nI (ro (fc_ m))), .int (nI (ro (sc_ m))), .int (nI 1)] _ _
                have hDn : Dx (ro c) = none := (w99_n (hdl _ hqc)).mp c_35
                have k9 := m125 hDn
                have x1 := (w99_s (hdl _ hra))
                have x2 := (w99_s (hdl _ hrb))
                have e9 : b2i ((D2 (ro (fc_ m))).isSome && (Dx (ro (sc_ m))).isSome || (D2 (ro (sc_ m))).isSome && (Dx (ro (fc_ m))).isSome) = nI 1 := by
                  rw [x1, x2]
                  first
                    | (rw [show (D2 (ro (sc_ m))).isSome = true from some_ne.mp (hR1.mp (b2i_ne c_87)), decide_eq_true (show w99 (Dx (ro (fc_ m))) < 99 by omega), Bool.and_true, Bool.or_true]; rfl)
                    | (rw [show (D2 (ro (fc_ m))).isSome = true from some_ne.mp (hR2.mp (b2i_ne c_115)), decide_eq_true (show w99 (Dx (ro (sc_ m))) < 99 by omega)]; rfl)
                rw [e9] at k9
                exact am_fgt (ls' := [.ref (14), .int (nI d), .int (nI c), .int (fi_ (pw (fun s => sdF t r 6 d s) ro Dx D2) (m + 1) (40 - (m + 1))), .int (nI m), .null, .null, .int (nI 1)]) ⟨Or.inl rfl, ⟨Or.inl rfl, ⟨Or.inl rfl, ⟨Or.inl rfl, ⟨Or.inl rfl, ⟨Or.inr rfl, ⟨Or.inr rfl, ⟨Or.inl rfl, trivial⟩⟩⟩⟩⟩⟩⟩⟩ k9
          · replace c_71 : ¬ 99 ≤ (w99 (Dx (ro (fc_ m)))) := fun q9 => c_71 ((nI_leI (a := 99) (b := (w99 (Dx (ro (fc_ m))))) (by omega) (by omega)).mpr q9)
            refine am_aload_n hC dX6_doorThatHelps_74 rfl ?_
            refine am_iload_n hC dX6_doorThatHelps_75 rfl ?_
            refine am_aload_n hC dX6_doorThatHelps_76 rfl ?_
            refine am_get (v := .ref (22)) hC (ci := 7) (N := 20) (j := 8) rfl (kM_14 hM) (by decide) tw_656 (Or.inl rfl) dX6_doorThatHelps_77 (am_rfe (rM_8 hM)) ?_
            refine am_iload_n hC dX6_doorThatHelps_80 rfl ?_
            refine am_ialdE (v := nI (ro c)) hC (j := c) (N := 25) (kM_22 hM) (nM_22 hM) rfl (by omega) (by decide) dX6_doorThatHelps_81 (k3_ c hc) ?_
            refine am_iload hC dX6_doorThatHelps_82 rfl ?_
            refine am_callV hC (ci := 7) (N := 20) [.int (nI d), .int (nI (ro c)), .int (nI (ro (sc_ m)))] rfl (kM_14 hM) rfl mf_X6_isJoined tw_804 (c_X6_isJoined _ _ (am_tr hC) h1 hM d (by omega) (fun s => sdF t r 6 d s) ro (hf d hd).1 k3_ hrl (ro c) (ro (sc_ m)) hqc hrb D2 hD2) rfl ⟨rfl, Nat.le_of_ble_eq_true rfl⟩ ⟨by decide, by decide⟩ (by decide) (by decide) dX6_doorThatHelps_84 rfl (fun _ _ q _ => False.elim q) (fun v h' hp hlc => ?_)
            obtain ⟨z8, R1, z9, hR1⟩ := hp
            have z8 := z8.symm
            subst z8
            subst z9
            refine am_if_ne (tgt := 118) hC dX6_doorThatHelps_87 (by decide) (fun c_87 => ?_) (fun c_87 => ?_)
            · refine am_iconst (v := nI 1) hC dX6_doorThatHelps_118 (by decide) ?_
              refine am_goto (tgt := 123) hC dX6_doorThatHelps_119 (by decide) ?_
              refine am_istore hC dX6_doorThatHelps_123 (by decide) ?_
              change am_W _ _ _ _ [.ref (14), .int (nI d), .int (nI c), .int (fi_ (pw (fun s => sdF t r 6 d s) ro Dx D2) (m + 1) (40 - (m + 1))), .int (nI m), .int (nI (ro (fc_ m))), .int (nI (ro (sc_ m))), .int (nI 1)] _ _
              have hDn : Dx (ro c) = none := (w99_n (hdl _ hqc)).mp c_35
              have k9 := m125 hDn
              have x1 := (w99_s (hdl _ hra))
              have x2 := (w99_s (hdl _ hrb))
              have e9 : b2i ((D2 (ro (fc_ m))).isSome && (Dx (ro (sc_ m))).isSome || (D2 (ro (sc_ m))).isSome && (Dx (ro (fc_ m))).isSome) = nI 1 := by
                rw [x1, x2]
                first
                  | (rw [show (D2 (ro (sc_ m))).isSome = true from some_ne.mp (hR1.mp (b2i_ne c_87)), decide_eq_true (show w99 (Dx (ro (fc_ m))) < 99 by omega), Bool.and_true, Bool.or_true]; rfl)
                  | (rw [show (D2 (ro (fc_ m))).isSome = true from some_ne.mp (hR2.mp (b2i_ne c_115)), decide_eq_true (show w99 (Dx (ro (sc_ m))) < 99 by omega)]; rfl)
              rw [e9] at k9
              exact am_fgt (ls' := [.ref (14), .int (nI d), .int (nI c), .int (fi_ (pw (fun s => sdF t r 6 d s) ro Dx D2) (m + 1) (40 - (m + 1))), .int (nI m), .null, .null, .int (nI 1)]) ⟨Or.inl rfl, ⟨Or.inl rfl, ⟨Or.inl rfl, ⟨Or.inl rfl, ⟨Or.inl rfl, ⟨Or.inr rfl, ⟨Or.inr rfl, ⟨Or.inl rfl, trivial⟩⟩⟩⟩⟩⟩⟩⟩ k9
            · refine am_aload_n hC dX6_doorThatHelps_90 rfl ?_
              refine am_get (v := .ref (23)) hC (ci := 7) (N := 20) (j := 9) rfl (kM_14 hM) (by decide) tw_657 (Or.inl rfl) dX6_doorThatHelps_91 (am_rfe (rM_9 hM)) ?_
              refine am_iload hC dX6_doorThatHelps_94 rfl ?_
              refine am_ialdE (v := nI (w99 (Dx (ro (sc_ m))))) hC (j := ro (sc_ m)) (N := 25) (kM_23 hM) (nM_23 hM) rfl (by omega) (by decide) dX6_doorThatHelps_96 (k4 _ hrb) ?_
              refine am_bipush (v := nI 99) hC dX6_doorThatHelps_97 (by decide) ?_
              refine am_icmp_ge (tgt := 122) hC dX6_doorThatHelps_99 (by decide) (fun c_99 => ?_) (fun c_99 => ?_)
              · replace c_99 : 99 ≤ (w99 (Dx (ro (sc_ m)))) := (nI_leI (a := 99) (b := (w99 (Dx (ro (sc_ m))))) (by omega) (by omega)).mp c_99
                refine am_iconst (v := nI 0) hC dX6_doorThatHelps_122 (by decide) ?_
                refine am_istore hC dX6_doorThatHelps_123 (by decide) ?_
                change am_W _ _ _ _ [.ref (14), .int (nI d), .int (nI c), .int (fi_ (pw (fun s => sdF t r 6 d s) ro Dx D2) (m + 1) (40 - (m + 1))), .int (nI m), .int (nI (ro (fc_ m))), .int (nI (ro (sc_ m))), .int (nI 0)] _ _
                have hDn : Dx (ro c) = none := (w99_n (hdl _ hqc)).mp c_35
                have k9 := m125 hDn
                have x1 := (w99_s (hdl _ hra))
                have x2 := (w99_s (hdl _ hrb))
                have e9 : b2i ((D2 (ro (fc_ m))).isSome && (Dx (ro (sc_ m))).isSome || (D2 (ro (sc_ m))).isSome && (Dx (ro (fc_ m))).isSome) = nI 0 := by
                  rw [x1, x2]
                  first
                    | (rw [decide_eq_false (show ¬ w99 (Dx (ro (fc_ m))) < 99 by omega), decide_eq_false (show ¬ w99 (Dx (ro (sc_ m))) < 99 by omega)]; simp only [Bool.and_false, Bool.or_false]; rfl)
                    | (rw [(show (D2 (ro (sc_ m))).isSome = false from Bool.eq_false_iff.mpr (fun z => by rw [hR1.mpr (some_ne.mpr z)] at c_87; exact absurd c_87 (by decide))), decide_eq_false (show ¬ w99 (Dx (ro (sc_ m))) < 99 by omega)]; simp only [Bool.and_false, Bool.false_and, Bool.or_false]; rfl)
                    | (rw [(show (D2 (ro (fc_ m))).isSome = false from Bool.eq_false_iff.mpr (fun z => by rw [hR2.mpr (some_ne.mpr z)] at c_115; exact absurd c_115 (by decide))), decide_eq_false (show ¬ w99 (Dx (ro (fc_ m))) < 99 by omega)]; simp only [Bool.and_false, Bool.false_and, Bool.or_false]; rfl)
                    | (rw [(show (D2 (ro (sc_ m))).isSome = false from Bool.eq_false_iff.mpr (fun z => by rw [hR1.mpr (some_ne.mpr z)] at c_87; exact absurd c_87 (by decide))), (show (D2 (ro (fc_ m))).isSome = false from Bool.eq_false_iff.mpr (fun z => by rw [hR2.mpr (some_ne.mpr z)] at c_115; exact absurd c_115 (by decide)))]; simp only [Bool.and_false, Bool.false_and, Bool.or_false]; rfl)
                rw [e9] at k9
                exact am_fgt (ls' := [.ref (14), .int (nI d), .int (nI c), .int (fi_ (pw (fun s => sdF t r 6 d s) ro Dx D2) (m + 1) (40 - (m + 1))), .int (nI m), .null, .null, .int (nI 0)]) ⟨Or.inl rfl, ⟨Or.inl rfl, ⟨Or.inl rfl, ⟨Or.inl rfl, ⟨Or.inl rfl, ⟨Or.inr rfl, ⟨Or.inr rfl, ⟨Or.inl rfl, trivial⟩⟩⟩⟩⟩⟩⟩⟩ k9
              · replace c_99 : ¬ 99 ≤ (w99 (Dx (ro (sc_ m)))) := fun q9 => c_99 ((nI_leI (a := 99) (b := (w99 (Dx (ro (sc_ m))))) (by omega) (by omega)).mpr q9)
                refine am_aload_n hC dX6_doorThatHelps_102 rfl ?_
                refine am_iload_n hC dX6_doorThatHelps_103 rfl ?_
                refine am_aload_n hC dX6_doorThatHelps_104 rfl ?_
                refine am_get (v := .ref (22)) hC (ci := 7) (N := 20) (j := 8) rfl (kM_14 hM) (by decide) tw_656 (Or.inl rfl) dX6_doorThatHelps_105 (am_rfe (rM_8 hM)) ?_
                refine am_iload_n hC dX6_doorThatHelps_108 rfl ?_
                refine am_ialdE (v := nI (ro c)) hC (j := c) (N := 25) (kM_22 hM) (nM_22 hM) rfl (by omega) (by decide) dX6_doorThatHelps_109 (k3_ c hc) ?_
                refine am_iload hC dX6_doorThatHelps_110 rfl ?_
                refine am_callV hC (ci := 7) (N := 20) [.int (nI d), .int (nI (ro c)), .int (nI (ro (fc_ m)))] rfl (kM_14 hM) rfl mf_X6_isJoined tw_804 (c_X6_isJoined _ _ (am_tr hC) h1 hM d (by omega) (fun s => sdF t r 6 d s) ro (hf d hd).1 k3_ hrl (ro c) (ro (fc_ m)) hqc hra D2 hD2) rfl ⟨rfl, Nat.le_of_ble_eq_true rfl⟩ ⟨by decide, by decide⟩ (by decide) (by decide) dX6_doorThatHelps_112 rfl (fun _ _ q _ => False.elim q) (fun v h' hp hlc => ?_)
                obtain ⟨z8, R2, z9, hR2⟩ := hp
                have z8 := z8.symm
                subst z8
                subst z9
                refine am_if_eq (tgt := 122) hC dX6_doorThatHelps_115 (by decide) (fun c_115 => ?_) (fun c_115 => ?_)
                · refine am_iconst (v := nI 0) hC dX6_doorThatHelps_122 (by decide) ?_
                  refine am_istore hC dX6_doorThatHelps_123 (by decide) ?_
                  change am_W _ _ _ _ [.ref (14), .int (nI d), .int (nI c), .int (fi_ (pw (fun s => sdF t r 6 d s) ro Dx D2) (m + 1) (40 - (m + 1))), .int (nI m), .int (nI (ro (fc_ m))), .int (nI (ro (sc_ m))), .int (nI 0)] _ _
                  have hDn : Dx (ro c) = none := (w99_n (hdl _ hqc)).mp c_35
                  have k9 := m125 hDn
                  have x1 := (w99_s (hdl _ hra))
                  have x2 := (w99_s (hdl _ hrb))
                  have e9 : b2i ((D2 (ro (fc_ m))).isSome && (Dx (ro (sc_ m))).isSome || (D2 (ro (sc_ m))).isSome && (Dx (ro (fc_ m))).isSome) = nI 0 := by
                    rw [x1, x2]
                    first
                      | (rw [decide_eq_false (show ¬ w99 (Dx (ro (fc_ m))) < 99 by omega), decide_eq_false (show ¬ w99 (Dx (ro (sc_ m))) < 99 by omega)]; simp only [Bool.and_false, Bool.or_false]; rfl)
                      | (rw [(show (D2 (ro (sc_ m))).isSome = false from Bool.eq_false_iff.mpr (fun z => by rw [hR1.mpr (some_ne.mpr z)] at c_87; exact absurd c_87 (by decide))), decide_eq_false (show ¬ w99 (Dx (ro (sc_ m))) < 99 by omega)]; simp only [Bool.and_false, Bool.false_and, Bool.or_false]; rfl)
                      | (rw [(show (D2 (ro (fc_ m))).isSome = false from Bool.eq_false_iff.mpr (fun z => by rw [hR2.mpr (some_ne.mpr z)] at c_115; exact absurd c_115 (by decide))), decide_eq_false (show ¬ w99 (Dx (ro (fc_ m))) < 99 by omega)]; simp only [Bool.and_false, Bool.false_and, Bool.or_false]; rfl)
                      | (rw [(show (D2 (ro (sc_ m))).isSome = false from Bool.eq_false_iff.mpr (fun z => by rw [hR1.mpr (some_ne.mpr z)] at c_87; exact absurd c_87 (by decide))), (show (D2 (ro (fc_ m))).isSome = false from Bool.eq_false_iff.mpr (fun z => by rw [hR2.mpr (some_ne.mpr z)] at c_115; exact absurd c_115 (by decide)))]; simp only [Bool.and_false, Bool.false_and, Bool.or_false]; rfl)
                  rw [e9] at k9
                  exact am_fgt (ls' := [.ref (14), .int (nI d), .int (nI c), .int (fi_ (pw (fun s => sdF t r 6 d s) ro Dx D2) (m + 1) (40 - (m + 1))), .int (nI m), .null, .null, .int (nI 0)]) ⟨Or.inl rfl, ⟨Or.inl rfl, ⟨Or.inl rfl, ⟨Or.inl rfl, ⟨Or.inl rfl, ⟨Or.inr rfl, ⟨Or.inr rfl, ⟨Or.inl rfl, trivial⟩⟩⟩⟩⟩⟩⟩⟩ k9
                · refine am_iconst (v := nI 1) hC dX6_doorThatHelps_118 (by decide) ?_
                  refine am_goto (tgt := 123) hC dX6_doorThatHelps_119 (by decide) ?_
                  refine am_istore hC dX6_doorThatHelps_123 (by decide) ?_
                  change am_W _ _ _ _ [.ref (14), .int (nI d), .int (nI c), .int (fi_ (pw (fun s => sdF t r 6 d s) ro Dx D2) (m + 1) (40 - (m + 1))), .int (nI m), .int (nI (ro (fc_ m))), .int (nI (ro (sc_ m))), .int (nI 1)] _ _
                  have hDn : Dx (ro c) = none := (w99_n (hdl _ hqc)).mp c_35
                  have k9 := m125 hDn
                  have x1 := (w99_s (hdl _ hra))
                  have x2 := (w99_s (hdl _ hrb))
                  have e9 : b2i ((D2 (ro (fc_ m))).isSome && (Dx (ro (sc_ m))).isSome || (D2 (ro (sc_ m))).isSome && (Dx (ro (fc_ m))).isSome) = nI 1 := by
                    rw [x1, x2]
                    first
                      | (rw [show (D2 (ro (sc_ m))).isSome = true from some_ne.mp (hR1.mp (b2i_ne c_87)), decide_eq_true (show w99 (Dx (ro (fc_ m))) < 99 by omega), Bool.and_true, Bool.or_true]; rfl)
                      | (rw [show (D2 (ro (fc_ m))).isSome = true from some_ne.mp (hR2.mp (b2i_ne c_115)), decide_eq_true (show w99 (Dx (ro (sc_ m))) < 99 by omega)]; rfl)
                  rw [e9] at k9
                  exact am_fgt (ls' := [.ref (14), .int (nI d), .int (nI c), .int (fi_ (pw (fun s => sdF t r 6 d s) ro Dx D2) (m + 1) (40 - (m + 1))), .int (nI m), .null, .null, .int (nI 1)]) ⟨Or.inl rfl, ⟨Or.inl rfl, ⟨Or.inl rfl, ⟨Or.inl rfl, ⟨Or.inl rfl, ⟨Or.inr rfl, ⟨Or.inr rfl, ⟨Or.inl rfl, trivial⟩⟩⟩⟩⟩⟩⟩⟩ k9
    have k9 := sl 40 (Nat.le_refl _) (fun _ => rfl)
    rw [show nI 40 - 1 = nI 39 from rfl] at k9
    exact k9
  · refine am_iconst (v := nI 0) hC dX6_doorThatHelps_9 (by decide) ?_
    refine am_iret hC hR rfl (by decide) (by decide) dX6_doorThatHelps_10 ?_
    have hR8 := hA.1 (b2i_0.mp c_6)
    exact ⟨_, rfl, fun _ => hR8.2, fun z => absurd z hR8.1⟩
