/-! ===== the wall that helps ===== -/
theorem b2i_ne {b : Bool} (h : ¬ b2i b = 0) : b = true := by
  cases b
  · exact absurd rfl h
  · rfl
def fi_ (p : Nat → Bool) : Nat → Nat → Int32
  | _, 0 => -1
  | i, m + 1 => if p i = true then nI i else fi_ p (i + 1) m
theorem fi_y {p : Nat → Bool} {i m : Nat} (h : p i = true) : fi_ p i (m + 1) = nI i := if_pos h
theorem fi_n {p : Nat → Bool} {i m : Nat} (h : p i = false) : fi_ p i (m + 1) = fi_ p (i + 1) m := if_neg (by rw [h]; decide)
def pw (sd : Nat → Int32) (ro : Nat → Nat) (D D2 : Nat → Option Nat) (s : Nat) : Bool := decide (sd s = 1) && (((D2 (ro (fc_ s))).isSome && (D (ro (sc_ s))).isSome) || ((D2 (ro (sc_ s))).isSome && (D (ro (fc_ s))).isSome))
set_option maxRecDepth 100000 in
set_option maxHeartbeats 4000000 in
theorem c_X1_wallThatHelps (G : am_G) (l : Launch) (htr : l.stackTraces = false) (h : am_H) (hF : FC h) (ro : Nat → Nat) (hro : RoomOK (fun s => hi_ h 9 s) ro) (hr11 : ∀ c, c < 25 → hi_ h 11 c = nI (ro c)) (D : Nat → Option Nat) (hv : ∀ r, r < 25 → hi_ h 12 r = dI (D r)) (hdl : ∀ r, r < 25 → ∀ k, D r = some k → k < 25) (q : Nat) (hq : q < 25) : am_Met G l yX1_wallThatHelps (.code yX1_wallThatHelps cX1_wallThatHelps 5 (some .int)) 5 0 0 [.ref (7), .int (nI q)] h (fun v h' => am_eq (fun r => r = 13) h h' ∧ ∃ R, v = some (.int R) ∧ ((∃ k, D q = some k) → R = -1) ∧ (D q = none → ∃ D2, DistOK 25 (fun r => r = q) (adjD (fun s => hi_ h 9 s) ro) D2 ∧ R = fi_ (pw (fun s => hi_ h 9 s) ro D D2) 0 40)) (am_no) := by
  refine am_intro rfl htr rfl (Nat.le_of_ble_eq_true rfl) (fun Z hC hR hI => ?_)
  change am_W Z 0 0 0 [.ref (7), .int (nI q), .null, .null, .null] [] h
  have hS : ∀ r, r = 13 → r ≤ 2 ∨ 9 ≤ r := fun r z => by omega
  have hdq := dI_none (o := D q) (fun j hj => by have := hdl _ hq j hj; omega)
  have loop : ∀ (D2 : Nat → Option Nat) (g : am_H), am_eq (fun r => r = 13) h g → am_le h g → D q = none → DistOK 25 (fun r => r = q) (adjD (fun s => hi_ h 9 s) ro) D2 → (∀ r, r < 25 → hi_ g 13 r = dI (D2 r)) → ∀ (m s : Nat), s + m = 40 → fi_ (pw (fun s => hi_ h 9 s) ro D D2) 0 40 = fi_ (pw (fun s => hi_ h 9 s) ro D D2) s m → am_W Z (0 + 0 + 0) (0 + 0 + 0) 37 [.ref (7), .int (nI q), .int (nI s), .null, .null] [] g := by
    intro D2 g e hle hdn hD2 hv2 m
    have hF := FC_eq hS e hle hF
    have hvg : ∀ r, r < 25 → hi_ g 12 r = dI (D r) := fun r hr => ((e 12 (by decide)).2.2.1 r).trans (hv r hr)
    have hdl2 : ∀ r, r < 25 → ∀ k, D2 r = some k → k < 25 := fun r hr k hk => Dist_lt hD2 hr hk
    induction m with
    | zero =>
      intro s him hs
      obtain rfl : s = 40 := by omega
      refine am_iload_n hC dX1_wallThatHelps_37 rfl ?_
      refine am_bipush (v := nI 40) hC dX1_wallThatHelps_38 (by decide) ?_
      refine am_icmp_ge (tgt := 105) hC dX1_wallThatHelps_40 (by decide) (fun c_40 => ?_) (fun c_40 => absurd (nI_le (by omega) (by omega)) c_40)
      refine am_iconst (v := -1) hC dX1_wallThatHelps_105 (by decide) ?_
      refine am_iret hC hR rfl (by decide) (by decide) dX1_wallThatHelps_106 ?_
      exact ⟨e, _, rfl, fun ⟨k, z⟩ => absurd (hdn.symm.trans z) (by simp), fun _ => ⟨D2, hD2, hs.symm⟩⟩
    | succ m ih =>
      intro s him hs
      have h9 : hi_ g 9 s = hi_ h 9 s := (e 9 (by decide)).2.2.1 s
      have hf := fc_lt (by omega : s < 40)
      have hg := sc_lt (by omega : s < 40)
      have hrf := Room_lt hro hf
      have hrg := Room_lt hro hg
      have hra : hi_ g 11 (fc_ s) = nI (ro (fc_ s)) := ((e 11 (by decide)).2.2.1 _).trans (hr11 _ hf)
      have hrb : hi_ g 11 (sc_ s) = nI (ro (sc_ s)) := ((e 11 (by decide)).2.2.1 _).trans (hr11 _ hg)
      refine am_iload_n hC dX1_wallThatHelps_37 rfl ?_
      refine am_bipush (v := nI 40) hC dX1_wallThatHelps_38 (by decide) ?_
      refine am_icmp_ge (tgt := 105) hC dX1_wallThatHelps_40 (by decide) (fun c_40 => absurd c_40 (nI_ge (by omega) (by omega))) (fun c_40 => ?_)
      refine am_aload_n hC dX1_wallThatHelps_43 rfl ?_
      refine am_get (v := .ref (11)) hC (ci := 2) (N := 4) (j := 1) rfl (kC_7 hF) (by decide) tw_80 (Or.inl rfl) dX1_wallThatHelps_44 (am_rfe (rC_7_1 hF)) ?_
      refine am_iload_n hC dX1_wallThatHelps_47 rfl ?_
      refine am_callSN hC [.int (nI s)] mf_X5_firstCell tw_385 (c_X5_firstCell _ _ (am_tr hC) _ s (by omega)) rfl ⟨rfl, Nat.le_of_ble_eq_true rfl⟩ ⟨by decide, by decide⟩ (by decide) (by decide) dX1_wallThatHelps_48 rfl (fun _ _ q _ => False.elim q) (fun v h' hp hlc => ?_)
      obtain ⟨rfl, q9⟩ := hp
      have q9 := q9.symm
      subst q9
      refine am_ialdE (v := nI (ro (fc_ s))) hC (j := fc_ s) (N := 25) (kC_11 hF) (nC_11 hF) rfl (by omega) (by decide) dX1_wallThatHelps_51 hra ?_
      refine am_istore_n hC dX1_wallThatHelps_52 (by decide) ?_
      change am_W _ _ _ _ [.ref (7), .int (nI q), .int (nI s), .int (nI (ro (fc_ s))), .null] _ _
      refine am_aload_n hC dX1_wallThatHelps_53 rfl ?_
      refine am_get (v := .ref (11)) hC (ci := 2) (N := 4) (j := 1) rfl (kC_7 hF) (by decide) tw_80 (Or.inl rfl) dX1_wallThatHelps_54 (am_rfe (rC_7_1 hF)) ?_
      refine am_iload_n hC dX1_wallThatHelps_57 rfl ?_
      refine am_callSN hC [.int (nI s)] mf_X5_secondCell tw_388 (c_X5_secondCell _ _ (am_tr hC) _ s (by omega)) rfl ⟨rfl, Nat.le_of_ble_eq_true rfl⟩ ⟨by decide, by decide⟩ (by decide) (by decide) dX1_wallThatHelps_58 rfl (fun _ _ q _ => False.elim q) (fun v h' hp hlc => ?_)
      obtain ⟨rfl, q9⟩ := hp
      have q9 := q9.symm
      subst q9
      refine am_ialdE (v := nI (ro (sc_ s))) hC (j := sc_ s) (N := 25) (kC_11 hF) (nC_11 hF) rfl (by omega) (by decide) dX1_wallThatHelps_61 hrb ?_
      refine am_istore hC dX1_wallThatHelps_62 (by decide) ?_
      change am_W _ _ _ _ [.ref (7), .int (nI q), .int (nI s), .int (nI (ro (fc_ s))), .int (nI (ro (sc_ s)))] _ _
      refine am_aload_n hC dX1_wallThatHelps_64 rfl ?_
      refine am_get (v := .ref (8)) hC (ci := 2) (N := 4) (j := 0) rfl (kC_7 hF) (by decide) tw_79 (Or.inl rfl) dX1_wallThatHelps_65 (am_rfe (rC_7_0 hF)) ?_
      refine am_getN (v := .ref (9)) hC (ci := 5) (N := 2) (j := 0) rfl (kC_8 hF) (by decide) tw_69 dX1_wallThatHelps_68 (am_rfe (rC_8_0 hF)) ?_
      refine am_iload_n hC dX1_wallThatHelps_71 rfl ?_
      refine am_ialdE (v := hi_ h 9 s) hC (j := s) (N := 40) (kC_9 hF) (nC_9 hF) rfl (by omega) (by decide) dX1_wallThatHelps_72 h9 ?_
      refine am_iconst (v := nI 1) hC dX1_wallThatHelps_73 (by decide) ?_
      refine am_icmp_ne (tgt := 99) hC dX1_wallThatHelps_74 (by decide) (fun c_74 => ?_) (fun c_74 => ?_)
      · replace c_74 : ¬ hi_ h 9 s = 1 := c_74
        refine am_iinc (v := nI (s + 1)) hC dX1_wallThatHelps_99 rfl (nI_1 (s)) (by decide) ?_
        change am_W _ _ _ _ [.ref (7), .int (nI q), .int (nI (s + 1)), .int (nI (ro (fc_ s))), .int (nI (ro (sc_ s)))] _ _
        refine am_goto (tgt := 37) hC dX1_wallThatHelps_102 (by decide) ?_
        have hp : pw (fun s => hi_ h 9 s) ro D D2 s = false := by
          show (decide (hi_ h 9 s = 1) && (_ || _)) = false
          first
            | (rw [decide_eq_false c_74]; rfl)
            | (rw [b2i_0.mp c_84, b2i_0.mp c_94, Bool.or_false, Bool.and_false])
        exact am_fgt (ls' := [.ref (7), .int (nI q), .int (nI (s + 1)), .null, .null]) ⟨Or.inl rfl, ⟨Or.inl rfl, ⟨Or.inl rfl, ⟨Or.inr rfl, ⟨Or.inr rfl, trivial⟩⟩⟩⟩⟩ (ih (s + 1) (by omega) (hs.trans (fi_n hp)))
      · replace c_74 : hi_ h 9 s = 1 := c_74
        refine am_aload_n hC dX1_wallThatHelps_77 rfl ?_
        refine am_iload_n hC dX1_wallThatHelps_78 rfl ?_
        refine am_iload hC dX1_wallThatHelps_79 rfl ?_
        refine am_callV hC (ci := 2) (N := 4) [.int (nI (ro (fc_ s))), .int (nI (ro (sc_ s)))] rfl (kC_7 hF) rfl mf_X1_leadsOut tw_479 (c_X1_leadsOut _ _ (am_tr hC) g hF D D2 hvg hdl hv2 hdl2 _ _ hrf hrg) rfl ⟨rfl, Nat.le_of_ble_eq_true rfl⟩ ⟨by decide, by decide⟩ (by decide) (by decide) dX1_wallThatHelps_81 rfl (fun _ _ q _ => False.elim q) (fun v h' hp hlc => ?_)
        obtain ⟨rfl, q9⟩ := hp
        have q9 := q9.symm
        subst q9
        refine am_if_ne (tgt := 97) hC dX1_wallThatHelps_84 (by decide) (fun c_84 => ?_) (fun c_84 => ?_)
        · refine am_iload_n hC dX1_wallThatHelps_97 rfl ?_
          refine am_iret hC hR rfl (by decide) (by decide) dX1_wallThatHelps_98 ?_
          have hp : pw (fun s => hi_ h 9 s) ro D D2 s = true := by
            show (decide (hi_ h 9 s = 1) && (_ || _)) = true
            rw [decide_eq_true c_74]
            first
              | (rw [b2i_ne c_84]; rfl)
              | (rw [b2i_ne c_94, Bool.or_true]; rfl)
          exact ⟨e, _, rfl, fun ⟨k, z⟩ => absurd (hdn.symm.trans z) (by simp), fun _ => ⟨D2, hD2, (hs.trans (fi_y hp)).symm⟩⟩
        · refine am_aload_n hC dX1_wallThatHelps_87 rfl ?_
          refine am_iload hC dX1_wallThatHelps_88 rfl ?_
          refine am_iload_n hC dX1_wallThatHelps_90 rfl ?_
          refine am_callV hC (ci := 2) (N := 4) [.int (nI (ro (sc_ s))), .int (nI (ro (fc_ s)))] rfl (kC_7 hF) rfl mf_X1_leadsOut tw_479 (c_X1_leadsOut _ _ (am_tr hC) g hF D D2 hvg hdl hv2 hdl2 _ _ hrg hrf) rfl ⟨rfl, Nat.le_of_ble_eq_true rfl⟩ ⟨by decide, by decide⟩ (by decide) (by decide) dX1_wallThatHelps_91 rfl (fun _ _ q _ => False.elim q) (fun v h' hp hlc => ?_)
          obtain ⟨rfl, q9⟩ := hp
          have q9 := q9.symm
          subst q9
          refine am_if_eq (tgt := 99) hC dX1_wallThatHelps_94 (by decide) (fun c_94 => ?_) (fun c_94 => ?_)
          · refine am_iinc (v := nI (s + 1)) hC dX1_wallThatHelps_99 rfl (nI_1 (s)) (by decide) ?_
            change am_W _ _ _ _ [.ref (7), .int (nI q), .int (nI (s + 1)), .int (nI (ro (fc_ s))), .int (nI (ro (sc_ s)))] _ _
            refine am_goto (tgt := 37) hC dX1_wallThatHelps_102 (by decide) ?_
            have hp : pw (fun s => hi_ h 9 s) ro D D2 s = false := by
              show (decide (hi_ h 9 s = 1) && (_ || _)) = false
              first
                | (rw [decide_eq_false c_74]; rfl)
                | (rw [b2i_0.mp c_84, b2i_0.mp c_94, Bool.or_false, Bool.and_false])
            exact am_fgt (ls' := [.ref (7), .int (nI q), .int (nI (s + 1)), .null, .null]) ⟨Or.inl rfl, ⟨Or.inl rfl, ⟨Or.inl rfl, ⟨Or.inr rfl, ⟨Or.inr rfl, trivial⟩⟩⟩⟩⟩ (ih (s + 1) (by omega) (hs.trans (fi_n hp)))
          · refine am_iload_n hC dX1_wallThatHelps_97 rfl ?_
            refine am_iret hC hR rfl (by decide) (by decide) dX1_wallThatHelps_98 ?_
            have hp : pw (fun s => hi_ h 9 s) ro D D2 s = true := by
              show (decide (hi_ h 9 s = 1) && (_ || _)) = true
              rw [decide_eq_true c_74]
              first
                | (rw [b2i_ne c_84]; rfl)
                | (rw [b2i_ne c_94, Bool.or_true]; rfl)
            exact ⟨e, _, rfl, fun ⟨k, z⟩ => absurd (hdn.symm.trans z) (by simp), fun _ => ⟨D2, hD2, (hs.trans (fi_y hp)).symm⟩⟩
  refine am_aload_n hC dX1_wallThatHelps_0 rfl ?_
  refine am_get (v := .ref (12)) hC (ci := 2) (N := 4) (j := 2) rfl (kC_7 hF) (by decide) tw_82 (Or.inl rfl) dX1_wallThatHelps_1 (am_rfe (rC_7_2 hF)) ?_
  refine am_iload_n hC dX1_wallThatHelps_4 rfl ?_
  refine am_ialdE (v := dI (D q)) hC (j := q) (N := 25) (kC_12 hF) (nC_12 hF) rfl (by omega) (by decide) dX1_wallThatHelps_5 (hv q hq) ?_
  refine am_iconst (v := -1) hC dX1_wallThatHelps_6 (by decide) ?_
  refine am_icmp_eq (tgt := 12) hC dX1_wallThatHelps_7 (by decide) (fun c_7 => ?_) (fun c_7 => ?_)
  · have hdn := hdq.mp c_7
    refine am_aload_n hC dX1_wallThatHelps_12 rfl ?_
    refine am_get (v := .ref (13)) hC (ci := 2) (N := 4) (j := 3) rfl (kC_7 hF) (by decide) tw_84 (Or.inl rfl) dX1_wallThatHelps_13 (am_rfe (rC_7_3 hF)) ?_
    refine am_iconst (v := -1) hC dX1_wallThatHelps_16 (by decide) ?_
    refine am_callS hC [.ref (13), .int (-1)] mf_J7_fill_53178 tw_402 (c_fill _ _ (am_tr hC) h 13 25 (-1) (kC_13 hF) (nC_13 hF) (by decide)) rfl ⟨rfl, Nat.le_of_ble_eq_true rfl⟩ ⟨by decide, by decide⟩ (by decide) (by decide) dX1_wallThatHelps_17 rfl (fun _ _ q _ => False.elim q) (fun v h1 hp l1 => ?_)
    obtain ⟨rfl, e1, s1⟩ := hp
    have hF0 := hF
    have hF := FC_eq hS e1 l1 hF
    refine am_aload_n hC dX1_wallThatHelps_20 rfl ?_
    refine am_get (v := .ref (13)) hC (ci := 2) (N := 4) (j := 3) rfl (kC_7 hF) (by decide) tw_84 (Or.inl rfl) dX1_wallThatHelps_21 (am_rfe (rC_7_3 hF)) ?_
    refine am_iload_n hC dX1_wallThatHelps_24 rfl ?_
    refine am_iconst (v := nI 0) hC dX1_wallThatHelps_25 (by decide) ?_
    refine am_iast hC (j := q) (N := 25) (kC_13 hF) (nC_13 hF) rfl (by omega) (by decide) dX1_wallThatHelps_26 ?_
    have hF : FC (am_sI h1 13 q (nI 0)) := hF
    have e2 : am_eq (fun r => r = 13) h (am_sI h1 13 q (nI 0)) := am_eq_tr e1 (am_eq_sI rfl)
    have hro' : RoomOK (fun s => hi_ (am_sI h1 13 q (nI 0)) 9 s) ro := PR_cg (fun s _ => ((e2 9 (by decide)).2.2.1 s).symm) hro
    have hr11' : ∀ c, c < 25 → hi_ (am_sI h1 13 q (nI 0)) 11 c = nI (ro c) := fun c hc => ((e2 11 (by decide)).2.2.1 c).trans (hr11 c hc)
    have hsrc : ∀ r, r < 25 → (r = q → hi_ (am_sI h1 13 q (nI 0)) 13 r = 0) ∧ (¬ r = q → hi_ (am_sI h1 13 q (nI 0)) 13 r = -1) := fun r hr => ⟨fun z => by rw [hi_sI, if_pos ⟨rfl, z⟩]; rfl, fun z => by rw [hi_sI, if_neg (fun w => z w.2)]; exact s1 r hr⟩
    refine am_aload_n hC dX1_wallThatHelps_27 rfl ?_
    refine am_aload_n hC dX1_wallThatHelps_28 rfl ?_
    refine am_get (v := .ref (13)) hC (ci := 2) (N := 4) (j := 3) rfl (kC_7 hF) (by decide) tw_84 (Or.inl rfl) dX1_wallThatHelps_29 (am_rfe (rC_7_3 hF)) ?_
    refine am_callV hC (ci := 2) (N := 4) [.ref (13)] rfl (kC_7 hF) rfl mf_X1_goThroughDoors tw_403 (c_X1_goThroughDoors _ _ (am_tr hC) (am_sI h1 13 q (nI 0)) hF ro hro' hr11' 13 (Or.inr rfl) (fun r => r = q) hsrc) rfl ⟨rfl, Nat.le_of_ble_eq_true rfl⟩ ⟨by decide, by decide⟩ (by decide) (by decide) dX1_wallThatHelps_32 rfl (fun _ _ q _ => False.elim q) (fun v h2 hp l2 => ?_)
    obtain ⟨rfl, e3, D2, hd2, hv2⟩ := hp
    have hd3 : DistOK 25 (fun r => r = q) (adjD (fun s => hi_ h 9 s) ro) D2 := Dist_cg (fun _ _ => Iff.rfl) (fun a b _ _ => ⟨fun z => adjD_cg (fun s _ => (e2 9 (by decide)).2.2.1 s) z, fun z => adjD_cg (fun s _ => ((e2 9 (by decide)).2.2.1 s).symm) z⟩) hd2
    refine am_iconst (v := nI 0) hC dX1_wallThatHelps_35 (by decide) ?_
    refine am_istore_n hC dX1_wallThatHelps_36 (by decide) ?_
    change am_W _ _ _ _ [.ref (7), .int (nI q), .int (nI 0), .null, .null] _ _
    exact loop D2 h2 (am_eq_tr e2 e3) (am_le_tr (am_le_tr l1 (am_le_sI _ _ _ _)) l2) hdn hd3 hv2 40 0 rfl rfl
  · refine am_iconst (v := -1) hC dX1_wallThatHelps_10 (by decide) ?_
    refine am_iret hC hR rfl (by decide) (by decide) dX1_wallThatHelps_11 ?_
    refine ⟨am_eq_rf _ _, _, rfl, fun _ => rfl, fun z => absurd (hdq.mpr z) c_7⟩
