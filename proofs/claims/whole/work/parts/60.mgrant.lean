/-! ===== the model's grant ===== -/
theorem am_eq_th {S : Nat → Prop} {h g : am_H} {v w : Int32} (e : am_eq S (am_sI h 14 19 v) g) : am_eq S (am_sI h 14 19 w) (am_sI g 14 19 w) := fun q hq => by
  obtain ⟨a1, a2, a3, a4, a5⟩ := e q hq
  refine ⟨a1, a2, fun k => ?_, a4, a5⟩
  rw [hi_sI, hi_sI]
  by_cases z : q = 14 ∧ k = 19
  · rw [if_pos z, if_pos z]
  · rw [if_neg z, if_neg z, a3, hi_sI, if_neg z]
def S7 (q : Nat) : Prop := q = 25 ∨ q = 26 ∨ q = 27
set_option maxRecDepth 100000 in
set_option maxHeartbeats 4000000 in
theorem c_X6_grant (G : am_G) (l : Launch) (htr : l.stackTraces = false) (h : am_H) (n : Nat) (t : Nat → Nat → Int32) (x r : Nat → Nat → Bool) (hT : MT h n t x r) (np : Nat) (hp20 : np ≤ 20) (hx0 : hi_ h 14 10 = nI np) (D : Int32) : am_Met G l yX6_grant (.code yX6_grant cX6_grant 4 (some .int)) 5 0 0 [.ref (14), .int (D)] h (fun v h' => am_le h h' ∧ ∃ V, v = some (.int V) ∧ ∃ R : Bool, (IX n D = true → VW (fun s => sdF t r 6 (dn D) s) (fun c => exF x r 6 (dn D) c) R) ∧ ((k3 (IX n D) (decide (np < 20) && R) true) ≠ 0 → am_eq S4 (am_sI h 14 19 (nI (k3 (IX n D) (decide (np < 20) && R) true))) h') ∧ ((k3 (IX n D) (decide (np < 20) && R) true) = 0 → V = nI np ∧ am_eq (fun q => q = 14 ∨ S4 q ∨ S7 q) h h' ∧ FM h' ∧ hi_ h' 14 19 = nI 0 ∧ hi_ h' 14 10 = nI (np + 1) ∧ (∀ j, j ≠ 10 → j ≠ 19 → hi_ h' 14 j = hi_ h 14 j) ∧ hi_ h' 25 np = D ∧ (∀ c, c < 32 → bt (hi_ h' 27 np) c = exF x r 6 (dn D) c) ∧ (∀ b, b ≠ np → hi_ h' 25 b = hi_ h 25 b ∧ hi_ h' 27 b = hi_ h 27 b) ∧ (∀ s, s < 40 → hi_ h' 26 (40 * np + s) = sdF t r 6 (dn D) s) ∧ ∀ b, b < 40 * np → hi_ h' 26 b = hi_ h 26 b)) (am_no) := by
  have hM := hT.1
  have hn6 := hT.2.1
  have hn0 := hT.2.2.1
  have h25 : IX 25 (nI 0) = true := by decide
  refine am_intro rfl htr rfl (Nat.le_of_ble_eq_true rfl) (fun Z hC hR hI => ?_)
  change am_W Z 0 0 0 [.ref (14), .int (D), .null, .null] [] h
  refine am_aload_n hC dX6_grant_0 rfl ?_
  refine am_iload_n hC dX6_grant_1 rfl ?_
  refine am_iconst (v := nI 0) hC dX6_grant_2 (by decide) ?_
  refine am_callV hC (ci := 7) (N := 20) [.int (D), .int (nI 0)] rfl (kM_14 hM) rfl mf_X6_asks tw_770 (c_X6_asks _ _ (am_tr hC) h n t x r hT D (nI 0)) rfl ⟨rfl, Nat.le_of_ble_eq_true rfl⟩ ⟨by decide, by decide⟩ (by decide) (by decide) dX6_grant_3 rfl (fun _ _ q _ => False.elim q) (fun v h1 hp l1 => ?_)
  obtain ⟨R, rfl, hA⟩ := hp
  refine am_if_ne (tgt := 11) hC dX6_grant_6 (by decide) (fun c_6 => ?_) (fun c_6 => ?_)
  · obtain ⟨d, c0, hd, hc0, rfl, -, e5, l5, hf, ro, Dx, k1, k2, k3_, k4⟩ := hA.2 (b2i_ne c_6)
    have hM := FM_eq (S := S4) (by unfold S4; omega) e5 (fun q hq => l1 q hq) hM
    have hrl : ∀ c, c < 25 → ro c < 25 := fun c hc => Room_lt k1 hc
    have hdl : ∀ q, q < 25 → ∀ k, Dx q = some k → k < 25 := fun q hq k hk => Dist_lt k2 hq hk
    have hw : ∀ q, q < 25 → w99 (Dx q) ≤ 99 ∧ (w99 (Dx q) < 99 ↔ Dx q ≠ none) := fun q hq => by
      cases e : Dx q with
      | none => exact ⟨Nat.le_refl _, ⟨fun z => absurd z (Nat.lt_irrefl _), fun z => absurd rfl z⟩⟩
      | some k => have := hdl q hq k e; exact ⟨(show k ≤ 99 by omega), ⟨fun _ => (fun z => nomatch z), fun _ => (show k < 99 by omega)⟩⟩
    have hx1 : hi_ h1 14 10 = nI np := ((e5 14 (by unfold S4; omega)).2.2.1 10).trans (by rw [hi_sI, if_neg (fun z => absurd z.2 (by decide))]; exact hx0)
    refine am_aload_n hC dX6_grant_11 rfl ?_
    refine am_get (v := .int (nI np)) hC (ci := 7) (N := 20) (j := 10) rfl (kM_14 hM) (by decide) tw_658 (Or.inl rfl) dX6_grant_12 (congrArg Value.int hx1) ?_
    refine am_bipush (v := nI 20) hC dX6_grant_15 (by decide) ?_
    refine am_icmp_ge (tgt := 24) hC dX6_grant_17 (by decide) (fun c_17 => ?_) (fun c_17 => ?_)
    · replace c_17 : 20 ≤ np := (nI_leI (a := 20) (b := np) (by omega) (by omega)).mp c_17
      refine am_iconst (v := nI 0) hC dX6_grant_24 (by decide) ?_
      refine am_istore_n hC dX6_grant_25 (by decide) ?_
      change am_W _ _ _ _ [.ref (14), .int (nI d), .int (nI 0), .null] _ _
      refine am_iconst (v := nI 0) hC dX6_grant_26 (by decide) ?_
      refine am_istore_n hC dX6_grant_27 (by decide) ?_
      change am_W _ _ _ _ [.ref (14), .int (nI d), .int (nI 0), .int (nI 0)] _ _
      have sl : ∀ (m c : Nat) (R : Bool), c + m = 25 → (R = true ↔ ∀ q, q < c → Dx (ro q) ≠ none) → am_W Z (0 + 0) (0 + 0) 28 [.ref (14), .int (nI d), .int (b2i (decide (np < 20) && R)), .int (nI c)] [] h1 := by
        intro m
        induction m with
        | zero =>
          intro c R hc hi
          obtain rfl : c = 25 := by omega
          have hV : VW (fun s => sdF t r 6 d s) (fun c => exF x r 6 d c) R := ⟨ro, Dx, k1, k2, hi⟩
          refine am_iload_n hC dX6_grant_28 rfl ?_
          refine am_bipush (v := nI 25) hC dX6_grant_29 (by decide) ?_
          refine am_icmp_ge (tgt := 64) hC dX6_grant_31 (by decide) (fun c_31 => ?_) (fun c_31 => absurd (nI_le (by omega) (by omega)) c_31)
          refine am_aload_n hC dX6_grant_64 rfl ?_
          refine am_iload_n hC dX6_grant_65 rfl ?_
          refine am_if_eq (tgt := 73) hC dX6_grant_66 (by decide) (fun c_66 => ?_) (fun c_66 => ?_)
          · refine am_iconst (v := nI 2) hC dX6_grant_73 (by decide) ?_
            refine am_putI hC (ci := 7) (N := 20) (j := 19) rfl (kM_14 hM) (by decide) rfl rfl rfl tw_667 (Or.inl rfl) dX6_grant_74 ?_
            have hM : FM (am_sI h1 14 19 (nI 2)) := hM
            have hx1 : hi_ (am_sI h1 14 19 (nI 2)) 14 10 = nI np := hx1
            refine am_iload_n hC dX6_grant_77 rfl ?_
            refine am_if_ne (tgt := 83) hC dX6_grant_78 (by decide) (fun c_78 => absurd c_66 c_78) (fun c_78 => ?_)
            have c_78 := c_66
            refine am_iconst (v := nI 0) hC dX6_grant_81 (by decide) ?_
            refine am_iret hC hR rfl (by decide) (by decide) dX6_grant_82 ?_
            have hK : k3 (IX n (nI d)) (decide (np < 20) && R) true = 2 := k3_2 (IX_y (by omega) hd rfl) (b2i_0.mp c_78)
            refine ⟨am_le_tr l1 (am_le_sI _ _ _ _), _, rfl, R, fun _ => (by rw [dn_nI (by omega)]; exact hV), fun _ => ?_, fun z => absurd (hK.symm.trans z) (by decide)⟩
            rw [hK]
            exact am_eq_th e5
          · refine am_iconst (v := nI 0) hC dX6_grant_69 (by decide) ?_
            refine am_goto (tgt := 74) hC dX6_grant_70 (by decide) ?_
            refine am_putI hC (ci := 7) (N := 20) (j := 19) rfl (kM_14 hM) (by decide) rfl rfl rfl tw_667 (Or.inl rfl) dX6_grant_74 ?_
            have hM : FM (am_sI h1 14 19 (nI 0)) := hM
            have hx1 : hi_ (am_sI h1 14 19 (nI 0)) 14 10 = nI np := hx1
            refine am_iload_n hC dX6_grant_77 rfl ?_
            refine am_if_ne (tgt := 83) hC dX6_grant_78 (by decide) (fun c_78 => ?_) (fun c_78 => absurd c_78 c_66)
            have c_78 := c_66
            have hnp : np < 20 := of_decide_eq_true (and_2 (b2i_ne c_78)).1
            refine am_aload_n hC dX6_grant_83 rfl ?_
            refine am_get (v := .ref (25)) hC (ci := 7) (N := 20) (j := 11) rfl (kM_14 hM) (by decide) tw_659 (Or.inl rfl) dX6_grant_84 (am_rfe (rM_11 hM)) ?_
            refine am_aload_n hC dX6_grant_87 rfl ?_
            refine am_get (v := .int (nI np)) hC (ci := 7) (N := 20) (j := 10) rfl (kM_14 hM) (by decide) tw_658 (Or.inl rfl) dX6_grant_88 (congrArg Value.int hx1) ?_
            refine am_iload_n hC dX6_grant_91 rfl ?_
            refine am_iast hC (j := np) (N := 20) (kM_25 hM) (nM_25 hM) rfl (by omega) (by decide) dX6_grant_92 ?_
            refine am_aload_n hC dX6_grant_93 rfl ?_
            refine am_get (v := .ref (27)) hC (ci := 7) (N := 20) (j := 13) rfl (kM_14 hM) (by decide) tw_661 (Or.inl rfl) dX6_grant_94 (am_rfe (rM_13 hM)) ?_
            refine am_aload_n hC dX6_grant_97 rfl ?_
            refine am_get (v := .int (nI np)) hC (ci := 7) (N := 20) (j := 10) rfl (kM_14 hM) (by decide) tw_658 (Or.inl rfl) dX6_grant_98 (congrArg Value.int hx1) ?_
            refine am_aload_n hC dX6_grant_101 rfl ?_
            refine am_get (v := .ref (21)) hC (ci := 7) (N := 20) (j := 7) rfl (kM_14 hM) (by decide) tw_655 (Or.inl rfl) dX6_grant_102 (am_rfe (rM_7 hM)) ?_
            refine am_iload_n hC dX6_grant_105 rfl ?_
            refine am_ialdE (v := hi_ (am_sI (am_sI h1 14 19 (nI 0)) 25 np (nI d)) 21 d) hC (j := d) (N := 6) (kM_21 hM) (nM_21 hM) rfl (by omega) (by decide) dX6_grant_106 rfl ?_
            refine am_iast hC (j := np) (N := 20) (kM_27 hM) (nM_27 hM) rfl (by omega) (by decide) dX6_grant_107 ?_
            refine am_iconst (v := nI 0) hC dX6_grant_108 (by decide) ?_
            refine am_istore_n hC dX6_grant_109 (by decide) ?_
            change am_W _ _ _ _ [.ref (14), .int (nI d), .int (b2i (decide (np < 20) && R)), .int (nI 0)] _ _
            have hK : k3 (IX n (nI d)) (decide (np < 20) && R) true = 0 := k3_0 (IX_y (by omega) hd rfl) (b2i_ne c_78) rfl
            have hnp : np < 20 := of_decide_eq_true (and_2 (b2i_ne c_78)).1
            have hMg := hM
            have hxg := hx1
            have sl2 : ∀ (m s : Nat) (g : am_H), s + m = 40 → am_eq (fun q => q = 26) (am_sI (am_sI (am_sI h1 14 19 (nI 0)) 25 np (nI d)) 27 np (hi_ (am_sI (am_sI h1 14 19 (nI 0)) 25 np (nI d)) 21 d)) g → am_le (am_sI (am_sI (am_sI h1 14 19 (nI 0)) 25 np (nI d)) 27 np (hi_ (am_sI (am_sI h1 14 19 (nI 0)) 25 np (nI d)) 21 d)) g → (∀ s1, s1 < s → hi_ g 26 (40 * np + s1) = sdF t r 6 d s1) → (∀ b, b < 40 * np → hi_ g 26 b = hi_ h 26 b) → am_W Z (0 + 0) (0 + 0) 110 [.ref (14), .int (nI d), .null, .int (nI s)] [] g := by
              intro m
              induction m with
              | zero =>
                intro s g hs e hle hv hu
                obtain rfl : s = 40 := by omega
                have hM := FM_eq (S := fun q => q = 26) (by decide) e hle hMg
                have hx1 : hi_ g 14 10 = nI np := ((e 14 (by decide)).2.2.1 _).trans hxg
                have hsd : ∀ s, s < 40 → hi_ g 20 (40 * d + s) = sdF t r 6 d s := fun s hs => ((e 20 (by decide)).2.2.1 _).trans ((hf d hd).1 s hs)
                refine am_iload_n hC dX6_grant_110 rfl ?_
                refine am_bipush (v := nI 40) hC dX6_grant_111 (by decide) ?_
                refine am_icmp_ge (tgt := 147) hC dX6_grant_113 (by decide) (fun c_113 => ?_) (fun c_113 => absurd (nI_le (by omega) (by omega)) c_113)
                refine am_aload_n hC dX6_grant_147 rfl ?_
                refine am_dup hC dX6_grant_148 rfl ?_
                refine am_get (v := .int (nI np)) hC (ci := 7) (N := 20) (j := 10) rfl (kM_14 hM) (by decide) tw_658 (Or.inl rfl) dX6_grant_149 (congrArg Value.int hx1) ?_
                refine am_iconst (v := nI 1) hC dX6_grant_152 (by decide) ?_
                refine am_iaddE (z := nI (np + 1)) hC dX6_grant_153 (nI_add (np) (1)) ?_
                refine am_putI hC (ci := 7) (N := 20) (j := 10) rfl (kM_14 hM) (by decide) rfl rfl rfl tw_658 (Or.inl rfl) dX6_grant_154 ?_
                have hx1 : hi_ (am_sI g 14 10 (nI (np + 1))) 14 10 = nI (np + 1) := by rw [hi_sI, if_pos ⟨rfl, rfl⟩]
                refine am_aload_n hC dX6_grant_157 rfl ?_
                refine am_get (v := .int (nI (np + 1))) hC (ci := 7) (N := 20) (j := 10) rfl (kM_14 hM) (by decide) tw_658 (Or.inl rfl) dX6_grant_158 (congrArg Value.int hx1) ?_
                refine am_iconst (v := nI 1) hC dX6_grant_161 (by decide) ?_
                refine am_isubE (z := nI (np + 1 - 1)) hC dX6_grant_162 (pk_sub (by omega)) ?_
                refine am_iret hC hR rfl (by decide) (by decide) dX6_grant_163 ?_
                have o14 : ∀ j, j ≠ 10 → hi_ (am_sI g 14 10 (nI (np + 1))) 14 j = hi_ (am_sI h1 14 19 (nI 0)) 14 j := fun j j1 => by rw [hi_sI, if_neg (fun z => j1 z.2), (e 14 (by decide)).2.2.1, hi_sI, if_neg (fun z => absurd z.1 (by decide)), hi_sI, if_neg (fun z => absurd z.1 (by decide))]
                have o1 : ∀ a b, a ≠ 14 → a ≠ 26 → ¬ S4 a → hi_ h1 a b = hi_ h a b := fun a b q1 q2 q3 => ((e5 a q3).2.2.1 b).trans (by rw [hi_sI, if_neg (fun z => q1 z.1)])
                refine ⟨am_le_tr l1 (am_le_tr (am_le_tr (am_le_tr (am_le_tr (am_le_sI _ _ _ _) (am_le_sI _ _ _ _)) (am_le_sI _ _ _ _)) hle) (am_le_sI _ _ _ _)), _, rfl, R, fun _ => (by rw [dn_nI (by omega)]; exact hV), fun z => absurd hK z, fun _ => ⟨congrArg nI (by omega), ?_, hM, ?_, hx1, fun j j1 j2 => ?_, ?_, fun c hc => ?_, fun b hb => ⟨?_, ?_⟩, fun s hs => ?_, fun b hb => ?_⟩⟩
                · refine am_eq_tr (am_eq_tr (am_eq_sI (r := 14) (Or.inl rfl)) (am_eq_mono (fun q z => Or.inr (Or.inl z)) e5)) (am_eq_tr (am_eq_tr (am_eq_tr (am_eq_tr (am_eq_sI (Or.inl rfl)) (am_eq_sI (Or.inr (Or.inr (Or.inl rfl))))) (am_eq_sI (Or.inr (Or.inr (Or.inr (Or.inr rfl)))))) (am_eq_mono (fun q z => Or.inr (Or.inr (Or.inr (Or.inl z)))) e)) (am_eq_sI (Or.inl rfl)))
                · rw [o14 19 (by decide), hi_sI, if_pos ⟨rfl, rfl⟩]
                · rw [o14 j j1, hi_sI, if_neg (fun z => j2 z.2), (e5 14 (by unfold S4; omega)).2.2.1, hi_sI, if_neg (fun z => j2 z.2)]
                · rw [hi_sI, if_neg (fun z => absurd z.1 (by decide)), (e 25 (by decide)).2.2.1, hi_sI, if_neg (fun z => absurd z.1 (by decide)), hi_sI, if_pos ⟨rfl, rfl⟩]
                · rw [dn_nI (by omega), hi_sI, if_neg (fun z => absurd z.1 (by decide)), (e 27 (by decide)).2.2.1, hi_sI, if_pos ⟨rfl, rfl⟩]; exact (hf d hd).2 c hc
                · rw [hi_sI, if_neg (fun z => absurd z.1 (by decide)), (e 25 (by decide)).2.2.1, hi_sI, if_neg (fun z => absurd z.1 (by decide)), hi_sI, if_neg (fun z => hb z.2), hi_sI, if_neg (fun z => absurd z.1 (by decide))]; exact o1 25 b (by decide) (by decide) (by unfold S4; omega)
                · rw [hi_sI, if_neg (fun z => absurd z.1 (by decide)), (e 27 (by decide)).2.2.1, hi_sI, if_neg (fun z => hb z.2), hi_sI, if_neg (fun z => absurd z.1 (by decide)), hi_sI, if_neg (fun z => absurd z.1 (by decide))]; exact o1 27 b (by decide) (by decide) (by unfold S4; omega)
                · rw [dn_nI (by omega), hi_sI, if_neg (fun z => absurd z.1 (by decide))]; exact hv s hs
                · rw [hi_sI, if_neg (fun z => absurd z.1 (by decide))]; exact hu b hb
              | succ m ih =>
                intro s g hs e hle hv hu
                have hM := FM_eq (S := fun q => q = 26) (by decide) e hle hMg
                have hx1 : hi_ g 14 10 = nI np := ((e 14 (by decide)).2.2.1 _).trans hxg
                have hsd : ∀ s, s < 40 → hi_ g 20 (40 * d + s) = sdF t r 6 d s := fun s hs => ((e 20 (by decide)).2.2.1 _).trans ((hf d hd).1 s hs)
                refine am_iload_n hC dX6_grant_110 rfl ?_
                refine am_bipush (v := nI 40) hC dX6_grant_111 (by decide) ?_
                refine am_icmp_ge (tgt := 147) hC dX6_grant_113 (by decide) (fun c_113 => absurd c_113 (nI_ge (by omega) (by omega))) (fun c_113 => ?_)
                refine am_aload_n hC dX6_grant_116 rfl ?_
                refine am_get (v := .ref (26)) hC (ci := 7) (N := 20) (j := 12) rfl (kM_14 hM) (by decide) tw_660 (Or.inl rfl) dX6_grant_117 (am_rfe (rM_12 hM)) ?_
                refine am_bipush (v := nI 40) hC dX6_grant_120 (by decide) ?_
                refine am_aload_n hC dX6_grant_122 rfl ?_
                refine am_get (v := .int (nI np)) hC (ci := 7) (N := 20) (j := 10) rfl (kM_14 hM) (by decide) tw_658 (Or.inl rfl) dX6_grant_123 (congrArg Value.int hx1) ?_
                refine am_imulE (z := nI (40 * np)) hC dX6_grant_126 (pk_mul (40) (np)) ?_
                refine am_iload_n hC dX6_grant_127 rfl ?_
                refine am_iaddE (z := nI (40 * np + s)) hC dX6_grant_128 (nI_add (40 * np) (s)) ?_
                refine am_aload_n hC dX6_grant_129 rfl ?_
                refine am_get (v := .ref (20)) hC (ci := 7) (N := 20) (j := 6) rfl (kM_14 hM) (by decide) tw_654 (Or.inl rfl) dX6_grant_130 (am_rfe (rM_6 hM)) ?_
                refine am_bipush (v := nI 40) hC dX6_grant_133 (by decide) ?_
                refine am_iload_n hC dX6_grant_135 rfl ?_
                refine am_imulE (z := nI (40 * d)) hC dX6_grant_136 (pk_mul (40) (d)) ?_
                refine am_iload_n hC dX6_grant_137 rfl ?_
                refine am_iaddE (z := nI (40 * d + s)) hC dX6_grant_138 (nI_add (40 * d) (s)) ?_
                refine am_ialdE (v := sdF t r 6 d s) hC (j := 40 * d + s) (N := 240) (kM_20 hM) (nM_20 hM) rfl (by omega) (by decide) dX6_grant_139 (hsd s (by omega)) ?_
                refine am_iast hC (j := 40 * np + s) (N := 800) (kM_26 hM) (nM_26 hM) rfl (by omega) (by decide) dX6_grant_140 ?_
                refine am_iinc (v := nI (s + 1)) hC dX6_grant_141 rfl (nI_1 (s)) (by decide) ?_
                change am_W _ _ _ _ [.ref (14), .int (nI d), .null, .int (nI (s + 1))] _ _
                refine am_goto (tgt := 110) hC dX6_grant_144 (by decide) ?_
                refine am_fgt (ls' := [.ref (14), .int (nI d), .null, .int (nI (s + 1))]) ⟨Or.inl rfl, ⟨Or.inl rfl, ⟨Or.inr rfl, ⟨Or.inl rfl, trivial⟩⟩⟩⟩ (ih (s + 1) _ (by omega) (am_eq_tr e (am_eq_sI rfl)) (am_le_tr hle (am_le_sI _ _ _ _)) (fun s1 h9 => ?_) (fun b hb => ?_))
                · rw [hi_sI]
                  by_cases z : s1 = s
                  · rw [if_pos ⟨rfl, by rw [z]⟩, z]
                  · rw [if_neg (fun y => z (by omega))]; exact hv s1 (by omega)
                · rw [hi_sI, if_neg (fun y => by omega)]; exact hu b hb
            exact am_fgt (ls' := [.ref (14), .int (nI d), .null, .int (nI 0)]) ⟨Or.inl rfl, ⟨Or.inl rfl, ⟨Or.inr rfl, ⟨Or.inl rfl, trivial⟩⟩⟩⟩ (sl2 40 0 _ rfl (am_eq_rf _ _) (am_le_rf _) (fun s1 z => absurd z (Nat.not_lt_zero s1)) (fun b _ => by rw [hi_sI, if_neg (fun z => absurd z.1 (by decide)), hi_sI, if_neg (fun z => absurd z.1 (by decide)), hi_sI, if_neg (fun z => absurd z.1 (by decide))]; exact ((e5 26 (by unfold S4; omega)).2.2.1 b).trans (by rw [hi_sI, if_neg (fun z => absurd z.1 (by decide))])))
        | succ m ih =>
          intro c R hc hi
          have hrc := hrl c (by omega)
          have hwc := hw (ro c) hrc
          refine am_iload_n hC dX6_grant_28 rfl ?_
          refine am_bipush (v := nI 25) hC dX6_grant_29 (by decide) ?_
          refine am_icmp_ge (tgt := 64) hC dX6_grant_31 (by decide) (fun c_31 => absurd c_31 (nI_ge (by omega) (by omega))) (fun c_31 => ?_)
          refine am_iload_n hC dX6_grant_34 rfl ?_
          refine am_aload_n hC dX6_grant_35 rfl ?_
          refine am_get (v := .ref (23)) hC (ci := 7) (N := 20) (j := 9) rfl (kM_14 hM) (by decide) tw_657 (Or.inl rfl) dX6_grant_36 (am_rfe (rM_9 hM)) ?_
          refine am_aload_n hC dX6_grant_39 rfl ?_
          refine am_get (v := .ref (22)) hC (ci := 7) (N := 20) (j := 8) rfl (kM_14 hM) (by decide) tw_656 (Or.inl rfl) dX6_grant_40 (am_rfe (rM_8 hM)) ?_
          refine am_iload_n hC dX6_grant_43 rfl ?_
          refine am_ialdE (v := nI (ro c)) hC (j := c) (N := 25) (kM_22 hM) (nM_22 hM) rfl (by omega) (by decide) dX6_grant_44 (k3_ c (by omega)) ?_
          refine am_ialdE (v := nI (w99 (Dx (ro c)))) hC (j := ro c) (N := 25) (kM_23 hM) (nM_23 hM) rfl (by omega) (by decide) dX6_grant_45 (k4 _ hrc) ?_
          refine am_bipush (v := nI 99) hC dX6_grant_46 (by decide) ?_
          refine am_icmp_ge (tgt := 55) hC dX6_grant_48 (by decide) (fun c_48 => ?_) (fun c_48 => ?_)
          · replace c_48 : 99 ≤ (w99 (Dx (ro c))) := (nI_leI (a := 99) (b := (w99 (Dx (ro c)))) (by omega) (by omega)).mp c_48
            refine am_iconst (v := nI 0) hC dX6_grant_55 (by decide) ?_
            refine am_iandE (z := b2i false) hC dX6_grant_56 (ban0 _) ?_
            refine am_istore_n hC dX6_grant_57 (by decide) ?_
            change am_W _ _ _ _ [.ref (14), .int (nI d), .int (b2i false), .int (nI c)] _ _
            refine am_iinc (v := nI (c + 1)) hC dX6_grant_58 rfl (nI_1 (c)) (by decide) ?_
            change am_W _ _ _ _ [.ref (14), .int (nI d), .int (b2i false), .int (nI (c + 1))] _ _
            refine am_goto (tgt := 28) hC dX6_grant_61 (by decide) ?_
            have e9 : b2i false = b2i (decide (np < 20) && false) := by rw [Bool.and_false]
            rw [e9]
            exact ih (c + 1) false (by omega) ⟨(fun z => nomatch z), fun z => absurd (hwc.2.mpr (z c (by omega))) (by omega)⟩
          · replace c_48 : ¬ 99 ≤ (w99 (Dx (ro c))) := fun q9 => c_48 ((nI_leI (a := 99) (b := (w99 (Dx (ro c)))) (by omega) (by omega)).mpr q9)
            refine am_iconst (v := nI 1) hC dX6_grant_51 (by decide) ?_
            refine am_goto (tgt := 56) hC dX6_grant_52 (by decide) ?_
            refine am_iandE (z := b2i (decide (np < 20) && R)) hC dX6_grant_56 (ban1 _) ?_
            refine am_istore_n hC dX6_grant_57 (by decide) ?_
            change am_W _ _ _ _ [.ref (14), .int (nI d), .int (b2i (decide (np < 20) && R)), .int (nI c)] _ _
            refine am_iinc (v := nI (c + 1)) hC dX6_grant_58 rfl (nI_1 (c)) (by decide) ?_
            change am_W _ _ _ _ [.ref (14), .int (nI d), .int (b2i (decide (np < 20) && R)), .int (nI (c + 1))] _ _
            refine am_goto (tgt := 28) hC dX6_grant_61 (by decide) ?_
            exact ih (c + 1) R (by omega) (hi.trans ⟨fun z q hq => by
              rcases Nat.lt_or_eq_of_le (Nat.le_of_lt_succ hq) with w | w
              · exact z q w
              · rw [w]; exact hwc.2.mp (by omega), fun z q hq => z q (by omega)⟩)
      have k9 := sl 25 0 true rfl ⟨fun _ q z => absurd z (Nat.not_lt_zero q), fun _ => rfl⟩
      rw [show b2i (decide (np < 20) && true) = nI 0 by rw [decide_eq_false (by omega)]; rfl] at k9
      exact k9
    · replace c_17 : ¬ 20 ≤ np := fun q9 => c_17 ((nI_leI (a := 20) (b := np) (by omega) (by omega)).mpr q9)
      refine am_iconst (v := nI 1) hC dX6_grant_20 (by decide) ?_
      refine am_goto (tgt := 25) hC dX6_grant_21 (by decide) ?_
      refine am_istore_n hC dX6_grant_25 (by decide) ?_
      change am_W _ _ _ _ [.ref (14), .int (nI d), .int (nI 1), .null] _ _
      refine am_iconst (v := nI 0) hC dX6_grant_26 (by decide) ?_
      refine am_istore_n hC dX6_grant_27 (by decide) ?_
      change am_W _ _ _ _ [.ref (14), .int (nI d), .int (nI 1), .int (nI 0)] _ _
      have sl : ∀ (m c : Nat) (R : Bool), c + m = 25 → (R = true ↔ ∀ q, q < c → Dx (ro q) ≠ none) → am_W Z (0 + 0) (0 + 0) 28 [.ref (14), .int (nI d), .int (b2i (decide (np < 20) && R)), .int (nI c)] [] h1 := by
        intro m
        induction m with
        | zero =>
          intro c R hc hi
          obtain rfl : c = 25 := by omega
          have hV : VW (fun s => sdF t r 6 d s) (fun c => exF x r 6 d c) R := ⟨ro, Dx, k1, k2, hi⟩
          refine am_iload_n hC dX6_grant_28 rfl ?_
          refine am_bipush (v := nI 25) hC dX6_grant_29 (by decide) ?_
          refine am_icmp_ge (tgt := 64) hC dX6_grant_31 (by decide) (fun c_31 => ?_) (fun c_31 => absurd (nI_le (by omega) (by omega)) c_31)
          refine am_aload_n hC dX6_grant_64 rfl ?_
          refine am_iload_n hC dX6_grant_65 rfl ?_
          refine am_if_eq (tgt := 73) hC dX6_grant_66 (by decide) (fun c_66 => ?_) (fun c_66 => ?_)
          · refine am_iconst (v := nI 2) hC dX6_grant_73 (by decide) ?_
            refine am_putI hC (ci := 7) (N := 20) (j := 19) rfl (kM_14 hM) (by decide) rfl rfl rfl tw_667 (Or.inl rfl) dX6_grant_74 ?_
            have hM : FM (am_sI h1 14 19 (nI 2)) := hM
            have hx1 : hi_ (am_sI h1 14 19 (nI 2)) 14 10 = nI np := hx1
            refine am_iload_n hC dX6_grant_77 rfl ?_
            refine am_if_ne (tgt := 83) hC dX6_grant_78 (by decide) (fun c_78 => absurd c_66 c_78) (fun c_78 => ?_)
            have c_78 := c_66
            refine am_iconst (v := nI 0) hC dX6_grant_81 (by decide) ?_
            refine am_iret hC hR rfl (by decide) (by decide) dX6_grant_82 ?_
            have hK : k3 (IX n (nI d)) (decide (np < 20) && R) true = 2 := k3_2 (IX_y (by omega) hd rfl) (b2i_0.mp c_78)
            refine ⟨am_le_tr l1 (am_le_sI _ _ _ _), _, rfl, R, fun _ => (by rw [dn_nI (by omega)]; exact hV), fun _ => ?_, fun z => absurd (hK.symm.trans z) (by decide)⟩
            rw [hK]
            exact am_eq_th e5
          · refine am_iconst (v := nI 0) hC dX6_grant_69 (by decide) ?_
            refine am_goto (tgt := 74) hC dX6_grant_70 (by decide) ?_
            refine am_putI hC (ci := 7) (N := 20) (j := 19) rfl (kM_14 hM) (by decide) rfl rfl rfl tw_667 (Or.inl rfl) dX6_grant_74 ?_
            have hM : FM (am_sI h1 14 19 (nI 0)) := hM
            have hx1 : hi_ (am_sI h1 14 19 (nI 0)) 14 10 = nI np := hx1
            refine am_iload_n hC dX6_grant_77 rfl ?_
            refine am_if_ne (tgt := 83) hC dX6_grant_78 (by decide) (fun c_78 => ?_) (fun c_78 => absurd c_78 c_66)
            have c_78 := c_66
            have hnp : np < 20 := of_decide_eq_true (and_2 (b2i_ne c_78)).1
            refine am_aload_n hC dX6_grant_83 rfl ?_
            refine am_get (v := .ref (25)) hC (ci := 7) (N := 20) (j := 11) rfl (kM_14 hM) (by decide) tw_659 (Or.inl rfl) dX6_grant_84 (am_rfe (rM_11 hM)) ?_
            refine am_aload_n hC dX6_grant_87 rfl ?_
            refine am_get (v := .int (nI np)) hC (ci := 7) (N := 20) (j := 10) rfl (kM_14 hM) (by decide) tw_658 (Or.inl rfl) dX6_grant_88 (congrArg Value.int hx1) ?_
            refine am_iload_n hC dX6_grant_91 rfl ?_
            refine am_iast hC (j := np) (N := 20) (kM_25 hM) (nM_25 hM) rfl (by omega) (by decide) dX6_grant_92 ?_
            refine am_aload_n hC dX6_grant_93 rfl ?_
            refine am_get (v := .ref (27)) hC (ci := 7) (N := 20) (j := 13) rfl (kM_14 hM) (by decide) tw_661 (Or.inl rfl) dX6_grant_94 (am_rfe (rM_13 hM)) ?_
            refine am_aload_n hC dX6_grant_97 rfl ?_
            refine am_get (v := .int (nI np)) hC (ci := 7) (N := 20) (j := 10) rfl (kM_14 hM) (by decide) tw_658 (Or.inl rfl) dX6_grant_98 (congrArg Value.int hx1) ?_
            refine am_aload_n hC dX6_grant_101 rfl ?_
            refine am_get (v := .ref (21)) hC (ci := 7) (N := 20) (j := 7) rfl (kM_14 hM) (by decide) tw_655 (Or.inl rfl) dX6_grant_102 (am_rfe (rM_7 hM)) ?_
            refine am_iload_n hC dX6_grant_105 rfl ?_
            refine am_ialdE (v := hi_ (am_sI (am_sI h1 14 19 (nI 0)) 25 np (nI d)) 21 d) hC (j := d) (N := 6) (kM_21 hM) (nM_21 hM) rfl (by omega) (by decide) dX6_grant_106 rfl ?_
            refine am_iast hC (j := np) (N := 20) (kM_27 hM) (nM_27 hM) rfl (by omega) (by decide) dX6_grant_107 ?_
            refine am_iconst (v := nI 0) hC dX6_grant_108 (by decide) ?_
            refine am_istore_n hC dX6_grant_109 (by decide) ?_
            change am_W _ _ _ _ [.ref (14), .int (nI d), .int (b2i (decide (np < 20) && R)), .int (nI 0)] _ _
            have hK : k3 (IX n (nI d)) (decide (np < 20) && R) true = 0 := k3_0 (IX_y (by omega) hd rfl) (b2i_ne c_78) rfl
            have hnp : np < 20 := of_decide_eq_true (and_2 (b2i_ne c_78)).1
            have hMg := hM
            have hxg := hx1
            have sl2 : ∀ (m s : Nat) (g : am_H), s + m = 40 → am_eq (fun q => q = 26) (am_sI (am_sI (am_sI h1 14 19 (nI 0)) 25 np (nI d)) 27 np (hi_ (am_sI (am_sI h1 14 19 (nI 0)) 25 np (nI d)) 21 d)) g → am_le (am_sI (am_sI (am_sI h1 14 19 (nI 0)) 25 np (nI d)) 27 np (hi_ (am_sI (am_sI h1 14 19 (nI 0)) 25 np (nI d)) 21 d)) g → (∀ s1, s1 < s → hi_ g 26 (40 * np + s1) = sdF t r 6 d s1) → (∀ b, b < 40 * np → hi_ g 26 b = hi_ h 26 b) → am_W Z (0 + 0) (0 + 0) 110 [.ref (14), .int (nI d), .null, .int (nI s)] [] g := by
              intro m
              induction m with
              | zero =>
                intro s g hs e hle hv hu
                obtain rfl : s = 40 := by omega
                have hM := FM_eq (S := fun q => q = 26) (by decide) e hle hMg
                have hx1 : hi_ g 14 10 = nI np := ((e 14 (by decide)).2.2.1 _).trans hxg
                have hsd : ∀ s, s < 40 → hi_ g 20 (40 * d + s) = sdF t r 6 d s := fun s hs => ((e 20 (by decide)).2.2.1 _).trans ((hf d hd).1 s hs)
                refine am_iload_n hC dX6_grant_110 rfl ?_
                refine am_bipush (v := nI 40) hC dX6_grant_111 (by decide) ?_
                refine am_icmp_ge (tgt := 147) hC dX6_grant_113 (by decide) (fun c_113 => ?_) (fun c_113 => absurd (nI_le (by omega) (by omega)) c_113)
                refine am_aload_n hC dX6_grant_147 rfl ?_
                refine am_dup hC dX6_grant_148 rfl ?_
                refine am_get (v := .int (nI np)) hC (ci := 7) (N := 20) (j := 10) rfl (kM_14 hM) (by decide) tw_658 (Or.inl rfl) dX6_grant_149 (congrArg Value.int hx1) ?_
                refine am_iconst (v := nI 1) hC dX6_grant_152 (by decide) ?_
                refine am_iaddE (z := nI (np + 1)) hC dX6_grant_153 (nI_add (np) (1)) ?_
                refine am_putI hC (ci := 7) (N := 20) (j := 10) rfl (kM_14 hM) (by decide) rfl rfl rfl tw_658 (Or.inl rfl) dX6_grant_154 ?_
                have hx1 : hi_ (am_sI g 14 10 (nI (np + 1))) 14 10 = nI (np + 1) := by rw [hi_sI, if_pos ⟨rfl, rfl⟩]
                refine am_aload_n hC dX6_grant_157 rfl ?_
                refine am_get (v := .int (nI (np + 1))) hC (ci := 7) (N := 20) (j := 10) rfl (kM_14 hM) (by decide) tw_658 (Or.inl rfl) dX6_grant_158 (congrArg Value.int hx1) ?_
                refine am_iconst (v := nI 1) hC dX6_grant_161 (by decide) ?_
                refine am_isubE (z := nI (np + 1 - 1)) hC dX6_grant_162 (pk_sub (by omega)) ?_
                refine am_iret hC hR rfl (by decide) (by decide) dX6_grant_163 ?_
                have o14 : ∀ j, j ≠ 10 → hi_ (am_sI g 14 10 (nI (np + 1))) 14 j = hi_ (am_sI h1 14 19 (nI 0)) 14 j := fun j j1 => by rw [hi_sI, if_neg (fun z => j1 z.2), (e 14 (by decide)).2.2.1, hi_sI, if_neg (fun z => absurd z.1 (by decide)), hi_sI, if_neg (fun z => absurd z.1 (by decide))]
                have o1 : ∀ a b, a ≠ 14 → a ≠ 26 → ¬ S4 a → hi_ h1 a b = hi_ h a b := fun a b q1 q2 q3 => ((e5 a q3).2.2.1 b).trans (by rw [hi_sI, if_neg (fun z => q1 z.1)])
                refine ⟨am_le_tr l1 (am_le_tr (am_le_tr (am_le_tr (am_le_tr (am_le_sI _ _ _ _) (am_le_sI _ _ _ _)) (am_le_sI _ _ _ _)) hle) (am_le_sI _ _ _ _)), _, rfl, R, fun _ => (by rw [dn_nI (by omega)]; exact hV), fun z => absurd hK z, fun _ => ⟨congrArg nI (by omega), ?_, hM, ?_, hx1, fun j j1 j2 => ?_, ?_, fun c hc => ?_, fun b hb => ⟨?_, ?_⟩, fun s hs => ?_, fun b hb => ?_⟩⟩
                · refine am_eq_tr (am_eq_tr (am_eq_sI (r := 14) (Or.inl rfl)) (am_eq_mono (fun q z => Or.inr (Or.inl z)) e5)) (am_eq_tr (am_eq_tr (am_eq_tr (am_eq_tr (am_eq_sI (Or.inl rfl)) (am_eq_sI (Or.inr (Or.inr (Or.inl rfl))))) (am_eq_sI (Or.inr (Or.inr (Or.inr (Or.inr rfl)))))) (am_eq_mono (fun q z => Or.inr (Or.inr (Or.inr (Or.inl z)))) e)) (am_eq_sI (Or.inl rfl)))
                · rw [o14 19 (by decide), hi_sI, if_pos ⟨rfl, rfl⟩]
                · rw [o14 j j1, hi_sI, if_neg (fun z => j2 z.2), (e5 14 (by unfold S4; omega)).2.2.1, hi_sI, if_neg (fun z => j2 z.2)]
                · rw [hi_sI, if_neg (fun z => absurd z.1 (by decide)), (e 25 (by decide)).2.2.1, hi_sI, if_neg (fun z => absurd z.1 (by decide)), hi_sI, if_pos ⟨rfl, rfl⟩]
                · rw [dn_nI (by omega), hi_sI, if_neg (fun z => absurd z.1 (by decide)), (e 27 (by decide)).2.2.1, hi_sI, if_pos ⟨rfl, rfl⟩]; exact (hf d hd).2 c hc
                · rw [hi_sI, if_neg (fun z => absurd z.1 (by decide)), (e 25 (by decide)).2.2.1, hi_sI, if_neg (fun z => absurd z.1 (by decide)), hi_sI, if_neg (fun z => hb z.2), hi_sI, if_neg (fun z => absurd z.1 (by decide))]; exact o1 25 b (by decide) (by decide) (by unfold S4; omega)
                · rw [hi_sI, if_neg (fun z => absurd z.1 (by decide)), (e 27 (by decide)).2.2.1, hi_sI, if_neg (fun z => hb z.2), hi_sI, if_neg (fun z => absurd z.1 (by decide)), hi_sI, if_neg (fun z => absurd z.1 (by decide))]; exact o1 27 b (by decide) (by decide) (by unfold S4; omega)
                · rw [dn_nI (by omega), hi_sI, if_neg (fun z => absurd z.1 (by decide))]; exact hv s hs
                · rw [hi_sI, if_neg (fun z => absurd z.1 (by decide))]; exact hu b hb
              | succ m ih =>
                intro s g hs e hle hv hu
                have hM := FM_eq (S := fun q => q = 26) (by decide) e hle hMg
                have hx1 : hi_ g 14 10 = nI np := ((e 14 (by decide)).2.2.1 _).trans hxg
                have hsd : ∀ s, s < 40 → hi_ g 20 (40 * d + s) = sdF t r 6 d s := fun s hs => ((e 20 (by decide)).2.2.1 _).trans ((hf d hd).1 s hs)
                refine am_iload_n hC dX6_grant_110 rfl ?_
                refine am_bipush (v := nI 40) hC dX6_grant_111 (by decide) ?_
                refine am_icmp_ge (tgt := 147) hC dX6_grant_113 (by decide) (fun c_113 => absurd c_113 (nI_ge (by omega) (by omega))) (fun c_113 => ?_)
                refine am_aload_n hC dX6_grant_116 rfl ?_
                refine am_get (v := .ref (26)) hC (ci := 7) (N := 20) (j := 12) rfl (kM_14 hM) (by decide) tw_660 (Or.inl rfl) dX6_grant_117 (am_rfe (rM_12 hM)) ?_
                refine am_bipush (v := nI 40) hC dX6_grant_120 (by decide) ?_
                refine am_aload_n hC dX6_grant_122 rfl ?_
                refine am_get (v := .int (nI np)) hC (ci := 7) (N := 20) (j := 10) rfl (kM_14 hM) (by decide) tw_658 (Or.inl rfl) dX6_grant_123 (congrArg Value.int hx1) ?_
                refine am_imulE (z := nI (40 * np)) hC dX6_grant_126 (pk_mul (40) (np)) ?_
                refine am_iload_n hC dX6_grant_127 rfl ?_
                refine am_iaddE (z := nI (40 * np + s)) hC dX6_grant_128 (nI_add (40 * np) (s)) ?_
                refine am_aload_n hC dX6_grant_129 rfl ?_
                refine am_get (v := .ref (20)) hC (ci := 7) (N := 20) (j := 6) rfl (kM_14 hM) (by decide) tw_654 (Or.inl rfl) dX6_grant_130 (am_rfe (rM_6 hM)) ?_
                refine am_bipush (v := nI 40) hC dX6_grant_133 (by decide) ?_
                refine am_iload_n hC dX6_grant_135 rfl ?_
                refine am_imulE (z := nI (40 * d)) hC dX6_grant_136 (pk_mul (40) (d)) ?_
                refine am_iload_n hC dX6_grant_137 rfl ?_
                refine am_iaddE (z := nI (40 * d + s)) hC dX6_grant_138 (nI_add (40 * d) (s)) ?_
                refine am_ialdE (v := sdF t r 6 d s) hC (j := 40 * d + s) (N := 240) (kM_20 hM) (nM_20 hM) rfl (by omega) (by decide) dX6_grant_139 (hsd s (by omega)) ?_
                refine am_iast hC (j := 40 * np + s) (N := 800) (kM_26 hM) (nM_26 hM) rfl (by omega) (by decide) dX6_grant_140 ?_
                refine am_iinc (v := nI (s + 1)) hC dX6_grant_141 rfl (nI_1 (s)) (by decide) ?_
                change am_W _ _ _ _ [.ref (14), .int (nI d), .null, .int (nI (s + 1))] _ _
                refine am_goto (tgt := 110) hC dX6_grant_144 (by decide) ?_
                refine am_fgt (ls' := [.ref (14), .int (nI d), .null, .int (nI (s + 1))]) ⟨Or.inl rfl, ⟨Or.inl rfl, ⟨Or.inr rfl, ⟨Or.inl rfl, trivial⟩⟩⟩⟩ (ih (s + 1) _ (by omega) (am_eq_tr e (am_eq_sI rfl)) (am_le_tr hle (am_le_sI _ _ _ _)) (fun s1 h9 => ?_) (fun b hb => ?_))
                · rw [hi_sI]
                  by_cases z : s1 = s
                  · rw [if_pos ⟨rfl, by rw [z]⟩, z]
                  · rw [if_neg (fun y => z (by omega))]; exact hv s1 (by omega)
                · rw [hi_sI, if_neg (fun y => by omega)]; exact hu b hb
            exact am_fgt (ls' := [.ref (14), .int (nI d), .null, .int (nI 0)]) ⟨Or.inl rfl, ⟨Or.inl rfl, ⟨Or.inr rfl, ⟨Or.inl rfl, trivial⟩⟩⟩⟩ (sl2 40 0 _ rfl (am_eq_rf _ _) (am_le_rf _) (fun s1 z => absurd z (Nat.not_lt_zero s1)) (fun b _ => by rw [hi_sI, if_neg (fun z => absurd z.1 (by decide)), hi_sI, if_neg (fun z => absurd z.1 (by decide)), hi_sI, if_neg (fun z => absurd z.1 (by decide))]; exact ((e5 26 (by unfold S4; omega)).2.2.1 b).trans (by rw [hi_sI, if_neg (fun z => absurd z.1 (by decide))])))
        | succ m ih =>
          intro c R hc hi
          have hrc := hrl c (by omega)
          have hwc := hw (ro c) hrc
          refine am_iload_n hC dX6_grant_28 rfl ?_
          refine am_bipush (v := nI 25) hC dX6_grant_29 (by decide) ?_
          refine am_icmp_ge (tgt := 64) hC dX6_grant_31 (by decide) (fun c_31 => absurd c_31 (nI_ge (by omega) (by omega))) (fun c_31 => ?_)
          refine am_iload_n hC dX6_grant_34 rfl ?_
          refine am_aload_n hC dX6_grant_35 rfl ?_
          refine am_get (v := .ref (23)) hC (ci := 7) (N := 20) (j := 9) rfl (kM_14 hM) (by decide) tw_657 (Or.inl rfl) dX6_grant_36 (am_rfe (rM_9 hM)) ?_
          refine am_aload_n hC dX6_grant_39 rfl ?_
          refine am_get (v := .ref (22)) hC (ci := 7) (N := 20) (j := 8) rfl (kM_14 hM) (by decide) tw_656 (Or.inl rfl) dX6_grant_40 (am_rfe (rM_8 hM)) ?_
          refine am_iload_n hC dX6_grant_43 rfl ?_
          refine am_ialdE (v := nI (ro c)) hC (j := c) (N := 25) (kM_22 hM) (nM_22 hM) rfl (by omega) (by decide) dX6_grant_44 (k3_ c (by omega)) ?_
          refine am_ialdE (v := nI (w99 (Dx (ro c)))) hC (j := ro c) (N := 25) (kM_23 hM) (nM_23 hM) rfl (by omega) (by decide) dX6_grant_45 (k4 _ hrc) ?_
          refine am_bipush (v := nI 99) hC dX6_grant_46 (by decide) ?_
          refine am_icmp_ge (tgt := 55) hC dX6_grant_48 (by decide) (fun c_48 => ?_) (fun c_48 => ?_)
          · replace c_48 : 99 ≤ (w99 (Dx (ro c))) := (nI_leI (a := 99) (b := (w99 (Dx (ro c)))) (by omega) (by omega)).mp c_48
            refine am_iconst (v := nI 0) hC dX6_grant_55 (by decide) ?_
            refine am_iandE (z := b2i false) hC dX6_grant_56 (ban0 _) ?_
            refine am_istore_n hC dX6_grant_57 (by decide) ?_
            change am_W _ _ _ _ [.ref (14), .int (nI d), .int (b2i false), .int (nI c)] _ _
            refine am_iinc (v := nI (c + 1)) hC dX6_grant_58 rfl (nI_1 (c)) (by decide) ?_
            change am_W _ _ _ _ [.ref (14), .int (nI d), .int (b2i false), .int (nI (c + 1))] _ _
            refine am_goto (tgt := 28) hC dX6_grant_61 (by decide) ?_
            have e9 : b2i false = b2i (decide (np < 20) && false) := by rw [Bool.and_false]
            rw [e9]
            exact ih (c + 1) false (by omega) ⟨(fun z => nomatch z), fun z => absurd (hwc.2.mpr (z c (by omega))) (by omega)⟩
          · replace c_48 : ¬ 99 ≤ (w99 (Dx (ro c))) := fun q9 => c_48 ((nI_leI (a := 99) (b := (w99 (Dx (ro c)))) (by omega) (by omega)).mpr q9)
            refine am_iconst (v := nI 1) hC dX6_grant_51 (by decide) ?_
            refine am_goto (tgt := 56) hC dX6_grant_52 (by decide) ?_
            refine am_iandE (z := b2i (decide (np < 20) && R)) hC dX6_grant_56 (ban1 _) ?_
            refine am_istore_n hC dX6_grant_57 (by decide) ?_
            change am_W _ _ _ _ [.ref (14), .int (nI d), .int (b2i (decide (np < 20) && R)), .int (nI c)] _ _
            refine am_iinc (v := nI (c + 1)) hC dX6_grant_58 rfl (nI_1 (c)) (by decide) ?_
            change am_W _ _ _ _ [.ref (14), .int (nI d), .int (b2i (decide (np < 20) && R)), .int (nI (c + 1))] _ _
            refine am_goto (tgt := 28) hC dX6_grant_61 (by decide) ?_
            exact ih (c + 1) R (by omega) (hi.trans ⟨fun z q hq => by
              rcases Nat.lt_or_eq_of_le (Nat.le_of_lt_succ hq) with w | w
              · exact z q w
              · rw [w]; exact hwc.2.mp (by omega), fun z q hq => z q (by omega)⟩)
      have k9 := sl 25 0 true rfl ⟨fun _ q z => absurd z (Nat.not_lt_zero q), fun _ => rfl⟩
      rw [show b2i (decide (np < 20) && true) = nI 1 by rw [decide_eq_true (by omega)]; rfl] at k9
      exact k9
  · refine am_iconst (v := nI 0) hC dX6_grant_9 (by decide) ?_
    refine am_iret hC hR rfl (by decide) (by decide) dX6_grant_10 ?_
    have hR8 := hA.1 (b2i_0.mp c_6)
    rw [h25] at hR8
    have hI : IX n D = false := by
      cases e : IX n D
      · rfl
      · exact absurd (k3_0 e rfl rfl) hR8.1
    have hKK : ∀ b, k3 (IX n D) b true = k3 (IX n D) true true := fun b => by rw [hI]; rfl
    refine ⟨l1, _, rfl, true, (fun z => absurd (hI.symm.trans z) (by decide)), fun _ => ?_, fun z => absurd ((hKK _).symm.trans z) hR8.1⟩
    rw [hKK, hR8.2]
    exact am_eq_rf _ _
