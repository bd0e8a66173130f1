/-! ===== the model's calls: refer, begin ===== -/
set_option maxRecDepth 100000 in
set_option maxHeartbeats 4000000 in
theorem c_X6_refer (G : am_G) (l : Launch) (htr : l.stackTraces = false) (h : am_H) (n : Nat) (t : Nat → Nat → Int32) (x r : Nat → Nat → Bool) (hT : MT h n t x r) (hlt : ∀ a, a < n → ∀ k, r a k = true → k < n) (D P O : Int32) (b : Bool) : am_Met G l yX6_refer (.code yX6_refer cX6_refer 7 (some .boolean)) 3 0 0 [.ref (14), .int (D), .int (P), .int (O), .int (b2i b)] h (fun v h' => ∃ V, v = some (.int V) ∧ ((k3 (IX n D && IX n O) (IX 6 P) (decide (chM h (dn D) = P) && !(b && ldF r 6 (dn O) (dn D)))) ≠ 0 → h' = am_sI h 14 19 (nI (k3 (IX n D && IX n O) (IX 6 P) (decide (chM h (dn D) = P) && !(b && ldF r 6 (dn O) (dn D)))))) ∧ ((k3 (IX n D && IX n O) (IX 6 P) (decide (chM h (dn D) = P) && !(b && ldF r 6 (dn O) (dn D)))) = 0 → V = b2i (r (dn D) (dn O)) ∧ h' = am_sI (am_sI h 14 19 (nI 0)) 17 (dn D) (if b = true then hi_ h 17 (dn D) ||| ((nI 1) <<< ((nI (dn O)) &&& 31)) else hi_ h 17 (dn D) &&& (((nI 1) <<< ((nI (dn O)) &&& 31)) ^^^ -1)))) (am_no) := by
  have hM := hT.1
  have hn6 := hT.2.1
  have hn0 := hT.2.2.1
  have hrb := hT.2.2.2.2.2.1
  refine am_intro rfl htr rfl (Nat.le_of_ble_eq_true rfl) (fun Z hC hR hI => ?_)
  change am_W Z 0 0 0 [.ref (14), .int (D), .int (P), .int (O), .int (b2i b), .null, .null] [] h
  refine am_aload_n hC dX6_refer_0 rfl ?_
  refine am_aload_n hC dX6_refer_1 rfl ?_
  refine am_iload_n hC dX6_refer_2 rfl ?_
  refine am_callV hC (ci := 7) (N := 20) [.int (D)] rfl (kM_14 hM) rfl mf_X6_isDrawing tw_727 (c_X6_isDrawing _ _ (am_tr hC) h hM n hn6 hn0 D) rfl ⟨rfl, Nat.le_of_ble_eq_true rfl⟩ ⟨by decide, by decide⟩ (by decide) (by decide) dX6_refer_3 rfl (fun _ _ q _ => False.elim q) (fun v h' hp hlc => ?_)
  obtain ⟨z8, z9⟩ := hp
  have z8 := z8.symm
  subst z8
  subst z9
  refine am_if_eq (tgt := 17) hC dX6_refer_6 (by decide) (fun c_6 => ?_) (fun c_6 => ?_)
  · refine am_iconst (v := nI 1) hC dX6_refer_17 (by decide) ?_
    refine am_goto (tgt := 33) hC dX6_refer_18 (by decide) ?_
    refine am_putI hC (ci := 7) (N := 20) (j := 19) rfl (kM_14 hM) (by decide) rfl rfl rfl tw_667 (Or.inl rfl) dX6_refer_33 ?_
    have hM : FM (am_sI h 14 19 (nI 1)) := hM
    refine am_aload_n hC dX6_refer_36 rfl ?_
    refine am_get (v := .int (nI 1)) hC (ci := 7) (N := 20) (j := 19) rfl (kM_14 hM) (by decide) tw_667 (Or.inl rfl) dX6_refer_37 rfl ?_
    refine am_if_le (tgt := 45) hC dX6_refer_40 (by decide) (fun c_40 => absurd c_40 (by decide)) (fun c_40 => ?_)
    refine am_iconst (v := nI 0) hC dX6_refer_43 (by decide) ?_
    refine am_iret hC hR rfl (by decide) (by decide) dX6_refer_44 ?_
    first
      | exact ⟨_, rfl, rfz (k3_1 (and_fl (b2i_0.mp c_6))) (by decide) rfl⟩
      | exact ⟨_, rfl, rfz (k3_1 (and_ff (b2i_0.mp c_14))) (by decide) rfl⟩
  · have hD1 := b2i_ne c_6
    obtain ⟨d, hd, rfl⟩ := (IX_iff (by omega)).mp hD1
    refine am_aload_n hC dX6_refer_9 rfl ?_
    refine am_iload_n hC dX6_refer_10 rfl ?_
    refine am_callV hC (ci := 7) (N := 20) [.int (O)] rfl (kM_14 hM) rfl mf_X6_isDrawing tw_727 (c_X6_isDrawing _ _ (am_tr hC) h hM n hn6 hn0 O) rfl ⟨rfl, Nat.le_of_ble_eq_true rfl⟩ ⟨by decide, by decide⟩ (by decide) (by decide) dX6_refer_11 rfl (fun _ _ q _ => False.elim q) (fun v h' hp hlc => ?_)
    obtain ⟨z8, z9⟩ := hp
    have z8 := z8.symm
    subst z8
    subst z9
    refine am_if_ne (tgt := 21) hC dX6_refer_14 (by decide) (fun c_14 => ?_) (fun c_14 => ?_)
    · have hO1 := b2i_ne c_14
      obtain ⟨o, ho, rfl⟩ := (IX_iff (by omega)).mp hO1
      refine am_iload_n hC dX6_refer_21 rfl ?_
      refine am_callS hC [.int (P)] mf_X6_isPerson tw_721 (c_X6_isPerson _ _ (am_tr hC) h P) rfl ⟨rfl, Nat.le_of_ble_eq_true rfl⟩ ⟨by decide, by decide⟩ (by decide) (by decide) dX6_refer_22 rfl (fun _ _ q _ => False.elim q) (fun v h' hp hlc => ?_)
      obtain ⟨z8, z9⟩ := hp
      have z8 := z8.symm
      subst z8
      subst z9
      refine am_if_eq (tgt := 32) hC dX6_refer_25 (by decide) (fun c_25 => ?_) (fun c_25 => ?_)
      · refine am_iconst (v := nI 2) hC dX6_refer_32 (by decide) ?_
        refine am_putI hC (ci := 7) (N := 20) (j := 19) rfl (kM_14 hM) (by decide) rfl rfl rfl tw_667 (Or.inl rfl) dX6_refer_33 ?_
        have hM : FM (am_sI h 14 19 (nI 2)) := hM
        refine am_aload_n hC dX6_refer_36 rfl ?_
        refine am_get (v := .int (nI 2)) hC (ci := 7) (N := 20) (j := 19) rfl (kM_14 hM) (by decide) tw_667 (Or.inl rfl) dX6_refer_37 rfl ?_
        refine am_if_le (tgt := 45) hC dX6_refer_40 (by decide) (fun c_40 => absurd c_40 (by decide)) (fun c_40 => ?_)
        refine am_iconst (v := nI 0) hC dX6_refer_43 (by decide) ?_
        refine am_iret hC hR rfl (by decide) (by decide) dX6_refer_44 ?_
        exact ⟨_, rfl, rfz (k3_2 (and_tt hD1 hO1) (b2i_0.mp c_25)) (by decide) rfl⟩
      · have hP1 := b2i_ne c_25
        refine am_iconst (v := nI 0) hC dX6_refer_28 (by decide) ?_
        refine am_goto (tgt := 33) hC dX6_refer_29 (by decide) ?_
        refine am_putI hC (ci := 7) (N := 20) (j := 19) rfl (kM_14 hM) (by decide) rfl rfl rfl tw_667 (Or.inl rfl) dX6_refer_33 ?_
        have hM : FM (am_sI h 14 19 (nI 0)) := hM
        refine am_aload_n hC dX6_refer_36 rfl ?_
        refine am_get (v := .int (nI 0)) hC (ci := 7) (N := 20) (j := 19) rfl (kM_14 hM) (by decide) tw_667 (Or.inl rfl) dX6_refer_37 rfl ?_
        refine am_if_le (tgt := 45) hC dX6_refer_40 (by decide) (fun c_40 => ?_) (fun c_40 => absurd (by decide) c_40)
        have hT1 := MT_th (v := nI 0) hT
        have m70 : am_W Z 0 0 70 [.ref (14), .int (nI d), .int (P), .int (nI o), .int (b2i b), .int (b2i (b && ldF r 6 o d)), .null] [] (am_sI h 14 19 (nI 0)) := by
          refine am_aload_n hC dX6_refer_70 rfl ?_
          refine am_aload_n hC dX6_refer_71 rfl ?_
          refine am_iload_n hC dX6_refer_72 rfl ?_
          refine am_callV hC (ci := 7) (N := 20) [.int (nI d)] rfl (kM_14 hM) rfl mf_X6_changer tw_731 (c_X6_changer _ _ (am_tr hC) (am_sI h 14 19 (nI 0)) hM d (by omega)) rfl ⟨rfl, Nat.le_of_ble_eq_true rfl⟩ ⟨by decide, by decide⟩ (by decide) (by decide) dX6_refer_73 rfl (fun _ _ q _ => False.elim q) (fun v h' hp hlc => ?_)
          obtain ⟨z8, z9⟩ := hp
          subst z8
          subst z9
          refine am_iload_n hC dX6_refer_76 rfl ?_
          refine am_icmp_ne (tgt := 85) hC dX6_refer_77 (by decide) (fun c_77 => ?_) (fun c_77 => ?_)
          · refine am_iconst (v := nI 3) hC dX6_refer_85 (by decide) ?_
            refine am_goto (tgt := 90) hC dX6_refer_86 (by decide) ?_
            refine am_putI hC (ci := 7) (N := 20) (j := 19) rfl (kM_14 hM) (by decide) rfl rfl rfl tw_667 (Or.inl rfl) dX6_refer_90 ?_
            have hM : FM (am_sI (am_sI h 14 19 (nI 0)) 14 19 (nI 3)) := hM
            refine am_aload_n hC dX6_refer_93 rfl ?_
            refine am_get (v := .int (nI 3)) hC (ci := 7) (N := 20) (j := 19) rfl (kM_14 hM) (by decide) tw_667 (Or.inl rfl) dX6_refer_94 rfl ?_
            refine am_if_le (tgt := 102) hC dX6_refer_97 (by decide) (fun c_97 => absurd c_97 (by decide)) (fun c_97 => ?_)
            refine am_iconst (v := nI 0) hC dX6_refer_100 (by decide) ?_
            refine am_iret hC hR rfl (by decide) (by decide) dX6_refer_101 ?_
            first
              | exact ⟨_, rfl, rfz (k3_3 (and_tt hD1 hO1) hP1 (and_fl (decide_eq_false (p := chM h (dn (nI d)) = P) (fun z => c_77 (by rw [dn_nI (by omega)] at z; exact z))))) (by decide) (sI_sI _ _ _ _ _)⟩
              | exact ⟨_, rfl, rfz (k3_3 (and_tt hD1 hO1) hP1 (and_ff (by rw [dn_nI (by omega), dn_nI (by omega), b2i_ne c_82]; rfl))) (by decide) (sI_sI _ _ _ _ _)⟩
          · refine am_iload hC dX6_refer_80 rfl ?_
            refine am_if_eq (tgt := 89) hC dX6_refer_82 (by decide) (fun c_82 => ?_) (fun c_82 => ?_)
            · refine am_iconst (v := nI 0) hC dX6_refer_89 (by decide) ?_
              refine am_putI hC (ci := 7) (N := 20) (j := 19) rfl (kM_14 hM) (by decide) rfl rfl rfl tw_667 (Or.inl rfl) dX6_refer_90 ?_
              have hM : FM (am_sI (am_sI h 14 19 (nI 0)) 14 19 (nI 0)) := hM
              refine am_aload_n hC dX6_refer_93 rfl ?_
              refine am_get (v := .int (nI 0)) hC (ci := 7) (N := 20) (j := 19) rfl (kM_14 hM) (by decide) tw_667 (Or.inl rfl) dX6_refer_94 rfl ?_
              refine am_if_le (tgt := 102) hC dX6_refer_97 (by decide) (fun c_97 => ?_) (fun c_97 => absurd (by decide) c_97)
              refine am_aload_n hC dX6_refer_102 rfl ?_
              refine am_get (v := .ref (17)) hC (ci := 7) (N := 20) (j := 3) rfl (kM_14 hM) (by decide) tw_651 (Or.inl rfl) dX6_refer_103 (am_rfe (rM_3 hM)) ?_
              refine am_iload_n hC dX6_refer_106 rfl ?_
              refine am_ialdE (v := hi_ (am_sI (am_sI h 14 19 (nI 0)) 14 19 (nI 0)) 17 d) hC (j := d) (N := 6) (kM_17 hM) (nM_17 hM) rfl (by omega) (by decide) dX6_refer_107 rfl ?_
              refine am_iload_n hC dX6_refer_108 rfl ?_
              refine am_ishrE (z := (hi_ (am_sI (am_sI h 14 19 (nI 0)) 14 19 (nI 0)) 17 d) >>> ((nI o) &&& 31)) hC dX6_refer_109 rfl ?_
              refine am_iconst (v := nI 1) hC dX6_refer_110 (by decide) ?_
              refine am_iandE (z := ((hi_ (am_sI (am_sI h 14 19 (nI 0)) 14 19 (nI 0)) 17 d) >>> ((nI o) &&& 31)) &&& (nI 1)) hC dX6_refer_111 rfl ?_
              refine am_iconst (v := nI 1) hC dX6_refer_112 (by decide) ?_
              refine am_icmp_ne (tgt := 120) hC dX6_refer_113 (by decide) (fun c_113 => ?_) (fun c_113 => ?_)
              · refine am_iconst (v := nI 0) hC dX6_refer_120 (by decide) ?_
                refine am_istore hC dX6_refer_121 (by decide) ?_
                change am_W _ _ _ _ [.ref (14), .int (nI d), .int (P), .int (nI o), .int (b2i b), .int (b2i (b && ldF r 6 o d)), .int (nI 0)] _ _
                refine am_aload_n hC dX6_refer_123 rfl ?_
                refine am_get (v := .ref (17)) hC (ci := 7) (N := 20) (j := 3) rfl (kM_14 hM) (by decide) tw_651 (Or.inl rfl) dX6_refer_124 (am_rfe (rM_3 hM)) ?_
                refine am_iload_n hC dX6_refer_127 rfl ?_
                refine am_iload hC dX6_refer_128 rfl ?_
                refine am_if_eq (tgt := 146) hC dX6_refer_130 (by decide) (fun c_130 => ?_) (fun c_130 => ?_)
                · refine am_aload_n hC dX6_refer_146 rfl ?_
                  refine am_get (v := .ref (17)) hC (ci := 7) (N := 20) (j := 3) rfl (kM_14 hM) (by decide) tw_651 (Or.inl rfl) dX6_refer_147 (am_rfe (rM_3 hM)) ?_
                  refine am_iload_n hC dX6_refer_150 rfl ?_
                  refine am_ialdE (v := hi_ (am_sI (am_sI h 14 19 (nI 0)) 14 19 (nI 0)) 17 d) hC (j := d) (N := 6) (kM_17 hM) (nM_17 hM) rfl (by omega) (by decide) dX6_refer_151 rfl ?_
                  refine am_iconst (v := nI 1) hC dX6_refer_152 (by decide) ?_
                  refine am_iload_n hC dX6_refer_153 rfl ?_
                  refine am_ishlE (z := (nI 1) <<< ((nI o) &&& 31)) hC dX6_refer_154 rfl ?_
                  refine am_iconst (v := -1) hC dX6_refer_155 (by decide) ?_
                  refine am_ixorE (z := ((nI 1) <<< ((nI o) &&& 31)) ^^^ (-1)) hC dX6_refer_156 rfl ?_
                  refine am_iandE (z := (hi_ (am_sI (am_sI h 14 19 (nI 0)) 14 19 (nI 0)) 17 d) &&& (((nI 1) <<< ((nI o) &&& 31)) ^^^ (-1))) hC dX6_refer_157 rfl ?_
                  refine am_iast hC (j := d) (N := 6) (kM_17 hM) (nM_17 hM) rfl (by omega) (by decide) dX6_refer_158 ?_
                  refine am_iload hC dX6_refer_159 rfl ?_
                  refine am_iret hC hR rfl (by decide) (by decide) dX6_refer_161 ?_
                  have hK : k3 (IX n (nI d) && IX n (nI o)) (IX 6 P) (decide (chM h (dn (nI d)) = P) && !(b && ldF r 6 (dn (nI o)) (dn (nI d)))) = 0 := k3_0 (and_tt hD1 hO1) hP1 (and_tt (decide_eq_true (by rw [dn_nI (by omega)]; exact c_77)) (by rw [dn_nI (by omega), dn_nI (by omega), b2i_0.mp c_82]; rfl))
                  refine ⟨_, rfl, fun z => absurd hK z, fun _ => ⟨?_, ?_⟩⟩
                  · rw [dn_nI (by omega), dn_nI (by omega), ← hrb d hd o (by omega)]
                    first
                      | (rw [show bt (hi_ h 17 d) o = true from (tb_ (by omega)).mp c_113]; rfl)
                      | (rw [show bt (hi_ h 17 d) o = false from tb_n (by omega) c_113]; rfl)
                  · rw [dn_nI (by omega), dn_nI (by omega), sI_sI]
                    first
                      | (rw [if_pos (b2i_ne c_130)]; rfl)
                      | (rw [if_neg (fun z => by rw [b2i_0.mp c_130] at z; cases z)]; rfl)
                · refine am_aload_n hC dX6_refer_133 rfl ?_
                  refine am_get (v := .ref (17)) hC (ci := 7) (N := 20) (j := 3) rfl (kM_14 hM) (by decide) tw_651 (Or.inl rfl) dX6_refer_134 (am_rfe (rM_3 hM)) ?_
                  refine am_iload_n hC dX6_refer_137 rfl ?_
                  refine am_ialdE (v := hi_ (am_sI (am_sI h 14 19 (nI 0)) 14 19 (nI 0)) 17 d) hC (j := d) (N := 6) (kM_17 hM) (nM_17 hM) rfl (by omega) (by decide) dX6_refer_138 rfl ?_
                  refine am_iconst (v := nI 1) hC dX6_refer_139 (by decide) ?_
                  refine am_iload_n hC dX6_refer_140 rfl ?_
                  refine am_ishlE (z := (nI 1) <<< ((nI o) &&& 31)) hC dX6_refer_141 rfl ?_
                  refine am_iorE (z := (hi_ (am_sI (am_sI h 14 19 (nI 0)) 14 19 (nI 0)) 17 d) ||| ((nI 1) <<< ((nI o) &&& 31))) hC dX6_refer_142 rfl ?_
                  refine am_goto (tgt := 158) hC dX6_refer_143 (by decide) ?_
                  refine am_iast hC (j := d) (N := 6) (kM_17 hM) (nM_17 hM) rfl (by omega) (by decide) dX6_refer_158 ?_
                  refine am_iload hC dX6_refer_159 rfl ?_
                  refine am_iret hC hR rfl (by decide) (by decide) dX6_refer_161 ?_
                  have hK : k3 (IX n (nI d) && IX n (nI o)) (IX 6 P) (decide (chM h (dn (nI d)) = P) && !(b && ldF r 6 (dn (nI o)) (dn (nI d)))) = 0 := k3_0 (and_tt hD1 hO1) hP1 (and_tt (decide_eq_true (by rw [dn_nI (by omega)]; exact c_77)) (by rw [dn_nI (by omega), dn_nI (by omega), b2i_0.mp c_82]; rfl))
                  refine ⟨_, rfl, fun z => absurd hK z, fun _ => ⟨?_, ?_⟩⟩
                  · rw [dn_nI (by omega), dn_nI (by omega), ← hrb d hd o (by omega)]
                    first
                      | (rw [show bt (hi_ h 17 d) o = true from (tb_ (by omega)).mp c_113]; rfl)
                      | (rw [show bt (hi_ h 17 d) o = false from tb_n (by omega) c_113]; rfl)
                  · rw [dn_nI (by omega), dn_nI (by omega), sI_sI]
                    first
                      | (rw [if_pos (b2i_ne c_130)]; rfl)
                      | (rw [if_neg (fun z => by rw [b2i_0.mp c_130] at z; cases z)]; rfl)
              · refine am_iconst (v := nI 1) hC dX6_refer_116 (by decide) ?_
                refine am_goto (tgt := 121) hC dX6_refer_117 (by decide) ?_
                refine am_istore hC dX6_refer_121 (by decide) ?_
                change am_W _ _ _ _ [.ref (14), .int (nI d), .int (P), .int (nI o), .int (b2i b), .int (b2i (b && ldF r 6 o d)), .int (nI 1)] _ _
                refine am_aload_n hC dX6_refer_123 rfl ?_
                refine am_get (v := .ref (17)) hC (ci := 7) (N := 20) (j := 3) rfl (kM_14 hM) (by decide) tw_651 (Or.inl rfl) dX6_refer_124 (am_rfe (rM_3 hM)) ?_
                refine am_iload_n hC dX6_refer_127 rfl ?_
                refine am_iload hC dX6_refer_128 rfl ?_
                refine am_if_eq (tgt := 146) hC dX6_refer_130 (by decide) (fun c_130 => ?_) (fun c_130 => ?_)
                · refine am_aload_n hC dX6_refer_146 rfl ?_
                  refine am_get (v := .ref (17)) hC (ci := 7) (N := 20) (j := 3) rfl (kM_14 hM) (by decide) tw_651 (Or.inl rfl) dX6_refer_147 (am_rfe (rM_3 hM)) ?_
                  refine am_iload_n hC dX6_refer_150 rfl ?_
                  refine am_ialdE (v := hi_ (am_sI (am_sI h 14 19 (nI 0)) 14 19 (nI 0)) 17 d) hC (j := d) (N := 6) (kM_17 hM) (nM_17 hM) rfl (by omega) (by decide) dX6_refer_151 rfl ?_
                  refine am_iconst (v := nI 1) hC dX6_refer_152 (by decide) ?_
                  refine am_iload_n hC dX6_refer_153 rfl ?_
                  refine am_ishlE (z := (nI 1) <<< ((nI o) &&& 31)) hC dX6_refer_154 rfl ?_
                  refine am_iconst (v := -1) hC dX6_refer_155 (by decide) ?_
                  refine am_ixorE (z := ((nI 1) <<< ((nI o) &&& 31)) ^^^ (-1)) hC dX6_refer_156 rfl ?_
                  refine am_iandE (z := (hi_ (am_sI (am_sI h 14 19 (nI 0)) 14 19 (nI 0)) 17 d) &&& (((nI 1) <<< ((nI o) &&& 31)) ^^^ (-1))) hC dX6_refer_157 rfl ?_
                  refine am_iast hC (j := d) (N := 6) (kM_17 hM) (nM_17 hM) rfl (by omega) (by decide) dX6_refer_158 ?_
                  refine am_iload hC dX6_refer_159 rfl ?_
                  refine am_iret hC hR rfl (by decide) (by decide) dX6_refer_161 ?_
                  have hK : k3 (IX n (nI d) && IX n (nI o)) (IX 6 P) (decide (chM h (dn (nI d)) = P) && !(b && ldF r 6 (dn (nI o)) (dn (nI d)))) = 0 := k3_0 (and_tt hD1 hO1) hP1 (and_tt (decide_eq_true (by rw [dn_nI (by omega)]; exact c_77)) (by rw [dn_nI (by omega), dn_nI (by omega), b2i_0.mp c_82]; rfl))
                  refine ⟨_, rfl, fun z => absurd hK z, fun _ => ⟨?_, ?_⟩⟩
                  · rw [dn_nI (by omega), dn_nI (by omega), ← hrb d hd o (by omega)]
                    first
                      | (rw [show bt (hi_ h 17 d) o = true from (tb_ (by omega)).mp c_113]; rfl)
                      | (rw [show bt (hi_ h 17 d) o = false from tb_n (by omega) c_113]; rfl)
                  · rw [dn_nI (by omega), dn_nI (by omega), sI_sI]
                    first
                      | (rw [if_pos (b2i_ne c_130)]; rfl)
                      | (rw [if_neg (fun z => by rw [b2i_0.mp c_130] at z; cases z)]; rfl)
                · refine am_aload_n hC dX6_refer_133 rfl ?_
                  refine am_get (v := .ref (17)) hC (ci := 7) (N := 20) (j := 3) rfl (kM_14 hM) (by decide) tw_651 (Or.inl rfl) dX6_refer_134 (am_rfe (rM_3 hM)) ?_
                  refine am_iload_n hC dX6_refer_137 rfl ?_
                  refine am_ialdE (v := hi_ (am_sI (am_sI h 14 19 (nI 0)) 14 19 (nI 0)) 17 d) hC (j := d) (N := 6) (kM_17 hM) (nM_17 hM) rfl (by omega) (by decide) dX6_refer_138 rfl ?_
                  refine am_iconst (v := nI 1) hC dX6_refer_139 (by decide) ?_
                  refine am_iload_n hC dX6_refer_140 rfl ?_
                  refine am_ishlE (z := (nI 1) <<< ((nI o) &&& 31)) hC dX6_refer_141 rfl ?_
                  refine am_iorE (z := (hi_ (am_sI (am_sI h 14 19 (nI 0)) 14 19 (nI 0)) 17 d) ||| ((nI 1) <<< ((nI o) &&& 31))) hC dX6_refer_142 rfl ?_
                  refine am_goto (tgt := 158) hC dX6_refer_143 (by decide) ?_
                  refine am_iast hC (j := d) (N := 6) (kM_17 hM) (nM_17 hM) rfl (by omega) (by decide) dX6_refer_158 ?_
                  refine am_iload hC dX6_refer_159 rfl ?_
                  refine am_iret hC hR rfl (by decide) (by decide) dX6_refer_161 ?_
                  have hK : k3 (IX n (nI d) && IX n (nI o)) (IX 6 P) (decide (chM h (dn (nI d)) = P) && !(b && ldF r 6 (dn (nI o)) (dn (nI d)))) = 0 := k3_0 (and_tt hD1 hO1) hP1 (and_tt (decide_eq_true (by rw [dn_nI (by omega)]; exact c_77)) (by rw [dn_nI (by omega), dn_nI (by omega), b2i_0.mp c_82]; rfl))
                  refine ⟨_, rfl, fun z => absurd hK z, fun _ => ⟨?_, ?_⟩⟩
                  · rw [dn_nI (by omega), dn_nI (by omega), ← hrb d hd o (by omega)]
                    first
                      | (rw [show bt (hi_ h 17 d) o = true from (tb_ (by omega)).mp c_113]; rfl)
                      | (rw [show bt (hi_ h 17 d) o = false from tb_n (by omega) c_113]; rfl)
                  · rw [dn_nI (by omega), dn_nI (by omega), sI_sI]
                    first
                      | (rw [if_pos (b2i_ne c_130)]; rfl)
                      | (rw [if_neg (fun z => by rw [b2i_0.mp c_130] at z; cases z)]; rfl)
            · refine am_iconst (v := nI 3) hC dX6_refer_85 (by decide) ?_
              refine am_goto (tgt := 90) hC dX6_refer_86 (by decide) ?_
              refine am_putI hC (ci := 7) (N := 20) (j := 19) rfl (kM_14 hM) (by decide) rfl rfl rfl tw_667 (Or.inl rfl) dX6_refer_90 ?_
              have hM : FM (am_sI (am_sI h 14 19 (nI 0)) 14 19 (nI 3)) := hM
              refine am_aload_n hC dX6_refer_93 rfl ?_
              refine am_get (v := .int (nI 3)) hC (ci := 7) (N := 20) (j := 19) rfl (kM_14 hM) (by decide) tw_667 (Or.inl rfl) dX6_refer_94 rfl ?_
              refine am_if_le (tgt := 102) hC dX6_refer_97 (by decide) (fun c_97 => absurd c_97 (by decide)) (fun c_97 => ?_)
              refine am_iconst (v := nI 0) hC dX6_refer_100 (by decide) ?_
              refine am_iret hC hR rfl (by decide) (by decide) dX6_refer_101 ?_
              first
                | exact ⟨_, rfl, rfz (k3_3 (and_tt hD1 hO1) hP1 (and_fl (decide_eq_false (p := chM h (dn (nI d)) = P) (fun z => c_77 (by rw [dn_nI (by omega)] at z; exact z))))) (by decide) (sI_sI _ _ _ _ _)⟩
                | exact ⟨_, rfl, rfz (k3_3 (and_tt hD1 hO1) hP1 (and_ff (by rw [dn_nI (by omega), dn_nI (by omega), b2i_ne c_82]; rfl))) (by decide) (sI_sI _ _ _ _ _)⟩
        refine am_iload hC dX6_refer_45 rfl ?_
        refine am_if_eq (tgt := 67) hC dX6_refer_47 (by decide) (fun c_47 => ?_) (fun c_47 => ?_)
        · refine am_iconst (v := nI 0) hC dX6_refer_67 (by decide) ?_
          refine am_istore hC dX6_refer_68 (by decide) ?_
          change am_W _ _ _ _ [.ref (14), .int (nI d), .int (P), .int (nI o), .int (b2i b), .int (nI 0), .null] _ _
          have e9 : b2i (b && ldF r 6 o d) = nI 0 := by
            first
              | (rw [b2i_0.mp c_47]; rfl)
              | (rw [← hbm d hd, show bt m d = false from tb_n (by omega) c_60, Bool.and_false]; rfl)
          rw [e9] at m70
          exact m70
        · refine am_aload_n hC dX6_refer_50 rfl ?_
          refine am_iload_n hC dX6_refer_51 rfl ?_
          refine am_callV hC (ci := 7) (N := 20) [.int (nI o)] rfl (kM_14 hM) rfl mf_X6_over tw_746 (c_X6_over _ _ (am_tr hC) (am_sI h 14 19 (nI 0)) n t x r hT1 hlt o ho) rfl ⟨rfl, Nat.le_of_ble_eq_true rfl⟩ ⟨by decide, by decide⟩ (by decide) (by decide) dX6_refer_52 rfl (fun _ _ q _ => False.elim q) (fun v h' hp hlc => ?_)
          obtain ⟨z8, m, z9, hbm⟩ := hp
          subst z8
          subst z9
          refine am_iload_n hC dX6_refer_55 rfl ?_
          refine am_ishrE (z := m >>> ((nI d) &&& 31)) hC dX6_refer_56 rfl ?_
          refine am_iconst (v := nI 1) hC dX6_refer_57 (by decide) ?_
          refine am_iandE (z := (m >>> ((nI d) &&& 31)) &&& (nI 1)) hC dX6_refer_58 rfl ?_
          refine am_iconst (v := nI 1) hC dX6_refer_59 (by decide) ?_
          refine am_icmp_ne (tgt := 67) hC dX6_refer_60 (by decide) (fun c_60 => ?_) (fun c_60 => ?_)
          · refine am_iconst (v := nI 0) hC dX6_refer_67 (by decide) ?_
            refine am_istore hC dX6_refer_68 (by decide) ?_
            change am_W _ _ _ _ [.ref (14), .int (nI d), .int (P), .int (nI o), .int (b2i b), .int (nI 0), .null] _ _
            have e9 : b2i (b && ldF r 6 o d) = nI 0 := by
              first
                | (rw [b2i_0.mp c_47]; rfl)
                | (rw [← hbm d hd, show bt m d = false from tb_n (by omega) c_60, Bool.and_false]; rfl)
            rw [e9] at m70
            exact m70
          · refine am_iconst (v := nI 1) hC dX6_refer_63 (by decide) ?_
            refine am_goto (tgt := 68) hC dX6_refer_64 (by decide) ?_
            refine am_istore hC dX6_refer_68 (by decide) ?_
            change am_W _ _ _ _ [.ref (14), .int (nI d), .int (P), .int (nI o), .int (b2i b), .int (nI 1), .null] _ _
            have e9 : b2i (b && ldF r 6 o d) = nI 1 := by rw [b2i_ne c_47, ← hbm d hd, show bt m d = true from (tb_ (by omega)).mp c_60]; rfl
            rw [e9] at m70
            exact m70
    · refine am_iconst (v := nI 1) hC dX6_refer_17 (by decide) ?_
      refine am_goto (tgt := 33) hC dX6_refer_18 (by decide) ?_
      refine am_putI hC (ci := 7) (N := 20) (j := 19) rfl (kM_14 hM) (by decide) rfl rfl rfl tw_667 (Or.inl rfl) dX6_refer_33 ?_
      have hM : FM (am_sI h 14 19 (nI 1)) := hM
      refine am_aload_n hC dX6_refer_36 rfl ?_
      refine am_get (v := .int (nI 1)) hC (ci := 7) (N := 20) (j := 19) rfl (kM_14 hM) (by decide) tw_667 (Or.inl rfl) dX6_refer_37 rfl ?_
      refine am_if_le (tgt := 45) hC dX6_refer_40 (by decide) (fun c_40 => absurd c_40 (by decide)) (fun c_40 => ?_)
      refine am_iconst (v := nI 0) hC dX6_refer_43 (by decide) ?_
      refine am_iret hC hR rfl (by decide) (by decide) dX6_refer_44 ?_
      first
        | exact ⟨_, rfl, rfz (k3_1 (and_fl (b2i_0.mp c_6))) (by decide) rfl⟩
        | exact ⟨_, rfl, rfz (k3_1 (and_ff (b2i_0.mp c_14))) (by decide) rfl⟩
set_option maxRecDepth 100000 in
set_option maxHeartbeats 4000000 in
theorem c_X6_begin (G : am_G) (l : Launch) (htr : l.stackTraces = false) (h : am_H) (hM : FM h) (n : Nat) (hn6 : n ≤ 6) (hn0 : hi_ h 14 0 = nI n) : am_Met G l yX6_begin (.code yX6_begin cX6_begin 2 (some .int)) 1 0 0 [.ref (14)] h (fun v h' => ∃ V, v = some (.int V) ∧ ((k3 (decide (n < 6)) true true) ≠ 0 → h' = am_sI h 14 19 (nI (k3 (decide (n < 6)) true true))) ∧ ((k3 (decide (n < 6)) true true) = 0 → V = nI n ∧ am_eq (fun q => q = 14 ∨ q = 15 ∨ q = 18 ∨ q = 19) h h' ∧ FM h' ∧ hi_ h' 14 19 = nI 0 ∧ hi_ h' 14 0 = nI (n + 1) ∧ (∀ j, j ≠ 0 → j ≠ 19 → hi_ h' 14 j = hi_ h 14 j) ∧ (∀ s, s < 40 → hi_ h' 15 (40 * n + s) = -1) ∧ (∀ b, b < 40 * n → hi_ h' 15 b = hi_ h 15 b) ∧ hi_ h' 18 n = -1 ∧ hi_ h' 19 n = -1 ∧ (∀ b, b ≠ n → hi_ h' 18 b = hi_ h 18 b ∧ hi_ h' 19 b = hi_ h 19 b))) (am_no) := by
  refine am_intro rfl htr rfl (Nat.le_of_ble_eq_true rfl) (fun Z hC hR hI => ?_)
  change am_W Z 0 0 0 [.ref (14), .null] [] h
  refine am_aload_n hC dX6_begin_0 rfl ?_
  refine am_aload_n hC dX6_begin_1 rfl ?_
  refine am_get (v := .int (nI n)) hC (ci := 7) (N := 20) (j := 0) rfl (kM_14 hM) (by decide) tw_648 (Or.inl rfl) dX6_begin_2 (congrArg Value.int hn0) ?_
  refine am_bipush (v := nI 6) hC dX6_begin_5 (by decide) ?_
  refine am_icmp_ne (tgt := 14) hC dX6_begin_7 (by decide) (fun c_7 => ?_) (fun c_7 => ?_)
  · replace c_7 : ¬ n = 6 := fun q9 => c_7 ((nI_eq (a := n) (b := 6) (by omega) (by omega)).mpr q9)
    refine am_iconst (v := nI 0) hC dX6_begin_14 (by decide) ?_
    refine am_putI hC (ci := 7) (N := 20) (j := 19) rfl (kM_14 hM) (by decide) rfl rfl rfl tw_667 (Or.inl rfl) dX6_begin_15 ?_
    have hM : FM (am_sI h 14 19 (nI 0)) := hM
    have hn0 : hi_ (am_sI h 14 19 (nI 0)) 14 0 = nI n := hn0
    refine am_aload_n hC dX6_begin_18 rfl ?_
    refine am_get (v := .int (nI 0)) hC (ci := 7) (N := 20) (j := 19) rfl (kM_14 hM) (by decide) tw_667 (Or.inl rfl) dX6_begin_19 rfl ?_
    refine am_if_le (tgt := 27) hC dX6_begin_22 (by decide) (fun c_22 => ?_) (fun c_22 => absurd (by decide) c_22)
    refine am_iconst (v := nI 0) hC dX6_begin_27 (by decide) ?_
    refine am_istore_n hC dX6_begin_28 (by decide) ?_
    change am_W _ _ _ _ [.ref (14), .int (nI 0)] _ _
    have sl : ∀ (m s : Nat) (g : am_H), s + m = 40 → am_eq (fun q => q = 15) (am_sI h 14 19 (nI 0)) g → am_le (am_sI h 14 19 (nI 0)) g → (∀ s1, s1 < s → hi_ g 15 (40 * n + s1) = -1) → (∀ b, b < 40 * n → hi_ g 15 b = hi_ h 15 b) → am_W Z 0 0 29 [.ref (14), .int (nI s)] [] g := by
      intro m
      induction m with
      | zero =>
        intro s g hs e hle hv hu
        obtain rfl : s = 40 := by omega
        have hM := FM_eq (S := fun q => q = 15) (by decide) e hle hM
        have hn0 : hi_ g 14 0 = nI n := ((e 14 (by decide)).2.2.1 _).trans hn0
        refine am_iload_n hC dX6_begin_29 rfl ?_
        refine am_bipush (v := nI 40) hC dX6_begin_30 (by decide) ?_
        refine am_icmp_ge (tgt := 56) hC dX6_begin_32 (by decide) (fun c_32 => ?_) (fun c_32 => absurd (nI_le (by omega) (by omega)) c_32)
        refine am_aload_n hC dX6_begin_56 rfl ?_
        refine am_get (v := .ref (18)) hC (ci := 7) (N := 20) (j := 4) rfl (kM_14 hM) (by decide) tw_652 (Or.inl rfl) dX6_begin_57 (am_rfe (rM_4 hM)) ?_
        refine am_aload_n hC dX6_begin_60 rfl ?_
        refine am_get (v := .int (nI n)) hC (ci := 7) (N := 20) (j := 0) rfl (kM_14 hM) (by decide) tw_648 (Or.inl rfl) dX6_begin_61 (congrArg Value.int hn0) ?_
        refine am_iconst (v := -1) hC dX6_begin_64 (by decide) ?_
        refine am_iast hC (j := n) (N := 6) (kM_18 hM) (nM_18 hM) rfl (by omega) (by decide) dX6_begin_65 ?_
        refine am_aload_n hC dX6_begin_66 rfl ?_
        refine am_get (v := .ref (19)) hC (ci := 7) (N := 20) (j := 5) rfl (kM_14 hM) (by decide) tw_653 (Or.inl rfl) dX6_begin_67 (am_rfe (rM_5 hM)) ?_
        refine am_aload_n hC dX6_begin_70 rfl ?_
        refine am_get (v := .int (nI n)) hC (ci := 7) (N := 20) (j := 0) rfl (kM_14 hM) (by decide) tw_648 (Or.inl rfl) dX6_begin_71 (congrArg Value.int hn0) ?_
        refine am_iconst (v := -1) hC dX6_begin_74 (by decide) ?_
        refine am_iast hC (j := n) (N := 6) (kM_19 hM) (nM_19 hM) rfl (by omega) (by decide) dX6_begin_75 ?_
        refine am_aload_n hC dX6_begin_76 rfl ?_
        refine am_dup hC dX6_begin_77 rfl ?_
        refine am_get (v := .int (nI n)) hC (ci := 7) (N := 20) (j := 0) rfl (kM_14 hM) (by decide) tw_648 (Or.inl rfl) dX6_begin_78 (congrArg Value.int hn0) ?_
        refine am_iconst (v := nI 1) hC dX6_begin_81 (by decide) ?_
        refine am_iaddE (z := nI (n + 1)) hC dX6_begin_82 (nI_add (n) (1)) ?_
        refine am_putI hC (ci := 7) (N := 20) (j := 0) rfl (kM_14 hM) (by decide) rfl rfl rfl tw_648 (Or.inl rfl) dX6_begin_83 ?_
        have hn0 : hi_ (am_sI (am_sI (am_sI g 18 n (-1)) 19 n (-1)) 14 0 (nI (n + 1))) 14 0 = nI (n + 1) := by rw [hi_sI, if_pos ⟨rfl, rfl⟩]
        refine am_aload_n hC dX6_begin_86 rfl ?_
        refine am_get (v := .int (nI (n + 1))) hC (ci := 7) (N := 20) (j := 0) rfl (kM_14 hM) (by decide) tw_648 (Or.inl rfl) dX6_begin_87 (congrArg Value.int hn0) ?_
        refine am_iconst (v := nI 1) hC dX6_begin_90 (by decide) ?_
        refine am_isubE (z := nI (n + 1 - 1)) hC dX6_begin_91 (pk_sub (by omega)) ?_
        refine am_iret hC hR rfl (by decide) (by decide) dX6_begin_92 ?_
        have hK : k3 (decide (n < 6)) true true = 0 := k3_0 (decide_eq_true (by omega)) rfl rfl
        refine ⟨_, rfl, fun z => absurd hK z, fun _ => ⟨?_, ?_, hM, ?_, hn0, fun j j1 j2 => ?_, fun s hs => ?_, fun b hb => ?_, ?_, ?_, fun b hb => ⟨?_, ?_⟩⟩⟩
        · exact congrArg nI (by omega)
        · exact am_eq_tr (am_eq_tr (am_eq_tr (am_eq_tr (am_eq_sI (Or.inl rfl)) (am_eq_mono (fun q z => Or.inr (Or.inl z)) e)) (am_eq_sI (Or.inr (Or.inr (Or.inl rfl))))) (am_eq_sI (Or.inr (Or.inr (Or.inr rfl))))) (am_eq_sI (Or.inl rfl))
        · rw [hi_sI, if_neg (fun z => absurd z.2 (by decide)), hi_sI, if_neg (fun z => absurd z.1 (by decide)), hi_sI, if_neg (fun z => absurd z.1 (by decide)), (e 14 (by decide)).2.2.1, hi_sI, if_pos ⟨rfl, rfl⟩]
        · rw [hi_sI, if_neg (fun z => j1 z.2), hi_sI, if_neg (fun z => absurd z.1 (by decide)), hi_sI, if_neg (fun z => absurd z.1 (by decide)), (e 14 (by decide)).2.2.1, hi_sI, if_neg (fun z => j2 z.2)]
        · rw [hi_sI, if_neg (fun z => absurd z.1 (by decide)), hi_sI, if_neg (fun z => absurd z.1 (by decide)), hi_sI, if_neg (fun z => absurd z.1 (by decide))]; exact hv s hs
        · rw [hi_sI, if_neg (fun z => absurd z.1 (by decide)), hi_sI, if_neg (fun z => absurd z.1 (by decide)), hi_sI, if_neg (fun z => absurd z.1 (by decide))]; exact hu b hb
        · rw [hi_sI, if_neg (fun z => absurd z.1 (by decide)), hi_sI, if_neg (fun z => absurd z.1 (by decide)), hi_sI, if_pos ⟨rfl, rfl⟩]
        · rw [hi_sI, if_neg (fun z => absurd z.1 (by decide)), hi_sI, if_pos ⟨rfl, rfl⟩]
        · rw [hi_sI, if_neg (fun z => absurd z.1 (by decide)), hi_sI, if_neg (fun z => absurd z.1 (by decide)), hi_sI, if_neg (fun z => hb z.2), (e 18 (by decide)).2.2.1, hi_sI, if_neg (fun z => absurd z.1 (by decide))]
        · rw [hi_sI, if_neg (fun z => absurd z.1 (by decide)), hi_sI, if_neg (fun z => hb z.2), hi_sI, if_neg (fun z => absurd z.1 (by decide)), (e 19 (by decide)).2.2.1, hi_sI, if_neg (fun z => absurd z.1 (by decide))]
      | succ m ih =>
        intro s g hs e hle hv hu
        have hM := FM_eq (S := fun q => q = 15) (by decide) e hle hM
        have hn0 : hi_ g 14 0 = nI n := ((e 14 (by decide)).2.2.1 _).trans hn0
        refine am_iload_n hC dX6_begin_29 rfl ?_
        refine am_bipush (v := nI 40) hC dX6_begin_30 (by decide) ?_
        refine am_icmp_ge (tgt := 56) hC dX6_begin_32 (by decide) (fun c_32 => absurd c_32 (nI_ge (by omega) (by omega))) (fun c_32 => ?_)
        refine am_aload_n hC dX6_begin_35 rfl ?_
        refine am_get (v := .ref (15)) hC (ci := 7) (N := 20) (j := 1) rfl (kM_14 hM) (by decide) tw_649 (Or.inl rfl) dX6_begin_36 (am_rfe (rM_1 hM)) ?_
        refine am_bipush (v := nI 40) hC dX6_begin_39 (by decide) ?_
        refine am_aload_n hC dX6_begin_41 rfl ?_
        refine am_get (v := .int (nI n)) hC (ci := 7) (N := 20) (j := 0) rfl (kM_14 hM) (by decide) tw_648 (Or.inl rfl) dX6_begin_42 (congrArg Value.int hn0) ?_
        refine am_imulE (z := nI (40 * n)) hC dX6_begin_45 (pk_mul (40) (n)) ?_
        refine am_iload_n hC dX6_begin_46 rfl ?_
        refine am_iaddE (z := nI (40 * n + s)) hC dX6_begin_47 (nI_add (40 * n) (s)) ?_
        refine am_iconst (v := -1) hC dX6_begin_48 (by decide) ?_
        refine am_iast hC (j := 40 * n + s) (N := 240) (kM_15 hM) (nM_15 hM) rfl (by omega) (by decide) dX6_begin_49 ?_
        refine am_iinc (v := nI (s + 1)) hC dX6_begin_50 rfl (nI_1 (s)) (by decide) ?_
        change am_W _ _ _ _ [.ref (14), .int (nI (s + 1))] _ _
        refine am_goto (tgt := 29) hC dX6_begin_53 (by decide) ?_
        refine ih (s + 1) _ (by omega) (am_eq_tr e (am_eq_sI rfl)) (am_le_tr hle (am_le_sI _ _ _ _)) (fun s1 h9 => ?_) (fun b hb => ?_)
        · rw [hi_sI]
          by_cases z : s1 = s
          · rw [if_pos ⟨rfl, by rw [z]⟩]
          · rw [if_neg (fun y => z (by omega))]; exact hv s1 (by omega)
        · rw [hi_sI, if_neg (fun y => by omega)]; exact hu b hb
    exact sl 40 0 (am_sI h 14 19 (nI 0)) rfl (am_eq_rf _ _) (am_le_rf _) (fun s1 z => absurd z (Nat.not_lt_zero s1)) (fun b _ => by rw [hi_sI, if_neg (fun z => absurd z.1 (by decide))])
  · replace c_7 : n = 6 := (nI_eq (a := n) (b := 6) (by omega) (by omega)).mp c_7
    refine am_iconst (v := nI 1) hC dX6_begin_10 (by decide) ?_
    refine am_goto (tgt := 15) hC dX6_begin_11 (by decide) ?_
    refine am_putI hC (ci := 7) (N := 20) (j := 19) rfl (kM_14 hM) (by decide) rfl rfl rfl tw_667 (Or.inl rfl) dX6_begin_15 ?_
    have hM : FM (am_sI h 14 19 (nI 1)) := hM
    have hn0 : hi_ (am_sI h 14 19 (nI 1)) 14 0 = nI n := hn0
    refine am_aload_n hC dX6_begin_18 rfl ?_
    refine am_get (v := .int (nI 1)) hC (ci := 7) (N := 20) (j := 19) rfl (kM_14 hM) (by decide) tw_667 (Or.inl rfl) dX6_begin_19 rfl ?_
    refine am_if_le (tgt := 27) hC dX6_begin_22 (by decide) (fun c_22 => absurd c_22 (by decide)) (fun c_22 => ?_)
    refine am_iconst (v := nI 0) hC dX6_begin_25 (by decide) ?_
    refine am_iret hC hR rfl (by decide) (by decide) dX6_begin_26 ?_
    exact ⟨_, rfl, rfz (k3_1 (decide_eq_false (by omega))) (by decide) rfl⟩
