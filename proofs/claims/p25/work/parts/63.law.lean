/-! ===== the law, up to its drawn part ===== -/
set_option maxRecDepth 100000 in
set_option maxHeartbeats 4000000 in
theorem law_c9 {Z : am_Z} {L : Nat} {xs : Nat → Int32} (hC : am_OK Z "HousePlansLaw" cL_law 5 20 618172 7247108) (hX : SCR Z L xs) (hL : L ≤ 260) (hfin : ∀ (kc ks : Nat) (ls : List Value) (h : am_H), kc ≤ 618172 → ks ≤ 7247108 → am_W Z kc ks 308 ls [.int (nI 1)] h) (h : am_H) (hS : SZ h qs_141) : am_W Z 16226 275314 116 [.ref (41), .ref (3), .int (nI 27), .null, .null] [] h := by
  refine am_iload_n hC dL_law_116 rfl ?_
  refine am_bipush (v := nI 30) hC dL_law_117 (by decide) ?_
  refine am_icmp_ge (tgt := 144) hC dL_law_119 (by decide) (fun c_119 => absurd c_119 (by decide)) (fun c_119 => ?_)
  refine am_aload_n hC dL_law_122 rfl ?_
  refine am_iload_n hC dL_law_123 rfl ?_
  refine am_callV hC (ci := 6) (N := 4) [.int (nI 27)] rfl (SZ_3 hS) rfl mf_X5_permitOf tw_426 (d_permitOf _ _ (am_tr hC) h hS _) rfl ⟨rfl, Nat.le_of_ble_eq_true rfl⟩ ⟨by decide, by decide⟩ (by decide) (by decide) dL_law_124 rfl (fun _ _ q _ => (XN_0 q.2 (by decide +kernel)).elim) (fun v h hp hlc => ?_)
  obtain ⟨rfl, hS⟩ := z_go (x' := nI 19) (σ' := qs_141) (by decide +kernel) rfl hp
  refine am_iload_n hC dL_law_127 rfl ?_
  refine am_bipush (v := nI 20) hC dL_law_128 (by decide) ?_
  refine am_icmp_ge (tgt := 137) hC dL_law_130 (by decide) (fun c_130 => ?_) (fun c_130 => absurd (by decide) c_130)
  refine am_bipush (v := nI 19) hC dL_law_137 (by decide) ?_
  refine am_icmp_eq (tgt := 144) hC dL_law_139 (by decide) (fun c_139 => ?_) (fun c_139 => absurd (by decide) c_139)
  refine am_iinc (v := nI 28) hC dL_law_144 rfl (by decide) (by decide) ?_
  change am_W _ _ _ _ [.ref (41), .ref (3), .int (nI 28), .null, .null] _ _
  refine am_goto (tgt := 60) hC dL_law_147 (by decide) ?_
  refine am_iload_n hC dL_law_60 rfl ?_
  refine am_bipush (v := nI 31) hC dL_law_61 (by decide) ?_
  refine am_icmp_ge (tgt := 150) hC dL_law_63 (by decide) (fun c_63 => absurd c_63 (by decide)) (fun c_63 => ?_)
  refine am_aload_n hC dL_law_66 rfl ?_
  refine am_bipush (v := nI 13) hC dL_law_67 (by decide) ?_
  refine am_iconst (v := nI 0) hC dL_law_69 (by decide) ?_
  refine am_iconst (v := nI 0) hC dL_law_70 (by decide) ?_
  refine am_iconst (v := nI 0) hC dL_law_71 (by decide) ?_
  refine am_iconst (v := nI 0) hC dL_law_72 (by decide) ?_
  refine am_callSX hC [.ref (3), .int (nI 13), .int (nI 0), .int (nI 0), .int (nI 0), .int (nI 0)] mf_L_act tw_447 (c_act13 _ _ (am_tr hC) h hS _ _ _ _ true (fun _ => by rw [dn_nI (by decide)]; exact z_VWo qv_51 (by decide +kernel))) rfl ⟨rfl, Nat.le_of_ble_eq_true rfl⟩ ⟨by decide, by decide⟩ (by decide) (by decide) dL_law_73 rfl (fun _ _ q _ => False.elim q) (fun v h hp hlc => ?_)
  obtain ⟨rfl, hS⟩ := z_goa (x' := (-73)) (σ' := qs_141) (by decide +kernel) (z_sx (by decide +kernel)) hp
  refine am_iload_n hC dL_law_76 rfl ?_
  refine am_bipush (v := nI 20) hC dL_law_77 (by decide) ?_
  refine am_icmp_ge (tgt := 86) hC dL_law_79 (by decide) (fun c_79 => ?_) (fun c_79 => absurd (by decide) c_79)
  refine am_bipush (v := -73) hC dL_law_86 (by decide) ?_
  refine am_icmp_ne (tgt := 142) hC dL_law_88 (by decide) (fun c_88 => absurd (by decide) c_88) (fun c_88 => ?_)
  refine am_aload_n hC dL_law_91 rfl ?_
  refine am_bipush (v := nI 15) hC dL_law_92 (by decide) ?_
  refine am_iconst (v := nI 0) hC dL_law_94 (by decide) ?_
  refine am_iconst (v := nI 0) hC dL_law_95 (by decide) ?_
  refine am_iconst (v := nI 0) hC dL_law_96 (by decide) ?_
  refine am_iconst (v := nI 0) hC dL_law_97 (by decide) ?_
  refine am_callSX hC [.ref (3), .int (nI 15), .int (nI 0), .int (nI 0), .int (nI 0), .int (nI 0)] mf_L_act tw_447 (c_act15 _ _ (am_tr hC) h hS _ _ _ _) rfl ⟨rfl, Nat.le_of_ble_eq_true rfl⟩ ⟨by decide, by decide⟩ (by decide) (by decide) dL_law_98 rfl (fun _ _ q _ => False.elim q) (fun v h hp hlc => ?_)
  obtain ⟨rfl, hS⟩ := z_goa (x' := nI 28) (σ' := qs_142) (by decide +kernel) (z_sx (by decide +kernel)) hp
  refine am_iload_n hC dL_law_101 rfl ?_
  refine am_bipush (v := nI 30) hC dL_law_102 (by decide) ?_
  refine am_icmp_ge (tgt := 111) hC dL_law_104 (by decide) (fun c_104 => absurd c_104 (by decide)) (fun c_104 => ?_)
  refine am_iload_n hC dL_law_107 rfl ?_
  refine am_goto (tgt := 113) hC dL_law_108 (by decide) ?_
  refine am_icmp_ne (tgt := 142) hC dL_law_113 (by decide) (fun c_113 => absurd (by decide) c_113) (fun c_113 => ?_)
  refine am_iload_n hC dL_law_116 rfl ?_
  refine am_bipush (v := nI 30) hC dL_law_117 (by decide) ?_
  refine am_icmp_ge (tgt := 144) hC dL_law_119 (by decide) (fun c_119 => absurd c_119 (by decide)) (fun c_119 => ?_)
  refine am_aload_n hC dL_law_122 rfl ?_
  refine am_iload_n hC dL_law_123 rfl ?_
  refine am_callV hC (ci := 6) (N := 4) [.int (nI 28)] rfl (SZ_3 hS) rfl mf_X5_permitOf tw_426 (d_permitOf _ _ (am_tr hC) h hS _) rfl ⟨rfl, Nat.le_of_ble_eq_true rfl⟩ ⟨by decide, by decide⟩ (by decide) (by decide) dL_law_124 rfl (fun _ _ q _ => (XN_0 q.2 (by decide +kernel)).elim) (fun v h hp hlc => ?_)
  obtain ⟨rfl, hS⟩ := z_go (x' := nI 19) (σ' := qs_142) (by decide +kernel) rfl hp
  refine am_iload_n hC dL_law_127 rfl ?_
  refine am_bipush (v := nI 20) hC dL_law_128 (by decide) ?_
  refine am_icmp_ge (tgt := 137) hC dL_law_130 (by decide) (fun c_130 => ?_) (fun c_130 => absurd (by decide) c_130)
  refine am_bipush (v := nI 19) hC dL_law_137 (by decide) ?_
  refine am_icmp_eq (tgt := 144) hC dL_law_139 (by decide) (fun c_139 => ?_) (fun c_139 => absurd (by decide) c_139)
  refine am_iinc (v := nI 29) hC dL_law_144 rfl (by decide) (by decide) ?_
  change am_W _ _ _ _ [.ref (41), .ref (3), .int (nI 29), .null, .null] _ _
  refine am_goto (tgt := 60) hC dL_law_147 (by decide) ?_
  refine am_iload_n hC dL_law_60 rfl ?_
  refine am_bipush (v := nI 31) hC dL_law_61 (by decide) ?_
  refine am_icmp_ge (tgt := 150) hC dL_law_63 (by decide) (fun c_63 => absurd c_63 (by decide)) (fun c_63 => ?_)
  refine am_aload_n hC dL_law_66 rfl ?_
  refine am_bipush (v := nI 13) hC dL_law_67 (by decide) ?_
  refine am_iconst (v := nI 0) hC dL_law_69 (by decide) ?_
  refine am_iconst (v := nI 0) hC dL_law_70 (by decide) ?_
  refine am_iconst (v := nI 0) hC dL_law_71 (by decide) ?_
  refine am_iconst (v := nI 0) hC dL_law_72 (by decide) ?_
  refine am_callSX hC [.ref (3), .int (nI 13), .int (nI 0), .int (nI 0), .int (nI 0), .int (nI 0)] mf_L_act tw_447 (c_act13 _ _ (am_tr hC) h hS _ _ _ _ true (fun _ => by rw [dn_nI (by decide)]; exact z_VWo qv_52 (by decide +kernel))) rfl ⟨rfl, Nat.le_of_ble_eq_true rfl⟩ ⟨by decide, by decide⟩ (by decide) (by decide) dL_law_73 rfl (fun _ _ q _ => False.elim q) (fun v h hp hlc => ?_)
  obtain ⟨rfl, hS⟩ := z_goa (x' := (-73)) (σ' := qs_142) (by decide +kernel) (z_sx (by decide +kernel)) hp
  refine am_iload_n hC dL_law_76 rfl ?_
  refine am_bipush (v := nI 20) hC dL_law_77 (by decide) ?_
  refine am_icmp_ge (tgt := 86) hC dL_law_79 (by decide) (fun c_79 => ?_) (fun c_79 => absurd (by decide) c_79)
  refine am_bipush (v := -73) hC dL_law_86 (by decide) ?_
  refine am_icmp_ne (tgt := 142) hC dL_law_88 (by decide) (fun c_88 => absurd (by decide) c_88) (fun c_88 => ?_)
  refine am_aload_n hC dL_law_91 rfl ?_
  refine am_bipush (v := nI 15) hC dL_law_92 (by decide) ?_
  refine am_iconst (v := nI 0) hC dL_law_94 (by decide) ?_
  refine am_iconst (v := nI 0) hC dL_law_95 (by decide) ?_
  refine am_iconst (v := nI 0) hC dL_law_96 (by decide) ?_
  refine am_iconst (v := nI 0) hC dL_law_97 (by decide) ?_
  refine am_callSX hC [.ref (3), .int (nI 15), .int (nI 0), .int (nI 0), .int (nI 0), .int (nI 0)] mf_L_act tw_447 (c_act15 _ _ (am_tr hC) h hS _ _ _ _) rfl ⟨rfl, Nat.le_of_ble_eq_true rfl⟩ ⟨by decide, by decide⟩ (by decide) (by decide) dL_law_98 rfl (fun _ _ q _ => False.elim q) (fun v h hp hlc => ?_)
  obtain ⟨rfl, hS⟩ := z_goa (x' := nI 29) (σ' := qs_143) (by decide +kernel) (z_sx (by decide +kernel)) hp
  refine am_iload_n hC dL_law_101 rfl ?_
  refine am_bipush (v := nI 30) hC dL_law_102 (by decide) ?_
  refine am_icmp_ge (tgt := 111) hC dL_law_104 (by decide) (fun c_104 => absurd c_104 (by decide)) (fun c_104 => ?_)
  refine am_iload_n hC dL_law_107 rfl ?_
  refine am_goto (tgt := 113) hC dL_law_108 (by decide) ?_
  refine am_icmp_ne (tgt := 142) hC dL_law_113 (by decide) (fun c_113 => absurd (by decide) c_113) (fun c_113 => ?_)
  refine am_iload_n hC dL_law_116 rfl ?_
  refine am_bipush (v := nI 30) hC dL_law_117 (by decide) ?_
  refine am_icmp_ge (tgt := 144) hC dL_law_119 (by decide) (fun c_119 => absurd c_119 (by decide)) (fun c_119 => ?_)
  refine am_aload_n hC dL_law_122 rfl ?_
  refine am_iload_n hC dL_law_123 rfl ?_
  refine am_callV hC (ci := 6) (N := 4) [.int (nI 29)] rfl (SZ_3 hS) rfl mf_X5_permitOf tw_426 (d_permitOf _ _ (am_tr hC) h hS _) rfl ⟨rfl, Nat.le_of_ble_eq_true rfl⟩ ⟨by decide, by decide⟩ (by decide) (by decide) dL_law_124 rfl (fun _ _ q _ => (XN_0 q.2 (by decide +kernel)).elim) (fun v h hp hlc => ?_)
  obtain ⟨rfl, hS⟩ := z_go (x' := nI 19) (σ' := qs_143) (by decide +kernel) rfl hp
  refine am_iload_n hC dL_law_127 rfl ?_
  refine am_bipush (v := nI 20) hC dL_law_128 (by decide) ?_
  refine am_icmp_ge (tgt := 137) hC dL_law_130 (by decide) (fun c_130 => ?_) (fun c_130 => absurd (by decide) c_130)
  refine am_bipush (v := nI 19) hC dL_law_137 (by decide) ?_
  refine am_icmp_eq (tgt := 144) hC dL_law_139 (by decide) (fun c_139 => ?_) (fun c_139 => absurd (by decide) c_139)
  refine am_iinc (v := nI 30) hC dL_law_144 rfl (by decide) (by decide) ?_
  change am_W _ _ _ _ [.ref (41), .ref (3), .int (nI 30), .null, .null] _ _
  refine am_goto (tgt := 60) hC dL_law_147 (by decide) ?_
  refine am_iload_n hC dL_law_60 rfl ?_
  refine am_bipush (v := nI 31) hC dL_law_61 (by decide) ?_
  refine am_icmp_ge (tgt := 150) hC dL_law_63 (by decide) (fun c_63 => absurd c_63 (by decide)) (fun c_63 => ?_)
  refine am_aload_n hC dL_law_66 rfl ?_
  refine am_bipush (v := nI 13) hC dL_law_67 (by decide) ?_
  refine am_iconst (v := nI 0) hC dL_law_69 (by decide) ?_
  refine am_iconst (v := nI 0) hC dL_law_70 (by decide) ?_
  refine am_iconst (v := nI 0) hC dL_law_71 (by decide) ?_
  refine am_iconst (v := nI 0) hC dL_law_72 (by decide) ?_
  refine am_callSX hC [.ref (3), .int (nI 13), .int (nI 0), .int (nI 0), .int (nI 0), .int (nI 0)] mf_L_act tw_447 (c_act13 _ _ (am_tr hC) h hS _ _ _ _ true (fun _ => by rw [dn_nI (by decide)]; exact z_VWo qv_53 (by decide +kernel))) rfl ⟨rfl, Nat.le_of_ble_eq_true rfl⟩ ⟨by decide, by decide⟩ (by decide) (by decide) dL_law_73 rfl (fun _ _ q _ => False.elim q) (fun v h hp hlc => ?_)
  obtain ⟨rfl, hS⟩ := z_goa (x' := (-73)) (σ' := qs_143) (by decide +kernel) (z_sx (by decide +kernel)) hp
  refine am_iload_n hC dL_law_76 rfl ?_
  refine am_bipush (v := nI 20) hC dL_law_77 (by decide) ?_
  refine am_icmp_ge (tgt := 86) hC dL_law_79 (by decide) (fun c_79 => ?_) (fun c_79 => absurd (by decide) c_79)
  refine am_bipush (v := -73) hC dL_law_86 (by decide) ?_
  refine am_icmp_ne (tgt := 142) hC dL_law_88 (by decide) (fun c_88 => absurd (by decide) c_88) (fun c_88 => ?_)
  refine am_aload_n hC dL_law_91 rfl ?_
  refine am_bipush (v := nI 15) hC dL_law_92 (by decide) ?_
  refine am_iconst (v := nI 0) hC dL_law_94 (by decide) ?_
  refine am_iconst (v := nI 0) hC dL_law_95 (by decide) ?_
  refine am_iconst (v := nI 0) hC dL_law_96 (by decide) ?_
  refine am_iconst (v := nI 0) hC dL_law_97 (by decide) ?_
  refine am_callSX hC [.ref (3), .int (nI 15), .int (nI 0), .int (nI 0), .int (nI 0), .int (nI 0)] mf_L_act tw_447 (c_act15 _ _ (am_tr hC) h hS _ _ _ _) rfl ⟨rfl, Nat.le_of_ble_eq_true rfl⟩ ⟨by decide, by decide⟩ (by decide) (by decide) dL_law_98 rfl (fun _ _ q _ => False.elim q) (fun v h hp hlc => ?_)
  obtain ⟨rfl, hS⟩ := z_goa (x' := (-73)) (σ' := qs_143) (by decide +kernel) (z_sx (by decide +kernel)) hp
  refine am_iload_n hC dL_law_101 rfl ?_
  refine am_bipush (v := nI 30) hC dL_law_102 (by decide) ?_
  refine am_icmp_ge (tgt := 111) hC dL_law_104 (by decide) (fun c_104 => ?_) (fun c_104 => absurd (by decide) c_104)
  refine am_bipush (v := -73) hC dL_law_111 (by decide) ?_
  refine am_icmp_ne (tgt := 142) hC dL_law_113 (by decide) (fun c_113 => absurd (by decide) c_113) (fun c_113 => ?_)
  refine am_iload_n hC dL_law_116 rfl ?_
  refine am_bipush (v := nI 30) hC dL_law_117 (by decide) ?_
  refine am_icmp_ge (tgt := 144) hC dL_law_119 (by decide) (fun c_119 => ?_) (fun c_119 => absurd (by decide) c_119)
  refine am_iinc (v := nI 31) hC dL_law_144 rfl (by decide) (by decide) ?_
  change am_W _ _ _ _ [.ref (41), .ref (3), .int (nI 31), .null, .null] _ _
  refine am_goto (tgt := 60) hC dL_law_147 (by decide) ?_
  refine am_iload_n hC dL_law_60 rfl ?_
  refine am_bipush (v := nI 31) hC dL_law_61 (by decide) ?_
  refine am_icmp_ge (tgt := 150) hC dL_law_63 (by decide) (fun c_63 => ?_) (fun c_63 => absurd (by decide) c_63)
  refine am_iconst (v := nI 0) hC dL_law_150 (by decide) ?_
  refine am_istore_n hC dL_law_151 (by decide) ?_
  change am_W _ _ _ _ [.ref (41), .ref (3), .int (nI 0), .null, .null] _ _
  exact law_l2 hC hX hL hfin 30 0 _ _ h qs_143 rfl (by decide) (by decide) hS z_J1
set_option maxRecDepth 100000 in
set_option maxHeartbeats 4000000 in
theorem law_c8 {Z : am_Z} {L : Nat} {xs : Nat → Int32} (hC : am_OK Z "HousePlansLaw" cL_law 5 20 618172 7247108) (hX : SCR Z L xs) (hL : L ≤ 260) (hfin : ∀ (kc ks : Nat) (ls : List Value) (h : am_H), kc ≤ 618172 → ks ≤ 7247108 → am_W Z kc ks 308 ls [.int (nI 1)] h) (h : am_H) (hS : SZ h qs_137) : am_W Z 16132 273840 91 [.ref (41), .ref (3), .int (nI 24), .null, .null] [] h := by
  refine am_aload_n hC dL_law_91 rfl ?_
  refine am_bipush (v := nI 15) hC dL_law_92 (by decide) ?_
  refine am_iconst (v := nI 0) hC dL_law_94 (by decide) ?_
  refine am_iconst (v := nI 0) hC dL_law_95 (by decide) ?_
  refine am_iconst (v := nI 0) hC dL_law_96 (by decide) ?_
  refine am_iconst (v := nI 0) hC dL_law_97 (by decide) ?_
  refine am_callSX hC [.ref (3), .int (nI 15), .int (nI 0), .int (nI 0), .int (nI 0), .int (nI 0)] mf_L_act tw_447 (c_act15 _ _ (am_tr hC) h hS _ _ _ _) rfl ⟨rfl, Nat.le_of_ble_eq_true rfl⟩ ⟨by decide, by decide⟩ (by decide) (by decide) dL_law_98 rfl (fun _ _ q _ => False.elim q) (fun v h hp hlc => ?_)
  obtain ⟨rfl, hS⟩ := z_goa (x' := nI 24) (σ' := qs_138) (by decide +kernel) (z_sx (by decide +kernel)) hp
  refine am_iload_n hC dL_law_101 rfl ?_
  refine am_bipush (v := nI 30) hC dL_law_102 (by decide) ?_
  refine am_icmp_ge (tgt := 111) hC dL_law_104 (by decide) (fun c_104 => absurd c_104 (by decide)) (fun c_104 => ?_)
  refine am_iload_n hC dL_law_107 rfl ?_
  refine am_goto (tgt := 113) hC dL_law_108 (by decide) ?_
  refine am_icmp_ne (tgt := 142) hC dL_law_113 (by decide) (fun c_113 => absurd (by decide) c_113) (fun c_113 => ?_)
  refine am_iload_n hC dL_law_116 rfl ?_
  refine am_bipush (v := nI 30) hC dL_law_117 (by decide) ?_
  refine am_icmp_ge (tgt := 144) hC dL_law_119 (by decide) (fun c_119 => absurd c_119 (by decide)) (fun c_119 => ?_)
  refine am_aload_n hC dL_law_122 rfl ?_
  refine am_iload_n hC dL_law_123 rfl ?_
  refine am_callV hC (ci := 6) (N := 4) [.int (nI 24)] rfl (SZ_3 hS) rfl mf_X5_permitOf tw_426 (d_permitOf _ _ (am_tr hC) h hS _) rfl ⟨rfl, Nat.le_of_ble_eq_true rfl⟩ ⟨by decide, by decide⟩ (by decide) (by decide) dL_law_124 rfl (fun _ _ q _ => (XN_0 q.2 (by decide +kernel)).elim) (fun v h hp hlc => ?_)
  obtain ⟨rfl, hS⟩ := z_go (x' := nI 19) (σ' := qs_138) (by decide +kernel) rfl hp
  refine am_iload_n hC dL_law_127 rfl ?_
  refine am_bipush (v := nI 20) hC dL_law_128 (by decide) ?_
  refine am_icmp_ge (tgt := 137) hC dL_law_130 (by decide) (fun c_130 => ?_) (fun c_130 => absurd (by decide) c_130)
  refine am_bipush (v := nI 19) hC dL_law_137 (by decide) ?_
  refine am_icmp_eq (tgt := 144) hC dL_law_139 (by decide) (fun c_139 => ?_) (fun c_139 => absurd (by decide) c_139)
  refine am_iinc (v := nI 25) hC dL_law_144 rfl (by decide) (by decide) ?_
  change am_W _ _ _ _ [.ref (41), .ref (3), .int (nI 25), .null, .null] _ _
  refine am_goto (tgt := 60) hC dL_law_147 (by decide) ?_
  refine am_iload_n hC dL_law_60 rfl ?_
  refine am_bipush (v := nI 31) hC dL_law_61 (by decide) ?_
  refine am_icmp_ge (tgt := 150) hC dL_law_63 (by decide) (fun c_63 => absurd c_63 (by decide)) (fun c_63 => ?_)
  refine am_aload_n hC dL_law_66 rfl ?_
  refine am_bipush (v := nI 13) hC dL_law_67 (by decide) ?_
  refine am_iconst (v := nI 0) hC dL_law_69 (by decide) ?_
  refine am_iconst (v := nI 0) hC dL_law_70 (by decide) ?_
  refine am_iconst (v := nI 0) hC dL_law_71 (by decide) ?_
  refine am_iconst (v := nI 0) hC dL_law_72 (by decide) ?_
  refine am_callSX hC [.ref (3), .int (nI 13), .int (nI 0), .int (nI 0), .int (nI 0), .int (nI 0)] mf_L_act tw_447 (c_act13 _ _ (am_tr hC) h hS _ _ _ _ true (fun _ => by rw [dn_nI (by decide)]; exact z_VWo qv_48 (by decide +kernel))) rfl ⟨rfl, Nat.le_of_ble_eq_true rfl⟩ ⟨by decide, by decide⟩ (by decide) (by decide) dL_law_73 rfl (fun _ _ q _ => False.elim q) (fun v h hp hlc => ?_)
  obtain ⟨rfl, hS⟩ := z_goa (x' := (-73)) (σ' := qs_138) (by decide +kernel) (z_sx (by decide +kernel)) hp
  refine am_iload_n hC dL_law_76 rfl ?_
  refine am_bipush (v := nI 20) hC dL_law_77 (by decide) ?_
  refine am_icmp_ge (tgt := 86) hC dL_law_79 (by decide) (fun c_79 => ?_) (fun c_79 => absurd (by decide) c_79)
  refine am_bipush (v := -73) hC dL_law_86 (by decide) ?_
  refine am_icmp_ne (tgt := 142) hC dL_law_88 (by decide) (fun c_88 => absurd (by decide) c_88) (fun c_88 => ?_)
  refine am_aload_n hC dL_law_91 rfl ?_
  refine am_bipush (v := nI 15) hC dL_law_92 (by decide) ?_
  refine am_iconst (v := nI 0) hC dL_law_94 (by decide) ?_
  refine am_iconst (v := nI 0) hC dL_law_95 (by decide) ?_
  refine am_iconst (v := nI 0) hC dL_law_96 (by decide) ?_
  refine am_iconst (v := nI 0) hC dL_law_97 (by decide) ?_
  refine am_callSX hC [.ref (3), .int (nI 15), .int (nI 0), .int (nI 0), .int (nI 0), .int (nI 0)] mf_L_act tw_447 (c_act15 _ _ (am_tr hC) h hS _ _ _ _) rfl ⟨rfl, Nat.le_of_ble_eq_true rfl⟩ ⟨by decide, by decide⟩ (by decide) (by decide) dL_law_98 rfl (fun _ _ q _ => False.elim q) (fun v h hp hlc => ?_)
  obtain ⟨rfl, hS⟩ := z_goa (x' := nI 25) (σ' := qs_139) (by decide +kernel) (z_sx (by decide +kernel)) hp
  refine am_iload_n hC dL_law_101 rfl ?_
  refine am_bipush (v := nI 30) hC dL_law_102 (by decide) ?_
  refine am_icmp_ge (tgt := 111) hC dL_law_104 (by decide) (fun c_104 => absurd c_104 (by decide)) (fun c_104 => ?_)
  refine am_iload_n hC dL_law_107 rfl ?_
  refine am_goto (tgt := 113) hC dL_law_108 (by decide) ?_
  refine am_icmp_ne (tgt := 142) hC dL_law_113 (by decide) (fun c_113 => absurd (by decide) c_113) (fun c_113 => ?_)
  refine am_iload_n hC dL_law_116 rfl ?_
  refine am_bipush (v := nI 30) hC dL_law_117 (by decide) ?_
  refine am_icmp_ge (tgt := 144) hC dL_law_119 (by decide) (fun c_119 => absurd c_119 (by decide)) (fun c_119 => ?_)
  refine am_aload_n hC dL_law_122 rfl ?_
  refine am_iload_n hC dL_law_123 rfl ?_
  refine am_callV hC (ci := 6) (N := 4) [.int (nI 25)] rfl (SZ_3 hS) rfl mf_X5_permitOf tw_426 (d_permitOf _ _ (am_tr hC) h hS _) rfl ⟨rfl, Nat.le_of_ble_eq_true rfl⟩ ⟨by decide, by decide⟩ (by decide) (by decide) dL_law_124 rfl (fun _ _ q _ => (XN_0 q.2 (by decide +kernel)).elim) (fun v h hp hlc => ?_)
  obtain ⟨rfl, hS⟩ := z_go (x' := nI 19) (σ' := qs_139) (by decide +kernel) rfl hp
  refine am_iload_n hC dL_law_127 rfl ?_
  refine am_bipush (v := nI 20) hC dL_law_128 (by decide) ?_
  refine am_icmp_ge (tgt := 137) hC dL_law_130 (by decide) (fun c_130 => ?_) (fun c_130 => absurd (by decide) c_130)
  refine am_bipush (v := nI 19) hC dL_law_137 (by decide) ?_
  refine am_icmp_eq (tgt := 144) hC dL_law_139 (by decide) (fun c_139 => ?_) (fun c_139 => absurd (by decide) c_139)
  refine am_iinc (v := nI 26) hC dL_law_144 rfl (by decide) (by decide) ?_
  change am_W _ _ _ _ [.ref (41), .ref (3), .int (nI 26), .null, .null] _ _
  refine am_goto (tgt := 60) hC dL_law_147 (by decide) ?_
  refine am_iload_n hC dL_law_60 rfl ?_
  refine am_bipush (v := nI 31) hC dL_law_61 (by decide) ?_
  refine am_icmp_ge (tgt := 150) hC dL_law_63 (by decide) (fun c_63 => absurd c_63 (by decide)) (fun c_63 => ?_)
  refine am_aload_n hC dL_law_66 rfl ?_
  refine am_bipush (v := nI 13) hC dL_law_67 (by decide) ?_
  refine am_iconst (v := nI 0) hC dL_law_69 (by decide) ?_
  refine am_iconst (v := nI 0) hC dL_law_70 (by decide) ?_
  refine am_iconst (v := nI 0) hC dL_law_71 (by decide) ?_
  refine am_iconst (v := nI 0) hC dL_law_72 (by decide) ?_
  refine am_callSX hC [.ref (3), .int (nI 13), .int (nI 0), .int (nI 0), .int (nI 0), .int (nI 0)] mf_L_act tw_447 (c_act13 _ _ (am_tr hC) h hS _ _ _ _ true (fun _ => by rw [dn_nI (by decide)]; exact z_VWo qv_49 (by decide +kernel))) rfl ⟨rfl, Nat.le_of_ble_eq_true rfl⟩ ⟨by decide, by decide⟩ (by decide) (by decide) dL_law_73 rfl (fun _ _ q _ => False.elim q) (fun v h hp hlc => ?_)
  obtain ⟨rfl, hS⟩ := z_goa (x' := (-73)) (σ' := qs_139) (by decide +kernel) (z_sx (by decide +kernel)) hp
  refine am_iload_n hC dL_law_76 rfl ?_
  refine am_bipush (v := nI 20) hC dL_law_77 (by decide) ?_
  refine am_icmp_ge (tgt := 86) hC dL_law_79 (by decide) (fun c_79 => ?_) (fun c_79 => absurd (by decide) c_79)
  refine am_bipush (v := -73) hC dL_law_86 (by decide) ?_
  refine am_icmp_ne (tgt := 142) hC dL_law_88 (by decide) (fun c_88 => absurd (by decide) c_88) (fun c_88 => ?_)
  refine am_aload_n hC dL_law_91 rfl ?_
  refine am_bipush (v := nI 15) hC dL_law_92 (by decide) ?_
  refine am_iconst (v := nI 0) hC dL_law_94 (by decide) ?_
  refine am_iconst (v := nI 0) hC dL_law_95 (by decide) ?_
  refine am_iconst (v := nI 0) hC dL_law_96 (by decide) ?_
  refine am_iconst (v := nI 0) hC dL_law_97 (by decide) ?_
  refine am_callSX hC [.ref (3), .int (nI 15), .int (nI 0), .int (nI 0), .int (nI 0), .int (nI 0)] mf_L_act tw_447 (c_act15 _ _ (am_tr hC) h hS _ _ _ _) rfl ⟨rfl, Nat.le_of_ble_eq_true rfl⟩ ⟨by decide, by decide⟩ (by decide) (by decide) dL_law_98 rfl (fun _ _ q _ => False.elim q) (fun v h hp hlc => ?_)
  obtain ⟨rfl, hS⟩ := z_goa (x' := nI 26) (σ' := qs_140) (by decide +kernel) (z_sx (by decide +kernel)) hp
  refine am_iload_n hC dL_law_101 rfl ?_
  refine am_bipush (v := nI 30) hC dL_law_102 (by decide) ?_
  refine am_icmp_ge (tgt := 111) hC dL_law_104 (by decide) (fun c_104 => absurd c_104 (by decide)) (fun c_104 => ?_)
  refine am_iload_n hC dL_law_107 rfl ?_
  refine am_goto (tgt := 113) hC dL_law_108 (by decide) ?_
  refine am_icmp_ne (tgt := 142) hC dL_law_113 (by decide) (fun c_113 => absurd (by decide) c_113) (fun c_113 => ?_)
  refine am_iload_n hC dL_law_116 rfl ?_
  refine am_bipush (v := nI 30) hC dL_law_117 (by decide) ?_
  refine am_icmp_ge (tgt := 144) hC dL_law_119 (by decide) (fun c_119 => absurd c_119 (by decide)) (fun c_119 => ?_)
  refine am_aload_n hC dL_law_122 rfl ?_
  refine am_iload_n hC dL_law_123 rfl ?_
  refine am_callV hC (ci := 6) (N := 4) [.int (nI 26)] rfl (SZ_3 hS) rfl mf_X5_permitOf tw_426 (d_permitOf _ _ (am_tr hC) h hS _) rfl ⟨rfl, Nat.le_of_ble_eq_true rfl⟩ ⟨by decide, by decide⟩ (by decide) (by decide) dL_law_124 rfl (fun _ _ q _ => (XN_0 q.2 (by decide +kernel)).elim) (fun v h hp hlc => ?_)
  obtain ⟨rfl, hS⟩ := z_go (x' := nI 19) (σ' := qs_140) (by decide +kernel) rfl hp
  refine am_iload_n hC dL_law_127 rfl ?_
  refine am_bipush (v := nI 20) hC dL_law_128 (by decide) ?_
  refine am_icmp_ge (tgt := 137) hC dL_law_130 (by decide) (fun c_130 => ?_) (fun c_130 => absurd (by decide) c_130)
  refine am_bipush (v := nI 19) hC dL_law_137 (by decide) ?_
  refine am_icmp_eq (tgt := 144) hC dL_law_139 (by decide) (fun c_139 => ?_) (fun c_139 => absurd (by decide) c_139)
  refine am_iinc (v := nI 27) hC dL_law_144 rfl (by decide) (by decide) ?_
  change am_W _ _ _ _ [.ref (41), .ref (3), .int (nI 27), .null, .null] _ _
  refine am_goto (tgt := 60) hC dL_law_147 (by decide) ?_
  refine am_iload_n hC dL_law_60 rfl ?_
  refine am_bipush (v := nI 31) hC dL_law_61 (by decide) ?_
  refine am_icmp_ge (tgt := 150) hC dL_law_63 (by decide) (fun c_63 => absurd c_63 (by decide)) (fun c_63 => ?_)
  refine am_aload_n hC dL_law_66 rfl ?_
  refine am_bipush (v := nI 13) hC dL_law_67 (by decide) ?_
  refine am_iconst (v := nI 0) hC dL_law_69 (by decide) ?_
  refine am_iconst (v := nI 0) hC dL_law_70 (by decide) ?_
  refine am_iconst (v := nI 0) hC dL_law_71 (by decide) ?_
  refine am_iconst (v := nI 0) hC dL_law_72 (by decide) ?_
  refine am_callSX hC [.ref (3), .int (nI 13), .int (nI 0), .int (nI 0), .int (nI 0), .int (nI 0)] mf_L_act tw_447 (c_act13 _ _ (am_tr hC) h hS _ _ _ _ true (fun _ => by rw [dn_nI (by decide)]; exact z_VWo qv_50 (by decide +kernel))) rfl ⟨rfl, Nat.le_of_ble_eq_true rfl⟩ ⟨by decide, by decide⟩ (by decide) (by decide) dL_law_73 rfl (fun _ _ q _ => False.elim q) (fun v h hp hlc => ?_)
  obtain ⟨rfl, hS⟩ := z_goa (x' := (-73)) (σ' := qs_140) (by decide +kernel) (z_sx (by decide +kernel)) hp
  refine am_iload_n hC dL_law_76 rfl ?_
  refine am_bipush (v := nI 20) hC dL_law_77 (by decide) ?_
  refine am_icmp_ge (tgt := 86) hC dL_law_79 (by decide) (fun c_79 => ?_) (fun c_79 => absurd (by decide) c_79)
  refine am_bipush (v := -73) hC dL_law_86 (by decide) ?_
  refine am_icmp_ne (tgt := 142) hC dL_law_88 (by decide) (fun c_88 => absurd (by decide) c_88) (fun c_88 => ?_)
  refine am_aload_n hC dL_law_91 rfl ?_
  refine am_bipush (v := nI 15) hC dL_law_92 (by decide) ?_
  refine am_iconst (v := nI 0) hC dL_law_94 (by decide) ?_
  refine am_iconst (v := nI 0) hC dL_law_95 (by decide) ?_
  refine am_iconst (v := nI 0) hC dL_law_96 (by decide) ?_
  refine am_iconst (v := nI 0) hC dL_law_97 (by decide) ?_
  refine am_callSX hC [.ref (3), .int (nI 15), .int (nI 0), .int (nI 0), .int (nI 0), .int (nI 0)] mf_L_act tw_447 (c_act15 _ _ (am_tr hC) h hS _ _ _ _) rfl ⟨rfl, Nat.le_of_ble_eq_true rfl⟩ ⟨by decide, by decide⟩ (by decide) (by decide) dL_law_98 rfl (fun _ _ q _ => False.elim q) (fun v h hp hlc => ?_)
  obtain ⟨rfl, hS⟩ := z_goa (x' := nI 27) (σ' := qs_141) (by decide +kernel) (z_sx (by decide +kernel)) hp
  refine am_iload_n hC dL_law_101 rfl ?_
  refine am_bipush (v := nI 30) hC dL_law_102 (by decide) ?_
  refine am_icmp_ge (tgt := 111) hC dL_law_104 (by decide) (fun c_104 => absurd c_104 (by decide)) (fun c_104 => ?_)
  refine am_iload_n hC dL_law_107 rfl ?_
  refine am_goto (tgt := 113) hC dL_law_108 (by decide) ?_
  refine am_icmp_ne (tgt := 142) hC dL_law_113 (by decide) (fun c_113 => absurd (by decide) c_113) (fun c_113 => ?_)
  exact am_more (kc' := 16226) (ks' := 275314) (by decide) (by decide) (law_c9 hC hX hL hfin h hS)
set_option maxRecDepth 100000 in
set_option maxHeartbeats 4000000 in
theorem law_c7 {Z : am_Z} {L : Nat} {xs : Nat → Int32} (hC : am_OK Z "HousePlansLaw" cL_law 5 20 618172 7247108) (hX : SCR Z L xs) (hL : L ≤ 260) (hfin : ∀ (kc ks : Nat) (ls : List Value) (h : am_H), kc ≤ 618172 → ks ≤ 7247108 → am_W Z kc ks 308 ls [.int (nI 1)] h) (h : am_H) (hS : SZ h qs_134) : am_W Z 16038 272366 144 [.ref (41), .ref (3), .int (nI 20), .null, .null] [] h := by
  refine am_iinc (v := nI 21) hC dL_law_144 rfl (by decide) (by decide) ?_
  change am_W _ _ _ _ [.ref (41), .ref (3), .int (nI 21), .null, .null] _ _
  refine am_goto (tgt := 60) hC dL_law_147 (by decide) ?_
  refine am_iload_n hC dL_law_60 rfl ?_
  refine am_bipush (v := nI 31) hC dL_law_61 (by decide) ?_
  refine am_icmp_ge (tgt := 150) hC dL_law_63 (by decide) (fun c_63 => absurd c_63 (by decide)) (fun c_63 => ?_)
  refine am_aload_n hC dL_law_66 rfl ?_
  refine am_bipush (v := nI 13) hC dL_law_67 (by decide) ?_
  refine am_iconst (v := nI 0) hC dL_law_69 (by decide) ?_
  refine am_iconst (v := nI 0) hC dL_law_70 (by decide) ?_
  refine am_iconst (v := nI 0) hC dL_law_71 (by decide) ?_
  refine am_iconst (v := nI 0) hC dL_law_72 (by decide) ?_
  refine am_callSX hC [.ref (3), .int (nI 13), .int (nI 0), .int (nI 0), .int (nI 0), .int (nI 0)] mf_L_act tw_447 (c_act13 _ _ (am_tr hC) h hS _ _ _ _ true (fun _ => by rw [dn_nI (by decide)]; exact z_VWo qv_44 (by decide +kernel))) rfl ⟨rfl, Nat.le_of_ble_eq_true rfl⟩ ⟨by decide, by decide⟩ (by decide) (by decide) dL_law_73 rfl (fun _ _ q _ => False.elim q) (fun v h hp hlc => ?_)
  obtain ⟨rfl, hS⟩ := z_goa (x' := (-73)) (σ' := qs_134) (by decide +kernel) (z_sx (by decide +kernel)) hp
  refine am_iload_n hC dL_law_76 rfl ?_
  refine am_bipush (v := nI 20) hC dL_law_77 (by decide) ?_
  refine am_icmp_ge (tgt := 86) hC dL_law_79 (by decide) (fun c_79 => ?_) (fun c_79 => absurd (by decide) c_79)
  refine am_bipush (v := -73) hC dL_law_86 (by decide) ?_
  refine am_icmp_ne (tgt := 142) hC dL_law_88 (by decide) (fun c_88 => absurd (by decide) c_88) (fun c_88 => ?_)
  refine am_aload_n hC dL_law_91 rfl ?_
  refine am_bipush (v := nI 15) hC dL_law_92 (by decide) ?_
  refine am_iconst (v := nI 0) hC dL_law_94 (by decide) ?_
  refine am_iconst (v := nI 0) hC dL_law_95 (by decide) ?_
  refine am_iconst (v := nI 0) hC dL_law_96 (by decide) ?_
  refine am_iconst (v := nI 0) hC dL_law_97 (by decide) ?_
  refine am_callSX hC [.ref (3), .int (nI 15), .int (nI 0), .int (nI 0), .int (nI 0), .int (nI 0)] mf_L_act tw_447 (c_act15 _ _ (am_tr hC) h hS _ _ _ _) rfl ⟨rfl, Nat.le_of_ble_eq_true rfl⟩ ⟨by decide, by decide⟩ (by decide) (by decide) dL_law_98 rfl (fun _ _ q _ => False.elim q) (fun v h hp hlc => ?_)
  obtain ⟨rfl, hS⟩ := z_goa (x' := nI 21) (σ' := qs_135) (by decide +kernel) (z_sx (by decide +kernel)) hp
  refine am_iload_n hC dL_law_101 rfl ?_
  refine am_bipush (v := nI 30) hC dL_law_102 (by decide) ?_
  refine am_icmp_ge (tgt := 111) hC dL_law_104 (by decide) (fun c_104 => absurd c_104 (by decide)) (fun c_104 => ?_)
  refine am_iload_n hC dL_law_107 rfl ?_
  refine am_goto (tgt := 113) hC dL_law_108 (by decide) ?_
  refine am_icmp_ne (tgt := 142) hC dL_law_113 (by decide) (fun c_113 => absurd (by decide) c_113) (fun c_113 => ?_)
  refine am_iload_n hC dL_law_116 rfl ?_
  refine am_bipush (v := nI 30) hC dL_law_117 (by decide) ?_
  refine am_icmp_ge (tgt := 144) hC dL_law_119 (by decide) (fun c_119 => absurd c_119 (by decide)) (fun c_119 => ?_)
  refine am_aload_n hC dL_law_122 rfl ?_
  refine am_iload_n hC dL_law_123 rfl ?_
  refine am_callV hC (ci := 6) (N := 4) [.int (nI 21)] rfl (SZ_3 hS) rfl mf_X5_permitOf tw_426 (d_permitOf _ _ (am_tr hC) h hS _) rfl ⟨rfl, Nat.le_of_ble_eq_true rfl⟩ ⟨by decide, by decide⟩ (by decide) (by decide) dL_law_124 rfl (fun _ _ q _ => (XN_0 q.2 (by decide +kernel)).elim) (fun v h hp hlc => ?_)
  obtain ⟨rfl, hS⟩ := z_go (x' := nI 19) (σ' := qs_135) (by decide +kernel) rfl hp
  refine am_iload_n hC dL_law_127 rfl ?_
  refine am_bipush (v := nI 20) hC dL_law_128 (by decide) ?_
  refine am_icmp_ge (tgt := 137) hC dL_law_130 (by decide) (fun c_130 => ?_) (fun c_130 => absurd (by decide) c_130)
  refine am_bipush (v := nI 19) hC dL_law_137 (by decide) ?_
  refine am_icmp_eq (tgt := 144) hC dL_law_139 (by decide) (fun c_139 => ?_) (fun c_139 => absurd (by decide) c_139)
  refine am_iinc (v := nI 22) hC dL_law_144 rfl (by decide) (by decide) ?_
  change am_W _ _ _ _ [.ref (41), .ref (3), .int (nI 22), .null, .null] _ _
  refine am_goto (tgt := 60) hC dL_law_147 (by decide) ?_
  refine am_iload_n hC dL_law_60 rfl ?_
  refine am_bipush (v := nI 31) hC dL_law_61 (by decide) ?_
  refine am_icmp_ge (tgt := 150) hC dL_law_63 (by decide) (fun c_63 => absurd c_63 (by decide)) (fun c_63 => ?_)
  refine am_aload_n hC dL_law_66 rfl ?_
  refine am_bipush (v := nI 13) hC dL_law_67 (by decide) ?_
  refine am_iconst (v := nI 0) hC dL_law_69 (by decide) ?_
  refine am_iconst (v := nI 0) hC dL_law_70 (by decide) ?_
  refine am_iconst (v := nI 0) hC dL_law_71 (by decide) ?_
  refine am_iconst (v := nI 0) hC dL_law_72 (by decide) ?_
  refine am_callSX hC [.ref (3), .int (nI 13), .int (nI 0), .int (nI 0), .int (nI 0), .int (nI 0)] mf_L_act tw_447 (c_act13 _ _ (am_tr hC) h hS _ _ _ _ true (fun _ => by rw [dn_nI (by decide)]; exact z_VWo qv_45 (by decide +kernel))) rfl ⟨rfl, Nat.le_of_ble_eq_true rfl⟩ ⟨by decide, by decide⟩ (by decide) (by decide) dL_law_73 rfl (fun _ _ q _ => False.elim q) (fun v h hp hlc => ?_)
  obtain ⟨rfl, hS⟩ := z_goa (x' := (-73)) (σ' := qs_135) (by decide +kernel) (z_sx (by decide +kernel)) hp
  refine am_iload_n hC dL_law_76 rfl ?_
  refine am_bipush (v := nI 20) hC dL_law_77 (by decide) ?_
  refine am_icmp_ge (tgt := 86) hC dL_law_79 (by decide) (fun c_79 => ?_) (fun c_79 => absurd (by decide) c_79)
  refine am_bipush (v := -73) hC dL_law_86 (by decide) ?_
  refine am_icmp_ne (tgt := 142) hC dL_law_88 (by decide) (fun c_88 => absurd (by decide) c_88) (fun c_88 => ?_)
  refine am_aload_n hC dL_law_91 rfl ?_
  refine am_bipush (v := nI 15) hC dL_law_92 (by decide) ?_
  refine am_iconst (v := nI 0) hC dL_law_94 (by decide) ?_
  refine am_iconst (v := nI 0) hC dL_law_95 (by decide) ?_
  refine am_iconst (v := nI 0) hC dL_law_96 (by decide) ?_
  refine am_iconst (v := nI 0) hC dL_law_97 (by decide) ?_
  refine am_callSX hC [.ref (3), .int (nI 15), .int (nI 0), .int (nI 0), .int (nI 0), .int (nI 0)] mf_L_act tw_447 (c_act15 _ _ (am_tr hC) h hS _ _ _ _) rfl ⟨rfl, Nat.le_of_ble_eq_true rfl⟩ ⟨by decide, by decide⟩ (by decide) (by decide) dL_law_98 rfl (fun _ _ q _ => False.elim q) (fun v h hp hlc => ?_)
  obtain ⟨rfl, hS⟩ := z_goa (x' := nI 22) (σ' := qs_136) (by decide +kernel) (z_sx (by decide +kernel)) hp
  refine am_iload_n hC dL_law_101 rfl ?_
  refine am_bipush (v := nI 30) hC dL_law_102 (by decide) ?_
  refine am_icmp_ge (tgt := 111) hC dL_law_104 (by decide) (fun c_104 => absurd c_104 (by decide)) (fun c_104 => ?_)
  refine am_iload_n hC dL_law_107 rfl ?_
  refine am_goto (tgt := 113) hC dL_law_108 (by decide) ?_
  refine am_icmp_ne (tgt := 142) hC dL_law_113 (by decide) (fun c_113 => absurd (by decide) c_113) (fun c_113 => ?_)
  refine am_iload_n hC dL_law_116 rfl ?_
  refine am_bipush (v := nI 30) hC dL_law_117 (by decide) ?_
  refine am_icmp_ge (tgt := 144) hC dL_law_119 (by decide) (fun c_119 => absurd c_119 (by decide)) (fun c_119 => ?_)
  refine am_aload_n hC dL_law_122 rfl ?_
  refine am_iload_n hC dL_law_123 rfl ?_
  refine am_callV hC (ci := 6) (N := 4) [.int (nI 22)] rfl (SZ_3 hS) rfl mf_X5_permitOf tw_426 (d_permitOf _ _ (am_tr hC) h hS _) rfl ⟨rfl, Nat.le_of_ble_eq_true rfl⟩ ⟨by decide, by decide⟩ (by decide) (by decide) dL_law_124 rfl (fun _ _ q _ => (XN_0 q.2 (by decide +kernel)).elim) (fun v h hp hlc => ?_)
  obtain ⟨rfl, hS⟩ := z_go (x' := nI 19) (σ' := qs_136) (by decide +kernel) rfl hp
  refine am_iload_n hC dL_law_127 rfl ?_
  refine am_bipush (v := nI 20) hC dL_law_128 (by decide) ?_
  refine am_icmp_ge (tgt := 137) hC dL_law_130 (by decide) (fun c_130 => ?_) (fun c_130 => absurd (by decide) c_130)
  refine am_bipush (v := nI 19) hC dL_law_137 (by decide) ?_
  refine am_icmp_eq (tgt := 144) hC dL_law_139 (by decide) (fun c_139 => ?_) (fun c_139 => absurd (by decide) c_139)
  refine am_iinc (v := nI 23) hC dL_law_144 rfl (by decide) (by decide) ?_
  change am_W _ _ _ _ [.ref (41), .ref (3), .int (nI 23), .null, .null] _ _
  refine am_goto (tgt := 60) hC dL_law_147 (by decide) ?_
  refine am_iload_n hC dL_law_60 rfl ?_
  refine am_bipush (v := nI 31) hC dL_law_61 (by decide) ?_
  refine am_icmp_ge (tgt := 150) hC dL_law_63 (by decide) (fun c_63 => absurd c_63 (by decide)) (fun c_63 => ?_)
  refine am_aload_n hC dL_law_66 rfl ?_
  refine am_bipush (v := nI 13) hC dL_law_67 (by decide) ?_
  refine am_iconst (v := nI 0) hC dL_law_69 (by decide) ?_
  refine am_iconst (v := nI 0) hC dL_law_70 (by decide) ?_
  refine am_iconst (v := nI 0) hC dL_law_71 (by decide) ?_
  refine am_iconst (v := nI 0) hC dL_law_72 (by decide) ?_
  refine am_callSX hC [.ref (3), .int (nI 13), .int (nI 0), .int (nI 0), .int (nI 0), .int (nI 0)] mf_L_act tw_447 (c_act13 _ _ (am_tr hC) h hS _ _ _ _ true (fun _ => by rw [dn_nI (by decide)]; exact z_VWo qv_46 (by decide +kernel))) rfl ⟨rfl, Nat.le_of_ble_eq_true rfl⟩ ⟨by decide, by decide⟩ (by decide) (by decide) dL_law_73 rfl (fun _ _ q _ => False.elim q) (fun v h hp hlc => ?_)
  obtain ⟨rfl, hS⟩ := z_goa (x' := (-73)) (σ' := qs_136) (by decide +kernel) (z_sx (by decide +kernel)) hp
  refine am_iload_n hC dL_law_76 rfl ?_
  refine am_bipush (v := nI 20) hC dL_law_77 (by decide) ?_
  refine am_icmp_ge (tgt := 86) hC dL_law_79 (by decide) (fun c_79 => ?_) (fun c_79 => absurd (by decide) c_79)
  refine am_bipush (v := -73) hC dL_law_86 (by decide) ?_
  refine am_icmp_ne (tgt := 142) hC dL_law_88 (by decide) (fun c_88 => absurd (by decide) c_88) (fun c_88 => ?_)
  refine am_aload_n hC dL_law_91 rfl ?_
  refine am_bipush (v := nI 15) hC dL_law_92 (by decide) ?_
  refine am_iconst (v := nI 0) hC dL_law_94 (by decide) ?_
  refine am_iconst (v := nI 0) hC dL_law_95 (by decide) ?_
  refine am_iconst (v := nI 0) hC dL_law_96 (by decide) ?_
  refine am_iconst (v := nI 0) hC dL_law_97 (by decide) ?_
  refine am_callSX hC [.ref (3), .int (nI 15), .int (nI 0), .int (nI 0), .int (nI 0), .int (nI 0)] mf_L_act tw_447 (c_act15 _ _ (am_tr hC) h hS _ _ _ _) rfl ⟨rfl, Nat.le_of_ble_eq_true rfl⟩ ⟨by decide, by decide⟩ (by decide) (by decide) dL_law_98 rfl (fun _ _ q _ => False.elim q) (fun v h hp hlc => ?_)
  obtain ⟨rfl, hS⟩ := z_goa (x' := nI 23) (σ' := qs_137) (by decide +kernel) (z_sx (by decide +kernel)) hp
  refine am_iload_n hC dL_law_101 rfl ?_
  refine am_bipush (v := nI 30) hC dL_law_102 (by decide) ?_
  refine am_icmp_ge (tgt := 111) hC dL_law_104 (by decide) (fun c_104 => absurd c_104 (by decide)) (fun c_104 => ?_)
  refine am_iload_n hC dL_law_107 rfl ?_
  refine am_goto (tgt := 113) hC dL_law_108 (by decide) ?_
  refine am_icmp_ne (tgt := 142) hC dL_law_113 (by decide) (fun c_113 => absurd (by decide) c_113) (fun c_113 => ?_)
  refine am_iload_n hC dL_law_116 rfl ?_
  refine am_bipush (v := nI 30) hC dL_law_117 (by decide) ?_
  refine am_icmp_ge (tgt := 144) hC dL_law_119 (by decide) (fun c_119 => absurd c_119 (by decide)) (fun c_119 => ?_)
  refine am_aload_n hC dL_law_122 rfl ?_
  refine am_iload_n hC dL_law_123 rfl ?_
  refine am_callV hC (ci := 6) (N := 4) [.int (nI 23)] rfl (SZ_3 hS) rfl mf_X5_permitOf tw_426 (d_permitOf _ _ (am_tr hC) h hS _) rfl ⟨rfl, Nat.le_of_ble_eq_true rfl⟩ ⟨by decide, by decide⟩ (by decide) (by decide) dL_law_124 rfl (fun _ _ q _ => (XN_0 q.2 (by decide +kernel)).elim) (fun v h hp hlc => ?_)
  obtain ⟨rfl, hS⟩ := z_go (x' := nI 19) (σ' := qs_137) (by decide +kernel) rfl hp
  refine am_iload_n hC dL_law_127 rfl ?_
  refine am_bipush (v := nI 20) hC dL_law_128 (by decide) ?_
  refine am_icmp_ge (tgt := 137) hC dL_law_130 (by decide) (fun c_130 => ?_) (fun c_130 => absurd (by decide) c_130)
  refine am_bipush (v := nI 19) hC dL_law_137 (by decide) ?_
  refine am_icmp_eq (tgt := 144) hC dL_law_139 (by decide) (fun c_139 => ?_) (fun c_139 => absurd (by decide) c_139)
  refine am_iinc (v := nI 24) hC dL_law_144 rfl (by decide) (by decide) ?_
  change am_W _ _ _ _ [.ref (41), .ref (3), .int (nI 24), .null, .null] _ _
  refine am_goto (tgt := 60) hC dL_law_147 (by decide) ?_
  refine am_iload_n hC dL_law_60 rfl ?_
  refine am_bipush (v := nI 31) hC dL_law_61 (by decide) ?_
  refine am_icmp_ge (tgt := 150) hC dL_law_63 (by decide) (fun c_63 => absurd c_63 (by decide)) (fun c_63 => ?_)
  refine am_aload_n hC dL_law_66 rfl ?_
  refine am_bipush (v := nI 13) hC dL_law_67 (by decide) ?_
  refine am_iconst (v := nI 0) hC dL_law_69 (by decide) ?_
  refine am_iconst (v := nI 0) hC dL_law_70 (by decide) ?_
  refine am_iconst (v := nI 0) hC dL_law_71 (by decide) ?_
  refine am_iconst (v := nI 0) hC dL_law_72 (by decide) ?_
  refine am_callSX hC [.ref (3), .int (nI 13), .int (nI 0), .int (nI 0), .int (nI 0), .int (nI 0)] mf_L_act tw_447 (c_act13 _ _ (am_tr hC) h hS _ _ _ _ true (fun _ => by rw [dn_nI (by decide)]; exact z_VWo qv_47 (by decide +kernel))) rfl ⟨rfl, Nat.le_of_ble_eq_true rfl⟩ ⟨by decide, by decide⟩ (by decide) (by decide) dL_law_73 rfl (fun _ _ q _ => False.elim q) (fun v h hp hlc => ?_)
  obtain ⟨rfl, hS⟩ := z_goa (x' := (-73)) (σ' := qs_137) (by decide +kernel) (z_sx (by decide +kernel)) hp
  refine am_iload_n hC dL_law_76 rfl ?_
  refine am_bipush (v := nI 20) hC dL_law_77 (by decide) ?_
  refine am_icmp_ge (tgt := 86) hC dL_law_79 (by decide) (fun c_79 => ?_) (fun c_79 => absurd (by decide) c_79)
  refine am_bipush (v := -73) hC dL_law_86 (by decide) ?_
  refine am_icmp_ne (tgt := 142) hC dL_law_88 (by decide) (fun c_88 => absurd (by decide) c_88) (fun c_88 => ?_)
  exact am_more (kc' := 16132) (ks' := 273840) (by decide) (by decide) (law_c8 hC hX hL hfin h hS)
set_option maxRecDepth 100000 in
set_option maxHeartbeats 4000000 in
theorem law_c6 {Z : am_Z} {L : Nat} {xs : Nat → Int32} (hC : am_OK Z "HousePlansLaw" cL_law 5 20 618172 7247108) (hX : SCR Z L xs) (hL : L ≤ 260) (hfin : ∀ (kc ks : Nat) (ls : List Value) (h : am_H), kc ≤ 618172 → ks ≤ 7247108 → am_W Z kc ks 308 ls [.int (nI 1)] h) (h : am_H) (hS : SZ h qs_129) : am_W Z 15946 271034 116 [.ref (41), .ref (3), .int (nI 17), .null, .null] [] h := by
  refine am_iload_n hC dL_law_116 rfl ?_
  refine am_bipush (v := nI 30) hC dL_law_117 (by decide) ?_
  refine am_icmp_ge (tgt := 144) hC dL_law_119 (by decide) (fun c_119 => absurd c_119 (by decide)) (fun c_119 => ?_)
  refine am_aload_n hC dL_law_122 rfl ?_
  refine am_iload_n hC dL_law_123 rfl ?_
  refine am_callV hC (ci := 6) (N := 4) [.int (nI 17)] rfl (SZ_3 hS) rfl mf_X5_permitOf tw_426 (d_permitOf _ _ (am_tr hC) h hS _) rfl ⟨rfl, Nat.le_of_ble_eq_true rfl⟩ ⟨by decide, by decide⟩ (by decide) (by decide) dL_law_124 rfl (fun _ _ q _ => (XN_0 q.2 (by decide +kernel)).elim) (fun v h hp hlc => ?_)
  obtain ⟨rfl, hS⟩ := z_go (x' := nI 17) (σ' := qs_129) (by decide +kernel) rfl hp
  refine am_iload_n hC dL_law_127 rfl ?_
  refine am_bipush (v := nI 20) hC dL_law_128 (by decide) ?_
  refine am_icmp_ge (tgt := 137) hC dL_law_130 (by decide) (fun c_130 => absurd c_130 (by decide)) (fun c_130 => ?_)
  refine am_iload_n hC dL_law_133 rfl ?_
  refine am_goto (tgt := 139) hC dL_law_134 (by decide) ?_
  refine am_icmp_eq (tgt := 144) hC dL_law_139 (by decide) (fun c_139 => ?_) (fun c_139 => absurd (by decide) c_139)
  refine am_iinc (v := nI 18) hC dL_law_144 rfl (by decide) (by decide) ?_
  change am_W _ _ _ _ [.ref (41), .ref (3), .int (nI 18), .null, .null] _ _
  refine am_goto (tgt := 60) hC dL_law_147 (by decide) ?_
  refine am_iload_n hC dL_law_60 rfl ?_
  refine am_bipush (v := nI 31) hC dL_law_61 (by decide) ?_
  refine am_icmp_ge (tgt := 150) hC dL_law_63 (by decide) (fun c_63 => absurd c_63 (by decide)) (fun c_63 => ?_)
  refine am_aload_n hC dL_law_66 rfl ?_
  refine am_bipush (v := nI 13) hC dL_law_67 (by decide) ?_
  refine am_iconst (v := nI 0) hC dL_law_69 (by decide) ?_
  refine am_iconst (v := nI 0) hC dL_law_70 (by decide) ?_
  refine am_iconst (v := nI 0) hC dL_law_71 (by decide) ?_
  refine am_iconst (v := nI 0) hC dL_law_72 (by decide) ?_
  refine am_callSX hC [.ref (3), .int (nI 13), .int (nI 0), .int (nI 0), .int (nI 0), .int (nI 0)] mf_L_act tw_447 (c_act13 _ _ (am_tr hC) h hS _ _ _ _ true (fun _ => by rw [dn_nI (by decide)]; exact z_VWo qv_41 (by decide +kernel))) rfl ⟨rfl, Nat.le_of_ble_eq_true rfl⟩ ⟨by decide, by decide⟩ (by decide) (by decide) dL_law_73 rfl (fun _ _ q _ => False.elim q) (fun v h hp hlc => ?_)
  obtain ⟨rfl, hS⟩ := z_goa (x' := nI 18) (σ' := qs_130) (by decide +kernel) (z_sx (by decide +kernel)) hp
  refine am_iload_n hC dL_law_76 rfl ?_
  refine am_bipush (v := nI 20) hC dL_law_77 (by decide) ?_
  refine am_icmp_ge (tgt := 86) hC dL_law_79 (by decide) (fun c_79 => absurd c_79 (by decide)) (fun c_79 => ?_)
  refine am_iload_n hC dL_law_82 rfl ?_
  refine am_goto (tgt := 88) hC dL_law_83 (by decide) ?_
  refine am_icmp_ne (tgt := 142) hC dL_law_88 (by decide) (fun c_88 => absurd (by decide) c_88) (fun c_88 => ?_)
  refine am_aload_n hC dL_law_91 rfl ?_
  refine am_bipush (v := nI 15) hC dL_law_92 (by decide) ?_
  refine am_iconst (v := nI 0) hC dL_law_94 (by decide) ?_
  refine am_iconst (v := nI 0) hC dL_law_95 (by decide) ?_
  refine am_iconst (v := nI 0) hC dL_law_96 (by decide) ?_
  refine am_iconst (v := nI 0) hC dL_law_97 (by decide) ?_
  refine am_callSX hC [.ref (3), .int (nI 15), .int (nI 0), .int (nI 0), .int (nI 0), .int (nI 0)] mf_L_act tw_447 (c_act15 _ _ (am_tr hC) h hS _ _ _ _) rfl ⟨rfl, Nat.le_of_ble_eq_true rfl⟩ ⟨by decide, by decide⟩ (by decide) (by decide) dL_law_98 rfl (fun _ _ q _ => False.elim q) (fun v h hp hlc => ?_)
  obtain ⟨rfl, hS⟩ := z_goa (x' := nI 18) (σ' := qs_131) (by decide +kernel) (z_sx (by decide +kernel)) hp
  refine am_iload_n hC dL_law_101 rfl ?_
  refine am_bipush (v := nI 30) hC dL_law_102 (by decide) ?_
  refine am_icmp_ge (tgt := 111) hC dL_law_104 (by decide) (fun c_104 => absurd c_104 (by decide)) (fun c_104 => ?_)
  refine am_iload_n hC dL_law_107 rfl ?_
  refine am_goto (tgt := 113) hC dL_law_108 (by decide) ?_
  refine am_icmp_ne (tgt := 142) hC dL_law_113 (by decide) (fun c_113 => absurd (by decide) c_113) (fun c_113 => ?_)
  refine am_iload_n hC dL_law_116 rfl ?_
  refine am_bipush (v := nI 30) hC dL_law_117 (by decide) ?_
  refine am_icmp_ge (tgt := 144) hC dL_law_119 (by decide) (fun c_119 => absurd c_119 (by decide)) (fun c_119 => ?_)
  refine am_aload_n hC dL_law_122 rfl ?_
  refine am_iload_n hC dL_law_123 rfl ?_
  refine am_callV hC (ci := 6) (N := 4) [.int (nI 18)] rfl (SZ_3 hS) rfl mf_X5_permitOf tw_426 (d_permitOf _ _ (am_tr hC) h hS _) rfl ⟨rfl, Nat.le_of_ble_eq_true rfl⟩ ⟨by decide, by decide⟩ (by decide) (by decide) dL_law_124 rfl (fun _ _ q _ => (XN_0 q.2 (by decide +kernel)).elim) (fun v h hp hlc => ?_)
  obtain ⟨rfl, hS⟩ := z_go (x' := nI 18) (σ' := qs_131) (by decide +kernel) rfl hp
  refine am_iload_n hC dL_law_127 rfl ?_
  refine am_bipush (v := nI 20) hC dL_law_128 (by decide) ?_
  refine am_icmp_ge (tgt := 137) hC dL_law_130 (by decide) (fun c_130 => absurd c_130 (by decide)) (fun c_130 => ?_)
  refine am_iload_n hC dL_law_133 rfl ?_
  refine am_goto (tgt := 139) hC dL_law_134 (by decide) ?_
  refine am_icmp_eq (tgt := 144) hC dL_law_139 (by decide) (fun c_139 => ?_) (fun c_139 => absurd (by decide) c_139)
  refine am_iinc (v := nI 19) hC dL_law_144 rfl (by decide) (by decide) ?_
  change am_W _ _ _ _ [.ref (41), .ref (3), .int (nI 19), .null, .null] _ _
  refine am_goto (tgt := 60) hC dL_law_147 (by decide) ?_
  refine am_iload_n hC dL_law_60 rfl ?_
  refine am_bipush (v := nI 31) hC dL_law_61 (by decide) ?_
  refine am_icmp_ge (tgt := 150) hC dL_law_63 (by decide) (fun c_63 => absurd c_63 (by decide)) (fun c_63 => ?_)
  refine am_aload_n hC dL_law_66 rfl ?_
  refine am_bipush (v := nI 13) hC dL_law_67 (by decide) ?_
  refine am_iconst (v := nI 0) hC dL_law_69 (by decide) ?_
  refine am_iconst (v := nI 0) hC dL_law_70 (by decide) ?_
  refine am_iconst (v := nI 0) hC dL_law_71 (by decide) ?_
  refine am_iconst (v := nI 0) hC dL_law_72 (by decide) ?_
  refine am_callSX hC [.ref (3), .int (nI 13), .int (nI 0), .int (nI 0), .int (nI 0), .int (nI 0)] mf_L_act tw_447 (c_act13 _ _ (am_tr hC) h hS _ _ _ _ true (fun _ => by rw [dn_nI (by decide)]; exact z_VWo qv_42 (by decide +kernel))) rfl ⟨rfl, Nat.le_of_ble_eq_true rfl⟩ ⟨by decide, by decide⟩ (by decide) (by decide) dL_law_73 rfl (fun _ _ q _ => False.elim q) (fun v h hp hlc => ?_)
  obtain ⟨rfl, hS⟩ := z_goa (x' := nI 19) (σ' := qs_132) (by decide +kernel) (z_sx (by decide +kernel)) hp
  refine am_iload_n hC dL_law_76 rfl ?_
  refine am_bipush (v := nI 20) hC dL_law_77 (by decide) ?_
  refine am_icmp_ge (tgt := 86) hC dL_law_79 (by decide) (fun c_79 => absurd c_79 (by decide)) (fun c_79 => ?_)
  refine am_iload_n hC dL_law_82 rfl ?_
  refine am_goto (tgt := 88) hC dL_law_83 (by decide) ?_
  refine am_icmp_ne (tgt := 142) hC dL_law_88 (by decide) (fun c_88 => absurd (by decide) c_88) (fun c_88 => ?_)
  refine am_aload_n hC dL_law_91 rfl ?_
  refine am_bipush (v := nI 15) hC dL_law_92 (by decide) ?_
  refine am_iconst (v := nI 0) hC dL_law_94 (by decide) ?_
  refine am_iconst (v := nI 0) hC dL_law_95 (by decide) ?_
  refine am_iconst (v := nI 0) hC dL_law_96 (by decide) ?_
  refine am_iconst (v := nI 0) hC dL_law_97 (by decide) ?_
  refine am_callSX hC [.ref (3), .int (nI 15), .int (nI 0), .int (nI 0), .int (nI 0), .int (nI 0)] mf_L_act tw_447 (c_act15 _ _ (am_tr hC) h hS _ _ _ _) rfl ⟨rfl, Nat.le_of_ble_eq_true rfl⟩ ⟨by decide, by decide⟩ (by decide) (by decide) dL_law_98 rfl (fun _ _ q _ => False.elim q) (fun v h hp hlc => ?_)
  obtain ⟨rfl, hS⟩ := z_goa (x' := nI 19) (σ' := qs_133) (by decide +kernel) (z_sx (by decide +kernel)) hp
  refine am_iload_n hC dL_law_101 rfl ?_
  refine am_bipush (v := nI 30) hC dL_law_102 (by decide) ?_
  refine am_icmp_ge (tgt := 111) hC dL_law_104 (by decide) (fun c_104 => absurd c_104 (by decide)) (fun c_104 => ?_)
  refine am_iload_n hC dL_law_107 rfl ?_
  refine am_goto (tgt := 113) hC dL_law_108 (by decide) ?_
  refine am_icmp_ne (tgt := 142) hC dL_law_113 (by decide) (fun c_113 => absurd (by decide) c_113) (fun c_113 => ?_)
  refine am_iload_n hC dL_law_116 rfl ?_
  refine am_bipush (v := nI 30) hC dL_law_117 (by decide) ?_
  refine am_icmp_ge (tgt := 144) hC dL_law_119 (by decide) (fun c_119 => absurd c_119 (by decide)) (fun c_119 => ?_)
  refine am_aload_n hC dL_law_122 rfl ?_
  refine am_iload_n hC dL_law_123 rfl ?_
  refine am_callV hC (ci := 6) (N := 4) [.int (nI 19)] rfl (SZ_3 hS) rfl mf_X5_permitOf tw_426 (d_permitOf _ _ (am_tr hC) h hS _) rfl ⟨rfl, Nat.le_of_ble_eq_true rfl⟩ ⟨by decide, by decide⟩ (by decide) (by decide) dL_law_124 rfl (fun _ _ q _ => (XN_0 q.2 (by decide +kernel)).elim) (fun v h hp hlc => ?_)
  obtain ⟨rfl, hS⟩ := z_go (x' := nI 19) (σ' := qs_133) (by decide +kernel) rfl hp
  refine am_iload_n hC dL_law_127 rfl ?_
  refine am_bipush (v := nI 20) hC dL_law_128 (by decide) ?_
  refine am_icmp_ge (tgt := 137) hC dL_law_130 (by decide) (fun c_130 => absurd c_130 (by decide)) (fun c_130 => ?_)
  refine am_iload_n hC dL_law_133 rfl ?_
  refine am_goto (tgt := 139) hC dL_law_134 (by decide) ?_
  refine am_icmp_eq (tgt := 144) hC dL_law_139 (by decide) (fun c_139 => ?_) (fun c_139 => absurd (by decide) c_139)
  refine am_iinc (v := nI 20) hC dL_law_144 rfl (by decide) (by decide) ?_
  change am_W _ _ _ _ [.ref (41), .ref (3), .int (nI 20), .null, .null] _ _
  refine am_goto (tgt := 60) hC dL_law_147 (by decide) ?_
  refine am_iload_n hC dL_law_60 rfl ?_
  refine am_bipush (v := nI 31) hC dL_law_61 (by decide) ?_
  refine am_icmp_ge (tgt := 150) hC dL_law_63 (by decide) (fun c_63 => absurd c_63 (by decide)) (fun c_63 => ?_)
  refine am_aload_n hC dL_law_66 rfl ?_
  refine am_bipush (v := nI 13) hC dL_law_67 (by decide) ?_
  refine am_iconst (v := nI 0) hC dL_law_69 (by decide) ?_
  refine am_iconst (v := nI 0) hC dL_law_70 (by decide) ?_
  refine am_iconst (v := nI 0) hC dL_law_71 (by decide) ?_
  refine am_iconst (v := nI 0) hC dL_law_72 (by decide) ?_
  refine am_callSX hC [.ref (3), .int (nI 13), .int (nI 0), .int (nI 0), .int (nI 0), .int (nI 0)] mf_L_act tw_447 (c_act13 _ _ (am_tr hC) h hS _ _ _ _ true (fun _ => by rw [dn_nI (by decide)]; exact z_VWo qv_43 (by decide +kernel))) rfl ⟨rfl, Nat.le_of_ble_eq_true rfl⟩ ⟨by decide, by decide⟩ (by decide) (by decide) dL_law_73 rfl (fun _ _ q _ => False.elim q) (fun v h hp hlc => ?_)
  obtain ⟨rfl, hS⟩ := z_goa (x' := (-73)) (σ' := qs_133) (by decide +kernel) (z_sx (by decide +kernel)) hp
  refine am_iload_n hC dL_law_76 rfl ?_
  refine am_bipush (v := nI 20) hC dL_law_77 (by decide) ?_
  refine am_icmp_ge (tgt := 86) hC dL_law_79 (by decide) (fun c_79 => ?_) (fun c_79 => absurd (by decide) c_79)
  refine am_bipush (v := -73) hC dL_law_86 (by decide) ?_
  refine am_icmp_ne (tgt := 142) hC dL_law_88 (by decide) (fun c_88 => absurd (by decide) c_88) (fun c_88 => ?_)
  refine am_aload_n hC dL_law_91 rfl ?_
  refine am_bipush (v := nI 15) hC dL_law_92 (by decide) ?_
  refine am_iconst (v := nI 0) hC dL_law_94 (by decide) ?_
  refine am_iconst (v := nI 0) hC dL_law_95 (by decide) ?_
  refine am_iconst (v := nI 0) hC dL_law_96 (by decide) ?_
  refine am_iconst (v := nI 0) hC dL_law_97 (by decide) ?_
  refine am_callSX hC [.ref (3), .int (nI 15), .int (nI 0), .int (nI 0), .int (nI 0), .int (nI 0)] mf_L_act tw_447 (c_act15 _ _ (am_tr hC) h hS _ _ _ _) rfl ⟨rfl, Nat.le_of_ble_eq_true rfl⟩ ⟨by decide, by decide⟩ (by decide) (by decide) dL_law_98 rfl (fun _ _ q _ => False.elim q) (fun v h hp hlc => ?_)
  obtain ⟨rfl, hS⟩ := z_goa (x' := nI 20) (σ' := qs_134) (by decide +kernel) (z_sx (by decide +kernel)) hp
  refine am_iload_n hC dL_law_101 rfl ?_
  refine am_bipush (v := nI 30) hC dL_law_102 (by decide) ?_
  refine am_icmp_ge (tgt := 111) hC dL_law_104 (by decide) (fun c_104 => absurd c_104 (by decide)) (fun c_104 => ?_)
  refine am_iload_n hC dL_law_107 rfl ?_
  refine am_goto (tgt := 113) hC dL_law_108 (by decide) ?_
  refine am_icmp_ne (tgt := 142) hC dL_law_113 (by decide) (fun c_113 => absurd (by decide) c_113) (fun c_113 => ?_)
  refine am_iload_n hC dL_law_116 rfl ?_
  refine am_bipush (v := nI 30) hC dL_law_117 (by decide) ?_
  refine am_icmp_ge (tgt := 144) hC dL_law_119 (by decide) (fun c_119 => absurd c_119 (by decide)) (fun c_119 => ?_)
  refine am_aload_n hC dL_law_122 rfl ?_
  refine am_iload_n hC dL_law_123 rfl ?_
  refine am_callV hC (ci := 6) (N := 4) [.int (nI 20)] rfl (SZ_3 hS) rfl mf_X5_permitOf tw_426 (d_permitOf _ _ (am_tr hC) h hS _) rfl ⟨rfl, Nat.le_of_ble_eq_true rfl⟩ ⟨by decide, by decide⟩ (by decide) (by decide) dL_law_124 rfl (fun _ _ q _ => (XN_0 q.2 (by decide +kernel)).elim) (fun v h hp hlc => ?_)
  obtain ⟨rfl, hS⟩ := z_go (x' := nI 19) (σ' := qs_134) (by decide +kernel) rfl hp
  refine am_iload_n hC dL_law_127 rfl ?_
  refine am_bipush (v := nI 20) hC dL_law_128 (by decide) ?_
  refine am_icmp_ge (tgt := 137) hC dL_law_130 (by decide) (fun c_130 => ?_) (fun c_130 => absurd (by decide) c_130)
  refine am_bipush (v := nI 19) hC dL_law_137 (by decide) ?_
  refine am_icmp_eq (tgt := 144) hC dL_law_139 (by decide) (fun c_139 => ?_) (fun c_139 => absurd (by decide) c_139)
  exact am_more (kc' := 16038) (ks' := 272366) (by decide) (by decide) (law_c7 hC hX hL hfin h hS)
set_option maxRecDepth 100000 in
set_option maxHeartbeats 4000000 in
theorem law_c5 {Z : am_Z} {L : Nat} {xs : Nat → Int32} (hC : am_OK Z "HousePlansLaw" cL_law 5 20 618172 7247108) (hX : SCR Z L xs) (hL : L ≤ 260) (hfin : ∀ (kc ks : Nat) (ls : List Value) (h : am_H), kc ≤ 618172 → ks ≤ 7247108 → am_W Z kc ks 308 ls [.int (nI 1)] h) (h : am_H) (hS : SZ h qs_122) : am_W Z 15852 269560 91 [.ref (41), .ref (3), .int (nI 14), .null, .null] [] h := by
  refine am_aload_n hC dL_law_91 rfl ?_
  refine am_bipush (v := nI 15) hC dL_law_92 (by decide) ?_
  refine am_iconst (v := nI 0) hC dL_law_94 (by decide) ?_
  refine am_iconst (v := nI 0) hC dL_law_95 (by decide) ?_
  refine am_iconst (v := nI 0) hC dL_law_96 (by decide) ?_
  refine am_iconst (v := nI 0) hC dL_law_97 (by decide) ?_
  refine am_callSX hC [.ref (3), .int (nI 15), .int (nI 0), .int (nI 0), .int (nI 0), .int (nI 0)] mf_L_act tw_447 (c_act15 _ _ (am_tr hC) h hS _ _ _ _) rfl ⟨rfl, Nat.le_of_ble_eq_true rfl⟩ ⟨by decide, by decide⟩ (by decide) (by decide) dL_law_98 rfl (fun _ _ q _ => False.elim q) (fun v h hp hlc => ?_)
  obtain ⟨rfl, hS⟩ := z_goa (x' := nI 14) (σ' := qs_123) (by decide +kernel) (z_sx (by decide +kernel)) hp
  refine am_iload_n hC dL_law_101 rfl ?_
  refine am_bipush (v := nI 30) hC dL_law_102 (by decide) ?_
  refine am_icmp_ge (tgt := 111) hC dL_law_104 (by decide) (fun c_104 => absurd c_104 (by decide)) (fun c_104 => ?_)
  refine am_iload_n hC dL_law_107 rfl ?_
  refine am_goto (tgt := 113) hC dL_law_108 (by decide) ?_
  refine am_icmp_ne (tgt := 142) hC dL_law_113 (by decide) (fun c_113 => absurd (by decide) c_113) (fun c_113 => ?_)
  refine am_iload_n hC dL_law_116 rfl ?_
  refine am_bipush (v := nI 30) hC dL_law_117 (by decide) ?_
  refine am_icmp_ge (tgt := 144) hC dL_law_119 (by decide) (fun c_119 => absurd c_119 (by decide)) (fun c_119 => ?_)
  refine am_aload_n hC dL_law_122 rfl ?_
  refine am_iload_n hC dL_law_123 rfl ?_
  refine am_callV hC (ci := 6) (N := 4) [.int (nI 14)] rfl (SZ_3 hS) rfl mf_X5_permitOf tw_426 (d_permitOf _ _ (am_tr hC) h hS _) rfl ⟨rfl, Nat.le_of_ble_eq_true rfl⟩ ⟨by decide, by decide⟩ (by decide) (by decide) dL_law_124 rfl (fun _ _ q _ => (XN_0 q.2 (by decide +kernel)).elim) (fun v h hp hlc => ?_)
  obtain ⟨rfl, hS⟩ := z_go (x' := nI 14) (σ' := qs_123) (by decide +kernel) rfl hp
  refine am_iload_n hC dL_law_127 rfl ?_
  refine am_bipush (v := nI 20) hC dL_law_128 (by decide) ?_
  refine am_icmp_ge (tgt := 137) hC dL_law_130 (by decide) (fun c_130 => absurd c_130 (by decide)) (fun c_130 => ?_)
  refine am_iload_n hC dL_law_133 rfl ?_
  refine am_goto (tgt := 139) hC dL_law_134 (by decide) ?_
  refine am_icmp_eq (tgt := 144) hC dL_law_139 (by decide) (fun c_139 => ?_) (fun c_139 => absurd (by decide) c_139)
  refine am_iinc (v := nI 15) hC dL_law_144 rfl (by decide) (by decide) ?_
  change am_W _ _ _ _ [.ref (41), .ref (3), .int (nI 15), .null, .null] _ _
  refine am_goto (tgt := 60) hC dL_law_147 (by decide) ?_
  refine am_iload_n hC dL_law_60 rfl ?_
  refine am_bipush (v := nI 31) hC dL_law_61 (by decide) ?_
  refine am_icmp_ge (tgt := 150) hC dL_law_63 (by decide) (fun c_63 => absurd c_63 (by decide)) (fun c_63 => ?_)
  refine am_aload_n hC dL_law_66 rfl ?_
  refine am_bipush (v := nI 13) hC dL_law_67 (by decide) ?_
  refine am_iconst (v := nI 0) hC dL_law_69 (by decide) ?_
  refine am_iconst (v := nI 0) hC dL_law_70 (by decide) ?_
  refine am_iconst (v := nI 0) hC dL_law_71 (by decide) ?_
  refine am_iconst (v := nI 0) hC dL_law_72 (by decide) ?_
  refine am_callSX hC [.ref (3), .int (nI 13), .int (nI 0), .int (nI 0), .int (nI 0), .int (nI 0)] mf_L_act tw_447 (c_act13 _ _ (am_tr hC) h hS _ _ _ _ true (fun _ => by rw [dn_nI (by decide)]; exact z_VWo qv_38 (by decide +kernel))) rfl ⟨rfl, Nat.le_of_ble_eq_true rfl⟩ ⟨by decide, by decide⟩ (by decide) (by decide) dL_law_73 rfl (fun _ _ q _ => False.elim q) (fun v h hp hlc => ?_)
  obtain ⟨rfl, hS⟩ := z_goa (x' := nI 15) (σ' := qs_124) (by decide +kernel) (z_sx (by decide +kernel)) hp
  refine am_iload_n hC dL_law_76 rfl ?_
  refine am_bipush (v := nI 20) hC dL_law_77 (by decide) ?_
  refine am_icmp_ge (tgt := 86) hC dL_law_79 (by decide) (fun c_79 => absurd c_79 (by decide)) (fun c_79 => ?_)
  refine am_iload_n hC dL_law_82 rfl ?_
  refine am_goto (tgt := 88) hC dL_law_83 (by decide) ?_
  refine am_icmp_ne (tgt := 142) hC dL_law_88 (by decide) (fun c_88 => absurd (by decide) c_88) (fun c_88 => ?_)
  refine am_aload_n hC dL_law_91 rfl ?_
  refine am_bipush (v := nI 15) hC dL_law_92 (by decide) ?_
  refine am_iconst (v := nI 0) hC dL_law_94 (by decide) ?_
  refine am_iconst (v := nI 0) hC dL_law_95 (by decide) ?_
  refine am_iconst (v := nI 0) hC dL_law_96 (by decide) ?_
  refine am_iconst (v := nI 0) hC dL_law_97 (by decide) ?_
  refine am_callSX hC [.ref (3), .int (nI 15), .int (nI 0), .int (nI 0), .int (nI 0), .int (nI 0)] mf_L_act tw_447 (c_act15 _ _ (am_tr hC) h hS _ _ _ _) rfl ⟨rfl, Nat.le_of_ble_eq_true rfl⟩ ⟨by decide, by decide⟩ (by decide) (by decide) dL_law_98 rfl (fun _ _ q _ => False.elim q) (fun v h hp hlc => ?_)
  obtain ⟨rfl, hS⟩ := z_goa (x' := nI 15) (σ' := qs_125) (by decide +kernel) (z_sx (by decide +kernel)) hp
  refine am_iload_n hC dL_law_101 rfl ?_
  refine am_bipush (v := nI 30) hC dL_law_102 (by decide) ?_
  refine am_icmp_ge (tgt := 111) hC dL_law_104 (by decide) (fun c_104 => absurd c_104 (by decide)) (fun c_104 => ?_)
  refine am_iload_n hC dL_law_107 rfl ?_
  refine am_goto (tgt := 113) hC dL_law_108 (by decide) ?_
  refine am_icmp_ne (tgt := 142) hC dL_law_113 (by decide) (fun c_113 => absurd (by decide) c_113) (fun c_113 => ?_)
  refine am_iload_n hC dL_law_116 rfl ?_
  refine am_bipush (v := nI 30) hC dL_law_117 (by decide) ?_
  refine am_icmp_ge (tgt := 144) hC dL_law_119 (by decide) (fun c_119 => absurd c_119 (by decide)) (fun c_119 => ?_)
  refine am_aload_n hC dL_law_122 rfl ?_
  refine am_iload_n hC dL_law_123 rfl ?_
  refine am_callV hC (ci := 6) (N := 4) [.int (nI 15)] rfl (SZ_3 hS) rfl mf_X5_permitOf tw_426 (d_permitOf _ _ (am_tr hC) h hS _) rfl ⟨rfl, Nat.le_of_ble_eq_true rfl⟩ ⟨by decide, by decide⟩ (by decide) (by decide) dL_law_124 rfl (fun _ _ q _ => (XN_0 q.2 (by decide +kernel)).elim) (fun v h hp hlc => ?_)
  obtain ⟨rfl, hS⟩ := z_go (x' := nI 15) (σ' := qs_125) (by decide +kernel) rfl hp
  refine am_iload_n hC dL_law_127 rfl ?_
  refine am_bipush (v := nI 20) hC dL_law_128 (by decide) ?_
  refine am_icmp_ge (tgt := 137) hC dL_law_130 (by decide) (fun c_130 => absurd c_130 (by decide)) (fun c_130 => ?_)
  refine am_iload_n hC dL_law_133 rfl ?_
  refine am_goto (tgt := 139) hC dL_law_134 (by decide) ?_
  refine am_icmp_eq (tgt := 144) hC dL_law_139 (by decide) (fun c_139 => ?_) (fun c_139 => absurd (by decide) c_139)
  refine am_iinc (v := nI 16) hC dL_law_144 rfl (by decide) (by decide) ?_
  change am_W _ _ _ _ [.ref (41), .ref (3), .int (nI 16), .null, .null] _ _
  refine am_goto (tgt := 60) hC dL_law_147 (by decide) ?_
  refine am_iload_n hC dL_law_60 rfl ?_
  refine am_bipush (v := nI 31) hC dL_law_61 (by decide) ?_
  refine am_icmp_ge (tgt := 150) hC dL_law_63 (by decide) (fun c_63 => absurd c_63 (by decide)) (fun c_63 => ?_)
  refine am_aload_n hC dL_law_66 rfl ?_
  refine am_bipush (v := nI 13) hC dL_law_67 (by decide) ?_
  refine am_iconst (v := nI 0) hC dL_law_69 (by decide) ?_
  refine am_iconst (v := nI 0) hC dL_law_70 (by decide) ?_
  refine am_iconst (v := nI 0) hC dL_law_71 (by decide) ?_
  refine am_iconst (v := nI 0) hC dL_law_72 (by decide) ?_
  refine am_callSX hC [.ref (3), .int (nI 13), .int (nI 0), .int (nI 0), .int (nI 0), .int (nI 0)] mf_L_act tw_447 (c_act13 _ _ (am_tr hC) h hS _ _ _ _ true (fun _ => by rw [dn_nI (by decide)]; exact z_VWo qv_39 (by decide +kernel))) rfl ⟨rfl, Nat.le_of_ble_eq_true rfl⟩ ⟨by decide, by decide⟩ (by decide) (by decide) dL_law_73 rfl (fun _ _ q _ => False.elim q) (fun v h hp hlc => ?_)
  obtain ⟨rfl, hS⟩ := z_goa (x' := nI 16) (σ' := qs_126) (by decide +kernel) (z_sx (by decide +kernel)) hp
  refine am_iload_n hC dL_law_76 rfl ?_
  refine am_bipush (v := nI 20) hC dL_law_77 (by decide) ?_
  refine am_icmp_ge (tgt := 86) hC dL_law_79 (by decide) (fun c_79 => absurd c_79 (by decide)) (fun c_79 => ?_)
  refine am_iload_n hC dL_law_82 rfl ?_
  refine am_goto (tgt := 88) hC dL_law_83 (by decide) ?_
  refine am_icmp_ne (tgt := 142) hC dL_law_88 (by decide) (fun c_88 => absurd (by decide) c_88) (fun c_88 => ?_)
  refine am_aload_n hC dL_law_91 rfl ?_
  refine am_bipush (v := nI 15) hC dL_law_92 (by decide) ?_
  refine am_iconst (v := nI 0) hC dL_law_94 (by decide) ?_
  refine am_iconst (v := nI 0) hC dL_law_95 (by decide) ?_
  refine am_iconst (v := nI 0) hC dL_law_96 (by decide) ?_
  refine am_iconst (v := nI 0) hC dL_law_97 (by decide) ?_
  refine am_callSX hC [.ref (3), .int (nI 15), .int (nI 0), .int (nI 0), .int (nI 0), .int (nI 0)] mf_L_act tw_447 (c_act15 _ _ (am_tr hC) h hS _ _ _ _) rfl ⟨rfl, Nat.le_of_ble_eq_true rfl⟩ ⟨by decide, by decide⟩ (by decide) (by decide) dL_law_98 rfl (fun _ _ q _ => False.elim q) (fun v h hp hlc => ?_)
  obtain ⟨rfl, hS⟩ := z_goa (x' := nI 16) (σ' := qs_127) (by decide +kernel) (z_sx (by decide +kernel)) hp
  refine am_iload_n hC dL_law_101 rfl ?_
  refine am_bipush (v := nI 30) hC dL_law_102 (by decide) ?_
  refine am_icmp_ge (tgt := 111) hC dL_law_104 (by decide) (fun c_104 => absurd c_104 (by decide)) (fun c_104 => ?_)
  refine am_iload_n hC dL_law_107 rfl ?_
  refine am_goto (tgt := 113) hC dL_law_108 (by decide) ?_
  refine am_icmp_ne (tgt := 142) hC dL_law_113 (by decide) (fun c_113 => absurd (by decide) c_113) (fun c_113 => ?_)
  refine am_iload_n hC dL_law_116 rfl ?_
  refine am_bipush (v := nI 30) hC dL_law_117 (by decide) ?_
  refine am_icmp_ge (tgt := 144) hC dL_law_119 (by decide) (fun c_119 => absurd c_119 (by decide)) (fun c_119 => ?_)
  refine am_aload_n hC dL_law_122 rfl ?_
  refine am_iload_n hC dL_law_123 rfl ?_
  refine am_callV hC (ci := 6) (N := 4) [.int (nI 16)] rfl (SZ_3 hS) rfl mf_X5_permitOf tw_426 (d_permitOf _ _ (am_tr hC) h hS _) rfl ⟨rfl, Nat.le_of_ble_eq_true rfl⟩ ⟨by decide, by decide⟩ (by decide) (by decide) dL_law_124 rfl (fun _ _ q _ => (XN_0 q.2 (by decide +kernel)).elim) (fun v h hp hlc => ?_)
  obtain ⟨rfl, hS⟩ := z_go (x' := nI 16) (σ' := qs_127) (by decide +kernel) rfl hp
  refine am_iload_n hC dL_law_127 rfl ?_
  refine am_bipush (v := nI 20) hC dL_law_128 (by decide) ?_
  refine am_icmp_ge (tgt := 137) hC dL_law_130 (by decide) (fun c_130 => absurd c_130 (by decide)) (fun c_130 => ?_)
  refine am_iload_n hC dL_law_133 rfl ?_
  refine am_goto (tgt := 139) hC dL_law_134 (by decide) ?_
  refine am_icmp_eq (tgt := 144) hC dL_law_139 (by decide) (fun c_139 => ?_) (fun c_139 => absurd (by decide) c_139)
  refine am_iinc (v := nI 17) hC dL_law_144 rfl (by decide) (by decide) ?_
  change am_W _ _ _ _ [.ref (41), .ref (3), .int (nI 17), .null, .null] _ _
  refine am_goto (tgt := 60) hC dL_law_147 (by decide) ?_
  refine am_iload_n hC dL_law_60 rfl ?_
  refine am_bipush (v := nI 31) hC dL_law_61 (by decide) ?_
  refine am_icmp_ge (tgt := 150) hC dL_law_63 (by decide) (fun c_63 => absurd c_63 (by decide)) (fun c_63 => ?_)
  refine am_aload_n hC dL_law_66 rfl ?_
  refine am_bipush (v := nI 13) hC dL_law_67 (by decide) ?_
  refine am_iconst (v := nI 0) hC dL_law_69 (by decide) ?_
  refine am_iconst (v := nI 0) hC dL_law_70 (by decide) ?_
  refine am_iconst (v := nI 0) hC dL_law_71 (by decide) ?_
  refine am_iconst (v := nI 0) hC dL_law_72 (by decide) ?_
  refine am_callSX hC [.ref (3), .int (nI 13), .int (nI 0), .int (nI 0), .int (nI 0), .int (nI 0)] mf_L_act tw_447 (c_act13 _ _ (am_tr hC) h hS _ _ _ _ true (fun _ => by rw [dn_nI (by decide)]; exact z_VWo qv_40 (by decide +kernel))) rfl ⟨rfl, Nat.le_of_ble_eq_true rfl⟩ ⟨by decide, by decide⟩ (by decide) (by decide) dL_law_73 rfl (fun _ _ q _ => False.elim q) (fun v h hp hlc => ?_)
  obtain ⟨rfl, hS⟩ := z_goa (x' := nI 17) (σ' := qs_128) (by decide +kernel) (z_sx (by decide +kernel)) hp
  refine am_iload_n hC dL_law_76 rfl ?_
  refine am_bipush (v := nI 20) hC dL_law_77 (by decide) ?_
  refine am_icmp_ge (tgt := 86) hC dL_law_79 (by decide) (fun c_79 => absurd c_79 (by decide)) (fun c_79 => ?_)
  refine am_iload_n hC dL_law_82 rfl ?_
  refine am_goto (tgt := 88) hC dL_law_83 (by decide) ?_
  refine am_icmp_ne (tgt := 142) hC dL_law_88 (by decide) (fun c_88 => absurd (by decide) c_88) (fun c_88 => ?_)
  refine am_aload_n hC dL_law_91 rfl ?_
  refine am_bipush (v := nI 15) hC dL_law_92 (by decide) ?_
  refine am_iconst (v := nI 0) hC dL_law_94 (by decide) ?_
  refine am_iconst (v := nI 0) hC dL_law_95 (by decide) ?_
  refine am_iconst (v := nI 0) hC dL_law_96 (by decide) ?_
  refine am_iconst (v := nI 0) hC dL_law_97 (by decide) ?_
  refine am_callSX hC [.ref (3), .int (nI 15), .int (nI 0), .int (nI 0), .int (nI 0), .int (nI 0)] mf_L_act tw_447 (c_act15 _ _ (am_tr hC) h hS _ _ _ _) rfl ⟨rfl, Nat.le_of_ble_eq_true rfl⟩ ⟨by decide, by decide⟩ (by decide) (by decide) dL_law_98 rfl (fun _ _ q _ => False.elim q) (fun v h hp hlc => ?_)
  obtain ⟨rfl, hS⟩ := z_goa (x' := nI 17) (σ' := qs_129) (by decide +kernel) (z_sx (by decide +kernel)) hp
  refine am_iload_n hC dL_law_101 rfl ?_
  refine am_bipush (v := nI 30) hC dL_law_102 (by decide) ?_
  refine am_icmp_ge (tgt := 111) hC dL_law_104 (by decide) (fun c_104 => absurd c_104 (by decide)) (fun c_104 => ?_)
  refine am_iload_n hC dL_law_107 rfl ?_
  refine am_goto (tgt := 113) hC dL_law_108 (by decide) ?_
  refine am_icmp_ne (tgt := 142) hC dL_law_113 (by decide) (fun c_113 => absurd (by decide) c_113) (fun c_113 => ?_)
  exact am_more (kc' := 15946) (ks' := 271034) (by decide) (by decide) (law_c6 hC hX hL hfin h hS)
set_option maxRecDepth 100000 in
set_option maxHeartbeats 4000000 in
theorem law_c4 {Z : am_Z} {L : Nat} {xs : Nat → Int32} (hC : am_OK Z "HousePlansLaw" cL_law 5 20 618172 7247108) (hX : SCR Z L xs) (hL : L ≤ 260) (hfin : ∀ (kc ks : Nat) (ls : List Value) (h : am_H), kc ≤ 618172 → ks ≤ 7247108 → am_W Z kc ks 308 ls [.int (nI 1)] h) (h : am_H) (hS : SZ h qs_115) : am_W Z 15758 268086 144 [.ref (41), .ref (3), .int (nI 10), .null, .null] [] h := by
  refine am_iinc (v := nI 11) hC dL_law_144 rfl (by decide) (by decide) ?_
  change am_W _ _ _ _ [.ref (41), .ref (3), .int (nI 11), .null, .null] _ _
  refine am_goto (tgt := 60) hC dL_law_147 (by decide) ?_
  refine am_iload_n hC dL_law_60 rfl ?_
  refine am_bipush (v := nI 31) hC dL_law_61 (by decide) ?_
  refine am_icmp_ge (tgt := 150) hC dL_law_63 (by decide) (fun c_63 => absurd c_63 (by decide)) (fun c_63 => ?_)
  refine am_aload_n hC dL_law_66 rfl ?_
  refine am_bipush (v := nI 13) hC dL_law_67 (by decide) ?_
  refine am_iconst (v := nI 0) hC dL_law_69 (by decide) ?_
  refine am_iconst (v := nI 0) hC dL_law_70 (by decide) ?_
  refine am_iconst (v := nI 0) hC dL_law_71 (by decide) ?_
  refine am_iconst (v := nI 0) hC dL_law_72 (by decide) ?_
  refine am_callSX hC [.ref (3), .int (nI 13), .int (nI 0), .int (nI 0), .int (nI 0), .int (nI 0)] mf_L_act tw_447 (c_act13 _ _ (am_tr hC) h hS _ _ _ _ true (fun _ => by rw [dn_nI (by decide)]; exact z_VWo qv_34 (by decide +kernel))) rfl ⟨rfl, Nat.le_of_ble_eq_true rfl⟩ ⟨by decide, by decide⟩ (by decide) (by decide) dL_law_73 rfl (fun _ _ q _ => False.elim q) (fun v h hp hlc => ?_)
  obtain ⟨rfl, hS⟩ := z_goa (x' := nI 11) (σ' := qs_116) (by decide +kernel) (z_sx (by decide +kernel)) hp
  refine am_iload_n hC dL_law_76 rfl ?_
  refine am_bipush (v := nI 20) hC dL_law_77 (by decide) ?_
  refine am_icmp_ge (tgt := 86) hC dL_law_79 (by decide) (fun c_79 => absurd c_79 (by decide)) (fun c_79 => ?_)
  refine am_iload_n hC dL_law_82 rfl ?_
  refine am_goto (tgt := 88) hC dL_law_83 (by decide) ?_
  refine am_icmp_ne (tgt := 142) hC dL_law_88 (by decide) (fun c_88 => absurd (by decide) c_88) (fun c_88 => ?_)
  refine am_aload_n hC dL_law_91 rfl ?_
  refine am_bipush (v := nI 15) hC dL_law_92 (by decide) ?_
  refine am_iconst (v := nI 0) hC dL_law_94 (by decide) ?_
  refine am_iconst (v := nI 0) hC dL_law_95 (by decide) ?_
  refine am_iconst (v := nI 0) hC dL_law_96 (by decide) ?_
  refine am_iconst (v := nI 0) hC dL_law_97 (by decide) ?_
  refine am_callSX hC [.ref (3), .int (nI 15), .int (nI 0), .int (nI 0), .int (nI 0), .int (nI 0)] mf_L_act tw_447 (c_act15 _ _ (am_tr hC) h hS _ _ _ _) rfl ⟨rfl, Nat.le_of_ble_eq_true rfl⟩ ⟨by decide, by decide⟩ (by decide) (by decide) dL_law_98 rfl (fun _ _ q _ => False.elim q) (fun v h hp hlc => ?_)
  obtain ⟨rfl, hS⟩ := z_goa (x' := nI 11) (σ' := qs_117) (by decide +kernel) (z_sx (by decide +kernel)) hp
  refine am_iload_n hC dL_law_101 rfl ?_
  refine am_bipush (v := nI 30) hC dL_law_102 (by decide) ?_
  refine am_icmp_ge (tgt := 111) hC dL_law_104 (by decide) (fun c_104 => absurd c_104 (by decide)) (fun c_104 => ?_)
  refine am_iload_n hC dL_law_107 rfl ?_
  refine am_goto (tgt := 113) hC dL_law_108 (by decide) ?_
  refine am_icmp_ne (tgt := 142) hC dL_law_113 (by decide) (fun c_113 => absurd (by decide) c_113) (fun c_113 => ?_)
  refine am_iload_n hC dL_law_116 rfl ?_
  refine am_bipush (v := nI 30) hC dL_law_117 (by decide) ?_
  refine am_icmp_ge (tgt := 144) hC dL_law_119 (by decide) (fun c_119 => absurd c_119 (by decide)) (fun c_119 => ?_)
  refine am_aload_n hC dL_law_122 rfl ?_
  refine am_iload_n hC dL_law_123 rfl ?_
  refine am_callV hC (ci := 6) (N := 4) [.int (nI 11)] rfl (SZ_3 hS) rfl mf_X5_permitOf tw_426 (d_permitOf _ _ (am_tr hC) h hS _) rfl ⟨rfl, Nat.le_of_ble_eq_true rfl⟩ ⟨by decide, by decide⟩ (by decide) (by decide) dL_law_124 rfl (fun _ _ q _ => (XN_0 q.2 (by decide +kernel)).elim) (fun v h hp hlc => ?_)
  obtain ⟨rfl, hS⟩ := z_go (x' := nI 11) (σ' := qs_117) (by decide +kernel) rfl hp
  refine am_iload_n hC dL_law_127 rfl ?_
  refine am_bipush (v := nI 20) hC dL_law_128 (by decide) ?_
  refine am_icmp_ge (tgt := 137) hC dL_law_130 (by decide) (fun c_130 => absurd c_130 (by decide)) (fun c_130 => ?_)
  refine am_iload_n hC dL_law_133 rfl ?_
  refine am_goto (tgt := 139) hC dL_law_134 (by decide) ?_
  refine am_icmp_eq (tgt := 144) hC dL_law_139 (by decide) (fun c_139 => ?_) (fun c_139 => absurd (by decide) c_139)
  refine am_iinc (v := nI 12) hC dL_law_144 rfl (by decide) (by decide) ?_
  change am_W _ _ _ _ [.ref (41), .ref (3), .int (nI 12), .null, .null] _ _
  refine am_goto (tgt := 60) hC dL_law_147 (by decide) ?_
  refine am_iload_n hC dL_law_60 rfl ?_
  refine am_bipush (v := nI 31) hC dL_law_61 (by decide) ?_
  refine am_icmp_ge (tgt := 150) hC dL_law_63 (by decide) (fun c_63 => absurd c_63 (by decide)) (fun c_63 => ?_)
  refine am_aload_n hC dL_law_66 rfl ?_
  refine am_bipush (v := nI 13) hC dL_law_67 (by decide) ?_
  refine am_iconst (v := nI 0) hC dL_law_69 (by decide) ?_
  refine am_iconst (v := nI 0) hC dL_law_70 (by decide) ?_
  refine am_iconst (v := nI 0) hC dL_law_71 (by decide) ?_
  refine am_iconst (v := nI 0) hC dL_law_72 (by decide) ?_
  refine am_callSX hC [.ref (3), .int (nI 13), .int (nI 0), .int (nI 0), .int (nI 0), .int (nI 0)] mf_L_act tw_447 (c_act13 _ _ (am_tr hC) h hS _ _ _ _ true (fun _ => by rw [dn_nI (by decide)]; exact z_VWo qv_35 (by decide +kernel))) rfl ⟨rfl, Nat.le_of_ble_eq_true rfl⟩ ⟨by decide, by decide⟩ (by decide) (by decide) dL_law_73 rfl (fun _ _ q _ => False.elim q) (fun v h hp hlc => ?_)
  obtain ⟨rfl, hS⟩ := z_goa (x' := nI 12) (σ' := qs_118) (by decide +kernel) (z_sx (by decide +kernel)) hp
  refine am_iload_n hC dL_law_76 rfl ?_
  refine am_bipush (v := nI 20) hC dL_law_77 (by decide) ?_
  refine am_icmp_ge (tgt := 86) hC dL_law_79 (by decide) (fun c_79 => absurd c_79 (by decide)) (fun c_79 => ?_)
  refine am_iload_n hC dL_law_82 rfl ?_
  refine am_goto (tgt := 88) hC dL_law_83 (by decide) ?_
  refine am_icmp_ne (tgt := 142) hC dL_law_88 (by decide) (fun c_88 => absurd (by decide) c_88) (fun c_88 => ?_)
  refine am_aload_n hC dL_law_91 rfl ?_
  refine am_bipush (v := nI 15) hC dL_law_92 (by decide) ?_
  refine am_iconst (v := nI 0) hC dL_law_94 (by decide) ?_
  refine am_iconst (v := nI 0) hC dL_law_95 (by decide) ?_
  refine am_iconst (v := nI 0) hC dL_law_96 (by decide) ?_
  refine am_iconst (v := nI 0) hC dL_law_97 (by decide) ?_
  refine am_callSX hC [.ref (3), .int (nI 15), .int (nI 0), .int (nI 0), .int (nI 0), .int (nI 0)] mf_L_act tw_447 (c_act15 _ _ (am_tr hC) h hS _ _ _ _) rfl ⟨rfl, Nat.le_of_ble_eq_true rfl⟩ ⟨by decide, by decide⟩ (by decide) (by decide) dL_law_98 rfl (fun _ _ q _ => False.elim q) (fun v h hp hlc => ?_)
  obtain ⟨rfl, hS⟩ := z_goa (x' := nI 12) (σ' := qs_119) (by decide +kernel) (z_sx (by decide +kernel)) hp
  refine am_iload_n hC dL_law_101 rfl ?_
  refine am_bipush (v := nI 30) hC dL_law_102 (by decide) ?_
  refine am_icmp_ge (tgt := 111) hC dL_law_104 (by decide) (fun c_104 => absurd c_104 (by decide)) (fun c_104 => ?_)
  refine am_iload_n hC dL_law_107 rfl ?_
  refine am_goto (tgt := 113) hC dL_law_108 (by decide) ?_
  refine am_icmp_ne (tgt := 142) hC dL_law_113 (by decide) (fun c_113 => absurd (by decide) c_113) (fun c_113 => ?_)
  refine am_iload_n hC dL_law_116 rfl ?_
  refine am_bipush (v := nI 30) hC dL_law_117 (by decide) ?_
  refine am_icmp_ge (tgt := 144) hC dL_law_119 (by decide) (fun c_119 => absurd c_119 (by decide)) (fun c_119 => ?_)
  refine am_aload_n hC dL_law_122 rfl ?_
  refine am_iload_n hC dL_law_123 rfl ?_
  refine am_callV hC (ci := 6) (N := 4) [.int (nI 12)] rfl (SZ_3 hS) rfl mf_X5_permitOf tw_426 (d_permitOf _ _ (am_tr hC) h hS _) rfl ⟨rfl, Nat.le_of_ble_eq_true rfl⟩ ⟨by decide, by decide⟩ (by decide) (by decide) dL_law_124 rfl (fun _ _ q _ => (XN_0 q.2 (by decide +kernel)).elim) (fun v h hp hlc => ?_)
  obtain ⟨rfl, hS⟩ := z_go (x' := nI 12) (σ' := qs_119) (by decide +kernel) rfl hp
  refine am_iload_n hC dL_law_127 rfl ?_
  refine am_bipush (v := nI 20) hC dL_law_128 (by decide) ?_
  refine am_icmp_ge (tgt := 137) hC dL_law_130 (by decide) (fun c_130 => absurd c_130 (by decide)) (fun c_130 => ?_)
  refine am_iload_n hC dL_law_133 rfl ?_
  refine am_goto (tgt := 139) hC dL_law_134 (by decide) ?_
  refine am_icmp_eq (tgt := 144) hC dL_law_139 (by decide) (fun c_139 => ?_) (fun c_139 => absurd (by decide) c_139)
  refine am_iinc (v := nI 13) hC dL_law_144 rfl (by decide) (by decide) ?_
  change am_W _ _ _ _ [.ref (41), .ref (3), .int (nI 13), .null, .null] _ _
  refine am_goto (tgt := 60) hC dL_law_147 (by decide) ?_
  refine am_iload_n hC dL_law_60 rfl ?_
  refine am_bipush (v := nI 31) hC dL_law_61 (by decide) ?_
  refine am_icmp_ge (tgt := 150) hC dL_law_63 (by decide) (fun c_63 => absurd c_63 (by decide)) (fun c_63 => ?_)
  refine am_aload_n hC dL_law_66 rfl ?_
  refine am_bipush (v := nI 13) hC dL_law_67 (by decide) ?_
  refine am_iconst (v := nI 0) hC dL_law_69 (by decide) ?_
  refine am_iconst (v := nI 0) hC dL_law_70 (by decide) ?_
  refine am_iconst (v := nI 0) hC dL_law_71 (by decide) ?_
  refine am_iconst (v := nI 0) hC dL_law_72 (by decide) ?_
  refine am_callSX hC [.ref (3), .int (nI 13), .int (nI 0), .int (nI 0), .int (nI 0), .int (nI 0)] mf_L_act tw_447 (c_act13 _ _ (am_tr hC) h hS _ _ _ _ true (fun _ => by rw [dn_nI (by decide)]; exact z_VWo qv_36 (by decide +kernel))) rfl ⟨rfl, Nat.le_of_ble_eq_true rfl⟩ ⟨by decide, by decide⟩ (by decide) (by decide) dL_law_73 rfl (fun _ _ q _ => False.elim q) (fun v h hp hlc => ?_)
  obtain ⟨rfl, hS⟩ := z_goa (x' := nI 13) (σ' := qs_120) (by decide +kernel) (z_sx (by decide +kernel)) hp
  refine am_iload_n hC dL_law_76 rfl ?_
  refine am_bipush (v := nI 20) hC dL_law_77 (by decide) ?_
  refine am_icmp_ge (tgt := 86) hC dL_law_79 (by decide) (fun c_79 => absurd c_79 (by decide)) (fun c_79 => ?_)
  refine am_iload_n hC dL_law_82 rfl ?_
  refine am_goto (tgt := 88) hC dL_law_83 (by decide) ?_
  refine am_icmp_ne (tgt := 142) hC dL_law_88 (by decide) (fun c_88 => absurd (by decide) c_88) (fun c_88 => ?_)
  refine am_aload_n hC dL_law_91 rfl ?_
  refine am_bipush (v := nI 15) hC dL_law_92 (by decide) ?_
  refine am_iconst (v := nI 0) hC dL_law_94 (by decide) ?_
  refine am_iconst (v := nI 0) hC dL_law_95 (by decide) ?_
  refine am_iconst (v := nI 0) hC dL_law_96 (by decide) ?_
  refine am_iconst (v := nI 0) hC dL_law_97 (by decide) ?_
  refine am_callSX hC [.ref (3), .int (nI 15), .int (nI 0), .int (nI 0), .int (nI 0), .int (nI 0)] mf_L_act tw_447 (c_act15 _ _ (am_tr hC) h hS _ _ _ _) rfl ⟨rfl, Nat.le_of_ble_eq_true rfl⟩ ⟨by decide, by decide⟩ (by decide) (by decide) dL_law_98 rfl (fun _ _ q _ => False.elim q) (fun v h hp hlc => ?_)
  obtain ⟨rfl, hS⟩ := z_goa (x' := nI 13) (σ' := qs_121) (by decide +kernel) (z_sx (by decide +kernel)) hp
  refine am_iload_n hC dL_law_101 rfl ?_
  refine am_bipush (v := nI 30) hC dL_law_102 (by decide) ?_
  refine am_icmp_ge (tgt := 111) hC dL_law_104 (by decide) (fun c_104 => absurd c_104 (by decide)) (fun c_104 => ?_)
  refine am_iload_n hC dL_law_107 rfl ?_
  refine am_goto (tgt := 113) hC dL_law_108 (by decide) ?_
  refine am_icmp_ne (tgt := 142) hC dL_law_113 (by decide) (fun c_113 => absurd (by decide) c_113) (fun c_113 => ?_)
  refine am_iload_n hC dL_law_116 rfl ?_
  refine am_bipush (v := nI 30) hC dL_law_117 (by decide) ?_
  refine am_icmp_ge (tgt := 144) hC dL_law_119 (by decide) (fun c_119 => absurd c_119 (by decide)) (fun c_119 => ?_)
  refine am_aload_n hC dL_law_122 rfl ?_
  refine am_iload_n hC dL_law_123 rfl ?_
  refine am_callV hC (ci := 6) (N := 4) [.int (nI 13)] rfl (SZ_3 hS) rfl mf_X5_permitOf tw_426 (d_permitOf _ _ (am_tr hC) h hS _) rfl ⟨rfl, Nat.le_of_ble_eq_true rfl⟩ ⟨by decide, by decide⟩ (by decide) (by decide) dL_law_124 rfl (fun _ _ q _ => (XN_0 q.2 (by decide +kernel)).elim) (fun v h hp hlc => ?_)
  obtain ⟨rfl, hS⟩ := z_go (x' := nI 13) (σ' := qs_121) (by decide +kernel) rfl hp
  refine am_iload_n hC dL_law_127 rfl ?_
  refine am_bipush (v := nI 20) hC dL_law_128 (by decide) ?_
  refine am_icmp_ge (tgt := 137) hC dL_law_130 (by decide) (fun c_130 => absurd c_130 (by decide)) (fun c_130 => ?_)
  refine am_iload_n hC dL_law_133 rfl ?_
  refine am_goto (tgt := 139) hC dL_law_134 (by decide) ?_
  refine am_icmp_eq (tgt := 144) hC dL_law_139 (by decide) (fun c_139 => ?_) (fun c_139 => absurd (by decide) c_139)
  refine am_iinc (v := nI 14) hC dL_law_144 rfl (by decide) (by decide) ?_
  change am_W _ _ _ _ [.ref (41), .ref (3), .int (nI 14), .null, .null] _ _
  refine am_goto (tgt := 60) hC dL_law_147 (by decide) ?_
  refine am_iload_n hC dL_law_60 rfl ?_
  refine am_bipush (v := nI 31) hC dL_law_61 (by decide) ?_
  refine am_icmp_ge (tgt := 150) hC dL_law_63 (by decide) (fun c_63 => absurd c_63 (by decide)) (fun c_63 => ?_)
  refine am_aload_n hC dL_law_66 rfl ?_
  refine am_bipush (v := nI 13) hC dL_law_67 (by decide) ?_
  refine am_iconst (v := nI 0) hC dL_law_69 (by decide) ?_
  refine am_iconst (v := nI 0) hC dL_law_70 (by decide) ?_
  refine am_iconst (v := nI 0) hC dL_law_71 (by decide) ?_
  refine am_iconst (v := nI 0) hC dL_law_72 (by decide) ?_
  refine am_callSX hC [.ref (3), .int (nI 13), .int (nI 0), .int (nI 0), .int (nI 0), .int (nI 0)] mf_L_act tw_447 (c_act13 _ _ (am_tr hC) h hS _ _ _ _ true (fun _ => by rw [dn_nI (by decide)]; exact z_VWo qv_37 (by decide +kernel))) rfl ⟨rfl, Nat.le_of_ble_eq_true rfl⟩ ⟨by decide, by decide⟩ (by decide) (by decide) dL_law_73 rfl (fun _ _ q _ => False.elim q) (fun v h hp hlc => ?_)
  obtain ⟨rfl, hS⟩ := z_goa (x' := nI 14) (σ' := qs_122) (by decide +kernel) (z_sx (by decide +kernel)) hp
  refine am_iload_n hC dL_law_76 rfl ?_
  refine am_bipush (v := nI 20) hC dL_law_77 (by decide) ?_
  refine am_icmp_ge (tgt := 86) hC dL_law_79 (by decide) (fun c_79 => absurd c_79 (by decide)) (fun c_79 => ?_)
  refine am_iload_n hC dL_law_82 rfl ?_
  refine am_goto (tgt := 88) hC dL_law_83 (by decide) ?_
  refine am_icmp_ne (tgt := 142) hC dL_law_88 (by decide) (fun c_88 => absurd (by decide) c_88) (fun c_88 => ?_)
  exact am_more (kc' := 15852) (ks' := 269560) (by decide) (by decide) (law_c5 hC hX hL hfin h hS)
set_option maxRecDepth 100000 in
set_option maxHeartbeats 4000000 in
theorem law_c3 {Z : am_Z} {L : Nat} {xs : Nat → Int32} (hC : am_OK Z "HousePlansLaw" cL_law 5 20 618172 7247108) (hX : SCR Z L xs) (hL : L ≤ 260) (hfin : ∀ (kc ks : Nat) (ls : List Value) (h : am_H), kc ≤ 618172 → ks ≤ 7247108 → am_W Z kc ks 308 ls [.int (nI 1)] h) (h : am_H) (hS : SZ h qs_109) : am_W Z 15666 266754 116 [.ref (41), .ref (3), .int (nI 7), .null, .null] [] h := by
  refine am_iload_n hC dL_law_116 rfl ?_
  refine am_bipush (v := nI 30) hC dL_law_117 (by decide) ?_
  refine am_icmp_ge (tgt := 144) hC dL_law_119 (by decide) (fun c_119 => absurd c_119 (by decide)) (fun c_119 => ?_)
  refine am_aload_n hC dL_law_122 rfl ?_
  refine am_iload_n hC dL_law_123 rfl ?_
  refine am_callV hC (ci := 6) (N := 4) [.int (nI 7)] rfl (SZ_3 hS) rfl mf_X5_permitOf tw_426 (d_permitOf _ _ (am_tr hC) h hS _) rfl ⟨rfl, Nat.le_of_ble_eq_true rfl⟩ ⟨by decide, by decide⟩ (by decide) (by decide) dL_law_124 rfl (fun _ _ q _ => (XN_0 q.2 (by decide +kernel)).elim) (fun v h hp hlc => ?_)
  obtain ⟨rfl, hS⟩ := z_go (x' := nI 7) (σ' := qs_109) (by decide +kernel) rfl hp
  refine am_iload_n hC dL_law_127 rfl ?_
  refine am_bipush (v := nI 20) hC dL_law_128 (by decide) ?_
  refine am_icmp_ge (tgt := 137) hC dL_law_130 (by decide) (fun c_130 => absurd c_130 (by decide)) (fun c_130 => ?_)
  refine am_iload_n hC dL_law_133 rfl ?_
  refine am_goto (tgt := 139) hC dL_law_134 (by decide) ?_
  refine am_icmp_eq (tgt := 144) hC dL_law_139 (by decide) (fun c_139 => ?_) (fun c_139 => absurd (by decide) c_139)
  refine am_iinc (v := nI 8) hC dL_law_144 rfl (by decide) (by decide) ?_
  change am_W _ _ _ _ [.ref (41), .ref (3), .int (nI 8), .null, .null] _ _
  refine am_goto (tgt := 60) hC dL_law_147 (by decide) ?_
  refine am_iload_n hC dL_law_60 rfl ?_
  refine am_bipush (v := nI 31) hC dL_law_61 (by decide) ?_
  refine am_icmp_ge (tgt := 150) hC dL_law_63 (by decide) (fun c_63 => absurd c_63 (by decide)) (fun c_63 => ?_)
  refine am_aload_n hC dL_law_66 rfl ?_
  refine am_bipush (v := nI 13) hC dL_law_67 (by decide) ?_
  refine am_iconst (v := nI 0) hC dL_law_69 (by decide) ?_
  refine am_iconst (v := nI 0) hC dL_law_70 (by decide) ?_
  refine am_iconst (v := nI 0) hC dL_law_71 (by decide) ?_
  refine am_iconst (v := nI 0) hC dL_law_72 (by decide) ?_
  refine am_callSX hC [.ref (3), .int (nI 13), .int (nI 0), .int (nI 0), .int (nI 0), .int (nI 0)] mf_L_act tw_447 (c_act13 _ _ (am_tr hC) h hS _ _ _ _ true (fun _ => by rw [dn_nI (by decide)]; exact z_VWo qv_31 (by decide +kernel))) rfl ⟨rfl, Nat.le_of_ble_eq_true rfl⟩ ⟨by decide, by decide⟩ (by decide) (by decide) dL_law_73 rfl (fun _ _ q _ => False.elim q) (fun v h hp hlc => ?_)
  obtain ⟨rfl, hS⟩ := z_goa (x' := nI 8) (σ' := qs_110) (by decide +kernel) (z_sx (by decide +kernel)) hp
  refine am_iload_n hC dL_law_76 rfl ?_
  refine am_bipush (v := nI 20) hC dL_law_77 (by decide) ?_
  refine am_icmp_ge (tgt := 86) hC dL_law_79 (by decide) (fun c_79 => absurd c_79 (by decide)) (fun c_79 => ?_)
  refine am_iload_n hC dL_law_82 rfl ?_
  refine am_goto (tgt := 88) hC dL_law_83 (by decide) ?_
  refine am_icmp_ne (tgt := 142) hC dL_law_88 (by decide) (fun c_88 => absurd (by decide) c_88) (fun c_88 => ?_)
  refine am_aload_n hC dL_law_91 rfl ?_
  refine am_bipush (v := nI 15) hC dL_law_92 (by decide) ?_
  refine am_iconst (v := nI 0) hC dL_law_94 (by decide) ?_
  refine am_iconst (v := nI 0) hC dL_law_95 (by decide) ?_
  refine am_iconst (v := nI 0) hC dL_law_96 (by decide) ?_
  refine am_iconst (v := nI 0) hC dL_law_97 (by decide) ?_
  refine am_callSX hC [.ref (3), .int (nI 15), .int (nI 0), .int (nI 0), .int (nI 0), .int (nI 0)] mf_L_act tw_447 (c_act15 _ _ (am_tr hC) h hS _ _ _ _) rfl ⟨rfl, Nat.le_of_ble_eq_true rfl⟩ ⟨by decide, by decide⟩ (by decide) (by decide) dL_law_98 rfl (fun _ _ q _ => False.elim q) (fun v h hp hlc => ?_)
  obtain ⟨rfl, hS⟩ := z_goa (x' := nI 8) (σ' := qs_111) (by decide +kernel) (z_sx (by decide +kernel)) hp
  refine am_iload_n hC dL_law_101 rfl ?_
  refine am_bipush (v := nI 30) hC dL_law_102 (by decide) ?_
  refine am_icmp_ge (tgt := 111) hC dL_law_104 (by decide) (fun c_104 => absurd c_104 (by decide)) (fun c_104 => ?_)
  refine am_iload_n hC dL_law_107 rfl ?_
  refine am_goto (tgt := 113) hC dL_law_108 (by decide) ?_
  refine am_icmp_ne (tgt := 142) hC dL_law_113 (by decide) (fun c_113 => absurd (by decide) c_113) (fun c_113 => ?_)
  refine am_iload_n hC dL_law_116 rfl ?_
  refine am_bipush (v := nI 30) hC dL_law_117 (by decide) ?_
  refine am_icmp_ge (tgt := 144) hC dL_law_119 (by decide) (fun c_119 => absurd c_119 (by decide)) (fun c_119 => ?_)
  refine am_aload_n hC dL_law_122 rfl ?_
  refine am_iload_n hC dL_law_123 rfl ?_
  refine am_callV hC (ci := 6) (N := 4) [.int (nI 8)] rfl (SZ_3 hS) rfl mf_X5_permitOf tw_426 (d_permitOf _ _ (am_tr hC) h hS _) rfl ⟨rfl, Nat.le_of_ble_eq_true rfl⟩ ⟨by decide, by decide⟩ (by decide) (by decide) dL_law_124 rfl (fun _ _ q _ => (XN_0 q.2 (by decide +kernel)).elim) (fun v h hp hlc => ?_)
  obtain ⟨rfl, hS⟩ := z_go (x' := nI 8) (σ' := qs_111) (by decide +kernel) rfl hp
  refine am_iload_n hC dL_law_127 rfl ?_
  refine am_bipush (v := nI 20) hC dL_law_128 (by decide) ?_
  refine am_icmp_ge (tgt := 137) hC dL_law_130 (by decide) (fun c_130 => absurd c_130 (by decide)) (fun c_130 => ?_)
  refine am_iload_n hC dL_law_133 rfl ?_
  refine am_goto (tgt := 139) hC dL_law_134 (by decide) ?_
  refine am_icmp_eq (tgt := 144) hC dL_law_139 (by decide) (fun c_139 => ?_) (fun c_139 => absurd (by decide) c_139)
  refine am_iinc (v := nI 9) hC dL_law_144 rfl (by decide) (by decide) ?_
  change am_W _ _ _ _ [.ref (41), .ref (3), .int (nI 9), .null, .null] _ _
  refine am_goto (tgt := 60) hC dL_law_147 (by decide) ?_
  refine am_iload_n hC dL_law_60 rfl ?_
  refine am_bipush (v := nI 31) hC dL_law_61 (by decide) ?_
  refine am_icmp_ge (tgt := 150) hC dL_law_63 (by decide) (fun c_63 => absurd c_63 (by decide)) (fun c_63 => ?_)
  refine am_aload_n hC dL_law_66 rfl ?_
  refine am_bipush (v := nI 13) hC dL_law_67 (by decide) ?_
  refine am_iconst (v := nI 0) hC dL_law_69 (by decide) ?_
  refine am_iconst (v := nI 0) hC dL_law_70 (by decide) ?_
  refine am_iconst (v := nI 0) hC dL_law_71 (by decide) ?_
  refine am_iconst (v := nI 0) hC dL_law_72 (by decide) ?_
  refine am_callSX hC [.ref (3), .int (nI 13), .int (nI 0), .int (nI 0), .int (nI 0), .int (nI 0)] mf_L_act tw_447 (c_act13 _ _ (am_tr hC) h hS _ _ _ _ true (fun _ => by rw [dn_nI (by decide)]; exact z_VWo qv_32 (by decide +kernel))) rfl ⟨rfl, Nat.le_of_ble_eq_true rfl⟩ ⟨by decide, by decide⟩ (by decide) (by decide) dL_law_73 rfl (fun _ _ q _ => False.elim q) (fun v h hp hlc => ?_)
  obtain ⟨rfl, hS⟩ := z_goa (x' := nI 9) (σ' := qs_112) (by decide +kernel) (z_sx (by decide +kernel)) hp
  refine am_iload_n hC dL_law_76 rfl ?_
  refine am_bipush (v := nI 20) hC dL_law_77 (by decide) ?_
  refine am_icmp_ge (tgt := 86) hC dL_law_79 (by decide) (fun c_79 => absurd c_79 (by decide)) (fun c_79 => ?_)
  refine am_iload_n hC dL_law_82 rfl ?_
  refine am_goto (tgt := 88) hC dL_law_83 (by decide) ?_
  refine am_icmp_ne (tgt := 142) hC dL_law_88 (by decide) (fun c_88 => absurd (by decide) c_88) (fun c_88 => ?_)
  refine am_aload_n hC dL_law_91 rfl ?_
  refine am_bipush (v := nI 15) hC dL_law_92 (by decide) ?_
  refine am_iconst (v := nI 0) hC dL_law_94 (by decide) ?_
  refine am_iconst (v := nI 0) hC dL_law_95 (by decide) ?_
  refine am_iconst (v := nI 0) hC dL_law_96 (by decide) ?_
  refine am_iconst (v := nI 0) hC dL_law_97 (by decide) ?_
  refine am_callSX hC [.ref (3), .int (nI 15), .int (nI 0), .int (nI 0), .int (nI 0), .int (nI 0)] mf_L_act tw_447 (c_act15 _ _ (am_tr hC) h hS _ _ _ _) rfl ⟨rfl, Nat.le_of_ble_eq_true rfl⟩ ⟨by decide, by decide⟩ (by decide) (by decide) dL_law_98 rfl (fun _ _ q _ => False.elim q) (fun v h hp hlc => ?_)
  obtain ⟨rfl, hS⟩ := z_goa (x' := nI 9) (σ' := qs_113) (by decide +kernel) (z_sx (by decide +kernel)) hp
  refine am_iload_n hC dL_law_101 rfl ?_
  refine am_bipush (v := nI 30) hC dL_law_102 (by decide) ?_
  refine am_icmp_ge (tgt := 111) hC dL_law_104 (by decide) (fun c_104 => absurd c_104 (by decide)) (fun c_104 => ?_)
  refine am_iload_n hC dL_law_107 rfl ?_
  refine am_goto (tgt := 113) hC dL_law_108 (by decide) ?_
  refine am_icmp_ne (tgt := 142) hC dL_law_113 (by decide) (fun c_113 => absurd (by decide) c_113) (fun c_113 => ?_)
  refine am_iload_n hC dL_law_116 rfl ?_
  refine am_bipush (v := nI 30) hC dL_law_117 (by decide) ?_
  refine am_icmp_ge (tgt := 144) hC dL_law_119 (by decide) (fun c_119 => absurd c_119 (by decide)) (fun c_119 => ?_)
  refine am_aload_n hC dL_law_122 rfl ?_
  refine am_iload_n hC dL_law_123 rfl ?_
  refine am_callV hC (ci := 6) (N := 4) [.int (nI 9)] rfl (SZ_3 hS) rfl mf_X5_permitOf tw_426 (d_permitOf _ _ (am_tr hC) h hS _) rfl ⟨rfl, Nat.le_of_ble_eq_true rfl⟩ ⟨by decide, by decide⟩ (by decide) (by decide) dL_law_124 rfl (fun _ _ q _ => (XN_0 q.2 (by decide +kernel)).elim) (fun v h hp hlc => ?_)
  obtain ⟨rfl, hS⟩ := z_go (x' := nI 9) (σ' := qs_113) (by decide +kernel) rfl hp
  refine am_iload_n hC dL_law_127 rfl ?_
  refine am_bipush (v := nI 20) hC dL_law_128 (by decide) ?_
  refine am_icmp_ge (tgt := 137) hC dL_law_130 (by decide) (fun c_130 => absurd c_130 (by decide)) (fun c_130 => ?_)
  refine am_iload_n hC dL_law_133 rfl ?_
  refine am_goto (tgt := 139) hC dL_law_134 (by decide) ?_
  refine am_icmp_eq (tgt := 144) hC dL_law_139 (by decide) (fun c_139 => ?_) (fun c_139 => absurd (by decide) c_139)
  refine am_iinc (v := nI 10) hC dL_law_144 rfl (by decide) (by decide) ?_
  change am_W _ _ _ _ [.ref (41), .ref (3), .int (nI 10), .null, .null] _ _
  refine am_goto (tgt := 60) hC dL_law_147 (by decide) ?_
  refine am_iload_n hC dL_law_60 rfl ?_
  refine am_bipush (v := nI 31) hC dL_law_61 (by decide) ?_
  refine am_icmp_ge (tgt := 150) hC dL_law_63 (by decide) (fun c_63 => absurd c_63 (by decide)) (fun c_63 => ?_)
  refine am_aload_n hC dL_law_66 rfl ?_
  refine am_bipush (v := nI 13) hC dL_law_67 (by decide) ?_
  refine am_iconst (v := nI 0) hC dL_law_69 (by decide) ?_
  refine am_iconst (v := nI 0) hC dL_law_70 (by decide) ?_
  refine am_iconst (v := nI 0) hC dL_law_71 (by decide) ?_
  refine am_iconst (v := nI 0) hC dL_law_72 (by decide) ?_
  refine am_callSX hC [.ref (3), .int (nI 13), .int (nI 0), .int (nI 0), .int (nI 0), .int (nI 0)] mf_L_act tw_447 (c_act13 _ _ (am_tr hC) h hS _ _ _ _ true (fun _ => by rw [dn_nI (by decide)]; exact z_VWo qv_33 (by decide +kernel))) rfl ⟨rfl, Nat.le_of_ble_eq_true rfl⟩ ⟨by decide, by decide⟩ (by decide) (by decide) dL_law_73 rfl (fun _ _ q _ => False.elim q) (fun v h hp hlc => ?_)
  obtain ⟨rfl, hS⟩ := z_goa (x' := nI 10) (σ' := qs_114) (by decide +kernel) (z_sx (by decide +kernel)) hp
  refine am_iload_n hC dL_law_76 rfl ?_
  refine am_bipush (v := nI 20) hC dL_law_77 (by decide) ?_
  refine am_icmp_ge (tgt := 86) hC dL_law_79 (by decide) (fun c_79 => absurd c_79 (by decide)) (fun c_79 => ?_)
  refine am_iload_n hC dL_law_82 rfl ?_
  refine am_goto (tgt := 88) hC dL_law_83 (by decide) ?_
  refine am_icmp_ne (tgt := 142) hC dL_law_88 (by decide) (fun c_88 => absurd (by decide) c_88) (fun c_88 => ?_)
  refine am_aload_n hC dL_law_91 rfl ?_
  refine am_bipush (v := nI 15) hC dL_law_92 (by decide) ?_
  refine am_iconst (v := nI 0) hC dL_law_94 (by decide) ?_
  refine am_iconst (v := nI 0) hC dL_law_95 (by decide) ?_
  refine am_iconst (v := nI 0) hC dL_law_96 (by decide) ?_
  refine am_iconst (v := nI 0) hC dL_law_97 (by decide) ?_
  refine am_callSX hC [.ref (3), .int (nI 15), .int (nI 0), .int (nI 0), .int (nI 0), .int (nI 0)] mf_L_act tw_447 (c_act15 _ _ (am_tr hC) h hS _ _ _ _) rfl ⟨rfl, Nat.le_of_ble_eq_true rfl⟩ ⟨by decide, by decide⟩ (by decide) (by decide) dL_law_98 rfl (fun _ _ q _ => False.elim q) (fun v h hp hlc => ?_)
  obtain ⟨rfl, hS⟩ := z_goa (x' := nI 10) (σ' := qs_115) (by decide +kernel) (z_sx (by decide +kernel)) hp
  refine am_iload_n hC dL_law_101 rfl ?_
  refine am_bipush (v := nI 30) hC dL_law_102 (by decide) ?_
  refine am_icmp_ge (tgt := 111) hC dL_law_104 (by decide) (fun c_104 => absurd c_104 (by decide)) (fun c_104 => ?_)
  refine am_iload_n hC dL_law_107 rfl ?_
  refine am_goto (tgt := 113) hC dL_law_108 (by decide) ?_
  refine am_icmp_ne (tgt := 142) hC dL_law_113 (by decide) (fun c_113 => absurd (by decide) c_113) (fun c_113 => ?_)
  refine am_iload_n hC dL_law_116 rfl ?_
  refine am_bipush (v := nI 30) hC dL_law_117 (by decide) ?_
  refine am_icmp_ge (tgt := 144) hC dL_law_119 (by decide) (fun c_119 => absurd c_119 (by decide)) (fun c_119 => ?_)
  refine am_aload_n hC dL_law_122 rfl ?_
  refine am_iload_n hC dL_law_123 rfl ?_
  refine am_callV hC (ci := 6) (N := 4) [.int (nI 10)] rfl (SZ_3 hS) rfl mf_X5_permitOf tw_426 (d_permitOf _ _ (am_tr hC) h hS _) rfl ⟨rfl, Nat.le_of_ble_eq_true rfl⟩ ⟨by decide, by decide⟩ (by decide) (by decide) dL_law_124 rfl (fun _ _ q _ => (XN_0 q.2 (by decide +kernel)).elim) (fun v h hp hlc => ?_)
  obtain ⟨rfl, hS⟩ := z_go (x' := nI 10) (σ' := qs_115) (by decide +kernel) rfl hp
  refine am_iload_n hC dL_law_127 rfl ?_
  refine am_bipush (v := nI 20) hC dL_law_128 (by decide) ?_
  refine am_icmp_ge (tgt := 137) hC dL_law_130 (by decide) (fun c_130 => absurd c_130 (by decide)) (fun c_130 => ?_)
  refine am_iload_n hC dL_law_133 rfl ?_
  refine am_goto (tgt := 139) hC dL_law_134 (by decide) ?_
  refine am_icmp_eq (tgt := 144) hC dL_law_139 (by decide) (fun c_139 => ?_) (fun c_139 => absurd (by decide) c_139)
  exact am_more (kc' := 15758) (ks' := 268086) (by decide) (by decide) (law_c4 hC hX hL hfin h hS)
set_option maxRecDepth 100000 in
set_option maxHeartbeats 4000000 in
theorem law_c2 {Z : am_Z} {L : Nat} {xs : Nat → Int32} (hC : am_OK Z "HousePlansLaw" cL_law 5 20 618172 7247108) (hX : SCR Z L xs) (hL : L ≤ 260) (hfin : ∀ (kc ks : Nat) (ls : List Value) (h : am_H), kc ≤ 618172 → ks ≤ 7247108 → am_W Z kc ks 308 ls [.int (nI 1)] h) (h : am_H) (hS : SZ h qs_102) : am_W Z 15572 265280 91 [.ref (41), .ref (3), .int (nI 4), .null, .null] [] h := by
  refine am_aload_n hC dL_law_91 rfl ?_
  refine am_bipush (v := nI 15) hC dL_law_92 (by decide) ?_
  refine am_iconst (v := nI 0) hC dL_law_94 (by decide) ?_
  refine am_iconst (v := nI 0) hC dL_law_95 (by decide) ?_
  refine am_iconst (v := nI 0) hC dL_law_96 (by decide) ?_
  refine am_iconst (v := nI 0) hC dL_law_97 (by decide) ?_
  refine am_callSX hC [.ref (3), .int (nI 15), .int (nI 0), .int (nI 0), .int (nI 0), .int (nI 0)] mf_L_act tw_447 (c_act15 _ _ (am_tr hC) h hS _ _ _ _) rfl ⟨rfl, Nat.le_of_ble_eq_true rfl⟩ ⟨by decide, by decide⟩ (by decide) (by decide) dL_law_98 rfl (fun _ _ q _ => False.elim q) (fun v h hp hlc => ?_)
  obtain ⟨rfl, hS⟩ := z_goa (x' := nI 4) (σ' := qs_103) (by decide +kernel) (z_sx (by decide +kernel)) hp
  refine am_iload_n hC dL_law_101 rfl ?_
  refine am_bipush (v := nI 30) hC dL_law_102 (by decide) ?_
  refine am_icmp_ge (tgt := 111) hC dL_law_104 (by decide) (fun c_104 => absurd c_104 (by decide)) (fun c_104 => ?_)
  refine am_iload_n hC dL_law_107 rfl ?_
  refine am_goto (tgt := 113) hC dL_law_108 (by decide) ?_
  refine am_icmp_ne (tgt := 142) hC dL_law_113 (by decide) (fun c_113 => absurd (by decide) c_113) (fun c_113 => ?_)
  refine am_iload_n hC dL_law_116 rfl ?_
  refine am_bipush (v := nI 30) hC dL_law_117 (by decide) ?_
  refine am_icmp_ge (tgt := 144) hC dL_law_119 (by decide) (fun c_119 => absurd c_119 (by decide)) (fun c_119 => ?_)
  refine am_aload_n hC dL_law_122 rfl ?_
  refine am_iload_n hC dL_law_123 rfl ?_
  refine am_callV hC (ci := 6) (N := 4) [.int (nI 4)] rfl (SZ_3 hS) rfl mf_X5_permitOf tw_426 (d_permitOf _ _ (am_tr hC) h hS _) rfl ⟨rfl, Nat.le_of_ble_eq_true rfl⟩ ⟨by decide, by decide⟩ (by decide) (by decide) dL_law_124 rfl (fun _ _ q _ => (XN_0 q.2 (by decide +kernel)).elim) (fun v h hp hlc => ?_)
  obtain ⟨rfl, hS⟩ := z_go (x' := nI 4) (σ' := qs_103) (by decide +kernel) rfl hp
  refine am_iload_n hC dL_law_127 rfl ?_
  refine am_bipush (v := nI 20) hC dL_law_128 (by decide) ?_
  refine am_icmp_ge (tgt := 137) hC dL_law_130 (by decide) (fun c_130 => absurd c_130 (by decide)) (fun c_130 => ?_)
  refine am_iload_n hC dL_law_133 rfl ?_
  refine am_goto (tgt := 139) hC dL_law_134 (by decide) ?_
  refine am_icmp_eq (tgt := 144) hC dL_law_139 (by decide) (fun c_139 => ?_) (fun c_139 => absurd (by decide) c_139)
  refine am_iinc (v := nI 5) hC dL_law_144 rfl (by decide) (by decide) ?_
  change am_W _ _ _ _ [.ref (41), .ref (3), .int (nI 5), .null, .null] _ _
  refine am_goto (tgt := 60) hC dL_law_147 (by decide) ?_
  refine am_iload_n hC dL_law_60 rfl ?_
  refine am_bipush (v := nI 31) hC dL_law_61 (by decide) ?_
  refine am_icmp_ge (tgt := 150) hC dL_law_63 (by decide) (fun c_63 => absurd c_63 (by decide)) (fun c_63 => ?_)
  refine am_aload_n hC dL_law_66 rfl ?_
  refine am_bipush (v := nI 13) hC dL_law_67 (by decide) ?_
  refine am_iconst (v := nI 0) hC dL_law_69 (by decide) ?_
  refine am_iconst (v := nI 0) hC dL_law_70 (by decide) ?_
  refine am_iconst (v := nI 0) hC dL_law_71 (by decide) ?_
  refine am_iconst (v := nI 0) hC dL_law_72 (by decide) ?_
  refine am_callSX hC [.ref (3), .int (nI 13), .int (nI 0), .int (nI 0), .int (nI 0), .int (nI 0)] mf_L_act tw_447 (c_act13 _ _ (am_tr hC) h hS _ _ _ _ true (fun _ => by rw [dn_nI (by decide)]; exact z_VWo qv_28 (by decide +kernel))) rfl ⟨rfl, Nat.le_of_ble_eq_true rfl⟩ ⟨by decide, by decide⟩ (by decide) (by decide) dL_law_73 rfl (fun _ _ q _ => False.elim q) (fun v h hp hlc => ?_)
  obtain ⟨rfl, hS⟩ := z_goa (x' := nI 5) (σ' := qs_104) (by decide +kernel) (z_sx (by decide +kernel)) hp
  refine am_iload_n hC dL_law_76 rfl ?_
  refine am_bipush (v := nI 20) hC dL_law_77 (by decide) ?_
  refine am_icmp_ge (tgt := 86) hC dL_law_79 (by decide) (fun c_79 => absurd c_79 (by decide)) (fun c_79 => ?_)
  refine am_iload_n hC dL_law_82 rfl ?_
  refine am_goto (tgt := 88) hC dL_law_83 (by decide) ?_
  refine am_icmp_ne (tgt := 142) hC dL_law_88 (by decide) (fun c_88 => absurd (by decide) c_88) (fun c_88 => ?_)
  refine am_aload_n hC dL_law_91 rfl ?_
  refine am_bipush (v := nI 15) hC dL_law_92 (by decide) ?_
  refine am_iconst (v := nI 0) hC dL_law_94 (by decide) ?_
  refine am_iconst (v := nI 0) hC dL_law_95 (by decide) ?_
  refine am_iconst (v := nI 0) hC dL_law_96 (by decide) ?_
  refine am_iconst (v := nI 0) hC dL_law_97 (by decide) ?_
  refine am_callSX hC [.ref (3), .int (nI 15), .int (nI 0), .int (nI 0), .int (nI 0), .int (nI 0)] mf_L_act tw_447 (c_act15 _ _ (am_tr hC) h hS _ _ _ _) rfl ⟨rfl, Nat.le_of_ble_eq_true rfl⟩ ⟨by decide, by decide⟩ (by decide) (by decide) dL_law_98 rfl (fun _ _ q _ => False.elim q) (fun v h hp hlc => ?_)
  obtain ⟨rfl, hS⟩ := z_goa (x' := nI 5) (σ' := qs_105) (by decide +kernel) (z_sx (by decide +kernel)) hp
  refine am_iload_n hC dL_law_101 rfl ?_
  refine am_bipush (v := nI 30) hC dL_law_102 (by decide) ?_
  refine am_icmp_ge (tgt := 111) hC dL_law_104 (by decide) (fun c_104 => absurd c_104 (by decide)) (fun c_104 => ?_)
  refine am_iload_n hC dL_law_107 rfl ?_
  refine am_goto (tgt := 113) hC dL_law_108 (by decide) ?_
  refine am_icmp_ne (tgt := 142) hC dL_law_113 (by decide) (fun c_113 => absurd (by decide) c_113) (fun c_113 => ?_)
  refine am_iload_n hC dL_law_116 rfl ?_
  refine am_bipush (v := nI 30) hC dL_law_117 (by decide) ?_
  refine am_icmp_ge (tgt := 144) hC dL_law_119 (by decide) (fun c_119 => absurd c_119 (by decide)) (fun c_119 => ?_)
  refine am_aload_n hC dL_law_122 rfl ?_
  refine am_iload_n hC dL_law_123 rfl ?_
  refine am_callV hC (ci := 6) (N := 4) [.int (nI 5)] rfl (SZ_3 hS) rfl mf_X5_permitOf tw_426 (d_permitOf _ _ (am_tr hC) h hS _) rfl ⟨rfl, Nat.le_of_ble_eq_true rfl⟩ ⟨by decide, by decide⟩ (by decide) (by decide) dL_law_124 rfl (fun _ _ q _ => (XN_0 q.2 (by decide +kernel)).elim) (fun v h hp hlc => ?_)
  obtain ⟨rfl, hS⟩ := z_go (x' := nI 5) (σ' := qs_105) (by decide +kernel) rfl hp
  refine am_iload_n hC dL_law_127 rfl ?_
  refine am_bipush (v := nI 20) hC dL_law_128 (by decide) ?_
  refine am_icmp_ge (tgt := 137) hC dL_law_130 (by decide) (fun c_130 => absurd c_130 (by decide)) (fun c_130 => ?_)
  refine am_iload_n hC dL_law_133 rfl ?_
  refine am_goto (tgt := 139) hC dL_law_134 (by decide) ?_
  refine am_icmp_eq (tgt := 144) hC dL_law_139 (by decide) (fun c_139 => ?_) (fun c_139 => absurd (by decide) c_139)
  refine am_iinc (v := nI 6) hC dL_law_144 rfl (by decide) (by decide) ?_
  change am_W _ _ _ _ [.ref (41), .ref (3), .int (nI 6), .null, .null] _ _
  refine am_goto (tgt := 60) hC dL_law_147 (by decide) ?_
  refine am_iload_n hC dL_law_60 rfl ?_
  refine am_bipush (v := nI 31) hC dL_law_61 (by decide) ?_
  refine am_icmp_ge (tgt := 150) hC dL_law_63 (by decide) (fun c_63 => absurd c_63 (by decide)) (fun c_63 => ?_)
  refine am_aload_n hC dL_law_66 rfl ?_
  refine am_bipush (v := nI 13) hC dL_law_67 (by decide) ?_
  refine am_iconst (v := nI 0) hC dL_law_69 (by decide) ?_
  refine am_iconst (v := nI 0) hC dL_law_70 (by decide) ?_
  refine am_iconst (v := nI 0) hC dL_law_71 (by decide) ?_
  refine am_iconst (v := nI 0) hC dL_law_72 (by decide) ?_
  refine am_callSX hC [.ref (3), .int (nI 13), .int (nI 0), .int (nI 0), .int (nI 0), .int (nI 0)] mf_L_act tw_447 (c_act13 _ _ (am_tr hC) h hS _ _ _ _ true (fun _ => by rw [dn_nI (by decide)]; exact z_VWo qv_29 (by decide +kernel))) rfl ⟨rfl, Nat.le_of_ble_eq_true rfl⟩ ⟨by decide, by decide⟩ (by decide) (by decide) dL_law_73 rfl (fun _ _ q _ => False.elim q) (fun v h hp hlc => ?_)
  obtain ⟨rfl, hS⟩ := z_goa (x' := nI 6) (σ' := qs_106) (by decide +kernel) (z_sx (by decide +kernel)) hp
  refine am_iload_n hC dL_law_76 rfl ?_
  refine am_bipush (v := nI 20) hC dL_law_77 (by decide) ?_
  refine am_icmp_ge (tgt := 86) hC dL_law_79 (by decide) (fun c_79 => absurd c_79 (by decide)) (fun c_79 => ?_)
  refine am_iload_n hC dL_law_82 rfl ?_
  refine am_goto (tgt := 88) hC dL_law_83 (by decide) ?_
  refine am_icmp_ne (tgt := 142) hC dL_law_88 (by decide) (fun c_88 => absurd (by decide) c_88) (fun c_88 => ?_)
  refine am_aload_n hC dL_law_91 rfl ?_
  refine am_bipush (v := nI 15) hC dL_law_92 (by decide) ?_
  refine am_iconst (v := nI 0) hC dL_law_94 (by decide) ?_
  refine am_iconst (v := nI 0) hC dL_law_95 (by decide) ?_
  refine am_iconst (v := nI 0) hC dL_law_96 (by decide) ?_
  refine am_iconst (v := nI 0) hC dL_law_97 (by decide) ?_
  refine am_callSX hC [.ref (3), .int (nI 15), .int (nI 0), .int (nI 0), .int (nI 0), .int (nI 0)] mf_L_act tw_447 (c_act15 _ _ (am_tr hC) h hS _ _ _ _) rfl ⟨rfl, Nat.le_of_ble_eq_true rfl⟩ ⟨by decide, by decide⟩ (by decide) (by decide) dL_law_98 rfl (fun _ _ q _ => False.elim q) (fun v h hp hlc => ?_)
  obtain ⟨rfl, hS⟩ := z_goa (x' := nI 6) (σ' := qs_107) (by decide +kernel) (z_sx (by decide +kernel)) hp
  refine am_iload_n hC dL_law_101 rfl ?_
  refine am_bipush (v := nI 30) hC dL_law_102 (by decide) ?_
  refine am_icmp_ge (tgt := 111) hC dL_law_104 (by decide) (fun c_104 => absurd c_104 (by decide)) (fun c_104 => ?_)
  refine am_iload_n hC dL_law_107 rfl ?_
  refine am_goto (tgt := 113) hC dL_law_108 (by decide) ?_
  refine am_icmp_ne (tgt := 142) hC dL_law_113 (by decide) (fun c_113 => absurd (by decide) c_113) (fun c_113 => ?_)
  refine am_iload_n hC dL_law_116 rfl ?_
  refine am_bipush (v := nI 30) hC dL_law_117 (by decide) ?_
  refine am_icmp_ge (tgt := 144) hC dL_law_119 (by decide) (fun c_119 => absurd c_119 (by decide)) (fun c_119 => ?_)
  refine am_aload_n hC dL_law_122 rfl ?_
  refine am_iload_n hC dL_law_123 rfl ?_
  refine am_callV hC (ci := 6) (N := 4) [.int (nI 6)] rfl (SZ_3 hS) rfl mf_X5_permitOf tw_426 (d_permitOf _ _ (am_tr hC) h hS _) rfl ⟨rfl, Nat.le_of_ble_eq_true rfl⟩ ⟨by decide, by decide⟩ (by decide) (by decide) dL_law_124 rfl (fun _ _ q _ => (XN_0 q.2 (by decide +kernel)).elim) (fun v h hp hlc => ?_)
  obtain ⟨rfl, hS⟩ := z_go (x' := nI 6) (σ' := qs_107) (by decide +kernel) rfl hp
  refine am_iload_n hC dL_law_127 rfl ?_
  refine am_bipush (v := nI 20) hC dL_law_128 (by decide) ?_
  refine am_icmp_ge (tgt := 137) hC dL_law_130 (by decide) (fun c_130 => absurd c_130 (by decide)) (fun c_130 => ?_)
  refine am_iload_n hC dL_law_133 rfl ?_
  refine am_goto (tgt := 139) hC dL_law_134 (by decide) ?_
  refine am_icmp_eq (tgt := 144) hC dL_law_139 (by decide) (fun c_139 => ?_) (fun c_139 => absurd (by decide) c_139)
  refine am_iinc (v := nI 7) hC dL_law_144 rfl (by decide) (by decide) ?_
  change am_W _ _ _ _ [.ref (41), .ref (3), .int (nI 7), .null, .null] _ _
  refine am_goto (tgt := 60) hC dL_law_147 (by decide) ?_
  refine am_iload_n hC dL_law_60 rfl ?_
  refine am_bipush (v := nI 31) hC dL_law_61 (by decide) ?_
  refine am_icmp_ge (tgt := 150) hC dL_law_63 (by decide) (fun c_63 => absurd c_63 (by decide)) (fun c_63 => ?_)
  refine am_aload_n hC dL_law_66 rfl ?_
  refine am_bipush (v := nI 13) hC dL_law_67 (by decide) ?_
  refine am_iconst (v := nI 0) hC dL_law_69 (by decide) ?_
  refine am_iconst (v := nI 0) hC dL_law_70 (by decide) ?_
  refine am_iconst (v := nI 0) hC dL_law_71 (by decide) ?_
  refine am_iconst (v := nI 0) hC dL_law_72 (by decide) ?_
  refine am_callSX hC [.ref (3), .int (nI 13), .int (nI 0), .int (nI 0), .int (nI 0), .int (nI 0)] mf_L_act tw_447 (c_act13 _ _ (am_tr hC) h hS _ _ _ _ true (fun _ => by rw [dn_nI (by decide)]; exact z_VWo qv_30 (by decide +kernel))) rfl ⟨rfl, Nat.le_of_ble_eq_true rfl⟩ ⟨by decide, by decide⟩ (by decide) (by decide) dL_law_73 rfl (fun _ _ q _ => False.elim q) (fun v h hp hlc => ?_)
  obtain ⟨rfl, hS⟩ := z_goa (x' := nI 7) (σ' := qs_108) (by decide +kernel) (z_sx (by decide +kernel)) hp
  refine am_iload_n hC dL_law_76 rfl ?_
  refine am_bipush (v := nI 20) hC dL_law_77 (by decide) ?_
  refine am_icmp_ge (tgt := 86) hC dL_law_79 (by decide) (fun c_79 => absurd c_79 (by decide)) (fun c_79 => ?_)
  refine am_iload_n hC dL_law_82 rfl ?_
  refine am_goto (tgt := 88) hC dL_law_83 (by decide) ?_
  refine am_icmp_ne (tgt := 142) hC dL_law_88 (by decide) (fun c_88 => absurd (by decide) c_88) (fun c_88 => ?_)
  refine am_aload_n hC dL_law_91 rfl ?_
  refine am_bipush (v := nI 15) hC dL_law_92 (by decide) ?_
  refine am_iconst (v := nI 0) hC dL_law_94 (by decide) ?_
  refine am_iconst (v := nI 0) hC dL_law_95 (by decide) ?_
  refine am_iconst (v := nI 0) hC dL_law_96 (by decide) ?_
  refine am_iconst (v := nI 0) hC dL_law_97 (by decide) ?_
  refine am_callSX hC [.ref (3), .int (nI 15), .int (nI 0), .int (nI 0), .int (nI 0), .int (nI 0)] mf_L_act tw_447 (c_act15 _ _ (am_tr hC) h hS _ _ _ _) rfl ⟨rfl, Nat.le_of_ble_eq_true rfl⟩ ⟨by decide, by decide⟩ (by decide) (by decide) dL_law_98 rfl (fun _ _ q _ => False.elim q) (fun v h hp hlc => ?_)
  obtain ⟨rfl, hS⟩ := z_goa (x' := nI 7) (σ' := qs_109) (by decide +kernel) (z_sx (by decide +kernel)) hp
  refine am_iload_n hC dL_law_101 rfl ?_
  refine am_bipush (v := nI 30) hC dL_law_102 (by decide) ?_
  refine am_icmp_ge (tgt := 111) hC dL_law_104 (by decide) (fun c_104 => absurd c_104 (by decide)) (fun c_104 => ?_)
  refine am_iload_n hC dL_law_107 rfl ?_
  refine am_goto (tgt := 113) hC dL_law_108 (by decide) ?_
  refine am_icmp_ne (tgt := 142) hC dL_law_113 (by decide) (fun c_113 => absurd (by decide) c_113) (fun c_113 => ?_)
  exact am_more (kc' := 15666) (ks' := 266754) (by decide) (by decide) (law_c3 hC hX hL hfin h hS)
set_option maxRecDepth 100000 in
set_option maxHeartbeats 4000000 in
theorem law_c1 {Z : am_Z} {L : Nat} {xs : Nat → Int32} (hC : am_OK Z "HousePlansLaw" cL_law 5 20 618172 7247108) (hX : SCR Z L xs) (hL : L ≤ 260) (hfin : ∀ (kc ks : Nat) (ls : List Value) (h : am_H), kc ≤ 618172 → ks ≤ 7247108 → am_W Z kc ks 308 ls [.int (nI 1)] h) (h : am_H) (hS : SZ h qs_95) : am_W Z 15478 263806 144 [.ref (41), .ref (3), .int (nI 0), .null, .null] [] h := by
  refine am_iinc (v := nI 1) hC dL_law_144 rfl (by decide) (by decide) ?_
  change am_W _ _ _ _ [.ref (41), .ref (3), .int (nI 1), .null, .null] _ _
  refine am_goto (tgt := 60) hC dL_law_147 (by decide) ?_
  refine am_iload_n hC dL_law_60 rfl ?_
  refine am_bipush (v := nI 31) hC dL_law_61 (by decide) ?_
  refine am_icmp_ge (tgt := 150) hC dL_law_63 (by decide) (fun c_63 => absurd c_63 (by decide)) (fun c_63 => ?_)
  refine am_aload_n hC dL_law_66 rfl ?_
  refine am_bipush (v := nI 13) hC dL_law_67 (by decide) ?_
  refine am_iconst (v := nI 0) hC dL_law_69 (by decide) ?_
  refine am_iconst (v := nI 0) hC dL_law_70 (by decide) ?_
  refine am_iconst (v := nI 0) hC dL_law_71 (by decide) ?_
  refine am_iconst (v := nI 0) hC dL_law_72 (by decide) ?_
  refine am_callSX hC [.ref (3), .int (nI 13), .int (nI 0), .int (nI 0), .int (nI 0), .int (nI 0)] mf_L_act tw_447 (c_act13 _ _ (am_tr hC) h hS _ _ _ _ true (fun _ => by rw [dn_nI (by decide)]; exact z_VWo qv_24 (by decide +kernel))) rfl ⟨rfl, Nat.le_of_ble_eq_true rfl⟩ ⟨by decide, by decide⟩ (by decide) (by decide) dL_law_73 rfl (fun _ _ q _ => False.elim q) (fun v h hp hlc => ?_)
  obtain ⟨rfl, hS⟩ := z_goa (x' := nI 1) (σ' := qs_96) (by decide +kernel) (z_sx (by decide +kernel)) hp
  refine am_iload_n hC dL_law_76 rfl ?_
  refine am_bipush (v := nI 20) hC dL_law_77 (by decide) ?_
  refine am_icmp_ge (tgt := 86) hC dL_law_79 (by decide) (fun c_79 => absurd c_79 (by decide)) (fun c_79 => ?_)
  refine am_iload_n hC dL_law_82 rfl ?_
  refine am_goto (tgt := 88) hC dL_law_83 (by decide) ?_
  refine am_icmp_ne (tgt := 142) hC dL_law_88 (by decide) (fun c_88 => absurd (by decide) c_88) (fun c_88 => ?_)
  refine am_aload_n hC dL_law_91 rfl ?_
  refine am_bipush (v := nI 15) hC dL_law_92 (by decide) ?_
  refine am_iconst (v := nI 0) hC dL_law_94 (by decide) ?_
  refine am_iconst (v := nI 0) hC dL_law_95 (by decide) ?_
  refine am_iconst (v := nI 0) hC dL_law_96 (by decide) ?_
  refine am_iconst (v := nI 0) hC dL_law_97 (by decide) ?_
  refine am_callSX hC [.ref (3), .int (nI 15), .int (nI 0), .int (nI 0), .int (nI 0), .int (nI 0)] mf_L_act tw_447 (c_act15 _ _ (am_tr hC) h hS _ _ _ _) rfl ⟨rfl, Nat.le_of_ble_eq_true rfl⟩ ⟨by decide, by decide⟩ (by decide) (by decide) dL_law_98 rfl (fun _ _ q _ => False.elim q) (fun v h hp hlc => ?_)
  obtain ⟨rfl, hS⟩ := z_goa (x' := nI 1) (σ' := qs_97) (by decide +kernel) (z_sx (by decide +kernel)) hp
  refine am_iload_n hC dL_law_101 rfl ?_
  refine am_bipush (v := nI 30) hC dL_law_102 (by decide) ?_
  refine am_icmp_ge (tgt := 111) hC dL_law_104 (by decide) (fun c_104 => absurd c_104 (by decide)) (fun c_104 => ?_)
  refine am_iload_n hC dL_law_107 rfl ?_
  refine am_goto (tgt := 113) hC dL_law_108 (by decide) ?_
  refine am_icmp_ne (tgt := 142) hC dL_law_113 (by decide) (fun c_113 => absurd (by decide) c_113) (fun c_113 => ?_)
  refine am_iload_n hC dL_law_116 rfl ?_
  refine am_bipush (v := nI 30) hC dL_law_117 (by decide) ?_
  refine am_icmp_ge (tgt := 144) hC dL_law_119 (by decide) (fun c_119 => absurd c_119 (by decide)) (fun c_119 => ?_)
  refine am_aload_n hC dL_law_122 rfl ?_
  refine am_iload_n hC dL_law_123 rfl ?_
  refine am_callV hC (ci := 6) (N := 4) [.int (nI 1)] rfl (SZ_3 hS) rfl mf_X5_permitOf tw_426 (d_permitOf _ _ (am_tr hC) h hS _) rfl ⟨rfl, Nat.le_of_ble_eq_true rfl⟩ ⟨by decide, by decide⟩ (by decide) (by decide) dL_law_124 rfl (fun _ _ q _ => (XN_0 q.2 (by decide +kernel)).elim) (fun v h hp hlc => ?_)
  obtain ⟨rfl, hS⟩ := z_go (x' := nI 1) (σ' := qs_97) (by decide +kernel) rfl hp
  refine am_iload_n hC dL_law_127 rfl ?_
  refine am_bipush (v := nI 20) hC dL_law_128 (by decide) ?_
  refine am_icmp_ge (tgt := 137) hC dL_law_130 (by decide) (fun c_130 => absurd c_130 (by decide)) (fun c_130 => ?_)
  refine am_iload_n hC dL_law_133 rfl ?_
  refine am_goto (tgt := 139) hC dL_law_134 (by decide) ?_
  refine am_icmp_eq (tgt := 144) hC dL_law_139 (by decide) (fun c_139 => ?_) (fun c_139 => absurd (by decide) c_139)
  refine am_iinc (v := nI 2) hC dL_law_144 rfl (by decide) (by decide) ?_
  change am_W _ _ _ _ [.ref (41), .ref (3), .int (nI 2), .null, .null] _ _
  refine am_goto (tgt := 60) hC dL_law_147 (by decide) ?_
  refine am_iload_n hC dL_law_60 rfl ?_
  refine am_bipush (v := nI 31) hC dL_law_61 (by decide) ?_
  refine am_icmp_ge (tgt := 150) hC dL_law_63 (by decide) (fun c_63 => absurd c_63 (by decide)) (fun c_63 => ?_)
  refine am_aload_n hC dL_law_66 rfl ?_
  refine am_bipush (v := nI 13) hC dL_law_67 (by decide) ?_
  refine am_iconst (v := nI 0) hC dL_law_69 (by decide) ?_
  refine am_iconst (v := nI 0) hC dL_law_70 (by decide) ?_
  refine am_iconst (v := nI 0) hC dL_law_71 (by decide) ?_
  refine am_iconst (v := nI 0) hC dL_law_72 (by decide) ?_
  refine am_callSX hC [.ref (3), .int (nI 13), .int (nI 0), .int (nI 0), .int (nI 0), .int (nI 0)] mf_L_act tw_447 (c_act13 _ _ (am_tr hC) h hS _ _ _ _ true (fun _ => by rw [dn_nI (by decide)]; exact z_VWo qv_25 (by decide +kernel))) rfl ⟨rfl, Nat.le_of_ble_eq_true rfl⟩ ⟨by decide, by decide⟩ (by decide) (by decide) dL_law_73 rfl (fun _ _ q _ => False.elim q) (fun v h hp hlc => ?_)
  obtain ⟨rfl, hS⟩ := z_goa (x' := nI 2) (σ' := qs_98) (by decide +kernel) (z_sx (by decide +kernel)) hp
  refine am_iload_n hC dL_law_76 rfl ?_
  refine am_bipush (v := nI 20) hC dL_law_77 (by decide) ?_
  refine am_icmp_ge (tgt := 86) hC dL_law_79 (by decide) (fun c_79 => absurd c_79 (by decide)) (fun c_79 => ?_)
  refine am_iload_n hC dL_law_82 rfl ?_
  refine am_goto (tgt := 88) hC dL_law_83 (by decide) ?_
  refine am_icmp_ne (tgt := 142) hC dL_law_88 (by decide) (fun c_88 => absurd (by decide) c_88) (fun c_88 => ?_)
  refine am_aload_n hC dL_law_91 rfl ?_
  refine am_bipush (v := nI 15) hC dL_law_92 (by decide) ?_
  refine am_iconst (v := nI 0) hC dL_law_94 (by decide) ?_
  refine am_iconst (v := nI 0) hC dL_law_95 (by decide) ?_
  refine am_iconst (v := nI 0) hC dL_law_96 (by decide) ?_
  refine am_iconst (v := nI 0) hC dL_law_97 (by decide) ?_
  refine am_callSX hC [.ref (3), .int (nI 15), .int (nI 0), .int (nI 0), .int (nI 0), .int (nI 0)] mf_L_act tw_447 (c_act15 _ _ (am_tr hC) h hS _ _ _ _) rfl ⟨rfl, Nat.le_of_ble_eq_true rfl⟩ ⟨by decide, by decide⟩ (by decide) (by decide) dL_law_98 rfl (fun _ _ q _ => False.elim q) (fun v h hp hlc => ?_)
  obtain ⟨rfl, hS⟩ := z_goa (x' := nI 2) (σ' := qs_99) (by decide +kernel) (z_sx (by decide +kernel)) hp
  refine am_iload_n hC dL_law_101 rfl ?_
  refine am_bipush (v := nI 30) hC dL_law_102 (by decide) ?_
  refine am_icmp_ge (tgt := 111) hC dL_law_104 (by decide) (fun c_104 => absurd c_104 (by decide)) (fun c_104 => ?_)
  refine am_iload_n hC dL_law_107 rfl ?_
  refine am_goto (tgt := 113) hC dL_law_108 (by decide) ?_
  refine am_icmp_ne (tgt := 142) hC dL_law_113 (by decide) (fun c_113 => absurd (by decide) c_113) (fun c_113 => ?_)
  refine am_iload_n hC dL_law_116 rfl ?_
  refine am_bipush (v := nI 30) hC dL_law_117 (by decide) ?_
  refine am_icmp_ge (tgt := 144) hC dL_law_119 (by decide) (fun c_119 => absurd c_119 (by decide)) (fun c_119 => ?_)
  refine am_aload_n hC dL_law_122 rfl ?_
  refine am_iload_n hC dL_law_123 rfl ?_
  refine am_callV hC (ci := 6) (N := 4) [.int (nI 2)] rfl (SZ_3 hS) rfl mf_X5_permitOf tw_426 (d_permitOf _ _ (am_tr hC) h hS _) rfl ⟨rfl, Nat.le_of_ble_eq_true rfl⟩ ⟨by decide, by decide⟩ (by decide) (by decide) dL_law_124 rfl (fun _ _ q _ => (XN_0 q.2 (by decide +kernel)).elim) (fun v h hp hlc => ?_)
  obtain ⟨rfl, hS⟩ := z_go (x' := nI 2) (σ' := qs_99) (by decide +kernel) rfl hp
  refine am_iload_n hC dL_law_127 rfl ?_
  refine am_bipush (v := nI 20) hC dL_law_128 (by decide) ?_
  refine am_icmp_ge (tgt := 137) hC dL_law_130 (by decide) (fun c_130 => absurd c_130 (by decide)) (fun c_130 => ?_)
  refine am_iload_n hC dL_law_133 rfl ?_
  refine am_goto (tgt := 139) hC dL_law_134 (by decide) ?_
  refine am_icmp_eq (tgt := 144) hC dL_law_139 (by decide) (fun c_139 => ?_) (fun c_139 => absurd (by decide) c_139)
  refine am_iinc (v := nI 3) hC dL_law_144 rfl (by decide) (by decide) ?_
  change am_W _ _ _ _ [.ref (41), .ref (3), .int (nI 3), .null, .null] _ _
  refine am_goto (tgt := 60) hC dL_law_147 (by decide) ?_
  refine am_iload_n hC dL_law_60 rfl ?_
  refine am_bipush (v := nI 31) hC dL_law_61 (by decide) ?_
  refine am_icmp_ge (tgt := 150) hC dL_law_63 (by decide) (fun c_63 => absurd c_63 (by decide)) (fun c_63 => ?_)
  refine am_aload_n hC dL_law_66 rfl ?_
  refine am_bipush (v := nI 13) hC dL_law_67 (by decide) ?_
  refine am_iconst (v := nI 0) hC dL_law_69 (by decide) ?_
  refine am_iconst (v := nI 0) hC dL_law_70 (by decide) ?_
  refine am_iconst (v := nI 0) hC dL_law_71 (by decide) ?_
  refine am_iconst (v := nI 0) hC dL_law_72 (by decide) ?_
  refine am_callSX hC [.ref (3), .int (nI 13), .int (nI 0), .int (nI 0), .int (nI 0), .int (nI 0)] mf_L_act tw_447 (c_act13 _ _ (am_tr hC) h hS _ _ _ _ true (fun _ => by rw [dn_nI (by decide)]; exact z_VWo qv_26 (by decide +kernel))) rfl ⟨rfl, Nat.le_of_ble_eq_true rfl⟩ ⟨by decide, by decide⟩ (by decide) (by decide) dL_law_73 rfl (fun _ _ q _ => False.elim q) (fun v h hp hlc => ?_)
  obtain ⟨rfl, hS⟩ := z_goa (x' := nI 3) (σ' := qs_100) (by decide +kernel) (z_sx (by decide +kernel)) hp
  refine am_iload_n hC dL_law_76 rfl ?_
  refine am_bipush (v := nI 20) hC dL_law_77 (by decide) ?_
  refine am_icmp_ge (tgt := 86) hC dL_law_79 (by decide) (fun c_79 => absurd c_79 (by decide)) (fun c_79 => ?_)
  refine am_iload_n hC dL_law_82 rfl ?_
  refine am_goto (tgt := 88) hC dL_law_83 (by decide) ?_
  refine am_icmp_ne (tgt := 142) hC dL_law_88 (by decide) (fun c_88 => absurd (by decide) c_88) (fun c_88 => ?_)
  refine am_aload_n hC dL_law_91 rfl ?_
  refine am_bipush (v := nI 15) hC dL_law_92 (by decide) ?_
  refine am_iconst (v := nI 0) hC dL_law_94 (by decide) ?_
  refine am_iconst (v := nI 0) hC dL_law_95 (by decide) ?_
  refine am_iconst (v := nI 0) hC dL_law_96 (by decide) ?_
  refine am_iconst (v := nI 0) hC dL_law_97 (by decide) ?_
  refine am_callSX hC [.ref (3), .int (nI 15), .int (nI 0), .int (nI 0), .int (nI 0), .int (nI 0)] mf_L_act tw_447 (c_act15 _ _ (am_tr hC) h hS _ _ _ _) rfl ⟨rfl, Nat.le_of_ble_eq_true rfl⟩ ⟨by decide, by decide⟩ (by decide) (by decide) dL_law_98 rfl (fun _ _ q _ => False.elim q) (fun v h hp hlc => ?_)
  obtain ⟨rfl, hS⟩ := z_goa (x' := nI 3) (σ' := qs_101) (by decide +kernel) (z_sx (by decide +kernel)) hp
  refine am_iload_n hC dL_law_101 rfl ?_
  refine am_bipush (v := nI 30) hC dL_law_102 (by decide) ?_
  refine am_icmp_ge (tgt := 111) hC dL_law_104 (by decide) (fun c_104 => absurd c_104 (by decide)) (fun c_104 => ?_)
  refine am_iload_n hC dL_law_107 rfl ?_
  refine am_goto (tgt := 113) hC dL_law_108 (by decide) ?_
  refine am_icmp_ne (tgt := 142) hC dL_law_113 (by decide) (fun c_113 => absurd (by decide) c_113) (fun c_113 => ?_)
  refine am_iload_n hC dL_law_116 rfl ?_
  refine am_bipush (v := nI 30) hC dL_law_117 (by decide) ?_
  refine am_icmp_ge (tgt := 144) hC dL_law_119 (by decide) (fun c_119 => absurd c_119 (by decide)) (fun c_119 => ?_)
  refine am_aload_n hC dL_law_122 rfl ?_
  refine am_iload_n hC dL_law_123 rfl ?_
  refine am_callV hC (ci := 6) (N := 4) [.int (nI 3)] rfl (SZ_3 hS) rfl mf_X5_permitOf tw_426 (d_permitOf _ _ (am_tr hC) h hS _) rfl ⟨rfl, Nat.le_of_ble_eq_true rfl⟩ ⟨by decide, by decide⟩ (by decide) (by decide) dL_law_124 rfl (fun _ _ q _ => (XN_0 q.2 (by decide +kernel)).elim) (fun v h hp hlc => ?_)
  obtain ⟨rfl, hS⟩ := z_go (x' := nI 3) (σ' := qs_101) (by decide +kernel) rfl hp
  refine am_iload_n hC dL_law_127 rfl ?_
  refine am_bipush (v := nI 20) hC dL_law_128 (by decide) ?_
  refine am_icmp_ge (tgt := 137) hC dL_law_130 (by decide) (fun c_130 => absurd c_130 (by decide)) (fun c_130 => ?_)
  refine am_iload_n hC dL_law_133 rfl ?_
  refine am_goto (tgt := 139) hC dL_law_134 (by decide) ?_
  refine am_icmp_eq (tgt := 144) hC dL_law_139 (by decide) (fun c_139 => ?_) (fun c_139 => absurd (by decide) c_139)
  refine am_iinc (v := nI 4) hC dL_law_144 rfl (by decide) (by decide) ?_
  change am_W _ _ _ _ [.ref (41), .ref (3), .int (nI 4), .null, .null] _ _
  refine am_goto (tgt := 60) hC dL_law_147 (by decide) ?_
  refine am_iload_n hC dL_law_60 rfl ?_
  refine am_bipush (v := nI 31) hC dL_law_61 (by decide) ?_
  refine am_icmp_ge (tgt := 150) hC dL_law_63 (by decide) (fun c_63 => absurd c_63 (by decide)) (fun c_63 => ?_)
  refine am_aload_n hC dL_law_66 rfl ?_
  refine am_bipush (v := nI 13) hC dL_law_67 (by decide) ?_
  refine am_iconst (v := nI 0) hC dL_law_69 (by decide) ?_
  refine am_iconst (v := nI 0) hC dL_law_70 (by decide) ?_
  refine am_iconst (v := nI 0) hC dL_law_71 (by decide) ?_
  refine am_iconst (v := nI 0) hC dL_law_72 (by decide) ?_
  refine am_callSX hC [.ref (3), .int (nI 13), .int (nI 0), .int (nI 0), .int (nI 0), .int (nI 0)] mf_L_act tw_447 (c_act13 _ _ (am_tr hC) h hS _ _ _ _ true (fun _ => by rw [dn_nI (by decide)]; exact z_VWo qv_27 (by decide +kernel))) rfl ⟨rfl, Nat.le_of_ble_eq_true rfl⟩ ⟨by decide, by decide⟩ (by decide) (by decide) dL_law_73 rfl (fun _ _ q _ => False.elim q) (fun v h hp hlc => ?_)
  obtain ⟨rfl, hS⟩ := z_goa (x' := nI 4) (σ' := qs_102) (by decide +kernel) (z_sx (by decide +kernel)) hp
  refine am_iload_n hC dL_law_76 rfl ?_
  refine am_bipush (v := nI 20) hC dL_law_77 (by decide) ?_
  refine am_icmp_ge (tgt := 86) hC dL_law_79 (by decide) (fun c_79 => absurd c_79 (by decide)) (fun c_79 => ?_)
  refine am_iload_n hC dL_law_82 rfl ?_
  refine am_goto (tgt := 88) hC dL_law_83 (by decide) ?_
  refine am_icmp_ne (tgt := 142) hC dL_law_88 (by decide) (fun c_88 => absurd (by decide) c_88) (fun c_88 => ?_)
  exact am_more (kc' := 15572) (ks' := 265280) (by decide) (by decide) (law_c2 hC hX hL hfin h hS)
set_option maxRecDepth 100000 in
set_option maxHeartbeats 4000000 in
theorem law_all {Z : am_Z} {L : Nat} {xs : Nat → Int32} (hZ : am_H0 Z) (hC : am_OK Z "HousePlansLaw" cL_law 5 20 618172 7247108) (hX : SCR Z L xs) (hL : L ≤ 260) (hfin : ∀ (kc ks : Nat) (ls : List Value) (h : am_H), kc ≤ 618172 → ks ≤ 7247108 → am_W Z kc ks 308 ls [.int (nI 1)] h) : am_W Z 0 0 0 [.ref (41), .null, .null, .null, .null] [] h00 := by
  refine am_callS hC [] mf_L_floor tw_593 (c_floor _ _ (am_tr hC)) rfl ⟨rfl, Nat.le_of_ble_eq_true rfl⟩ ⟨by decide, by decide⟩ (by decide) (by decide) dL_law_0 rfl (fun _ _ q _ => False.elim q) (fun v h hp hlc => ?_)
  have hp : v = some (.int 1) := hp
  subst hp
  change am_W Z _ _ _ [.ref (41), .null, .null, .null, .null] [.int 1] _
  refine am_dropZ hZ hlc z_V0 z_V1 ?_
  refine am_if_eq (tgt := 18) hC dL_law_3 (by decide) (fun c_3 => absurd c_3 (by decide)) (fun c_3 => ?_)
  refine am_callS hC [] mf_L_rows tw_599 (c_rows _ _ (am_tr hC)) rfl ⟨rfl, Nat.le_of_ble_eq_true rfl⟩ ⟨by decide, by decide⟩ (by decide) (by decide) dL_law_6 rfl (fun _ _ q _ => False.elim q) (fun v h hp hlc => ?_)
  have hp : v = some (.int 1) := hp
  subst hp
  change am_W Z _ _ _ [.ref (41), .null, .null, .null, .null] [.int 1] _
  refine am_dropZ hZ hlc z_V0 z_V1 ?_
  refine am_if_eq (tgt := 18) hC dL_law_9 (by decide) (fun c_9 => absurd c_9 (by decide)) (fun c_9 => ?_)
  refine am_callS hC [] mf_L_hands tw_602 (c_hands _ _ (am_tr hC)) rfl ⟨rfl, Nat.le_of_ble_eq_true rfl⟩ ⟨by decide, by decide⟩ (by decide) (by decide) dL_law_12 rfl (fun _ _ q _ => False.elim q) (fun v h hp hlc => ?_)
  have hp : v = some (.int 1) := hp
  subst hp
  change am_W Z _ _ _ [.ref (41), .null, .null, .null, .null] [.int 1] _
  refine am_dropZ hZ hlc z_V0 z_V1 ?_
  refine am_if_ne (tgt := 20) hC dL_law_15 (by decide) (fun c_15 => ?_) (fun c_15 => absurd c_15 (by decide))
  refine am_newO hC (ci := 6) (N := 4) 3 rfl (hk_00 (by decide) (by decide) (by decide)) (by decide) tw_22 tw_23 tw_1 (by decide) (by decide) dL_law_20 ?_
  refine am_dup hC dL_law_23 rfl ?_
  refine am_callI hC [] (by decide) mf_X5_init tw_24 (c_X5_init _ _ (am_tr hC) (am_new h00 3 7 0) rfl rfl (fun r h1 h2 => by rw [hk_new, if_neg (by omega)]; exact hk_00 (by omega) (by omega) (by omega)) (fun L c h1 h2 h3 => by rw [hk_new, if_neg (by unfold rw_; omega)]; exact hk_00 (by unfold rw_; omega) (by unfold rw_; omega) (by unfold rw_; omega))) rfl ⟨rfl, Nat.le_of_ble_eq_true rfl⟩ ⟨by decide, by decide⟩ (by decide) (by decide) dL_law_24 rfl (fun _ _ q _ => False.elim q) (fun v h hp hlc => ?_)
  obtain ⟨rfl, f1, l4, l5, l6, e1⟩ := hp
  have hS : SZ h z_00 := SZ_0 f1 l4 l5 l6 (am_eq_tr (am_eq_new (by decide)) e1)
  clear f1 l4 l5 l6 e1
  refine am_astore_n hC dL_law_27 (by decide) ?_
  change am_W _ _ _ _ [.ref (41), .ref (3), .null, .null, .null] _ _
  refine am_aload_n hC dL_law_28 rfl ?_
  refine am_callV hC (ci := 6) (N := 4) [] rfl (SZ_3 hS) rfl mf_X5_begin tw_107 (d_begin _ _ (am_tr hC) h hS ) rfl ⟨rfl, Nat.le_of_ble_eq_true rfl⟩ ⟨by decide, by decide⟩ (by decide) (by decide) dL_law_29 rfl (fun _ _ q _ => (XN_0 q.2 (by decide +kernel)).elim) (fun v h hp hlc => ?_)
  obtain ⟨rfl, hS⟩ := z_go (x' := nI 0) (σ' := qs_0) (by decide +kernel) (z_sx (by decide +kernel)) hp
  refine am_if_ne (tgt := 56) hC dL_law_32 (by decide) (fun c_32 => absurd (by decide) c_32) (fun c_32 => ?_)
  refine am_aload_n hC dL_law_35 rfl ?_
  refine am_iconst (v := nI 0) hC dL_law_36 (by decide) ?_
  refine am_iconst (v := nI 5) hC dL_law_37 (by decide) ?_
  refine am_callSX hC [.ref (3), .int (nI 0), .int (nI 5)] mf_L_lock tw_436 (c_lock _ _ (am_tr hC) h hS _ _) rfl ⟨rfl, Nat.le_of_ble_eq_true rfl⟩ ⟨by decide, by decide⟩ (by decide) (by decide) dL_law_38 rfl (fun _ _ q _ => False.elim q) (fun v h hp hlc => ?_)
  obtain ⟨rfl, hS⟩ := z_goa (x' := nI 0) (σ' := qs_92) (by decide +kernel) (z_sx (by decide +kernel)) hp
  refine am_if_ne (tgt := 56) hC dL_law_41 (by decide) (fun c_41 => absurd (by decide) c_41) (fun c_41 => ?_)
  refine am_aload_n hC dL_law_44 rfl ?_
  refine am_iconst (v := nI 0) hC dL_law_45 (by decide) ?_
  refine am_iconst (v := nI 5) hC dL_law_46 (by decide) ?_
  refine am_bipush (v := nI 12) hC dL_law_47 (by decide) ?_
  refine am_iconst (v := nI 1) hC dL_law_49 (by decide) ?_
  refine am_callV hC (ci := 6) (N := 4) [.int (nI 0), .int (nI 5), .int (nI 12), .int (nI 1)] rfl (SZ_3 hS) rfl mf_X5_setExit tw_342 (d_setExit _ _ (am_tr hC) h hS _ _ _ true) rfl ⟨rfl, Nat.le_of_ble_eq_true rfl⟩ ⟨by decide, by decide⟩ (by decide) (by decide) dL_law_50 rfl (fun _ _ q _ => (XN_0 q.2 (by decide +kernel)).elim) (fun v h hp hlc => ?_)
  obtain ⟨rfl, hS⟩ := z_go (x' := nI 0) (σ' := qs_93) (by decide +kernel) (z_sx (by decide +kernel)) hp
  refine am_if_eq (tgt := 58) hC dL_law_53 (by decide) (fun c_53 => ?_) (fun c_53 => absurd (by decide) c_53)
  refine am_iconst (v := nI 0) hC dL_law_58 (by decide) ?_
  refine am_istore_n hC dL_law_59 (by decide) ?_
  change am_W _ _ _ _ [.ref (41), .ref (3), .int (nI 0), .null, .null] _ _
  refine am_iload_n hC dL_law_60 rfl ?_
  refine am_bipush (v := nI 31) hC dL_law_61 (by decide) ?_
  refine am_icmp_ge (tgt := 150) hC dL_law_63 (by decide) (fun c_63 => absurd c_63 (by decide)) (fun c_63 => ?_)
  refine am_aload_n hC dL_law_66 rfl ?_
  refine am_bipush (v := nI 13) hC dL_law_67 (by decide) ?_
  refine am_iconst (v := nI 0) hC dL_law_69 (by decide) ?_
  refine am_iconst (v := nI 0) hC dL_law_70 (by decide) ?_
  refine am_iconst (v := nI 0) hC dL_law_71 (by decide) ?_
  refine am_iconst (v := nI 0) hC dL_law_72 (by decide) ?_
  refine am_callSX hC [.ref (3), .int (nI 13), .int (nI 0), .int (nI 0), .int (nI 0), .int (nI 0)] mf_L_act tw_447 (c_act13 _ _ (am_tr hC) h hS _ _ _ _ true (fun _ => by rw [dn_nI (by decide)]; exact z_VWo qv_23 (by decide +kernel))) rfl ⟨rfl, Nat.le_of_ble_eq_true rfl⟩ ⟨by decide, by decide⟩ (by decide) (by decide) dL_law_73 rfl (fun _ _ q _ => False.elim q) (fun v h hp hlc => ?_)
  obtain ⟨rfl, hS⟩ := z_goa (x' := nI 0) (σ' := qs_94) (by decide +kernel) (z_sx (by decide +kernel)) hp
  refine am_iload_n hC dL_law_76 rfl ?_
  refine am_bipush (v := nI 20) hC dL_law_77 (by decide) ?_
  refine am_icmp_ge (tgt := 86) hC dL_law_79 (by decide) (fun c_79 => absurd c_79 (by decide)) (fun c_79 => ?_)
  refine am_iload_n hC dL_law_82 rfl ?_
  refine am_goto (tgt := 88) hC dL_law_83 (by decide) ?_
  refine am_icmp_ne (tgt := 142) hC dL_law_88 (by decide) (fun c_88 => absurd (by decide) c_88) (fun c_88 => ?_)
  refine am_aload_n hC dL_law_91 rfl ?_
  refine am_bipush (v := nI 15) hC dL_law_92 (by decide) ?_
  refine am_iconst (v := nI 0) hC dL_law_94 (by decide) ?_
  refine am_iconst (v := nI 0) hC dL_law_95 (by decide) ?_
  refine am_iconst (v := nI 0) hC dL_law_96 (by decide) ?_
  refine am_iconst (v := nI 0) hC dL_law_97 (by decide) ?_
  refine am_callSX hC [.ref (3), .int (nI 15), .int (nI 0), .int (nI 0), .int (nI 0), .int (nI 0)] mf_L_act tw_447 (c_act15 _ _ (am_tr hC) h hS _ _ _ _) rfl ⟨rfl, Nat.le_of_ble_eq_true rfl⟩ ⟨by decide, by decide⟩ (by decide) (by decide) dL_law_98 rfl (fun _ _ q _ => False.elim q) (fun v h hp hlc => ?_)
  obtain ⟨rfl, hS⟩ := z_goa (x' := nI 0) (σ' := qs_95) (by decide +kernel) (z_sx (by decide +kernel)) hp
  refine am_iload_n hC dL_law_101 rfl ?_
  refine am_bipush (v := nI 30) hC dL_law_102 (by decide) ?_
  refine am_icmp_ge (tgt := 111) hC dL_law_104 (by decide) (fun c_104 => absurd c_104 (by decide)) (fun c_104 => ?_)
  refine am_iload_n hC dL_law_107 rfl ?_
  refine am_goto (tgt := 113) hC dL_law_108 (by decide) ?_
  refine am_icmp_ne (tgt := 142) hC dL_law_113 (by decide) (fun c_113 => absurd (by decide) c_113) (fun c_113 => ?_)
  refine am_iload_n hC dL_law_116 rfl ?_
  refine am_bipush (v := nI 30) hC dL_law_117 (by decide) ?_
  refine am_icmp_ge (tgt := 144) hC dL_law_119 (by decide) (fun c_119 => absurd c_119 (by decide)) (fun c_119 => ?_)
  refine am_aload_n hC dL_law_122 rfl ?_
  refine am_iload_n hC dL_law_123 rfl ?_
  refine am_callV hC (ci := 6) (N := 4) [.int (nI 0)] rfl (SZ_3 hS) rfl mf_X5_permitOf tw_426 (d_permitOf _ _ (am_tr hC) h hS _) rfl ⟨rfl, Nat.le_of_ble_eq_true rfl⟩ ⟨by decide, by decide⟩ (by decide) (by decide) dL_law_124 rfl (fun _ _ q _ => (XN_0 q.2 (by decide +kernel)).elim) (fun v h hp hlc => ?_)
  obtain ⟨rfl, hS⟩ := z_go (x' := nI 0) (σ' := qs_95) (by decide +kernel) rfl hp
  refine am_iload_n hC dL_law_127 rfl ?_
  refine am_bipush (v := nI 20) hC dL_law_128 (by decide) ?_
  refine am_icmp_ge (tgt := 137) hC dL_law_130 (by decide) (fun c_130 => absurd c_130 (by decide)) (fun c_130 => ?_)
  refine am_iload_n hC dL_law_133 rfl ?_
  refine am_goto (tgt := 139) hC dL_law_134 (by decide) ?_
  refine am_icmp_eq (tgt := 144) hC dL_law_139 (by decide) (fun c_139 => ?_) (fun c_139 => absurd (by decide) c_139)
  exact am_more (kc' := 15478) (ks' := 263806) (by decide) (by decide) (law_c1 hC hX hL hfin h hS)
