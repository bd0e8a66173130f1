/-! ===== the law's hands ===== -/
set_option maxRecDepth 100000 in
set_option maxHeartbeats 4000000 in
theorem hands_9 {Z : am_Z} (hC : am_OK Z "HousePlansLaw" cL_hands 3 16 6243 111451) (hR : am_Rt Z (some .boolean) [] z_one am_no 6243 111451) (h : am_H) (hS : SZ h qs_89) : am_W Z 4269 75357 772 [.ref (3), .int (-73), .int (nI 7)] [] h := by
  refine am_aload_n hC dL_hands_772 rfl ?_
  refine am_iconst (v := nI 4) hC dL_hands_773 (by decide) ?_
  refine am_iconst (v := nI 0) hC dL_hands_774 (by decide) ?_
  refine am_callSX hC [.ref (3), .int (nI 4), .int (nI 0)] mf_L_unlock tw_585 (c_unlock _ _ (am_tr hC) h hS _ _) rfl ⟨rfl, Nat.le_of_ble_eq_true rfl⟩ ⟨by decide, by decide⟩ (by decide) (by decide) dL_hands_775 rfl (fun _ _ q _ => False.elim q) (fun v h hp hlc => ?_)
  obtain ⟨rfl, hS⟩ := z_goa (x' := (-73)) (σ' := qs_89) (by decide +kernel) (z_sx (by decide +kernel)) hp
  refine am_iload_n hC dL_hands_778 rfl ?_
  refine am_icmp_ne (tgt := 864) hC dL_hands_779 (by decide) (fun c_779 => absurd (by decide) c_779) (fun c_779 => ?_)
  refine am_aload_n hC dL_hands_782 rfl ?_
  refine am_iconst (v := nI 4) hC dL_hands_783 (by decide) ?_
  refine am_iconst (v := nI 1) hC dL_hands_784 (by decide) ?_
  refine am_callSX hC [.ref (3), .int (nI 4), .int (nI 1)] mf_L_unlock tw_585 (c_unlock _ _ (am_tr hC) h hS _ _) rfl ⟨rfl, Nat.le_of_ble_eq_true rfl⟩ ⟨by decide, by decide⟩ (by decide) (by decide) dL_hands_785 rfl (fun _ _ q _ => False.elim q) (fun v h hp hlc => ?_)
  obtain ⟨rfl, hS⟩ := z_goa (x' := nI 0) (σ' := qs_90) (by decide +kernel) (z_sx (by decide +kernel)) hp
  refine am_if_ne (tgt := 864) hC dL_hands_788 (by decide) (fun c_788 => absurd (by decide) c_788) (fun c_788 => ?_)
  refine am_aload_n hC dL_hands_791 rfl ?_
  refine am_iconst (v := nI 4) hC dL_hands_792 (by decide) ?_
  refine am_iconst (v := nI 1) hC dL_hands_793 (by decide) ?_
  refine am_callSX hC [.ref (3), .int (nI 4), .int (nI 1)] mf_L_unlock tw_585 (c_unlock _ _ (am_tr hC) h hS _ _) rfl ⟨rfl, Nat.le_of_ble_eq_true rfl⟩ ⟨by decide, by decide⟩ (by decide) (by decide) dL_hands_794 rfl (fun _ _ q _ => False.elim q) (fun v h hp hlc => ?_)
  obtain ⟨rfl, hS⟩ := z_goa (x' := (-73)) (σ' := qs_90) (by decide +kernel) (z_sx (by decide +kernel)) hp
  refine am_iload_n hC dL_hands_797 rfl ?_
  refine am_icmp_ne (tgt := 864) hC dL_hands_798 (by decide) (fun c_798 => absurd (by decide) c_798) (fun c_798 => ?_)
  refine am_aload_n hC dL_hands_801 rfl ?_
  refine am_iconst (v := nI 4) hC dL_hands_802 (by decide) ?_
  refine am_callV hC (ci := 6) (N := 4) [.int (nI 4)] rfl (SZ_3 hS) rfl mf_X5_canChange tw_492 (d_canChange _ _ (am_tr hC) h hS _) rfl ⟨rfl, Nat.le_of_ble_eq_true rfl⟩ ⟨by decide, by decide⟩ (by decide) (by decide) dL_hands_803 rfl (fun _ _ q _ => (XN_0 q.2 (by decide +kernel)).elim) (fun v h hp hlc => ?_)
  obtain ⟨rfl, hS⟩ := z_go (x' := (-1)) (σ' := qs_90) (by decide +kernel) rfl hp
  refine am_iconst (v := -1) hC dL_hands_806 (by decide) ?_
  refine am_icmp_ne (tgt := 864) hC dL_hands_807 (by decide) (fun c_807 => absurd (by decide) c_807) (fun c_807 => ?_)
  refine am_aload_n hC dL_hands_810 rfl ?_
  refine am_iconst (v := nI 3) hC dL_hands_811 (by decide) ?_
  refine am_iconst (v := nI 4) hC dL_hands_812 (by decide) ?_
  refine am_iconst (v := nI 1) hC dL_hands_813 (by decide) ?_
  refine am_iconst (v := nI 0) hC dL_hands_814 (by decide) ?_
  refine am_iconst (v := nI 1) hC dL_hands_815 (by decide) ?_
  refine am_callSX hC [.ref (3), .int (nI 3), .int (nI 4), .int (nI 1), .int (nI 0), .int (nI 1)] mf_L_act tw_447 (c_act3 _ _ (am_tr hC) h hS _ _ _ _) rfl ⟨rfl, Nat.le_of_ble_eq_true rfl⟩ ⟨by decide, by decide⟩ (by decide) (by decide) dL_hands_816 rfl (fun _ _ q _ => False.elim q) (fun v h hp hlc => ?_)
  obtain ⟨rfl, hS⟩ := z_goa (x' := (-73)) (σ' := qs_90) (by decide +kernel) (z_sx (by decide +kernel)) hp
  refine am_iload_n hC dL_hands_819 rfl ?_
  refine am_icmp_ne (tgt := 864) hC dL_hands_820 (by decide) (fun c_820 => absurd (by decide) c_820) (fun c_820 => ?_)
  refine am_aload_n hC dL_hands_823 rfl ?_
  refine am_iconst (v := nI 4) hC dL_hands_824 (by decide) ?_
  refine am_iconst (v := nI 5) hC dL_hands_825 (by decide) ?_
  refine am_callSX hC [.ref (3), .int (nI 4), .int (nI 5)] mf_L_lock tw_436 (c_lock _ _ (am_tr hC) h hS _ _) rfl ⟨rfl, Nat.le_of_ble_eq_true rfl⟩ ⟨by decide, by decide⟩ (by decide) (by decide) dL_hands_826 rfl (fun _ _ q _ => False.elim q) (fun v h hp hlc => ?_)
  obtain ⟨rfl, hS⟩ := z_goa (x' := nI 0) (σ' := qs_91) (by decide +kernel) (z_sx (by decide +kernel)) hp
  refine am_if_ne (tgt := 864) hC dL_hands_829 (by decide) (fun c_829 => absurd (by decide) c_829) (fun c_829 => ?_)
  refine am_aload_n hC dL_hands_832 rfl ?_
  refine am_iconst (v := nI 4) hC dL_hands_833 (by decide) ?_
  refine am_callV hC (ci := 6) (N := 4) [.int (nI 4)] rfl (SZ_3 hS) rfl mf_X5_canChange tw_492 (d_canChange _ _ (am_tr hC) h hS _) rfl ⟨rfl, Nat.le_of_ble_eq_true rfl⟩ ⟨by decide, by decide⟩ (by decide) (by decide) dL_hands_834 rfl (fun _ _ q _ => (XN_0 q.2 (by decide +kernel)).elim) (fun v h hp hlc => ?_)
  obtain ⟨rfl, hS⟩ := z_go (x' := nI 5) (σ' := qs_91) (by decide +kernel) rfl hp
  refine am_iconst (v := nI 5) hC dL_hands_837 (by decide) ?_
  refine am_icmp_ne (tgt := 864) hC dL_hands_838 (by decide) (fun c_838 => absurd (by decide) c_838) (fun c_838 => ?_)
  refine am_aload_n hC dL_hands_841 rfl ?_
  refine am_iconst (v := nI 4) hC dL_hands_842 (by decide) ?_
  refine am_iconst (v := nI 3) hC dL_hands_843 (by decide) ?_
  refine am_callV hC (ci := 6) (N := 4) [.int (nI 4), .int (nI 3)] rfl (SZ_3 hS) rfl mf_X5_side tw_350 (d_side _ _ (am_tr hC) h hS _ _) rfl ⟨rfl, Nat.le_of_ble_eq_true rfl⟩ ⟨by decide, by decide⟩ (by decide) (by decide) dL_hands_844 rfl (fun _ _ q _ => (XN_0 q.2 (by decide +kernel)).elim) (fun v h hp hlc => ?_)
  obtain ⟨rfl, hS⟩ := z_go (x' := nI 1) (σ' := qs_91) (by decide +kernel) rfl hp
  refine am_iconst (v := nI 1) hC dL_hands_847 (by decide) ?_
  refine am_icmp_ne (tgt := 864) hC dL_hands_848 (by decide) (fun c_848 => absurd (by decide) c_848) (fun c_848 => ?_)
  refine am_aload_n hC dL_hands_851 rfl ?_
  refine am_iconst (v := nI 1) hC dL_hands_852 (by decide) ?_
  refine am_iconst (v := nI 2) hC dL_hands_853 (by decide) ?_
  refine am_callS hC [.ref (3), .int (nI 1), .int (nI 2)] mf_L_refuses tw_573 (c_refuses' _ _ (am_tr hC) h hS (p := 1) (q := 2) rfl rfl) rfl ⟨rfl, Nat.le_of_ble_eq_true rfl⟩ ⟨by decide, by decide⟩ (by decide) (by decide) dL_hands_854 rfl (fun _ _ q _ => False.elim q) (fun v h hp hlc => ?_)
  obtain ⟨rfl, hS⟩ := hp
  refine am_if_eq (tgt := 864) hC dL_hands_857 (by decide) (fun c_857 => absurd c_857 (by decide)) (fun c_857 => ?_)
  refine am_iconst (v := nI 1) hC dL_hands_860 (by decide) ?_
  refine am_goto (tgt := 865) hC dL_hands_861 (by decide) ?_
  refine am_iret hC hR rfl (by decide) (by decide) dL_hands_865 ?_
  exact rfl
set_option maxRecDepth 100000 in
set_option maxHeartbeats 4000000 in
theorem hands_8 {Z : am_Z} (hC : am_OK Z "HousePlansLaw" cL_hands 3 16 6243 111451) (hR : am_Rt Z (some .boolean) [] z_one am_no 6243 111451) (h : am_H) (hS : SZ h qs_86) : am_W Z 4181 74309 665 [.ref (3), .int (-73), .int (nI 7)] [] h := by
  refine am_aload_n hC dL_hands_665 rfl ?_
  refine am_iconst (v := nI 4) hC dL_hands_666 (by decide) ?_
  refine am_iconst (v := nI 1) hC dL_hands_667 (by decide) ?_
  refine am_callSX hC [.ref (3), .int (nI 4), .int (nI 1)] mf_L_unlock tw_585 (c_unlock _ _ (am_tr hC) h hS _ _) rfl ⟨rfl, Nat.le_of_ble_eq_true rfl⟩ ⟨by decide, by decide⟩ (by decide) (by decide) dL_hands_668 rfl (fun _ _ q _ => False.elim q) (fun v h hp hlc => ?_)
  obtain ⟨rfl, hS⟩ := z_goa (x' := (-73)) (σ' := qs_86) (by decide +kernel) (z_sx (by decide +kernel)) hp
  refine am_iload_n hC dL_hands_671 rfl ?_
  refine am_icmp_ne (tgt := 864) hC dL_hands_672 (by decide) (fun c_672 => absurd (by decide) c_672) (fun c_672 => ?_)
  refine am_aload_n hC dL_hands_675 rfl ?_
  refine am_iconst (v := nI 4) hC dL_hands_676 (by decide) ?_
  refine am_iconst (v := nI 5) hC dL_hands_677 (by decide) ?_
  refine am_callSX hC [.ref (3), .int (nI 4), .int (nI 5)] mf_L_unlock tw_585 (c_unlock _ _ (am_tr hC) h hS _ _) rfl ⟨rfl, Nat.le_of_ble_eq_true rfl⟩ ⟨by decide, by decide⟩ (by decide) (by decide) dL_hands_678 rfl (fun _ _ q _ => False.elim q) (fun v h hp hlc => ?_)
  obtain ⟨rfl, hS⟩ := z_goa (x' := (-73)) (σ' := qs_86) (by decide +kernel) (z_sx (by decide +kernel)) hp
  refine am_iload_n hC dL_hands_681 rfl ?_
  refine am_icmp_ne (tgt := 864) hC dL_hands_682 (by decide) (fun c_682 => absurd (by decide) c_682) (fun c_682 => ?_)
  refine am_aload_n hC dL_hands_685 rfl ?_
  refine am_bipush (v := nI 11) hC dL_hands_686 (by decide) ?_
  refine am_iconst (v := nI 4) hC dL_hands_688 (by decide) ?_
  refine am_iconst (v := nI 5) hC dL_hands_689 (by decide) ?_
  refine am_iconst (v := nI 0) hC dL_hands_690 (by decide) ?_
  refine am_iconst (v := nI 0) hC dL_hands_691 (by decide) ?_
  refine am_callSX hC [.ref (3), .int (nI 11), .int (nI 4), .int (nI 5), .int (nI 0), .int (nI 0)] mf_L_act tw_447 (c_act11 _ _ (am_tr hC) h hS _ _ _ _) rfl ⟨rfl, Nat.le_of_ble_eq_true rfl⟩ ⟨by decide, by decide⟩ (by decide) (by decide) dL_hands_692 rfl (fun _ _ q _ => False.elim q) (fun v h hp hlc => ?_)
  obtain ⟨rfl, hS⟩ := z_goa (x' := (-73)) (σ' := qs_86) (by decide +kernel) (z_sx (by decide +kernel)) hp
  refine am_iload_n hC dL_hands_695 rfl ?_
  refine am_icmp_ne (tgt := 864) hC dL_hands_696 (by decide) (fun c_696 => absurd (by decide) c_696) (fun c_696 => ?_)
  refine am_aload_n hC dL_hands_699 rfl ?_
  refine am_iconst (v := nI 4) hC dL_hands_700 (by decide) ?_
  refine am_iconst (v := nI 1) hC dL_hands_701 (by decide) ?_
  refine am_iconst (v := nI 0) hC dL_hands_702 (by decide) ?_
  refine am_callV hC (ci := 6) (N := 4) [.int (nI 4), .int (nI 1), .int (nI 0)] rfl (SZ_3 hS) rfl mf_X5_lend tw_483 (d_lend _ _ (am_tr hC) h hS _ _ _) rfl ⟨rfl, Nat.le_of_ble_eq_true rfl⟩ ⟨by decide, by decide⟩ (by decide) (by decide) dL_hands_703 rfl (fun _ _ q _ => (XN_0 q.2 (by decide +kernel)).elim) (fun v h hp hlc => ?_)
  obtain ⟨rfl, hS⟩ := z_go (x' := nI 5) (σ' := qs_87) (by decide +kernel) (z_sx (by decide +kernel)) hp
  refine am_iconst (v := nI 5) hC dL_hands_706 (by decide) ?_
  refine am_icmp_ne (tgt := 864) hC dL_hands_707 (by decide) (fun c_707 => absurd (by decide) c_707) (fun c_707 => ?_)
  refine am_aload_n hC dL_hands_710 rfl ?_
  refine am_iconst (v := nI 4) hC dL_hands_711 (by decide) ?_
  refine am_callV hC (ci := 6) (N := 4) [.int (nI 4)] rfl (SZ_3 hS) rfl mf_X5_canChange tw_492 (d_canChange _ _ (am_tr hC) h hS _) rfl ⟨rfl, Nat.le_of_ble_eq_true rfl⟩ ⟨by decide, by decide⟩ (by decide) (by decide) dL_hands_712 rfl (fun _ _ q _ => (XN_0 q.2 (by decide +kernel)).elim) (fun v h hp hlc => ?_)
  obtain ⟨rfl, hS⟩ := z_go (x' := nI 0) (σ' := qs_87) (by decide +kernel) rfl hp
  refine am_if_ne (tgt := 864) hC dL_hands_715 (by decide) (fun c_715 => absurd (by decide) c_715) (fun c_715 => ?_)
  refine am_aload_n hC dL_hands_718 rfl ?_
  refine am_iconst (v := nI 2) hC dL_hands_719 (by decide) ?_
  refine am_iconst (v := nI 4) hC dL_hands_720 (by decide) ?_
  refine am_iconst (v := nI 5) hC dL_hands_721 (by decide) ?_
  refine am_iconst (v := nI 3) hC dL_hands_722 (by decide) ?_
  refine am_iconst (v := nI 1) hC dL_hands_723 (by decide) ?_
  refine am_callSX hC [.ref (3), .int (nI 2), .int (nI 4), .int (nI 5), .int (nI 3), .int (nI 1)] mf_L_act tw_447 (c_act2 _ _ (am_tr hC) h hS _ _ _ _) rfl ⟨rfl, Nat.le_of_ble_eq_true rfl⟩ ⟨by decide, by decide⟩ (by decide) (by decide) dL_hands_724 rfl (fun _ _ q _ => False.elim q) (fun v h hp hlc => ?_)
  obtain ⟨rfl, hS⟩ := z_goa (x' := (-73)) (σ' := qs_87) (by decide +kernel) (z_sx (by decide +kernel)) hp
  refine am_iload_n hC dL_hands_727 rfl ?_
  refine am_icmp_ne (tgt := 864) hC dL_hands_728 (by decide) (fun c_728 => absurd (by decide) c_728) (fun c_728 => ?_)
  refine am_aload_n hC dL_hands_731 rfl ?_
  refine am_iconst (v := nI 4) hC dL_hands_732 (by decide) ?_
  refine am_iconst (v := nI 0) hC dL_hands_733 (by decide) ?_
  refine am_iconst (v := nI 3) hC dL_hands_734 (by decide) ?_
  refine am_iconst (v := nI 1) hC dL_hands_735 (by decide) ?_
  refine am_callV hC (ci := 6) (N := 4) [.int (nI 4), .int (nI 0), .int (nI 3), .int (nI 1)] rfl (SZ_3 hS) rfl mf_X5_setExit tw_342 (d_setExit _ _ (am_tr hC) h hS _ _ _ true) rfl ⟨rfl, Nat.le_of_ble_eq_true rfl⟩ ⟨by decide, by decide⟩ (by decide) (by decide) dL_hands_736 rfl (fun _ _ q _ => (XN_0 q.2 (by decide +kernel)).elim) (fun v h hp hlc => ?_)
  obtain ⟨rfl, hS⟩ := z_go (x' := nI 0) (σ' := qs_88) (by decide +kernel) (z_sx (by decide +kernel)) hp
  refine am_if_ne (tgt := 864) hC dL_hands_739 (by decide) (fun c_739 => absurd (by decide) c_739) (fun c_739 => ?_)
  refine am_aload_n hC dL_hands_742 rfl ?_
  refine am_iconst (v := nI 4) hC dL_hands_743 (by decide) ?_
  refine am_iconst (v := nI 1) hC dL_hands_744 (by decide) ?_
  refine am_iconst (v := -1) hC dL_hands_745 (by decide) ?_
  refine am_callV hC (ci := 6) (N := 4) [.int (nI 4), .int (nI 1), .int (-1)] rfl (SZ_3 hS) rfl mf_X5_lend tw_483 (d_lend _ _ (am_tr hC) h hS _ _ _) rfl ⟨rfl, Nat.le_of_ble_eq_true rfl⟩ ⟨by decide, by decide⟩ (by decide) (by decide) dL_hands_746 rfl (fun _ _ q _ => (XN_0 q.2 (by decide +kernel)).elim) (fun v h hp hlc => ?_)
  obtain ⟨rfl, hS⟩ := z_go (x' := nI 0) (σ' := qs_89) (by decide +kernel) (z_sx (by decide +kernel)) hp
  refine am_if_ne (tgt := 864) hC dL_hands_749 (by decide) (fun c_749 => absurd (by decide) c_749) (fun c_749 => ?_)
  refine am_aload_n hC dL_hands_752 rfl ?_
  refine am_iconst (v := nI 4) hC dL_hands_753 (by decide) ?_
  refine am_iconst (v := nI 1) hC dL_hands_754 (by decide) ?_
  refine am_iconst (v := -1) hC dL_hands_755 (by decide) ?_
  refine am_callV hC (ci := 6) (N := 4) [.int (nI 4), .int (nI 1), .int (-1)] rfl (SZ_3 hS) rfl mf_X5_lend tw_483 (d_lend _ _ (am_tr hC) h hS _ _ _) rfl ⟨rfl, Nat.le_of_ble_eq_true rfl⟩ ⟨by decide, by decide⟩ (by decide) (by decide) dL_hands_756 rfl (fun _ _ q _ => (XN_0 q.2 (by decide +kernel)).elim) (fun v h hp hlc => ?_)
  obtain ⟨rfl, hS⟩ := z_go (x' := (-1)) (σ' := qs_89) (by decide +kernel) rfl hp
  refine am_iconst (v := -1) hC dL_hands_759 (by decide) ?_
  refine am_icmp_ne (tgt := 864) hC dL_hands_760 (by decide) (fun c_760 => absurd (by decide) c_760) (fun c_760 => ?_)
  refine am_aload_n hC dL_hands_763 rfl ?_
  refine am_iconst (v := nI 4) hC dL_hands_764 (by decide) ?_
  refine am_callV hC (ci := 6) (N := 4) [.int (nI 4)] rfl (SZ_3 hS) rfl mf_X5_canChange tw_492 (d_canChange _ _ (am_tr hC) h hS _) rfl ⟨rfl, Nat.le_of_ble_eq_true rfl⟩ ⟨by decide, by decide⟩ (by decide) (by decide) dL_hands_765 rfl (fun _ _ q _ => (XN_0 q.2 (by decide +kernel)).elim) (fun v h hp hlc => ?_)
  obtain ⟨rfl, hS⟩ := z_go (x' := nI 1) (σ' := qs_89) (by decide +kernel) rfl hp
  refine am_iconst (v := nI 1) hC dL_hands_768 (by decide) ?_
  refine am_icmp_ne (tgt := 864) hC dL_hands_769 (by decide) (fun c_769 => absurd (by decide) c_769) (fun c_769 => ?_)
  exact am_more (kc' := 4269) (ks' := 75357) (by decide) (by decide) (hands_9 hC hR h hS)
set_option maxRecDepth 100000 in
set_option maxHeartbeats 4000000 in
theorem hands_7 {Z : am_Z} (hC : am_OK Z "HousePlansLaw" cL_hands 3 16 6243 111451) (hR : am_Rt Z (some .boolean) [] z_one am_no 6243 111451) (h : am_H) (hS : SZ h qs_82) : am_W Z 2313 39641 565 [.ref (3), .int (-73), .int (nI 7)] [] h := by
  refine am_aload_n hC dL_hands_565 rfl ?_
  refine am_iconst (v := nI 0) hC dL_hands_566 (by decide) ?_
  refine am_callV hC (ci := 6) (N := 4) [.int (nI 0)] rfl (SZ_3 hS) rfl mf_X5_holds tw_523 (d_holds _ _ (am_tr hC) h hS _) rfl ⟨rfl, Nat.le_of_ble_eq_true rfl⟩ ⟨by decide, by decide⟩ (by decide) (by decide) dL_hands_567 rfl (fun _ _ q _ => (XN_0 q.2 (by decide +kernel)).elim) (fun v h hp hlc => ?_)
  obtain ⟨rfl, hS⟩ := z_go (x' := nI 1) (σ' := qs_82) (by decide +kernel) rfl hp
  refine am_if_eq (tgt := 618) hC dL_hands_570 (by decide) (fun c_570 => absurd c_570 (by decide)) (fun c_570 => ?_)
  refine am_aload_n hC dL_hands_573 rfl ?_
  refine am_callV hC (ci := 6) (N := 4) [] rfl (SZ_3 hS) rfl mf_X5_old tw_580 (d_old _ _ (am_tr hC) h hS) rfl ⟨rfl, Nat.le_of_ble_eq_true rfl⟩ ⟨by decide, by decide⟩ (by decide) (by decide) dL_hands_574 rfl (fun _ _ q _ => False.elim q) (fun v h hp hlc => ?_)
  obtain ⟨rfl, hS⟩ := z_goa (x' := nI 0) (by decide +kernel) rfl hp
  refine am_if_ne (tgt := 618) hC dL_hands_577 (by decide) (fun c_577 => absurd (by decide) c_577) (fun c_577 => ?_)
  refine am_aload_n hC dL_hands_580 rfl ?_
  refine am_iconst (v := nI 4) hC dL_hands_581 (by decide) ?_
  refine am_iconst (v := nI 1) hC dL_hands_582 (by decide) ?_
  refine am_iconst (v := nI 5) hC dL_hands_583 (by decide) ?_
  refine am_iconst (v := nI 1) hC dL_hands_584 (by decide) ?_
  refine am_callV hC (ci := 6) (N := 4) [.int (nI 4), .int (nI 1), .int (nI 5), .int (nI 1)] rfl (SZ_3 hS) rfl mf_X5_refer tw_450 (d_refer _ _ (am_tr hC) h hS _ _ _ true) rfl ⟨rfl, Nat.le_of_ble_eq_true rfl⟩ ⟨by decide, by decide⟩ (by decide) (by decide) dL_hands_585 rfl (fun _ _ q _ => (XN_0 q.2 (by decide +kernel)).elim) (fun v h hp hlc => ?_)
  obtain ⟨rfl, hS⟩ := z_go (x' := nI 0) (σ' := qs_83) (by decide +kernel) (z_sx (by decide +kernel)) hp
  refine am_if_ne (tgt := 618) hC dL_hands_588 (by decide) (fun c_588 => absurd (by decide) c_588) (fun c_588 => ?_)
  refine am_aload_n hC dL_hands_591 rfl ?_
  refine am_iconst (v := nI 4) hC dL_hands_592 (by decide) ?_
  refine am_callV hC (ci := 6) (N := 4) [.int (nI 4)] rfl (SZ_3 hS) rfl mf_X5_print tw_536 (d_print _ _ (am_tr hC) h hS _) rfl ⟨rfl, Nat.le_of_ble_eq_true rfl⟩ ⟨by decide, by decide⟩ (by decide) (by decide) dL_hands_593 rfl (fun _ _ q _ => (XN_0 q.2 (by decide +kernel)).elim) (fun v h hp hlc => ?_)
  obtain ⟨rfl, hS⟩ := z_go (x' := nI 1) (σ' := qs_84) (by decide +kernel) (z_sx (by decide +kernel)) hp
  refine am_iconst (v := nI 1) hC dL_hands_596 (by decide) ?_
  refine am_icmp_ne (tgt := 618) hC dL_hands_597 (by decide) (fun c_597 => absurd (by decide) c_597) (fun c_597 => ?_)
  refine am_aload_n hC dL_hands_600 rfl ?_
  refine am_iconst (v := nI 1) hC dL_hands_601 (by decide) ?_
  refine am_callV hC (ci := 6) (N := 4) [.int (nI 1)] rfl (SZ_3 hS) rfl mf_X5_permitOf tw_426 (d_permitOf _ _ (am_tr hC) h hS _) rfl ⟨rfl, Nat.le_of_ble_eq_true rfl⟩ ⟨by decide, by decide⟩ (by decide) (by decide) dL_hands_602 rfl (fun _ _ q _ => (XN_0 q.2 (by decide +kernel)).elim) (fun v h hp hlc => ?_)
  obtain ⟨rfl, hS⟩ := z_go (x' := (-1)) (σ' := qs_84) (by decide +kernel) rfl hp
  refine am_iconst (v := -1) hC dL_hands_605 (by decide) ?_
  refine am_icmp_ne (tgt := 618) hC dL_hands_606 (by decide) (fun c_606 => absurd (by decide) c_606) (fun c_606 => ?_)
  refine am_aload_n hC dL_hands_609 rfl ?_
  refine am_iconst (v := nI 1) hC dL_hands_610 (by decide) ?_
  refine am_iconst (v := nI 2) hC dL_hands_611 (by decide) ?_
  refine am_callS hC [.ref (3), .int (nI 1), .int (nI 2)] mf_L_refuses tw_573 (c_refuses' _ _ (am_tr hC) h hS (p := 1) (q := 2) rfl rfl) rfl ⟨rfl, Nat.le_of_ble_eq_true rfl⟩ ⟨by decide, by decide⟩ (by decide) (by decide) dL_hands_612 rfl (fun _ _ q _ => False.elim q) (fun v h hp hlc => ?_)
  obtain ⟨rfl, hS⟩ := hp
  refine am_if_ne (tgt := 620) hC dL_hands_615 (by decide) (fun c_615 => ?_) (fun c_615 => absurd c_615 (by decide))
  refine am_aload_n hC dL_hands_620 rfl ?_
  refine am_iconst (v := nI 4) hC dL_hands_621 (by decide) ?_
  refine am_iconst (v := nI 1) hC dL_hands_622 (by decide) ?_
  refine am_iconst (v := nI 5) hC dL_hands_623 (by decide) ?_
  refine am_callV hC (ci := 6) (N := 4) [.int (nI 4), .int (nI 1), .int (nI 5)] rfl (SZ_3 hS) rfl mf_X5_lend tw_483 (d_lend _ _ (am_tr hC) h hS _ _ _) rfl ⟨rfl, Nat.le_of_ble_eq_true rfl⟩ ⟨by decide, by decide⟩ (by decide) (by decide) dL_hands_624 rfl (fun _ _ q _ => (XN_0 q.2 (by decide +kernel)).elim) (fun v h hp hlc => ?_)
  obtain ⟨rfl, hS⟩ := z_go (x' := (-1)) (σ' := qs_85) (by decide +kernel) (z_sx (by decide +kernel)) hp
  refine am_iconst (v := -1) hC dL_hands_627 (by decide) ?_
  refine am_icmp_ne (tgt := 864) hC dL_hands_628 (by decide) (fun c_628 => absurd (by decide) c_628) (fun c_628 => ?_)
  refine am_aload_n hC dL_hands_631 rfl ?_
  refine am_iconst (v := nI 4) hC dL_hands_632 (by decide) ?_
  refine am_callV hC (ci := 6) (N := 4) [.int (nI 4)] rfl (SZ_3 hS) rfl mf_X5_canChange tw_492 (d_canChange _ _ (am_tr hC) h hS _) rfl ⟨rfl, Nat.le_of_ble_eq_true rfl⟩ ⟨by decide, by decide⟩ (by decide) (by decide) dL_hands_633 rfl (fun _ _ q _ => (XN_0 q.2 (by decide +kernel)).elim) (fun v h hp hlc => ?_)
  obtain ⟨rfl, hS⟩ := z_go (x' := nI 5) (σ' := qs_85) (by decide +kernel) rfl hp
  refine am_iconst (v := nI 5) hC dL_hands_636 (by decide) ?_
  refine am_icmp_ne (tgt := 864) hC dL_hands_637 (by decide) (fun c_637 => absurd (by decide) c_637) (fun c_637 => ?_)
  refine am_aload_n hC dL_hands_640 rfl ?_
  refine am_iconst (v := nI 1) hC dL_hands_641 (by decide) ?_
  refine am_iconst (v := nI 4) hC dL_hands_642 (by decide) ?_
  refine am_iconst (v := nI 1) hC dL_hands_643 (by decide) ?_
  refine am_iconst (v := nI 3) hC dL_hands_644 (by decide) ?_
  refine am_iconst (v := nI 1) hC dL_hands_645 (by decide) ?_
  refine am_callSX hC [.ref (3), .int (nI 1), .int (nI 4), .int (nI 1), .int (nI 3), .int (nI 1)] mf_L_act tw_447 (c_act1 _ _ (am_tr hC) h hS _ _ _ _) rfl ⟨rfl, Nat.le_of_ble_eq_true rfl⟩ ⟨by decide, by decide⟩ (by decide) (by decide) dL_hands_646 rfl (fun _ _ q _ => False.elim q) (fun v h hp hlc => ?_)
  obtain ⟨rfl, hS⟩ := z_goa (x' := (-73)) (σ' := qs_85) (by decide +kernel) (z_sx (by decide +kernel)) hp
  refine am_iload_n hC dL_hands_649 rfl ?_
  refine am_icmp_ne (tgt := 864) hC dL_hands_650 (by decide) (fun c_650 => absurd (by decide) c_650) (fun c_650 => ?_)
  refine am_aload_n hC dL_hands_653 rfl ?_
  refine am_iconst (v := nI 4) hC dL_hands_654 (by decide) ?_
  refine am_iconst (v := nI 5) hC dL_hands_655 (by decide) ?_
  refine am_iconst (v := nI 3) hC dL_hands_656 (by decide) ?_
  refine am_iconst (v := nI 1) hC dL_hands_657 (by decide) ?_
  refine am_callV hC (ci := 6) (N := 4) [.int (nI 4), .int (nI 5), .int (nI 3), .int (nI 1)] rfl (SZ_3 hS) rfl mf_X5_tell tw_272 (d_tell _ _ (am_tr hC) h hS _ _ _ _) rfl ⟨rfl, Nat.le_of_ble_eq_true rfl⟩ ⟨by decide, by decide⟩ (by decide) (by decide) dL_hands_658 rfl (fun _ _ q _ => (XN_0 q.2 (by decide +kernel)).elim) (fun v h hp hlc => ?_)
  obtain ⟨rfl, hS⟩ := z_go (x' := (-1)) (σ' := qs_86) (by decide +kernel) (z_sx (by decide +kernel)) hp
  refine am_iconst (v := -1) hC dL_hands_661 (by decide) ?_
  refine am_icmp_ne (tgt := 864) hC dL_hands_662 (by decide) (fun c_662 => absurd (by decide) c_662) (fun c_662 => ?_)
  exact am_more (kc' := 4181) (ks' := 74309) (by decide) (by decide) (hands_8 hC hR h hS)
set_option maxRecDepth 100000 in
set_option maxHeartbeats 4000000 in
theorem hands_6 {Z : am_Z} (hC : am_OK Z "HousePlansLaw" cL_hands 3 16 6243 111451) (hR : am_Rt Z (some .boolean) [] z_one am_no 6243 111451) (h : am_H) (hS : SZ h qs_77) : am_W Z 445 4973 471 [.ref (3), .int (-73), .int (nI 7)] [] h := by
  refine am_aload_n hC dL_hands_471 rfl ?_
  refine am_iconst (v := nI 0) hC dL_hands_472 (by decide) ?_
  refine am_iconst (v := nI 0) hC dL_hands_473 (by decide) ?_
  refine am_callS hC [.ref (3), .int (nI 0), .int (nI 0)] mf_L_refuses tw_573 (c_refuses' _ _ (am_tr hC) h hS (p := 0) (q := 0) rfl rfl) rfl ⟨rfl, Nat.le_of_ble_eq_true rfl⟩ ⟨by decide, by decide⟩ (by decide) (by decide) dL_hands_474 rfl (fun _ _ q _ => False.elim q) (fun v h hp hlc => ?_)
  obtain ⟨rfl, hS⟩ := hp
  refine am_if_ne (tgt := 482) hC dL_hands_477 (by decide) (fun c_477 => ?_) (fun c_477 => absurd c_477 (by decide))
  refine am_aload_n hC dL_hands_482 rfl ?_
  refine am_iconst (v := nI 5) hC dL_hands_483 (by decide) ?_
  refine am_iconst (v := nI 2) hC dL_hands_484 (by decide) ?_
  refine am_iconst (v := nI 2) hC dL_hands_485 (by decide) ?_
  refine am_iconst (v := nI 1) hC dL_hands_486 (by decide) ?_
  refine am_callV hC (ci := 6) (N := 4) [.int (nI 5), .int (nI 2), .int (nI 2), .int (nI 1)] rfl (SZ_3 hS) rfl mf_X5_refer tw_450 (d_refer _ _ (am_tr hC) h hS _ _ _ true) rfl ⟨rfl, Nat.le_of_ble_eq_true rfl⟩ ⟨by decide, by decide⟩ (by decide) (by decide) dL_hands_487 rfl (fun _ _ q _ => (XN_0 q.2 (by decide +kernel)).elim) (fun v h hp hlc => ?_)
  obtain ⟨rfl, hS⟩ := z_go (x' := nI 0) (σ' := qs_78) (by decide +kernel) (z_sx (by decide +kernel)) hp
  refine am_if_ne (tgt := 618) hC dL_hands_490 (by decide) (fun c_490 => absurd (by decide) c_490) (fun c_490 => ?_)
  refine am_aload_n hC dL_hands_493 rfl ?_
  refine am_iconst (v := nI 5) hC dL_hands_494 (by decide) ?_
  refine am_callV hC (ci := 6) (N := 4) [.int (nI 5)] rfl (SZ_3 hS) rfl mf_X5_grant tw_496 (d_grant _ _ (am_tr hC) h hS _ true (fun _ => by rw [dn_nI (by decide)]; exact z_VWo qv_22 (by decide +kernel))) rfl ⟨rfl, Nat.le_of_ble_eq_true rfl⟩ ⟨by decide, by decide⟩ (by decide) (by decide) dL_hands_495 rfl (fun _ _ q _ => (XN_0 q.2 (by decide +kernel)).elim) (fun v h hp hlc => ?_)
  obtain ⟨rfl, hS⟩ := z_go (x' := nI 0) (σ' := qs_79) (by decide +kernel) (z_sx (by decide +kernel)) hp
  refine am_if_ne (tgt := 618) hC dL_hands_498 (by decide) (fun c_498 => absurd (by decide) c_498) (fun c_498 => ?_)
  refine am_aload_n hC dL_hands_501 rfl ?_
  refine am_iconst (v := nI 5) hC dL_hands_502 (by decide) ?_
  refine am_callV hC (ci := 6) (N := 4) [.int (nI 5)] rfl (SZ_3 hS) rfl mf_X5_print tw_536 (d_print _ _ (am_tr hC) h hS _) rfl ⟨rfl, Nat.le_of_ble_eq_true rfl⟩ ⟨by decide, by decide⟩ (by decide) (by decide) dL_hands_503 rfl (fun _ _ q _ => (XN_0 q.2 (by decide +kernel)).elim) (fun v h hp hlc => ?_)
  obtain ⟨rfl, hS⟩ := z_go (x' := nI 0) (σ' := qs_80) (by decide +kernel) (z_sx (by decide +kernel)) hp
  refine am_if_ne (tgt := 618) hC dL_hands_506 (by decide) (fun c_506 => absurd (by decide) c_506) (fun c_506 => ?_)
  refine am_aload_n hC dL_hands_509 rfl ?_
  refine am_iconst (v := nI 0) hC dL_hands_510 (by decide) ?_
  refine am_callV hC (ci := 6) (N := 4) [.int (nI 0)] rfl (SZ_3 hS) rfl mf_X5_isGood tw_564 (d_isGood _ _ (am_tr hC) h hS _) rfl ⟨rfl, Nat.le_of_ble_eq_true rfl⟩ ⟨by decide, by decide⟩ (by decide) (by decide) dL_hands_511 rfl (fun _ _ q _ => (XN_0 q.2 (by decide +kernel)).elim) (fun v h hp hlc => ?_)
  obtain ⟨rfl, hS⟩ := z_go (x' := nI 1) (σ' := qs_80) (by decide +kernel) rfl hp
  refine am_if_eq (tgt := 618) hC dL_hands_514 (by decide) (fun c_514 => absurd c_514 (by decide)) (fun c_514 => ?_)
  refine am_aload_n hC dL_hands_517 rfl ?_
  refine am_iconst (v := nI 1) hC dL_hands_518 (by decide) ?_
  refine am_iconst (v := nI 1) hC dL_hands_519 (by decide) ?_
  refine am_iconst (v := nI 1) hC dL_hands_520 (by decide) ?_
  refine am_iconst (v := -1) hC dL_hands_521 (by decide) ?_
  refine am_callV hC (ci := 6) (N := 4) [.int (nI 1), .int (nI 1), .int (nI 1), .int (-1)] rfl (SZ_3 hS) rfl mf_X5_tell tw_272 (d_tell _ _ (am_tr hC) h hS _ _ _ _) rfl ⟨rfl, Nat.le_of_ble_eq_true rfl⟩ ⟨by decide, by decide⟩ (by decide) (by decide) dL_hands_522 rfl (fun _ _ q _ => (XN_0 q.2 (by decide +kernel)).elim) (fun v h hp hlc => ?_)
  obtain ⟨rfl, hS⟩ := z_go (x' := nI 2) (σ' := qs_81) (by decide +kernel) (z_sx (by decide +kernel)) hp
  refine am_iconst (v := nI 2) hC dL_hands_525 (by decide) ?_
  refine am_icmp_ne (tgt := 618) hC dL_hands_526 (by decide) (fun c_526 => absurd (by decide) c_526) (fun c_526 => ?_)
  refine am_aload_n hC dL_hands_529 rfl ?_
  refine am_iconst (v := nI 0) hC dL_hands_530 (by decide) ?_
  refine am_callV hC (ci := 6) (N := 4) [.int (nI 0)] rfl (SZ_3 hS) rfl mf_X5_holds tw_523 (d_holds _ _ (am_tr hC) h hS _) rfl ⟨rfl, Nat.le_of_ble_eq_true rfl⟩ ⟨by decide, by decide⟩ (by decide) (by decide) dL_hands_531 rfl (fun _ _ q _ => (XN_0 q.2 (by decide +kernel)).elim) (fun v h hp hlc => ?_)
  obtain ⟨rfl, hS⟩ := z_go (x' := nI 0) (σ' := qs_81) (by decide +kernel) rfl hp
  refine am_if_ne (tgt := 618) hC dL_hands_534 (by decide) (fun c_534 => absurd (by decide) c_534) (fun c_534 => ?_)
  refine am_aload_n hC dL_hands_537 rfl ?_
  refine am_iconst (v := nI 0) hC dL_hands_538 (by decide) ?_
  refine am_callV hC (ci := 6) (N := 4) [.int (nI 0)] rfl (SZ_3 hS) rfl mf_X5_isGood tw_564 (d_isGood _ _ (am_tr hC) h hS _) rfl ⟨rfl, Nat.le_of_ble_eq_true rfl⟩ ⟨by decide, by decide⟩ (by decide) (by decide) dL_hands_539 rfl (fun _ _ q _ => (XN_0 q.2 (by decide +kernel)).elim) (fun v h hp hlc => ?_)
  obtain ⟨rfl, hS⟩ := z_go (x' := nI 0) (σ' := qs_81) (by decide +kernel) rfl hp
  refine am_if_ne (tgt := 618) hC dL_hands_542 (by decide) (fun c_542 => absurd (by decide) c_542) (fun c_542 => ?_)
  refine am_aload_n hC dL_hands_545 rfl ?_
  refine am_callV hC (ci := 6) (N := 4) [] rfl (SZ_3 hS) rfl mf_X5_old tw_580 (d_old _ _ (am_tr hC) h hS) rfl ⟨rfl, Nat.le_of_ble_eq_true rfl⟩ ⟨by decide, by decide⟩ (by decide) (by decide) dL_hands_546 rfl (fun _ _ q _ => False.elim q) (fun v h hp hlc => ?_)
  obtain ⟨rfl, hS⟩ := z_goa (x' := nI 1) (by decide +kernel) rfl hp
  refine am_iconst (v := nI 1) hC dL_hands_549 (by decide) ?_
  refine am_icmp_ne (tgt := 618) hC dL_hands_550 (by decide) (fun c_550 => absurd (by decide) c_550) (fun c_550 => ?_)
  refine am_aload_n hC dL_hands_553 rfl ?_
  refine am_iconst (v := nI 5) hC dL_hands_554 (by decide) ?_
  refine am_iconst (v := nI 2) hC dL_hands_555 (by decide) ?_
  refine am_iconst (v := nI 1) hC dL_hands_556 (by decide) ?_
  refine am_iconst (v := nI 2) hC dL_hands_557 (by decide) ?_
  refine am_callV hC (ci := 6) (N := 4) [.int (nI 5), .int (nI 2), .int (nI 1), .int (nI 2)] rfl (SZ_3 hS) rfl mf_X5_tell tw_272 (d_tell _ _ (am_tr hC) h hS _ _ _ _) rfl ⟨rfl, Nat.le_of_ble_eq_true rfl⟩ ⟨by decide, by decide⟩ (by decide) (by decide) dL_hands_558 rfl (fun _ _ q _ => (XN_0 q.2 (by decide +kernel)).elim) (fun v h hp hlc => ?_)
  obtain ⟨rfl, hS⟩ := z_go (x' := (-1)) (σ' := qs_82) (by decide +kernel) (z_sx (by decide +kernel)) hp
  refine am_iconst (v := -1) hC dL_hands_561 (by decide) ?_
  refine am_icmp_ne (tgt := 618) hC dL_hands_562 (by decide) (fun c_562 => absurd (by decide) c_562) (fun c_562 => ?_)
  exact am_more (kc' := 2313) (ks' := 39641) (by decide) (by decide) (hands_7 hC hR h hS)
set_option maxRecDepth 100000 in
set_option maxHeartbeats 4000000 in
theorem hands_5 {Z : am_Z} (hC : am_OK Z "HousePlansLaw" cL_hands 3 16 6243 111451) (hR : am_Rt Z (some .boolean) [] z_one am_no 6243 111451) (h : am_H) (hS : SZ h qs_74) : am_W Z 363 4351 364 [.ref (3), .int (-73), .int (nI 7)] [] h := by
  refine am_aload_n hC dL_hands_364 rfl ?_
  refine am_iconst (v := nI 2) hC dL_hands_365 (by decide) ?_
  refine am_iconst (v := nI 2) hC dL_hands_366 (by decide) ?_
  refine am_iconst (v := nI 1) hC dL_hands_367 (by decide) ?_
  refine am_iconst (v := nI 1) hC dL_hands_368 (by decide) ?_
  refine am_callV hC (ci := 6) (N := 4) [.int (nI 2), .int (nI 2), .int (nI 1), .int (nI 1)] rfl (SZ_3 hS) rfl mf_X5_refer tw_450 (d_refer _ _ (am_tr hC) h hS _ _ _ true) rfl ⟨rfl, Nat.le_of_ble_eq_true rfl⟩ ⟨by decide, by decide⟩ (by decide) (by decide) dL_hands_369 rfl (fun _ _ q _ => (XN_0 q.2 (by decide +kernel)).elim) (fun v h hp hlc => ?_)
  obtain ⟨rfl, hS⟩ := z_go (x' := nI 0) (σ' := qs_75) (by decide +kernel) (z_sx (by decide +kernel)) hp
  refine am_if_ne (tgt := 480) hC dL_hands_372 (by decide) (fun c_372 => absurd (by decide) c_372) (fun c_372 => ?_)
  refine am_aload_n hC dL_hands_375 rfl ?_
  refine am_iconst (v := nI 0) hC dL_hands_376 (by decide) ?_
  refine am_iconst (v := nI 0) hC dL_hands_377 (by decide) ?_
  refine am_callV hC (ci := 6) (N := 4) [.int (nI 0), .int (nI 0)] rfl (SZ_3 hS) rfl mf_X5_side tw_350 (d_side _ _ (am_tr hC) h hS _ _) rfl ⟨rfl, Nat.le_of_ble_eq_true rfl⟩ ⟨by decide, by decide⟩ (by decide) (by decide) dL_hands_378 rfl (fun _ _ q _ => (XN_0 q.2 (by decide +kernel)).elim) (fun v h hp hlc => ?_)
  obtain ⟨rfl, hS⟩ := z_go (x' := nI 2) (σ' := qs_75) (by decide +kernel) rfl hp
  refine am_iconst (v := nI 2) hC dL_hands_381 (by decide) ?_
  refine am_icmp_ne (tgt := 480) hC dL_hands_382 (by decide) (fun c_382 => absurd (by decide) c_382) (fun c_382 => ?_)
  refine am_aload_n hC dL_hands_385 rfl ?_
  refine am_iconst (v := nI 0) hC dL_hands_386 (by decide) ?_
  refine am_iconst (v := nI 1) hC dL_hands_387 (by decide) ?_
  refine am_callV hC (ci := 6) (N := 4) [.int (nI 0), .int (nI 1)] rfl (SZ_3 hS) rfl mf_X5_side tw_350 (d_side _ _ (am_tr hC) h hS _ _) rfl ⟨rfl, Nat.le_of_ble_eq_true rfl⟩ ⟨by decide, by decide⟩ (by decide) (by decide) dL_hands_388 rfl (fun _ _ q _ => (XN_0 q.2 (by decide +kernel)).elim) (fun v h hp hlc => ?_)
  obtain ⟨rfl, hS⟩ := z_go (x' := nI 2) (σ' := qs_75) (by decide +kernel) rfl hp
  refine am_iconst (v := nI 2) hC dL_hands_391 (by decide) ?_
  refine am_icmp_ne (tgt := 480) hC dL_hands_392 (by decide) (fun c_392 => absurd (by decide) c_392) (fun c_392 => ?_)
  refine am_aload_n hC dL_hands_395 rfl ?_
  refine am_iconst (v := nI 3) hC dL_hands_396 (by decide) ?_
  refine am_iconst (v := nI 1) hC dL_hands_397 (by decide) ?_
  refine am_iconst (v := nI 1) hC dL_hands_398 (by decide) ?_
  refine am_iconst (v := nI 3) hC dL_hands_399 (by decide) ?_
  refine am_iconst (v := nI 1) hC dL_hands_400 (by decide) ?_
  refine am_callSX hC [.ref (3), .int (nI 3), .int (nI 1), .int (nI 1), .int (nI 3), .int (nI 1)] mf_L_act tw_447 (c_act3 _ _ (am_tr hC) h hS _ _ _ _) rfl ⟨rfl, Nat.le_of_ble_eq_true rfl⟩ ⟨by decide, by decide⟩ (by decide) (by decide) dL_hands_401 rfl (fun _ _ q _ => False.elim q) (fun v h hp hlc => ?_)
  obtain ⟨rfl, hS⟩ := z_goa (x' := (-73)) (σ' := qs_75) (by decide +kernel) (z_sx (by decide +kernel)) hp
  refine am_iload_n hC dL_hands_404 rfl ?_
  refine am_icmp_ne (tgt := 480) hC dL_hands_405 (by decide) (fun c_405 => absurd (by decide) c_405) (fun c_405 => ?_)
  refine am_aload_n hC dL_hands_408 rfl ?_
  refine am_iconst (v := nI 3) hC dL_hands_409 (by decide) ?_
  refine am_iconst (v := nI 0) hC dL_hands_410 (by decide) ?_
  refine am_iconst (v := nI 1) hC dL_hands_411 (by decide) ?_
  refine am_iconst (v := nI 1) hC dL_hands_412 (by decide) ?_
  refine am_callV hC (ci := 6) (N := 4) [.int (nI 3), .int (nI 0), .int (nI 1), .int (nI 1)] rfl (SZ_3 hS) rfl mf_X5_refer tw_450 (d_refer _ _ (am_tr hC) h hS _ _ _ true) rfl ⟨rfl, Nat.le_of_ble_eq_true rfl⟩ ⟨by decide, by decide⟩ (by decide) (by decide) dL_hands_413 rfl (fun _ _ q _ => (XN_0 q.2 (by decide +kernel)).elim) (fun v h hp hlc => ?_)
  obtain ⟨rfl, hS⟩ := z_go (x' := nI 1) (σ' := qs_75) (by decide +kernel) rfl hp
  refine am_if_eq (tgt := 480) hC dL_hands_416 (by decide) (fun c_416 => absurd c_416 (by decide)) (fun c_416 => ?_)
  refine am_aload_n hC dL_hands_419 rfl ?_
  refine am_iconst (v := nI 3) hC dL_hands_420 (by decide) ?_
  refine am_iconst (v := nI 0) hC dL_hands_421 (by decide) ?_
  refine am_iconst (v := nI 1) hC dL_hands_422 (by decide) ?_
  refine am_iconst (v := nI 0) hC dL_hands_423 (by decide) ?_
  refine am_callV hC (ci := 6) (N := 4) [.int (nI 3), .int (nI 0), .int (nI 1), .int (nI 0)] rfl (SZ_3 hS) rfl mf_X5_refer tw_450 (d_refer _ _ (am_tr hC) h hS _ _ _ false) rfl ⟨rfl, Nat.le_of_ble_eq_true rfl⟩ ⟨by decide, by decide⟩ (by decide) (by decide) dL_hands_424 rfl (fun _ _ q _ => (XN_0 q.2 (by decide +kernel)).elim) (fun v h hp hlc => ?_)
  obtain ⟨rfl, hS⟩ := z_go (x' := nI 1) (σ' := qs_76) (by decide +kernel) (z_sx (by decide +kernel)) hp
  refine am_if_eq (tgt := 480) hC dL_hands_427 (by decide) (fun c_427 => absurd c_427 (by decide)) (fun c_427 => ?_)
  refine am_aload_n hC dL_hands_430 rfl ?_
  refine am_iconst (v := nI 3) hC dL_hands_431 (by decide) ?_
  refine am_iconst (v := nI 1) hC dL_hands_432 (by decide) ?_
  refine am_callV hC (ci := 6) (N := 4) [.int (nI 3), .int (nI 1)] rfl (SZ_3 hS) rfl mf_X5_side tw_350 (d_side _ _ (am_tr hC) h hS _ _) rfl ⟨rfl, Nat.le_of_ble_eq_true rfl⟩ ⟨by decide, by decide⟩ (by decide) (by decide) dL_hands_433 rfl (fun _ _ q _ => (XN_0 q.2 (by decide +kernel)).elim) (fun v h hp hlc => ?_)
  obtain ⟨rfl, hS⟩ := z_go (x' := nI 2) (σ' := qs_76) (by decide +kernel) rfl hp
  refine am_iconst (v := nI 2) hC dL_hands_436 (by decide) ?_
  refine am_icmp_ne (tgt := 480) hC dL_hands_437 (by decide) (fun c_437 => absurd (by decide) c_437) (fun c_437 => ?_)
  refine am_aload_n hC dL_hands_440 rfl ?_
  refine am_iconst (v := nI 0) hC dL_hands_441 (by decide) ?_
  refine am_iconst (v := nI 0) hC dL_hands_442 (by decide) ?_
  refine am_iconst (v := nI 2) hC dL_hands_443 (by decide) ?_
  refine am_iconst (v := nI 0) hC dL_hands_444 (by decide) ?_
  refine am_callV hC (ci := 6) (N := 4) [.int (nI 0), .int (nI 0), .int (nI 2), .int (nI 0)] rfl (SZ_3 hS) rfl mf_X5_refer tw_450 (d_refer _ _ (am_tr hC) h hS _ _ _ false) rfl ⟨rfl, Nat.le_of_ble_eq_true rfl⟩ ⟨by decide, by decide⟩ (by decide) (by decide) dL_hands_445 rfl (fun _ _ q _ => (XN_0 q.2 (by decide +kernel)).elim) (fun v h hp hlc => ?_)
  obtain ⟨rfl, hS⟩ := z_go (x' := nI 1) (σ' := qs_77) (by decide +kernel) (z_sx (by decide +kernel)) hp
  refine am_if_eq (tgt := 480) hC dL_hands_448 (by decide) (fun c_448 => absurd c_448 (by decide)) (fun c_448 => ?_)
  refine am_aload_n hC dL_hands_451 rfl ?_
  refine am_iconst (v := nI 3) hC dL_hands_452 (by decide) ?_
  refine am_iconst (v := nI 1) hC dL_hands_453 (by decide) ?_
  refine am_callV hC (ci := 6) (N := 4) [.int (nI 3), .int (nI 1)] rfl (SZ_3 hS) rfl mf_X5_side tw_350 (d_side _ _ (am_tr hC) h hS _ _) rfl ⟨rfl, Nat.le_of_ble_eq_true rfl⟩ ⟨by decide, by decide⟩ (by decide) (by decide) dL_hands_454 rfl (fun _ _ q _ => (XN_0 q.2 (by decide +kernel)).elim) (fun v h hp hlc => ?_)
  obtain ⟨rfl, hS⟩ := z_go (x' := (-1)) (σ' := qs_77) (by decide +kernel) rfl hp
  refine am_iconst (v := -1) hC dL_hands_457 (by decide) ?_
  refine am_icmp_ne (tgt := 480) hC dL_hands_458 (by decide) (fun c_458 => absurd (by decide) c_458) (fun c_458 => ?_)
  refine am_aload_n hC dL_hands_461 rfl ?_
  refine am_iconst (v := nI 3) hC dL_hands_462 (by decide) ?_
  refine am_bipush (v := nI 7) hC dL_hands_463 (by decide) ?_
  refine am_callV hC (ci := 6) (N := 4) [.int (nI 3), .int (nI 7)] rfl (SZ_3 hS) rfl mf_X5_hasExit tw_462 (d_hasExit _ _ (am_tr hC) h hS _ _) rfl ⟨rfl, Nat.le_of_ble_eq_true rfl⟩ ⟨by decide, by decide⟩ (by decide) (by decide) dL_hands_465 rfl (fun _ _ q _ => (XN_0 q.2 (by decide +kernel)).elim) (fun v h hp hlc => ?_)
  obtain ⟨rfl, hS⟩ := z_go (x' := nI 0) (σ' := qs_77) (by decide +kernel) rfl hp
  refine am_if_ne (tgt := 480) hC dL_hands_468 (by decide) (fun c_468 => absurd (by decide) c_468) (fun c_468 => ?_)
  exact am_more (kc' := 445) (ks' := 4973) (by decide) (by decide) (hands_6 hC hR h hS)
set_option maxRecDepth 100000 in
set_option maxHeartbeats 4000000 in
theorem hands_4 {Z : am_Z} (hC : am_OK Z "HousePlansLaw" cL_hands 3 16 6243 111451) (hR : am_Rt Z (some .boolean) [] z_one am_no 6243 111451) (h : am_H) (hS : SZ h qs_72) : am_W Z 279 3587 252 [.ref (3), .int (-73), .int (nI 7)] [] h := by
  refine am_aload_n hC dL_hands_252 rfl ?_
  refine am_iconst (v := nI 3) hC dL_hands_253 (by decide) ?_
  refine am_iconst (v := nI 2) hC dL_hands_254 (by decide) ?_
  refine am_iconst (v := nI 2) hC dL_hands_255 (by decide) ?_
  refine am_iconst (v := nI 2) hC dL_hands_256 (by decide) ?_
  refine am_iconst (v := nI 1) hC dL_hands_257 (by decide) ?_
  refine am_callSX hC [.ref (3), .int (nI 3), .int (nI 2), .int (nI 2), .int (nI 2), .int (nI 1)] mf_L_act tw_447 (c_act3 _ _ (am_tr hC) h hS _ _ _ _) rfl ⟨rfl, Nat.le_of_ble_eq_true rfl⟩ ⟨by decide, by decide⟩ (by decide) (by decide) dL_hands_258 rfl (fun _ _ q _ => False.elim q) (fun v h hp hlc => ?_)
  obtain ⟨rfl, hS⟩ := z_goa (x' := (-73)) (σ' := qs_72) (by decide +kernel) (z_sx (by decide +kernel)) hp
  refine am_iload_n hC dL_hands_261 rfl ?_
  refine am_icmp_ne (tgt := 480) hC dL_hands_262 (by decide) (fun c_262 => absurd (by decide) c_262) (fun c_262 => ?_)
  refine am_aload_n hC dL_hands_265 rfl ?_
  refine am_iconst (v := nI 3) hC dL_hands_266 (by decide) ?_
  refine am_iconst (v := nI 2) hC dL_hands_267 (by decide) ?_
  refine am_iconst (v := nI 2) hC dL_hands_268 (by decide) ?_
  refine am_iconst (v := nI 0) hC dL_hands_269 (by decide) ?_
  refine am_iconst (v := nI 1) hC dL_hands_270 (by decide) ?_
  refine am_callSX hC [.ref (3), .int (nI 3), .int (nI 2), .int (nI 2), .int (nI 0), .int (nI 1)] mf_L_act tw_447 (c_act3 _ _ (am_tr hC) h hS _ _ _ _) rfl ⟨rfl, Nat.le_of_ble_eq_true rfl⟩ ⟨by decide, by decide⟩ (by decide) (by decide) dL_hands_271 rfl (fun _ _ q _ => False.elim q) (fun v h hp hlc => ?_)
  obtain ⟨rfl, hS⟩ := z_goa (x' := (-73)) (σ' := qs_72) (by decide +kernel) (z_sx (by decide +kernel)) hp
  refine am_iload_n hC dL_hands_274 rfl ?_
  refine am_icmp_ne (tgt := 480) hC dL_hands_275 (by decide) (fun c_275 => absurd (by decide) c_275) (fun c_275 => ?_)
  refine am_aload_n hC dL_hands_278 rfl ?_
  refine am_iconst (v := nI 2) hC dL_hands_279 (by decide) ?_
  refine am_iconst (v := nI 2) hC dL_hands_280 (by decide) ?_
  refine am_iconst (v := nI 3) hC dL_hands_281 (by decide) ?_
  refine am_iconst (v := nI 0) hC dL_hands_282 (by decide) ?_
  refine am_callV hC (ci := 6) (N := 4) [.int (nI 2), .int (nI 2), .int (nI 3), .int (nI 0)] rfl (SZ_3 hS) rfl mf_X5_refer tw_450 (d_refer _ _ (am_tr hC) h hS _ _ _ false) rfl ⟨rfl, Nat.le_of_ble_eq_true rfl⟩ ⟨by decide, by decide⟩ (by decide) (by decide) dL_hands_283 rfl (fun _ _ q _ => (XN_0 q.2 (by decide +kernel)).elim) (fun v h hp hlc => ?_)
  obtain ⟨rfl, hS⟩ := z_go (x' := nI 0) (σ' := qs_72) (by decide +kernel) rfl hp
  refine am_if_ne (tgt := 480) hC dL_hands_286 (by decide) (fun c_286 => absurd (by decide) c_286) (fun c_286 => ?_)
  refine am_aload_n hC dL_hands_289 rfl ?_
  refine am_iconst (v := nI 2) hC dL_hands_290 (by decide) ?_
  refine am_iconst (v := nI 2) hC dL_hands_291 (by decide) ?_
  refine am_iconst (v := nI 2) hC dL_hands_292 (by decide) ?_
  refine am_iconst (v := nI 0) hC dL_hands_293 (by decide) ?_
  refine am_callV hC (ci := 6) (N := 4) [.int (nI 2), .int (nI 2), .int (nI 2), .int (nI 0)] rfl (SZ_3 hS) rfl mf_X5_refer tw_450 (d_refer _ _ (am_tr hC) h hS _ _ _ false) rfl ⟨rfl, Nat.le_of_ble_eq_true rfl⟩ ⟨by decide, by decide⟩ (by decide) (by decide) dL_hands_294 rfl (fun _ _ q _ => (XN_0 q.2 (by decide +kernel)).elim) (fun v h hp hlc => ?_)
  obtain ⟨rfl, hS⟩ := z_go (x' := nI 0) (σ' := qs_72) (by decide +kernel) rfl hp
  refine am_if_ne (tgt := 480) hC dL_hands_297 (by decide) (fun c_297 => absurd (by decide) c_297) (fun c_297 => ?_)
  refine am_aload_n hC dL_hands_300 rfl ?_
  refine am_iconst (v := nI 3) hC dL_hands_301 (by decide) ?_
  refine am_iconst (v := nI 0) hC dL_hands_302 (by decide) ?_
  refine am_iconst (v := nI 0) hC dL_hands_303 (by decide) ?_
  refine am_iconst (v := nI 0) hC dL_hands_304 (by decide) ?_
  refine am_callV hC (ci := 6) (N := 4) [.int (nI 3), .int (nI 0), .int (nI 0), .int (nI 0)] rfl (SZ_3 hS) rfl mf_X5_tell tw_272 (d_tell _ _ (am_tr hC) h hS _ _ _ _) rfl ⟨rfl, Nat.le_of_ble_eq_true rfl⟩ ⟨by decide, by decide⟩ (by decide) (by decide) dL_hands_305 rfl (fun _ _ q _ => (XN_0 q.2 (by decide +kernel)).elim) (fun v h hp hlc => ?_)
  obtain ⟨rfl, hS⟩ := z_go (x' := (-1)) (σ' := qs_73) (by decide +kernel) (z_sx (by decide +kernel)) hp
  refine am_iconst (v := -1) hC dL_hands_308 (by decide) ?_
  refine am_icmp_ne (tgt := 480) hC dL_hands_309 (by decide) (fun c_309 => absurd (by decide) c_309) (fun c_309 => ?_)
  refine am_aload_n hC dL_hands_312 rfl ?_
  refine am_iconst (v := nI 3) hC dL_hands_313 (by decide) ?_
  refine am_iconst (v := nI 0) hC dL_hands_314 (by decide) ?_
  refine am_callV hC (ci := 6) (N := 4) [.int (nI 3), .int (nI 0)] rfl (SZ_3 hS) rfl mf_X5_side tw_350 (d_side _ _ (am_tr hC) h hS _ _) rfl ⟨rfl, Nat.le_of_ble_eq_true rfl⟩ ⟨by decide, by decide⟩ (by decide) (by decide) dL_hands_315 rfl (fun _ _ q _ => (XN_0 q.2 (by decide +kernel)).elim) (fun v h hp hlc => ?_)
  obtain ⟨rfl, hS⟩ := z_go (x' := nI 0) (σ' := qs_73) (by decide +kernel) rfl hp
  refine am_if_ne (tgt := 480) hC dL_hands_318 (by decide) (fun c_318 => absurd (by decide) c_318) (fun c_318 => ?_)
  refine am_aload_n hC dL_hands_321 rfl ?_
  refine am_iconst (v := nI 3) hC dL_hands_322 (by decide) ?_
  refine am_iconst (v := nI 0) hC dL_hands_323 (by decide) ?_
  refine am_iconst (v := nI 0) hC dL_hands_324 (by decide) ?_
  refine am_iconst (v := -1) hC dL_hands_325 (by decide) ?_
  refine am_callV hC (ci := 6) (N := 4) [.int (nI 3), .int (nI 0), .int (nI 0), .int (-1)] rfl (SZ_3 hS) rfl mf_X5_tell tw_272 (d_tell _ _ (am_tr hC) h hS _ _ _ _) rfl ⟨rfl, Nat.le_of_ble_eq_true rfl⟩ ⟨by decide, by decide⟩ (by decide) (by decide) dL_hands_326 rfl (fun _ _ q _ => (XN_0 q.2 (by decide +kernel)).elim) (fun v h hp hlc => ?_)
  obtain ⟨rfl, hS⟩ := z_go (x' := nI 0) (σ' := qs_72) (by decide +kernel) (z_sx (by decide +kernel)) hp
  refine am_if_ne (tgt := 480) hC dL_hands_329 (by decide) (fun c_329 => absurd (by decide) c_329) (fun c_329 => ?_)
  refine am_aload_n hC dL_hands_332 rfl ?_
  refine am_iconst (v := nI 3) hC dL_hands_333 (by decide) ?_
  refine am_iconst (v := nI 0) hC dL_hands_334 (by decide) ?_
  refine am_callV hC (ci := 6) (N := 4) [.int (nI 3), .int (nI 0)] rfl (SZ_3 hS) rfl mf_X5_side tw_350 (d_side _ _ (am_tr hC) h hS _ _) rfl ⟨rfl, Nat.le_of_ble_eq_true rfl⟩ ⟨by decide, by decide⟩ (by decide) (by decide) dL_hands_335 rfl (fun _ _ q _ => (XN_0 q.2 (by decide +kernel)).elim) (fun v h hp hlc => ?_)
  obtain ⟨rfl, hS⟩ := z_go (x' := nI 1) (σ' := qs_72) (by decide +kernel) rfl hp
  refine am_iconst (v := nI 1) hC dL_hands_338 (by decide) ?_
  refine am_icmp_ne (tgt := 480) hC dL_hands_339 (by decide) (fun c_339 => absurd (by decide) c_339) (fun c_339 => ?_)
  refine am_aload_n hC dL_hands_342 rfl ?_
  refine am_iconst (v := nI 0) hC dL_hands_343 (by decide) ?_
  refine am_iconst (v := nI 0) hC dL_hands_344 (by decide) ?_
  refine am_iconst (v := nI 0) hC dL_hands_345 (by decide) ?_
  refine am_iconst (v := -1) hC dL_hands_346 (by decide) ?_
  refine am_callV hC (ci := 6) (N := 4) [.int (nI 0), .int (nI 0), .int (nI 0), .int (-1)] rfl (SZ_3 hS) rfl mf_X5_tell tw_272 (d_tell _ _ (am_tr hC) h hS _ _ _ _) rfl ⟨rfl, Nat.le_of_ble_eq_true rfl⟩ ⟨by decide, by decide⟩ (by decide) (by decide) dL_hands_347 rfl (fun _ _ q _ => (XN_0 q.2 (by decide +kernel)).elim) (fun v h hp hlc => ?_)
  obtain ⟨rfl, hS⟩ := z_go (x' := nI 1) (σ' := qs_74) (by decide +kernel) (z_sx (by decide +kernel)) hp
  refine am_iconst (v := nI 1) hC dL_hands_350 (by decide) ?_
  refine am_icmp_ne (tgt := 480) hC dL_hands_351 (by decide) (fun c_351 => absurd (by decide) c_351) (fun c_351 => ?_)
  refine am_aload_n hC dL_hands_354 rfl ?_
  refine am_iconst (v := nI 3) hC dL_hands_355 (by decide) ?_
  refine am_iconst (v := nI 0) hC dL_hands_356 (by decide) ?_
  refine am_callV hC (ci := 6) (N := 4) [.int (nI 3), .int (nI 0)] rfl (SZ_3 hS) rfl mf_X5_side tw_350 (d_side _ _ (am_tr hC) h hS _ _) rfl ⟨rfl, Nat.le_of_ble_eq_true rfl⟩ ⟨by decide, by decide⟩ (by decide) (by decide) dL_hands_357 rfl (fun _ _ q _ => (XN_0 q.2 (by decide +kernel)).elim) (fun v h hp hlc => ?_)
  obtain ⟨rfl, hS⟩ := z_go (x' := nI 2) (σ' := qs_74) (by decide +kernel) rfl hp
  refine am_iconst (v := nI 2) hC dL_hands_360 (by decide) ?_
  refine am_icmp_ne (tgt := 480) hC dL_hands_361 (by decide) (fun c_361 => absurd (by decide) c_361) (fun c_361 => ?_)
  exact am_more (kc' := 363) (ks' := 4351) (by decide) (by decide) (hands_5 hC hR h hS)
set_option maxRecDepth 100000 in
set_option maxHeartbeats 4000000 in
theorem hands_3 {Z : am_Z} (hC : am_OK Z "HousePlansLaw" cL_hands 3 16 6243 111451) (hR : am_Rt Z (some .boolean) [] z_one am_no 6243 111451) (h : am_H) (hS : SZ h qs_70) : am_W Z 197 2965 148 [.ref (3), .int (-73), .int (nI 7)] [] h := by
  refine am_aload_n hC dL_hands_148 rfl ?_
  refine am_iconst (v := nI 3) hC dL_hands_149 (by decide) ?_
  refine am_iconst (v := nI 0) hC dL_hands_150 (by decide) ?_
  refine am_iconst (v := nI 0) hC dL_hands_151 (by decide) ?_
  refine am_iconst (v := nI 1) hC dL_hands_152 (by decide) ?_
  refine am_callV hC (ci := 6) (N := 4) [.int (nI 3), .int (nI 0), .int (nI 0), .int (nI 1)] rfl (SZ_3 hS) rfl mf_X5_refer tw_450 (d_refer _ _ (am_tr hC) h hS _ _ _ true) rfl ⟨rfl, Nat.le_of_ble_eq_true rfl⟩ ⟨by decide, by decide⟩ (by decide) (by decide) dL_hands_153 rfl (fun _ _ q _ => (XN_0 q.2 (by decide +kernel)).elim) (fun v h hp hlc => ?_)
  obtain ⟨rfl, hS⟩ := z_go (x' := nI 0) (σ' := qs_71) (by decide +kernel) (z_sx (by decide +kernel)) hp
  refine am_if_ne (tgt := 480) hC dL_hands_156 (by decide) (fun c_156 => absurd (by decide) c_156) (fun c_156 => ?_)
  refine am_aload_n hC dL_hands_159 rfl ?_
  refine am_iconst (v := nI 3) hC dL_hands_160 (by decide) ?_
  refine am_iconst (v := nI 0) hC dL_hands_161 (by decide) ?_
  refine am_callV hC (ci := 6) (N := 4) [.int (nI 3), .int (nI 0)] rfl (SZ_3 hS) rfl mf_X5_side tw_350 (d_side _ _ (am_tr hC) h hS _ _) rfl ⟨rfl, Nat.le_of_ble_eq_true rfl⟩ ⟨by decide, by decide⟩ (by decide) (by decide) dL_hands_162 rfl (fun _ _ q _ => (XN_0 q.2 (by decide +kernel)).elim) (fun v h hp hlc => ?_)
  obtain ⟨rfl, hS⟩ := z_go (x' := nI 1) (σ' := qs_71) (by decide +kernel) rfl hp
  refine am_iconst (v := nI 1) hC dL_hands_165 (by decide) ?_
  refine am_icmp_ne (tgt := 480) hC dL_hands_166 (by decide) (fun c_166 => absurd (by decide) c_166) (fun c_166 => ?_)
  refine am_aload_n hC dL_hands_169 rfl ?_
  refine am_iconst (v := nI 3) hC dL_hands_170 (by decide) ?_
  refine am_iconst (v := nI 1) hC dL_hands_171 (by decide) ?_
  refine am_callV hC (ci := 6) (N := 4) [.int (nI 3), .int (nI 1)] rfl (SZ_3 hS) rfl mf_X5_side tw_350 (d_side _ _ (am_tr hC) h hS _ _) rfl ⟨rfl, Nat.le_of_ble_eq_true rfl⟩ ⟨by decide, by decide⟩ (by decide) (by decide) dL_hands_172 rfl (fun _ _ q _ => (XN_0 q.2 (by decide +kernel)).elim) (fun v h hp hlc => ?_)
  obtain ⟨rfl, hS⟩ := z_go (x' := nI 2) (σ' := qs_71) (by decide +kernel) rfl hp
  refine am_iconst (v := nI 2) hC dL_hands_175 (by decide) ?_
  refine am_icmp_ne (tgt := 480) hC dL_hands_176 (by decide) (fun c_176 => absurd (by decide) c_176) (fun c_176 => ?_)
  refine am_aload_n hC dL_hands_179 rfl ?_
  refine am_iconst (v := nI 3) hC dL_hands_180 (by decide) ?_
  refine am_iconst (v := nI 2) hC dL_hands_181 (by decide) ?_
  refine am_callV hC (ci := 6) (N := 4) [.int (nI 3), .int (nI 2)] rfl (SZ_3 hS) rfl mf_X5_side tw_350 (d_side _ _ (am_tr hC) h hS _ _) rfl ⟨rfl, Nat.le_of_ble_eq_true rfl⟩ ⟨by decide, by decide⟩ (by decide) (by decide) dL_hands_182 rfl (fun _ _ q _ => (XN_0 q.2 (by decide +kernel)).elim) (fun v h hp hlc => ?_)
  obtain ⟨rfl, hS⟩ := z_go (x' := (-1)) (σ' := qs_71) (by decide +kernel) rfl hp
  refine am_iconst (v := -1) hC dL_hands_185 (by decide) ?_
  refine am_icmp_ne (tgt := 480) hC dL_hands_186 (by decide) (fun c_186 => absurd (by decide) c_186) (fun c_186 => ?_)
  refine am_aload_n hC dL_hands_189 rfl ?_
  refine am_iconst (v := nI 0) hC dL_hands_190 (by decide) ?_
  refine am_iconst (v := nI 0) hC dL_hands_191 (by decide) ?_
  refine am_iconst (v := nI 2) hC dL_hands_192 (by decide) ?_
  refine am_iconst (v := nI 1) hC dL_hands_193 (by decide) ?_
  refine am_callV hC (ci := 6) (N := 4) [.int (nI 0), .int (nI 0), .int (nI 2), .int (nI 1)] rfl (SZ_3 hS) rfl mf_X5_refer tw_450 (d_refer _ _ (am_tr hC) h hS _ _ _ true) rfl ⟨rfl, Nat.le_of_ble_eq_true rfl⟩ ⟨by decide, by decide⟩ (by decide) (by decide) dL_hands_194 rfl (fun _ _ q _ => (XN_0 q.2 (by decide +kernel)).elim) (fun v h hp hlc => ?_)
  obtain ⟨rfl, hS⟩ := z_go (x' := nI 0) (σ' := qs_72) (by decide +kernel) (z_sx (by decide +kernel)) hp
  refine am_if_ne (tgt := 480) hC dL_hands_197 (by decide) (fun c_197 => absurd (by decide) c_197) (fun c_197 => ?_)
  refine am_aload_n hC dL_hands_200 rfl ?_
  refine am_iconst (v := nI 3) hC dL_hands_201 (by decide) ?_
  refine am_iconst (v := nI 2) hC dL_hands_202 (by decide) ?_
  refine am_callV hC (ci := 6) (N := 4) [.int (nI 3), .int (nI 2)] rfl (SZ_3 hS) rfl mf_X5_side tw_350 (d_side _ _ (am_tr hC) h hS _ _) rfl ⟨rfl, Nat.le_of_ble_eq_true rfl⟩ ⟨by decide, by decide⟩ (by decide) (by decide) dL_hands_203 rfl (fun _ _ q _ => (XN_0 q.2 (by decide +kernel)).elim) (fun v h hp hlc => ?_)
  obtain ⟨rfl, hS⟩ := z_go (x' := nI 0) (σ' := qs_72) (by decide +kernel) rfl hp
  refine am_if_ne (tgt := 480) hC dL_hands_206 (by decide) (fun c_206 => absurd (by decide) c_206) (fun c_206 => ?_)
  refine am_aload_n hC dL_hands_209 rfl ?_
  refine am_iconst (v := nI 3) hC dL_hands_210 (by decide) ?_
  refine am_bipush (v := nI 7) hC dL_hands_211 (by decide) ?_
  refine am_callV hC (ci := 6) (N := 4) [.int (nI 3), .int (nI 7)] rfl (SZ_3 hS) rfl mf_X5_hasExit tw_462 (d_hasExit _ _ (am_tr hC) h hS _ _) rfl ⟨rfl, Nat.le_of_ble_eq_true rfl⟩ ⟨by decide, by decide⟩ (by decide) (by decide) dL_hands_213 rfl (fun _ _ q _ => (XN_0 q.2 (by decide +kernel)).elim) (fun v h hp hlc => ?_)
  obtain ⟨rfl, hS⟩ := z_go (x' := nI 1) (σ' := qs_72) (by decide +kernel) rfl hp
  refine am_if_eq (tgt := 480) hC dL_hands_216 (by decide) (fun c_216 => absurd c_216 (by decide)) (fun c_216 => ?_)
  refine am_aload_n hC dL_hands_219 rfl ?_
  refine am_iconst (v := nI 0) hC dL_hands_220 (by decide) ?_
  refine am_bipush (v := nI 7) hC dL_hands_221 (by decide) ?_
  refine am_callV hC (ci := 6) (N := 4) [.int (nI 0), .int (nI 7)] rfl (SZ_3 hS) rfl mf_X5_hasExit tw_462 (d_hasExit _ _ (am_tr hC) h hS _ _) rfl ⟨rfl, Nat.le_of_ble_eq_true rfl⟩ ⟨by decide, by decide⟩ (by decide) (by decide) dL_hands_223 rfl (fun _ _ q _ => (XN_0 q.2 (by decide +kernel)).elim) (fun v h hp hlc => ?_)
  obtain ⟨rfl, hS⟩ := z_go (x' := nI 1) (σ' := qs_72) (by decide +kernel) rfl hp
  refine am_if_eq (tgt := 480) hC dL_hands_226 (by decide) (fun c_226 => absurd c_226 (by decide)) (fun c_226 => ?_)
  refine am_aload_n hC dL_hands_229 rfl ?_
  refine am_iconst (v := nI 1) hC dL_hands_230 (by decide) ?_
  refine am_bipush (v := nI 7) hC dL_hands_231 (by decide) ?_
  refine am_callV hC (ci := 6) (N := 4) [.int (nI 1), .int (nI 7)] rfl (SZ_3 hS) rfl mf_X5_hasExit tw_462 (d_hasExit _ _ (am_tr hC) h hS _ _) rfl ⟨rfl, Nat.le_of_ble_eq_true rfl⟩ ⟨by decide, by decide⟩ (by decide) (by decide) dL_hands_233 rfl (fun _ _ q _ => (XN_0 q.2 (by decide +kernel)).elim) (fun v h hp hlc => ?_)
  obtain ⟨rfl, hS⟩ := z_go (x' := nI 0) (σ' := qs_72) (by decide +kernel) rfl hp
  refine am_if_ne (tgt := 480) hC dL_hands_236 (by decide) (fun c_236 => absurd (by decide) c_236) (fun c_236 => ?_)
  refine am_aload_n hC dL_hands_239 rfl ?_
  refine am_iconst (v := nI 3) hC dL_hands_240 (by decide) ?_
  refine am_iconst (v := nI 2) hC dL_hands_241 (by decide) ?_
  refine am_iconst (v := nI 2) hC dL_hands_242 (by decide) ?_
  refine am_iconst (v := nI 3) hC dL_hands_243 (by decide) ?_
  refine am_iconst (v := nI 1) hC dL_hands_244 (by decide) ?_
  refine am_callSX hC [.ref (3), .int (nI 3), .int (nI 2), .int (nI 2), .int (nI 3), .int (nI 1)] mf_L_act tw_447 (c_act3 _ _ (am_tr hC) h hS _ _ _ _) rfl ⟨rfl, Nat.le_of_ble_eq_true rfl⟩ ⟨by decide, by decide⟩ (by decide) (by decide) dL_hands_245 rfl (fun _ _ q _ => False.elim q) (fun v h hp hlc => ?_)
  obtain ⟨rfl, hS⟩ := z_goa (x' := (-73)) (σ' := qs_72) (by decide +kernel) (z_sx (by decide +kernel)) hp
  refine am_iload_n hC dL_hands_248 rfl ?_
  refine am_icmp_ne (tgt := 480) hC dL_hands_249 (by decide) (fun c_249 => absurd (by decide) c_249) (fun c_249 => ?_)
  exact am_more (kc' := 279) (ks' := 3587) (by decide) (by decide) (hands_4 hC hR h hS)
set_option maxRecDepth 100000 in
set_option maxHeartbeats 4000000 in
theorem hands_2 {Z : am_Z} (hC : am_OK Z "HousePlansLaw" cL_hands 3 16 6243 111451) (hR : am_Rt Z (some .boolean) [] z_one am_no 6243 111451) (h : am_H) (hS : SZ h qs_62) : am_W Z 111 2059 61 [.ref (3), .int (-73), .int (nI 4)] [] h := by
  refine am_iinc (v := nI 5) hC dL_hands_61 rfl (by decide) (by decide) ?_
  change am_W _ _ _ _ [.ref (3), .int (-73), .int (nI 5)] _ _
  refine am_goto (tgt := 13) hC dL_hands_64 (by decide) ?_
  refine am_iload_n hC dL_hands_13 rfl ?_
  refine am_bipush (v := nI 7) hC dL_hands_14 (by decide) ?_
  refine am_icmp_ge (tgt := 67) hC dL_hands_16 (by decide) (fun c_16 => absurd c_16 (by decide)) (fun c_16 => ?_)
  refine am_aload_n hC dL_hands_19 rfl ?_
  refine am_iconst (v := nI 0) hC dL_hands_20 (by decide) ?_
  refine am_iconst (v := nI 0) hC dL_hands_21 (by decide) ?_
  refine am_iconst (v := nI 0) hC dL_hands_22 (by decide) ?_
  refine am_iconst (v := nI 0) hC dL_hands_23 (by decide) ?_
  refine am_iconst (v := nI 0) hC dL_hands_24 (by decide) ?_
  refine am_callSX hC [.ref (3), .int (nI 0), .int (nI 0), .int (nI 0), .int (nI 0), .int (nI 0)] mf_L_act tw_447 (c_act0 _ _ (am_tr hC) h hS _ _ _ _) rfl ⟨rfl, Nat.le_of_ble_eq_true rfl⟩ ⟨by decide, by decide⟩ (by decide) (by decide) dL_hands_25 rfl (fun _ _ q _ => False.elim q) (fun v h hp hlc => ?_)
  obtain ⟨rfl, hS⟩ := z_goa (x' := nI 5) (σ' := qs_63) (by decide +kernel) (z_sx (by decide +kernel)) hp
  refine am_iload_n hC dL_hands_28 rfl ?_
  refine am_bipush (v := nI 6) hC dL_hands_29 (by decide) ?_
  refine am_icmp_ge (tgt := 38) hC dL_hands_31 (by decide) (fun c_31 => absurd c_31 (by decide)) (fun c_31 => ?_)
  refine am_iload_n hC dL_hands_34 rfl ?_
  refine am_goto (tgt := 39) hC dL_hands_35 (by decide) ?_
  refine am_icmp_ne (tgt := 59) hC dL_hands_39 (by decide) (fun c_39 => absurd (by decide) c_39) (fun c_39 => ?_)
  refine am_iload_n hC dL_hands_42 rfl ?_
  refine am_bipush (v := nI 6) hC dL_hands_43 (by decide) ?_
  refine am_icmp_ge (tgt := 61) hC dL_hands_45 (by decide) (fun c_45 => absurd c_45 (by decide)) (fun c_45 => ?_)
  refine am_aload_n hC dL_hands_48 rfl ?_
  refine am_iload_n hC dL_hands_49 rfl ?_
  refine am_iload_n hC dL_hands_50 rfl ?_
  refine am_iconst (v := nI 3) hC dL_hands_51 (by decide) ?_
  refine am_iremE (z := nI (5 % 3)) hC dL_hands_52 (by decide) (pk_rem (by omega) (by omega) (by omega)) ?_
  refine am_callSX hC [.ref (3), .int (nI 5), .int (nI (5 % 3))] mf_L_lock tw_436 (c_lock _ _ (am_tr hC) h hS _ _) rfl ⟨rfl, Nat.le_of_ble_eq_true rfl⟩ ⟨by decide, by decide⟩ (by decide) (by decide) dL_hands_53 rfl (fun _ _ q _ => False.elim q) (fun v h hp hlc => ?_)
  obtain ⟨rfl, hS⟩ := z_goa (x' := nI 0) (σ' := qs_64) (by decide +kernel) (z_sx (by decide +kernel)) hp
  refine am_if_eq (tgt := 61) hC dL_hands_56 (by decide) (fun c_56 => ?_) (fun c_56 => absurd (by decide) c_56)
  refine am_iinc (v := nI 6) hC dL_hands_61 rfl (by decide) (by decide) ?_
  change am_W _ _ _ _ [.ref (3), .int (-73), .int (nI 6)] _ _
  refine am_goto (tgt := 13) hC dL_hands_64 (by decide) ?_
  refine am_iload_n hC dL_hands_13 rfl ?_
  refine am_bipush (v := nI 7) hC dL_hands_14 (by decide) ?_
  refine am_icmp_ge (tgt := 67) hC dL_hands_16 (by decide) (fun c_16 => absurd c_16 (by decide)) (fun c_16 => ?_)
  refine am_aload_n hC dL_hands_19 rfl ?_
  refine am_iconst (v := nI 0) hC dL_hands_20 (by decide) ?_
  refine am_iconst (v := nI 0) hC dL_hands_21 (by decide) ?_
  refine am_iconst (v := nI 0) hC dL_hands_22 (by decide) ?_
  refine am_iconst (v := nI 0) hC dL_hands_23 (by decide) ?_
  refine am_iconst (v := nI 0) hC dL_hands_24 (by decide) ?_
  refine am_callSX hC [.ref (3), .int (nI 0), .int (nI 0), .int (nI 0), .int (nI 0), .int (nI 0)] mf_L_act tw_447 (c_act0 _ _ (am_tr hC) h hS _ _ _ _) rfl ⟨rfl, Nat.le_of_ble_eq_true rfl⟩ ⟨by decide, by decide⟩ (by decide) (by decide) dL_hands_25 rfl (fun _ _ q _ => False.elim q) (fun v h hp hlc => ?_)
  obtain ⟨rfl, hS⟩ := z_goa (x' := (-73)) (σ' := qs_64) (by decide +kernel) (z_sx (by decide +kernel)) hp
  refine am_iload_n hC dL_hands_28 rfl ?_
  refine am_bipush (v := nI 6) hC dL_hands_29 (by decide) ?_
  refine am_icmp_ge (tgt := 38) hC dL_hands_31 (by decide) (fun c_31 => ?_) (fun c_31 => absurd (by decide) c_31)
  refine am_iload_n hC dL_hands_38 rfl ?_
  refine am_icmp_ne (tgt := 59) hC dL_hands_39 (by decide) (fun c_39 => absurd (by decide) c_39) (fun c_39 => ?_)
  refine am_iload_n hC dL_hands_42 rfl ?_
  refine am_bipush (v := nI 6) hC dL_hands_43 (by decide) ?_
  refine am_icmp_ge (tgt := 61) hC dL_hands_45 (by decide) (fun c_45 => ?_) (fun c_45 => absurd (by decide) c_45)
  refine am_iinc (v := nI 7) hC dL_hands_61 rfl (by decide) (by decide) ?_
  change am_W _ _ _ _ [.ref (3), .int (-73), .int (nI 7)] _ _
  refine am_goto (tgt := 13) hC dL_hands_64 (by decide) ?_
  refine am_iload_n hC dL_hands_13 rfl ?_
  refine am_bipush (v := nI 7) hC dL_hands_14 (by decide) ?_
  refine am_icmp_ge (tgt := 67) hC dL_hands_16 (by decide) (fun c_16 => ?_) (fun c_16 => absurd (by decide) c_16)
  refine am_aload_n hC dL_hands_67 rfl ?_
  refine am_iconst (v := nI 0) hC dL_hands_68 (by decide) ?_
  refine am_iconst (v := nI 0) hC dL_hands_69 (by decide) ?_
  refine am_iconst (v := nI 0) hC dL_hands_70 (by decide) ?_
  refine am_iconst (v := nI 1) hC dL_hands_71 (by decide) ?_
  refine am_callV hC (ci := 6) (N := 4) [.int (nI 0), .int (nI 0), .int (nI 0), .int (nI 1)] rfl (SZ_3 hS) rfl mf_X5_tell tw_272 (d_tell _ _ (am_tr hC) h hS _ _ _ _) rfl ⟨rfl, Nat.le_of_ble_eq_true rfl⟩ ⟨by decide, by decide⟩ (by decide) (by decide) dL_hands_72 rfl (fun _ _ q _ => (XN_0 q.2 (by decide +kernel)).elim) (fun v h hp hlc => ?_)
  obtain ⟨rfl, hS⟩ := z_go (x' := (-1)) (σ' := qs_65) (by decide +kernel) (z_sx (by decide +kernel)) hp
  refine am_iconst (v := -1) hC dL_hands_75 (by decide) ?_
  refine am_icmp_ne (tgt := 480) hC dL_hands_76 (by decide) (fun c_76 => absurd (by decide) c_76) (fun c_76 => ?_)
  refine am_aload_n hC dL_hands_79 rfl ?_
  refine am_iconst (v := nI 1) hC dL_hands_80 (by decide) ?_
  refine am_iconst (v := nI 1) hC dL_hands_81 (by decide) ?_
  refine am_iconst (v := nI 0) hC dL_hands_82 (by decide) ?_
  refine am_iconst (v := nI 2) hC dL_hands_83 (by decide) ?_
  refine am_callV hC (ci := 6) (N := 4) [.int (nI 1), .int (nI 1), .int (nI 0), .int (nI 2)] rfl (SZ_3 hS) rfl mf_X5_tell tw_272 (d_tell _ _ (am_tr hC) h hS _ _ _ _) rfl ⟨rfl, Nat.le_of_ble_eq_true rfl⟩ ⟨by decide, by decide⟩ (by decide) (by decide) dL_hands_84 rfl (fun _ _ q _ => (XN_0 q.2 (by decide +kernel)).elim) (fun v h hp hlc => ?_)
  obtain ⟨rfl, hS⟩ := z_go (x' := (-1)) (σ' := qs_66) (by decide +kernel) (z_sx (by decide +kernel)) hp
  refine am_iconst (v := -1) hC dL_hands_87 (by decide) ?_
  refine am_icmp_ne (tgt := 480) hC dL_hands_88 (by decide) (fun c_88 => absurd (by decide) c_88) (fun c_88 => ?_)
  refine am_aload_n hC dL_hands_91 rfl ?_
  refine am_iconst (v := nI 1) hC dL_hands_92 (by decide) ?_
  refine am_iconst (v := nI 1) hC dL_hands_93 (by decide) ?_
  refine am_iconst (v := nI 1) hC dL_hands_94 (by decide) ?_
  refine am_iconst (v := nI 2) hC dL_hands_95 (by decide) ?_
  refine am_callV hC (ci := 6) (N := 4) [.int (nI 1), .int (nI 1), .int (nI 1), .int (nI 2)] rfl (SZ_3 hS) rfl mf_X5_tell tw_272 (d_tell _ _ (am_tr hC) h hS _ _ _ _) rfl ⟨rfl, Nat.le_of_ble_eq_true rfl⟩ ⟨by decide, by decide⟩ (by decide) (by decide) dL_hands_96 rfl (fun _ _ q _ => (XN_0 q.2 (by decide +kernel)).elim) (fun v h hp hlc => ?_)
  obtain ⟨rfl, hS⟩ := z_go (x' := (-1)) (σ' := qs_67) (by decide +kernel) (z_sx (by decide +kernel)) hp
  refine am_iconst (v := -1) hC dL_hands_99 (by decide) ?_
  refine am_icmp_ne (tgt := 480) hC dL_hands_100 (by decide) (fun c_100 => absurd (by decide) c_100) (fun c_100 => ?_)
  refine am_aload_n hC dL_hands_103 rfl ?_
  refine am_iconst (v := nI 2) hC dL_hands_104 (by decide) ?_
  refine am_iconst (v := nI 2) hC dL_hands_105 (by decide) ?_
  refine am_iconst (v := nI 2) hC dL_hands_106 (by decide) ?_
  refine am_iconst (v := nI 0) hC dL_hands_107 (by decide) ?_
  refine am_callV hC (ci := 6) (N := 4) [.int (nI 2), .int (nI 2), .int (nI 2), .int (nI 0)] rfl (SZ_3 hS) rfl mf_X5_tell tw_272 (d_tell _ _ (am_tr hC) h hS _ _ _ _) rfl ⟨rfl, Nat.le_of_ble_eq_true rfl⟩ ⟨by decide, by decide⟩ (by decide) (by decide) dL_hands_108 rfl (fun _ _ q _ => (XN_0 q.2 (by decide +kernel)).elim) (fun v h hp hlc => ?_)
  obtain ⟨rfl, hS⟩ := z_go (x' := (-1)) (σ' := qs_68) (by decide +kernel) (z_sx (by decide +kernel)) hp
  refine am_iconst (v := -1) hC dL_hands_111 (by decide) ?_
  refine am_icmp_ne (tgt := 480) hC dL_hands_112 (by decide) (fun c_112 => absurd (by decide) c_112) (fun c_112 => ?_)
  refine am_aload_n hC dL_hands_115 rfl ?_
  refine am_iconst (v := nI 2) hC dL_hands_116 (by decide) ?_
  refine am_iconst (v := nI 2) hC dL_hands_117 (by decide) ?_
  refine am_bipush (v := nI 7) hC dL_hands_118 (by decide) ?_
  refine am_iconst (v := nI 1) hC dL_hands_120 (by decide) ?_
  refine am_callV hC (ci := 6) (N := 4) [.int (nI 2), .int (nI 2), .int (nI 7), .int (nI 1)] rfl (SZ_3 hS) rfl mf_X5_setExit tw_342 (d_setExit _ _ (am_tr hC) h hS _ _ _ true) rfl ⟨rfl, Nat.le_of_ble_eq_true rfl⟩ ⟨by decide, by decide⟩ (by decide) (by decide) dL_hands_121 rfl (fun _ _ q _ => (XN_0 q.2 (by decide +kernel)).elim) (fun v h hp hlc => ?_)
  obtain ⟨rfl, hS⟩ := z_go (x' := nI 0) (σ' := qs_69) (by decide +kernel) (z_sx (by decide +kernel)) hp
  refine am_if_ne (tgt := 480) hC dL_hands_124 (by decide) (fun c_124 => absurd (by decide) c_124) (fun c_124 => ?_)
  refine am_aload_n hC dL_hands_127 rfl ?_
  refine am_iconst (v := nI 3) hC dL_hands_128 (by decide) ?_
  refine am_iconst (v := nI 0) hC dL_hands_129 (by decide) ?_
  refine am_iconst (v := nI 1) hC dL_hands_130 (by decide) ?_
  refine am_iconst (v := nI 1) hC dL_hands_131 (by decide) ?_
  refine am_callV hC (ci := 6) (N := 4) [.int (nI 3), .int (nI 0), .int (nI 1), .int (nI 1)] rfl (SZ_3 hS) rfl mf_X5_refer tw_450 (d_refer _ _ (am_tr hC) h hS _ _ _ true) rfl ⟨rfl, Nat.le_of_ble_eq_true rfl⟩ ⟨by decide, by decide⟩ (by decide) (by decide) dL_hands_132 rfl (fun _ _ q _ => (XN_0 q.2 (by decide +kernel)).elim) (fun v h hp hlc => ?_)
  obtain ⟨rfl, hS⟩ := z_go (x' := nI 0) (σ' := qs_70) (by decide +kernel) (z_sx (by decide +kernel)) hp
  refine am_if_ne (tgt := 480) hC dL_hands_135 (by decide) (fun c_135 => absurd (by decide) c_135) (fun c_135 => ?_)
  refine am_aload_n hC dL_hands_138 rfl ?_
  refine am_iconst (v := nI 3) hC dL_hands_139 (by decide) ?_
  refine am_iconst (v := nI 0) hC dL_hands_140 (by decide) ?_
  refine am_callV hC (ci := 6) (N := 4) [.int (nI 3), .int (nI 0)] rfl (SZ_3 hS) rfl mf_X5_side tw_350 (d_side _ _ (am_tr hC) h hS _ _) rfl ⟨rfl, Nat.le_of_ble_eq_true rfl⟩ ⟨by decide, by decide⟩ (by decide) (by decide) dL_hands_141 rfl (fun _ _ q _ => (XN_0 q.2 (by decide +kernel)).elim) (fun v h hp hlc => ?_)
  obtain ⟨rfl, hS⟩ := z_go (x' := nI 2) (σ' := qs_70) (by decide +kernel) rfl hp
  refine am_iconst (v := nI 2) hC dL_hands_144 (by decide) ?_
  refine am_icmp_ne (tgt := 480) hC dL_hands_145 (by decide) (fun c_145 => absurd (by decide) c_145) (fun c_145 => ?_)
  exact am_more (kc' := 197) (ks' := 2965) (by decide) (by decide) (hands_3 hC hR h hS)
set_option maxRecDepth 100000 in
set_option maxHeartbeats 4000000 in
theorem hands_1 {Z : am_Z} (hC : am_OK Z "HousePlansLaw" cL_hands 3 16 6243 111451) (hR : am_Rt Z (some .boolean) [] z_one am_no 6243 111451) (h : am_H) (hS : SZ h z_00) : am_W Z 11 159 8 [.ref (3), .null, .null] [] h := by
  refine am_bipush (v := -73) hC dL_hands_8 (by decide) ?_
  refine am_istore_n hC dL_hands_10 (by decide) ?_
  change am_W _ _ _ _ [.ref (3), .int (-73), .null] _ _
  refine am_iconst (v := nI 0) hC dL_hands_11 (by decide) ?_
  refine am_istore_n hC dL_hands_12 (by decide) ?_
  change am_W _ _ _ _ [.ref (3), .int (-73), .int (nI 0)] _ _
  refine am_iload_n hC dL_hands_13 rfl ?_
  refine am_bipush (v := nI 7) hC dL_hands_14 (by decide) ?_
  refine am_icmp_ge (tgt := 67) hC dL_hands_16 (by decide) (fun c_16 => absurd c_16 (by decide)) (fun c_16 => ?_)
  refine am_aload_n hC dL_hands_19 rfl ?_
  refine am_iconst (v := nI 0) hC dL_hands_20 (by decide) ?_
  refine am_iconst (v := nI 0) hC dL_hands_21 (by decide) ?_
  refine am_iconst (v := nI 0) hC dL_hands_22 (by decide) ?_
  refine am_iconst (v := nI 0) hC dL_hands_23 (by decide) ?_
  refine am_iconst (v := nI 0) hC dL_hands_24 (by decide) ?_
  refine am_callSX hC [.ref (3), .int (nI 0), .int (nI 0), .int (nI 0), .int (nI 0), .int (nI 0)] mf_L_act tw_447 (c_act0 _ _ (am_tr hC) h hS _ _ _ _) rfl ⟨rfl, Nat.le_of_ble_eq_true rfl⟩ ⟨by decide, by decide⟩ (by decide) (by decide) dL_hands_25 rfl (fun _ _ q _ => False.elim q) (fun v h hp hlc => ?_)
  obtain ⟨rfl, hS⟩ := z_goa (x' := nI 0) (σ' := qs_0) (by decide +kernel) (z_sx (by decide +kernel)) hp
  refine am_iload_n hC dL_hands_28 rfl ?_
  refine am_bipush (v := nI 6) hC dL_hands_29 (by decide) ?_
  refine am_icmp_ge (tgt := 38) hC dL_hands_31 (by decide) (fun c_31 => absurd c_31 (by decide)) (fun c_31 => ?_)
  refine am_iload_n hC dL_hands_34 rfl ?_
  refine am_goto (tgt := 39) hC dL_hands_35 (by decide) ?_
  refine am_icmp_ne (tgt := 59) hC dL_hands_39 (by decide) (fun c_39 => absurd (by decide) c_39) (fun c_39 => ?_)
  refine am_iload_n hC dL_hands_42 rfl ?_
  refine am_bipush (v := nI 6) hC dL_hands_43 (by decide) ?_
  refine am_icmp_ge (tgt := 61) hC dL_hands_45 (by decide) (fun c_45 => absurd c_45 (by decide)) (fun c_45 => ?_)
  refine am_aload_n hC dL_hands_48 rfl ?_
  refine am_iload_n hC dL_hands_49 rfl ?_
  refine am_iload_n hC dL_hands_50 rfl ?_
  refine am_iconst (v := nI 3) hC dL_hands_51 (by decide) ?_
  refine am_iremE (z := nI (0 % 3)) hC dL_hands_52 (by decide) (pk_rem (by omega) (by omega) (by omega)) ?_
  refine am_callSX hC [.ref (3), .int (nI 0), .int (nI (0 % 3))] mf_L_lock tw_436 (c_lock _ _ (am_tr hC) h hS _ _) rfl ⟨rfl, Nat.le_of_ble_eq_true rfl⟩ ⟨by decide, by decide⟩ (by decide) (by decide) dL_hands_53 rfl (fun _ _ q _ => False.elim q) (fun v h hp hlc => ?_)
  obtain ⟨rfl, hS⟩ := z_goa (x' := nI 0) (σ' := qs_27) (by decide +kernel) (z_sx (by decide +kernel)) hp
  refine am_if_eq (tgt := 61) hC dL_hands_56 (by decide) (fun c_56 => ?_) (fun c_56 => absurd (by decide) c_56)
  refine am_iinc (v := nI 1) hC dL_hands_61 rfl (by decide) (by decide) ?_
  change am_W _ _ _ _ [.ref (3), .int (-73), .int (nI 1)] _ _
  refine am_goto (tgt := 13) hC dL_hands_64 (by decide) ?_
  refine am_iload_n hC dL_hands_13 rfl ?_
  refine am_bipush (v := nI 7) hC dL_hands_14 (by decide) ?_
  refine am_icmp_ge (tgt := 67) hC dL_hands_16 (by decide) (fun c_16 => absurd c_16 (by decide)) (fun c_16 => ?_)
  refine am_aload_n hC dL_hands_19 rfl ?_
  refine am_iconst (v := nI 0) hC dL_hands_20 (by decide) ?_
  refine am_iconst (v := nI 0) hC dL_hands_21 (by decide) ?_
  refine am_iconst (v := nI 0) hC dL_hands_22 (by decide) ?_
  refine am_iconst (v := nI 0) hC dL_hands_23 (by decide) ?_
  refine am_iconst (v := nI 0) hC dL_hands_24 (by decide) ?_
  refine am_callSX hC [.ref (3), .int (nI 0), .int (nI 0), .int (nI 0), .int (nI 0), .int (nI 0)] mf_L_act tw_447 (c_act0 _ _ (am_tr hC) h hS _ _ _ _) rfl ⟨rfl, Nat.le_of_ble_eq_true rfl⟩ ⟨by decide, by decide⟩ (by decide) (by decide) dL_hands_25 rfl (fun _ _ q _ => False.elim q) (fun v h hp hlc => ?_)
  obtain ⟨rfl, hS⟩ := z_goa (x' := nI 1) (σ' := qs_55) (by decide +kernel) (z_sx (by decide +kernel)) hp
  refine am_iload_n hC dL_hands_28 rfl ?_
  refine am_bipush (v := nI 6) hC dL_hands_29 (by decide) ?_
  refine am_icmp_ge (tgt := 38) hC dL_hands_31 (by decide) (fun c_31 => absurd c_31 (by decide)) (fun c_31 => ?_)
  refine am_iload_n hC dL_hands_34 rfl ?_
  refine am_goto (tgt := 39) hC dL_hands_35 (by decide) ?_
  refine am_icmp_ne (tgt := 59) hC dL_hands_39 (by decide) (fun c_39 => absurd (by decide) c_39) (fun c_39 => ?_)
  refine am_iload_n hC dL_hands_42 rfl ?_
  refine am_bipush (v := nI 6) hC dL_hands_43 (by decide) ?_
  refine am_icmp_ge (tgt := 61) hC dL_hands_45 (by decide) (fun c_45 => absurd c_45 (by decide)) (fun c_45 => ?_)
  refine am_aload_n hC dL_hands_48 rfl ?_
  refine am_iload_n hC dL_hands_49 rfl ?_
  refine am_iload_n hC dL_hands_50 rfl ?_
  refine am_iconst (v := nI 3) hC dL_hands_51 (by decide) ?_
  refine am_iremE (z := nI (1 % 3)) hC dL_hands_52 (by decide) (pk_rem (by omega) (by omega) (by omega)) ?_
  refine am_callSX hC [.ref (3), .int (nI 1), .int (nI (1 % 3))] mf_L_lock tw_436 (c_lock _ _ (am_tr hC) h hS _ _) rfl ⟨rfl, Nat.le_of_ble_eq_true rfl⟩ ⟨by decide, by decide⟩ (by decide) (by decide) dL_hands_53 rfl (fun _ _ q _ => False.elim q) (fun v h hp hlc => ?_)
  obtain ⟨rfl, hS⟩ := z_goa (x' := nI 0) (σ' := qs_56) (by decide +kernel) (z_sx (by decide +kernel)) hp
  refine am_if_eq (tgt := 61) hC dL_hands_56 (by decide) (fun c_56 => ?_) (fun c_56 => absurd (by decide) c_56)
  refine am_iinc (v := nI 2) hC dL_hands_61 rfl (by decide) (by decide) ?_
  change am_W _ _ _ _ [.ref (3), .int (-73), .int (nI 2)] _ _
  refine am_goto (tgt := 13) hC dL_hands_64 (by decide) ?_
  refine am_iload_n hC dL_hands_13 rfl ?_
  refine am_bipush (v := nI 7) hC dL_hands_14 (by decide) ?_
  refine am_icmp_ge (tgt := 67) hC dL_hands_16 (by decide) (fun c_16 => absurd c_16 (by decide)) (fun c_16 => ?_)
  refine am_aload_n hC dL_hands_19 rfl ?_
  refine am_iconst (v := nI 0) hC dL_hands_20 (by decide) ?_
  refine am_iconst (v := nI 0) hC dL_hands_21 (by decide) ?_
  refine am_iconst (v := nI 0) hC dL_hands_22 (by decide) ?_
  refine am_iconst (v := nI 0) hC dL_hands_23 (by decide) ?_
  refine am_iconst (v := nI 0) hC dL_hands_24 (by decide) ?_
  refine am_callSX hC [.ref (3), .int (nI 0), .int (nI 0), .int (nI 0), .int (nI 0), .int (nI 0)] mf_L_act tw_447 (c_act0 _ _ (am_tr hC) h hS _ _ _ _) rfl ⟨rfl, Nat.le_of_ble_eq_true rfl⟩ ⟨by decide, by decide⟩ (by decide) (by decide) dL_hands_25 rfl (fun _ _ q _ => False.elim q) (fun v h hp hlc => ?_)
  obtain ⟨rfl, hS⟩ := z_goa (x' := nI 2) (σ' := qs_57) (by decide +kernel) (z_sx (by decide +kernel)) hp
  refine am_iload_n hC dL_hands_28 rfl ?_
  refine am_bipush (v := nI 6) hC dL_hands_29 (by decide) ?_
  refine am_icmp_ge (tgt := 38) hC dL_hands_31 (by decide) (fun c_31 => absurd c_31 (by decide)) (fun c_31 => ?_)
  refine am_iload_n hC dL_hands_34 rfl ?_
  refine am_goto (tgt := 39) hC dL_hands_35 (by decide) ?_
  refine am_icmp_ne (tgt := 59) hC dL_hands_39 (by decide) (fun c_39 => absurd (by decide) c_39) (fun c_39 => ?_)
  refine am_iload_n hC dL_hands_42 rfl ?_
  refine am_bipush (v := nI 6) hC dL_hands_43 (by decide) ?_
  refine am_icmp_ge (tgt := 61) hC dL_hands_45 (by decide) (fun c_45 => absurd c_45 (by decide)) (fun c_45 => ?_)
  refine am_aload_n hC dL_hands_48 rfl ?_
  refine am_iload_n hC dL_hands_49 rfl ?_
  refine am_iload_n hC dL_hands_50 rfl ?_
  refine am_iconst (v := nI 3) hC dL_hands_51 (by decide) ?_
  refine am_iremE (z := nI (2 % 3)) hC dL_hands_52 (by decide) (pk_rem (by omega) (by omega) (by omega)) ?_
  refine am_callSX hC [.ref (3), .int (nI 2), .int (nI (2 % 3))] mf_L_lock tw_436 (c_lock _ _ (am_tr hC) h hS _ _) rfl ⟨rfl, Nat.le_of_ble_eq_true rfl⟩ ⟨by decide, by decide⟩ (by decide) (by decide) dL_hands_53 rfl (fun _ _ q _ => False.elim q) (fun v h hp hlc => ?_)
  obtain ⟨rfl, hS⟩ := z_goa (x' := nI 0) (σ' := qs_58) (by decide +kernel) (z_sx (by decide +kernel)) hp
  refine am_if_eq (tgt := 61) hC dL_hands_56 (by decide) (fun c_56 => ?_) (fun c_56 => absurd (by decide) c_56)
  refine am_iinc (v := nI 3) hC dL_hands_61 rfl (by decide) (by decide) ?_
  change am_W _ _ _ _ [.ref (3), .int (-73), .int (nI 3)] _ _
  refine am_goto (tgt := 13) hC dL_hands_64 (by decide) ?_
  refine am_iload_n hC dL_hands_13 rfl ?_
  refine am_bipush (v := nI 7) hC dL_hands_14 (by decide) ?_
  refine am_icmp_ge (tgt := 67) hC dL_hands_16 (by decide) (fun c_16 => absurd c_16 (by decide)) (fun c_16 => ?_)
  refine am_aload_n hC dL_hands_19 rfl ?_
  refine am_iconst (v := nI 0) hC dL_hands_20 (by decide) ?_
  refine am_iconst (v := nI 0) hC dL_hands_21 (by decide) ?_
  refine am_iconst (v := nI 0) hC dL_hands_22 (by decide) ?_
  refine am_iconst (v := nI 0) hC dL_hands_23 (by decide) ?_
  refine am_iconst (v := nI 0) hC dL_hands_24 (by decide) ?_
  refine am_callSX hC [.ref (3), .int (nI 0), .int (nI 0), .int (nI 0), .int (nI 0), .int (nI 0)] mf_L_act tw_447 (c_act0 _ _ (am_tr hC) h hS _ _ _ _) rfl ⟨rfl, Nat.le_of_ble_eq_true rfl⟩ ⟨by decide, by decide⟩ (by decide) (by decide) dL_hands_25 rfl (fun _ _ q _ => False.elim q) (fun v h hp hlc => ?_)
  obtain ⟨rfl, hS⟩ := z_goa (x' := nI 3) (σ' := qs_59) (by decide +kernel) (z_sx (by decide +kernel)) hp
  refine am_iload_n hC dL_hands_28 rfl ?_
  refine am_bipush (v := nI 6) hC dL_hands_29 (by decide) ?_
  refine am_icmp_ge (tgt := 38) hC dL_hands_31 (by decide) (fun c_31 => absurd c_31 (by decide)) (fun c_31 => ?_)
  refine am_iload_n hC dL_hands_34 rfl ?_
  refine am_goto (tgt := 39) hC dL_hands_35 (by decide) ?_
  refine am_icmp_ne (tgt := 59) hC dL_hands_39 (by decide) (fun c_39 => absurd (by decide) c_39) (fun c_39 => ?_)
  refine am_iload_n hC dL_hands_42 rfl ?_
  refine am_bipush (v := nI 6) hC dL_hands_43 (by decide) ?_
  refine am_icmp_ge (tgt := 61) hC dL_hands_45 (by decide) (fun c_45 => absurd c_45 (by decide)) (fun c_45 => ?_)
  refine am_aload_n hC dL_hands_48 rfl ?_
  refine am_iload_n hC dL_hands_49 rfl ?_
  refine am_iload_n hC dL_hands_50 rfl ?_
  refine am_iconst (v := nI 3) hC dL_hands_51 (by decide) ?_
  refine am_iremE (z := nI (3 % 3)) hC dL_hands_52 (by decide) (pk_rem (by omega) (by omega) (by omega)) ?_
  refine am_callSX hC [.ref (3), .int (nI 3), .int (nI (3 % 3))] mf_L_lock tw_436 (c_lock _ _ (am_tr hC) h hS _ _) rfl ⟨rfl, Nat.le_of_ble_eq_true rfl⟩ ⟨by decide, by decide⟩ (by decide) (by decide) dL_hands_53 rfl (fun _ _ q _ => False.elim q) (fun v h hp hlc => ?_)
  obtain ⟨rfl, hS⟩ := z_goa (x' := nI 0) (σ' := qs_60) (by decide +kernel) (z_sx (by decide +kernel)) hp
  refine am_if_eq (tgt := 61) hC dL_hands_56 (by decide) (fun c_56 => ?_) (fun c_56 => absurd (by decide) c_56)
  refine am_iinc (v := nI 4) hC dL_hands_61 rfl (by decide) (by decide) ?_
  change am_W _ _ _ _ [.ref (3), .int (-73), .int (nI 4)] _ _
  refine am_goto (tgt := 13) hC dL_hands_64 (by decide) ?_
  refine am_iload_n hC dL_hands_13 rfl ?_
  refine am_bipush (v := nI 7) hC dL_hands_14 (by decide) ?_
  refine am_icmp_ge (tgt := 67) hC dL_hands_16 (by decide) (fun c_16 => absurd c_16 (by decide)) (fun c_16 => ?_)
  refine am_aload_n hC dL_hands_19 rfl ?_
  refine am_iconst (v := nI 0) hC dL_hands_20 (by decide) ?_
  refine am_iconst (v := nI 0) hC dL_hands_21 (by decide) ?_
  refine am_iconst (v := nI 0) hC dL_hands_22 (by decide) ?_
  refine am_iconst (v := nI 0) hC dL_hands_23 (by decide) ?_
  refine am_iconst (v := nI 0) hC dL_hands_24 (by decide) ?_
  refine am_callSX hC [.ref (3), .int (nI 0), .int (nI 0), .int (nI 0), .int (nI 0), .int (nI 0)] mf_L_act tw_447 (c_act0 _ _ (am_tr hC) h hS _ _ _ _) rfl ⟨rfl, Nat.le_of_ble_eq_true rfl⟩ ⟨by decide, by decide⟩ (by decide) (by decide) dL_hands_25 rfl (fun _ _ q _ => False.elim q) (fun v h hp hlc => ?_)
  obtain ⟨rfl, hS⟩ := z_goa (x' := nI 4) (σ' := qs_61) (by decide +kernel) (z_sx (by decide +kernel)) hp
  refine am_iload_n hC dL_hands_28 rfl ?_
  refine am_bipush (v := nI 6) hC dL_hands_29 (by decide) ?_
  refine am_icmp_ge (tgt := 38) hC dL_hands_31 (by decide) (fun c_31 => absurd c_31 (by decide)) (fun c_31 => ?_)
  refine am_iload_n hC dL_hands_34 rfl ?_
  refine am_goto (tgt := 39) hC dL_hands_35 (by decide) ?_
  refine am_icmp_ne (tgt := 59) hC dL_hands_39 (by decide) (fun c_39 => absurd (by decide) c_39) (fun c_39 => ?_)
  refine am_iload_n hC dL_hands_42 rfl ?_
  refine am_bipush (v := nI 6) hC dL_hands_43 (by decide) ?_
  refine am_icmp_ge (tgt := 61) hC dL_hands_45 (by decide) (fun c_45 => absurd c_45 (by decide)) (fun c_45 => ?_)
  refine am_aload_n hC dL_hands_48 rfl ?_
  refine am_iload_n hC dL_hands_49 rfl ?_
  refine am_iload_n hC dL_hands_50 rfl ?_
  refine am_iconst (v := nI 3) hC dL_hands_51 (by decide) ?_
  refine am_iremE (z := nI (4 % 3)) hC dL_hands_52 (by decide) (pk_rem (by omega) (by omega) (by omega)) ?_
  refine am_callSX hC [.ref (3), .int (nI 4), .int (nI (4 % 3))] mf_L_lock tw_436 (c_lock _ _ (am_tr hC) h hS _ _) rfl ⟨rfl, Nat.le_of_ble_eq_true rfl⟩ ⟨by decide, by decide⟩ (by decide) (by decide) dL_hands_53 rfl (fun _ _ q _ => False.elim q) (fun v h hp hlc => ?_)
  obtain ⟨rfl, hS⟩ := z_goa (x' := nI 0) (σ' := qs_62) (by decide +kernel) (z_sx (by decide +kernel)) hp
  refine am_if_eq (tgt := 61) hC dL_hands_56 (by decide) (fun c_56 => ?_) (fun c_56 => absurd (by decide) c_56)
  exact am_more (kc' := 111) (ks' := 2059) (by decide) (by decide) (hands_2 hC hR h hS)
set_option maxRecDepth 100000 in
set_option maxHeartbeats 4000000 in
theorem c_hands (G : am_G) (l : Launch) (htr : l.stackTraces = false) : am_Met G l yL_hands (.code yL_hands cL_hands 3 (some .boolean)) 16 6243 111451 [] h00 z_one am_no := by
  refine am_intro rfl htr rfl (Nat.le_of_ble_eq_true rfl) (fun Z hC hR hI => ?_)
  change am_W Z 0 0 0 [.null, .null, .null] [] h00
  refine am_newO hC (ci := 6) (N := 4) 3 rfl (hk_00 (by decide) (by decide) (by decide)) (by decide) tw_22 tw_23 tw_1 (by decide) (by decide) dL_hands_0 ?_
  refine am_dup hC dL_hands_3 rfl ?_
  refine am_callI hC [] (by decide) mf_X5_init tw_24 (c_X5_init _ _ (am_tr hC) (am_new h00 3 7 0) rfl rfl (fun r h1 h2 => by rw [hk_new, if_neg (by omega)]; exact hk_00 (by omega) (by omega) (by omega)) (fun L c h1 h2 h3 => by rw [hk_new, if_neg (by unfold rw_; omega)]; exact hk_00 (by unfold rw_; omega) (by unfold rw_; omega) (by unfold rw_; omega))) rfl ⟨rfl, Nat.le_of_ble_eq_true rfl⟩ ⟨by decide, by decide⟩ (by decide) (by decide) dL_hands_4 rfl (fun _ _ q _ => False.elim q) (fun v h hp hlc => ?_)
  obtain ⟨rfl, f1, l4, l5, l6, e1⟩ := hp
  have hS : SZ h z_00 := SZ_0 f1 l4 l5 l6 (am_eq_tr (am_eq_new (by decide)) e1)
  clear f1 l4 l5 l6 e1
  refine am_astore_n hC dL_hands_7 (by decide) ?_
  change am_W _ _ _ _ [.ref (3), .null, .null] _ _
  exact am_more (kc' := 11) (ks' := 159) (by decide) (by decide) (hands_1 hC hR h hS)
