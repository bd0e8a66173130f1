/-! ===== the law's floor ===== -/
set_option maxRecDepth 100000 in
set_option maxHeartbeats 4000000 in
theorem floor_10 {Z : am_Z} (hC : am_OK Z "HousePlansLaw" cL_floor 3 16 6465 111205) (hR : am_Rt Z (some .boolean) [] z_one am_no 6465 111205) (h : am_H) (hS : SZ h qs_26) : am_W Z 6333 110013 887 [.ref (3), .int (-73), .int (nI 5)] [] h := by
  refine am_aload_n hC dL_floor_887 rfl ?_
  refine am_iconst (v := nI 0) hC dL_floor_888 (by decide) ?_
  refine am_bipush (v := nI 9) hC dL_floor_889 (by decide) ?_
  refine am_iconst (v := nI 0) hC dL_floor_891 (by decide) ?_
  refine am_bipush (v := nI 25) hC dL_floor_892 (by decide) ?_
  refine am_iconst (v := nI 0) hC dL_floor_894 (by decide) ?_
  refine am_iconst (v := -1) hC dL_floor_895 (by decide) ?_
  refine am_callS hC [.ref (3), .int (nI 0), .int (nI 9), .int (nI 0), .int (nI 25), .int (nI 0), .int (-1)] mf_L_cell tw_596 (c_cell _ _ (am_tr hC) h hS _ _ _ _ _ _ 0 9 (by decide +kernel) (by decide) (dn_nI (by decide)) (dn_nI (by decide)) (z_VM qv_14 (by decide +kernel)) (z_VS qv_14 (by decide +kernel)) (z_VD qv_14 (by decide +kernel)) (z_VHy qv_14 (by decide +kernel))) rfl ⟨rfl, Nat.le_of_ble_eq_true rfl⟩ ⟨by decide, by decide⟩ (by decide) (by decide) dL_floor_896 rfl (fun _ _ q _ => False.elim q) (fun v h hp hlc => ?_)
  obtain ⟨rfl, hS⟩ := hp
  refine am_if_eq (tgt := 906) hC dL_floor_899 (by decide) (fun c_899 => absurd c_899 (by decide)) (fun c_899 => ?_)
  refine am_iconst (v := nI 1) hC dL_floor_902 (by decide) ?_
  refine am_goto (tgt := 907) hC dL_floor_903 (by decide) ?_
  refine am_iret hC hR rfl (by decide) (by decide) dL_floor_907 ?_
  exact rfl
set_option maxRecDepth 100000 in
set_option maxHeartbeats 4000000 in
theorem floor_9 {Z : am_Z} (hC : am_OK Z "HousePlansLaw" cL_floor 3 16 6465 111205) (hR : am_Rt Z (some .boolean) [] z_one am_no 6465 111205) (h : am_H) (hS : SZ h qs_20) : am_W Z 4411 75151 764 [.ref (3), .int (-73), .int (nI 5)] [] h := by
  refine am_aload_n hC dL_floor_764 rfl ?_
  refine am_iconst (v := nI 0) hC dL_floor_765 (by decide) ?_
  refine am_iconst (v := nI 2) hC dL_floor_766 (by decide) ?_
  refine am_bipush (v := nI 39) hC dL_floor_767 (by decide) ?_
  refine am_iconst (v := -1) hC dL_floor_769 (by decide) ?_
  refine am_callV hC (ci := 6) (N := 4) [.int (nI 0), .int (nI 2), .int (nI 39), .int (-1)] rfl (SZ_3 hS) rfl mf_X5_tell tw_272 (d_tell _ _ (am_tr hC) h hS _ _ _ _) rfl ⟨rfl, Nat.le_of_ble_eq_true rfl⟩ ⟨by decide, by decide⟩ (by decide) (by decide) dL_floor_770 rfl (fun _ _ q _ => (XN_0 q.2 (by decide +kernel)).elim) (fun v h hp hlc => ?_)
  obtain ⟨rfl, hS⟩ := z_go (x' := nI 2) (σ' := qs_21) (by decide +kernel) (z_sx (by decide +kernel)) hp
  refine am_iconst (v := nI 2) hC dL_floor_773 (by decide) ?_
  refine am_icmp_ne (tgt := 804) hC dL_floor_774 (by decide) (fun c_774 => absurd (by decide) c_774) (fun c_774 => ?_)
  refine am_aload_n hC dL_floor_777 rfl ?_
  refine am_iconst (v := nI 0) hC dL_floor_778 (by decide) ?_
  refine am_callV hC (ci := 6) (N := 4) [.int (nI 0)] rfl (SZ_3 hS) rfl mf_X5_print tw_536 (d_print _ _ (am_tr hC) h hS _) rfl ⟨rfl, Nat.le_of_ble_eq_true rfl⟩ ⟨by decide, by decide⟩ (by decide) (by decide) dL_floor_779 rfl (fun _ _ q _ => (XN_0 q.2 (by decide +kernel)).elim) (fun v h hp hlc => ?_)
  obtain ⟨rfl, hS⟩ := z_go (x' := nI 4) (σ' := qs_22) (by decide +kernel) (z_sx (by decide +kernel)) hp
  refine am_iconst (v := nI 4) hC dL_floor_782 (by decide) ?_
  refine am_icmp_ne (tgt := 804) hC dL_floor_783 (by decide) (fun c_783 => absurd (by decide) c_783) (fun c_783 => ?_)
  refine am_aload_n hC dL_floor_786 rfl ?_
  refine am_iconst (v := nI 4) hC dL_floor_787 (by decide) ?_
  refine am_callV hC (ci := 6) (N := 4) [.int (nI 4)] rfl (SZ_3 hS) rfl mf_X5_permitOf tw_426 (d_permitOf _ _ (am_tr hC) h hS _) rfl ⟨rfl, Nat.le_of_ble_eq_true rfl⟩ ⟨by decide, by decide⟩ (by decide) (by decide) dL_floor_788 rfl (fun _ _ q _ => (XN_0 q.2 (by decide +kernel)).elim) (fun v h hp hlc => ?_)
  obtain ⟨rfl, hS⟩ := z_go (x' := nI 1) (σ' := qs_22) (by decide +kernel) rfl hp
  refine am_iconst (v := nI 1) hC dL_floor_791 (by decide) ?_
  refine am_icmp_ne (tgt := 804) hC dL_floor_792 (by decide) (fun c_792 => absurd (by decide) c_792) (fun c_792 => ?_)
  refine am_aload_n hC dL_floor_795 rfl ?_
  refine am_iconst (v := nI 3) hC dL_floor_796 (by decide) ?_
  refine am_iconst (v := nI 5) hC dL_floor_797 (by decide) ?_
  refine am_callS hC [.ref (3), .int (nI 3), .int (nI 5)] mf_L_refuses tw_573 (c_refuses' _ _ (am_tr hC) h hS (p := 3) (q := 5) rfl rfl) rfl ⟨rfl, Nat.le_of_ble_eq_true rfl⟩ ⟨by decide, by decide⟩ (by decide) (by decide) dL_floor_798 rfl (fun _ _ q _ => False.elim q) (fun v h hp hlc => ?_)
  obtain ⟨rfl, hS⟩ := hp
  refine am_if_ne (tgt := 806) hC dL_floor_801 (by decide) (fun c_801 => ?_) (fun c_801 => absurd c_801 (by decide))
  refine am_aload_n hC dL_floor_806 rfl ?_
  refine am_iconst (v := nI 0) hC dL_floor_807 (by decide) ?_
  refine am_iconst (v := nI 2) hC dL_floor_808 (by decide) ?_
  refine am_bipush (v := nI 16) hC dL_floor_809 (by decide) ?_
  refine am_iconst (v := nI 2) hC dL_floor_811 (by decide) ?_
  refine am_callV hC (ci := 6) (N := 4) [.int (nI 0), .int (nI 2), .int (nI 16), .int (nI 2)] rfl (SZ_3 hS) rfl mf_X5_tell tw_272 (d_tell _ _ (am_tr hC) h hS _ _ _ _) rfl ⟨rfl, Nat.le_of_ble_eq_true rfl⟩ ⟨by decide, by decide⟩ (by decide) (by decide) dL_floor_812 rfl (fun _ _ q _ => (XN_0 q.2 (by decide +kernel)).elim) (fun v h hp hlc => ?_)
  obtain ⟨rfl, hS⟩ := z_go (x' := nI 1) (σ' := qs_23) (by decide +kernel) (z_sx (by decide +kernel)) hp
  refine am_iconst (v := nI 1) hC dL_floor_815 (by decide) ?_
  refine am_icmp_ne (tgt := 906) hC dL_floor_816 (by decide) (fun c_816 => absurd (by decide) c_816) (fun c_816 => ?_)
  refine am_aload_n hC dL_floor_819 rfl ?_
  refine am_iconst (v := nI 0) hC dL_floor_820 (by decide) ?_
  refine am_bipush (v := nI 24) hC dL_floor_821 (by decide) ?_
  refine am_iconst (v := nI 1) hC dL_floor_823 (by decide) ?_
  refine am_bipush (v := nI 20) hC dL_floor_824 (by decide) ?_
  refine am_iconst (v := nI 1) hC dL_floor_826 (by decide) ?_
  refine am_iconst (v := -1) hC dL_floor_827 (by decide) ?_
  refine am_callS hC [.ref (3), .int (nI 0), .int (nI 24), .int (nI 1), .int (nI 20), .int (nI 1), .int (-1)] mf_L_cell tw_596 (c_cell _ _ (am_tr hC) h hS _ _ _ _ _ _ 0 24 (by decide +kernel) (by decide) (dn_nI (by decide)) (dn_nI (by decide)) (z_VM qv_12 (by decide +kernel)) (z_VS qv_12 (by decide +kernel)) (z_VD qv_12 (by decide +kernel)) (z_VHy qv_12 (by decide +kernel))) rfl ⟨rfl, Nat.le_of_ble_eq_true rfl⟩ ⟨by decide, by decide⟩ (by decide) (by decide) dL_floor_828 rfl (fun _ _ q _ => False.elim q) (fun v h hp hlc => ?_)
  obtain ⟨rfl, hS⟩ := hp
  refine am_if_eq (tgt := 906) hC dL_floor_831 (by decide) (fun c_831 => absurd c_831 (by decide)) (fun c_831 => ?_)
  refine am_aload_n hC dL_floor_834 rfl ?_
  refine am_iconst (v := nI 0) hC dL_floor_835 (by decide) ?_
  refine am_iconst (v := nI 2) hC dL_floor_836 (by decide) ?_
  refine am_bipush (v := nI 8) hC dL_floor_837 (by decide) ?_
  refine am_iconst (v := nI 1) hC dL_floor_839 (by decide) ?_
  refine am_callV hC (ci := 6) (N := 4) [.int (nI 0), .int (nI 2), .int (nI 8), .int (nI 1)] rfl (SZ_3 hS) rfl mf_X5_tell tw_272 (d_tell _ _ (am_tr hC) h hS _ _ _ _) rfl ⟨rfl, Nat.le_of_ble_eq_true rfl⟩ ⟨by decide, by decide⟩ (by decide) (by decide) dL_floor_840 rfl (fun _ _ q _ => (XN_0 q.2 (by decide +kernel)).elim) (fun v h hp hlc => ?_)
  obtain ⟨rfl, hS⟩ := z_go (x' := nI 2) (σ' := qs_24) (by decide +kernel) (z_sx (by decide +kernel)) hp
  refine am_iconst (v := nI 2) hC dL_floor_843 (by decide) ?_
  refine am_icmp_ne (tgt := 906) hC dL_floor_844 (by decide) (fun c_844 => absurd (by decide) c_844) (fun c_844 => ?_)
  refine am_aload_n hC dL_floor_847 rfl ?_
  refine am_iconst (v := nI 0) hC dL_floor_848 (by decide) ?_
  refine am_iconst (v := nI 2) hC dL_floor_849 (by decide) ?_
  refine am_bipush (v := nI 16) hC dL_floor_850 (by decide) ?_
  refine am_iconst (v := nI 1) hC dL_floor_852 (by decide) ?_
  refine am_callV hC (ci := 6) (N := 4) [.int (nI 0), .int (nI 2), .int (nI 16), .int (nI 1)] rfl (SZ_3 hS) rfl mf_X5_tell tw_272 (d_tell _ _ (am_tr hC) h hS _ _ _ _) rfl ⟨rfl, Nat.le_of_ble_eq_true rfl⟩ ⟨by decide, by decide⟩ (by decide) (by decide) dL_floor_853 rfl (fun _ _ q _ => (XN_0 q.2 (by decide +kernel)).elim) (fun v h hp hlc => ?_)
  obtain ⟨rfl, hS⟩ := z_go (x' := nI 2) (σ' := qs_25) (by decide +kernel) (z_sx (by decide +kernel)) hp
  refine am_iconst (v := nI 2) hC dL_floor_856 (by decide) ?_
  refine am_icmp_ne (tgt := 906) hC dL_floor_857 (by decide) (fun c_857 => absurd (by decide) c_857) (fun c_857 => ?_)
  refine am_aload_n hC dL_floor_860 rfl ?_
  refine am_iconst (v := nI 0) hC dL_floor_861 (by decide) ?_
  refine am_bipush (v := nI 9) hC dL_floor_862 (by decide) ?_
  refine am_iconst (v := nI 1) hC dL_floor_864 (by decide) ?_
  refine am_bipush (v := nI 20) hC dL_floor_865 (by decide) ?_
  refine am_iconst (v := -1) hC dL_floor_867 (by decide) ?_
  refine am_iconst (v := nI 0) hC dL_floor_868 (by decide) ?_
  refine am_callS hC [.ref (3), .int (nI 0), .int (nI 9), .int (nI 1), .int (nI 20), .int (-1), .int (nI 0)] mf_L_cell tw_596 (c_cell _ _ (am_tr hC) h hS _ _ _ _ _ _ 0 9 (by decide +kernel) (by decide) (dn_nI (by decide)) (dn_nI (by decide)) (z_VM qv_13 (by decide +kernel)) (z_VS qv_13 (by decide +kernel)) (z_VD qv_13 (by decide +kernel)) (z_VHn qv_13 qn_9 (by decide +kernel))) rfl ⟨rfl, Nat.le_of_ble_eq_true rfl⟩ ⟨by decide, by decide⟩ (by decide) (by decide) dL_floor_869 rfl (fun _ _ q _ => False.elim q) (fun v h hp hlc => ?_)
  obtain ⟨rfl, hS⟩ := hp
  refine am_if_eq (tgt := 906) hC dL_floor_872 (by decide) (fun c_872 => absurd c_872 (by decide)) (fun c_872 => ?_)
  refine am_aload_n hC dL_floor_875 rfl ?_
  refine am_iconst (v := nI 0) hC dL_floor_876 (by decide) ?_
  refine am_iconst (v := nI 2) hC dL_floor_877 (by decide) ?_
  refine am_iconst (v := nI 0) hC dL_floor_878 (by decide) ?_
  refine am_iconst (v := -1) hC dL_floor_879 (by decide) ?_
  refine am_callV hC (ci := 6) (N := 4) [.int (nI 0), .int (nI 2), .int (nI 0), .int (-1)] rfl (SZ_3 hS) rfl mf_X5_tell tw_272 (d_tell _ _ (am_tr hC) h hS _ _ _ _) rfl ⟨rfl, Nat.le_of_ble_eq_true rfl⟩ ⟨by decide, by decide⟩ (by decide) (by decide) dL_floor_880 rfl (fun _ _ q _ => (XN_0 q.2 (by decide +kernel)).elim) (fun v h hp hlc => ?_)
  obtain ⟨rfl, hS⟩ := z_go (x' := nI 1) (σ' := qs_26) (by decide +kernel) (z_sx (by decide +kernel)) hp
  refine am_iconst (v := nI 1) hC dL_floor_883 (by decide) ?_
  refine am_icmp_ne (tgt := 906) hC dL_floor_884 (by decide) (fun c_884 => absurd (by decide) c_884) (fun c_884 => ?_)
  exact am_more (kc' := 6333) (ks' := 110013) (by decide) (by decide) (floor_10 hC hR h hS)
set_option maxRecDepth 100000 in
set_option maxHeartbeats 4000000 in
theorem floor_8 {Z : am_Z} (hC : am_OK Z "HousePlansLaw" cL_floor 3 16 6465 111205) (hR : am_Rt Z (some .boolean) [] z_one am_no 6465 111205) (h : am_H) (hS : SZ h qs_16) : am_W Z 4305 74385 661 [.ref (3), .int (-73), .int (nI 5)] [] h := by
  refine am_aload_n hC dL_floor_661 rfl ?_
  refine am_iconst (v := nI 1) hC dL_floor_662 (by decide) ?_
  refine am_callV hC (ci := 6) (N := 4) [.int (nI 1)] rfl (SZ_3 hS) rfl mf_X5_holds tw_523 (d_holds _ _ (am_tr hC) h hS _) rfl ⟨rfl, Nat.le_of_ble_eq_true rfl⟩ ⟨by decide, by decide⟩ (by decide) (by decide) dL_floor_663 rfl (fun _ _ q _ => (XN_0 q.2 (by decide +kernel)).elim) (fun v h hp hlc => ?_)
  obtain ⟨rfl, hS⟩ := z_go (x' := nI 1) (σ' := qs_16) (by decide +kernel) rfl hp
  refine am_if_eq (tgt := 804) hC dL_floor_666 (by decide) (fun c_666 => absurd c_666 (by decide)) (fun c_666 => ?_)
  refine am_aload_n hC dL_floor_669 rfl ?_
  refine am_iconst (v := nI 0) hC dL_floor_670 (by decide) ?_
  refine am_iconst (v := nI 2) hC dL_floor_671 (by decide) ?_
  refine am_bipush (v := nI 39) hC dL_floor_672 (by decide) ?_
  refine am_iconst (v := nI 0) hC dL_floor_674 (by decide) ?_
  refine am_callV hC (ci := 6) (N := 4) [.int (nI 0), .int (nI 2), .int (nI 39), .int (nI 0)] rfl (SZ_3 hS) rfl mf_X5_tell tw_272 (d_tell _ _ (am_tr hC) h hS _ _ _ _) rfl ⟨rfl, Nat.le_of_ble_eq_true rfl⟩ ⟨by decide, by decide⟩ (by decide) (by decide) dL_floor_675 rfl (fun _ _ q _ => (XN_0 q.2 (by decide +kernel)).elim) (fun v h hp hlc => ?_)
  obtain ⟨rfl, hS⟩ := z_go (x' := (-1)) (σ' := qs_18) (by decide +kernel) (z_sx (by decide +kernel)) hp
  refine am_iconst (v := -1) hC dL_floor_678 (by decide) ?_
  refine am_icmp_ne (tgt := 804) hC dL_floor_679 (by decide) (fun c_679 => absurd (by decide) c_679) (fun c_679 => ?_)
  refine am_aload_n hC dL_floor_682 rfl ?_
  refine am_iconst (v := nI 1) hC dL_floor_683 (by decide) ?_
  refine am_callV hC (ci := 6) (N := 4) [.int (nI 1)] rfl (SZ_3 hS) rfl mf_X5_holds tw_523 (d_holds _ _ (am_tr hC) h hS _) rfl ⟨rfl, Nat.le_of_ble_eq_true rfl⟩ ⟨by decide, by decide⟩ (by decide) (by decide) dL_floor_684 rfl (fun _ _ q _ => (XN_0 q.2 (by decide +kernel)).elim) (fun v h hp hlc => ?_)
  obtain ⟨rfl, hS⟩ := z_go (x' := nI 0) (σ' := qs_18) (by decide +kernel) rfl hp
  refine am_if_ne (tgt := 804) hC dL_floor_687 (by decide) (fun c_687 => absurd (by decide) c_687) (fun c_687 => ?_)
  refine am_aload_n hC dL_floor_690 rfl ?_
  refine am_iconst (v := nI 0) hC dL_floor_691 (by decide) ?_
  refine am_iconst (v := nI 2) hC dL_floor_692 (by decide) ?_
  refine am_bipush (v := nI 39) hC dL_floor_693 (by decide) ?_
  refine am_iconst (v := -1) hC dL_floor_695 (by decide) ?_
  refine am_callV hC (ci := 6) (N := 4) [.int (nI 0), .int (nI 2), .int (nI 39), .int (-1)] rfl (SZ_3 hS) rfl mf_X5_tell tw_272 (d_tell _ _ (am_tr hC) h hS _ _ _ _) rfl ⟨rfl, Nat.le_of_ble_eq_true rfl⟩ ⟨by decide, by decide⟩ (by decide) (by decide) dL_floor_696 rfl (fun _ _ q _ => (XN_0 q.2 (by decide +kernel)).elim) (fun v h hp hlc => ?_)
  obtain ⟨rfl, hS⟩ := z_go (x' := nI 0) (σ' := qs_16) (by decide +kernel) (z_sx (by decide +kernel)) hp
  refine am_if_ne (tgt := 804) hC dL_floor_699 (by decide) (fun c_699 => absurd (by decide) c_699) (fun c_699 => ?_)
  refine am_aload_n hC dL_floor_702 rfl ?_
  refine am_iconst (v := nI 1) hC dL_floor_703 (by decide) ?_
  refine am_callV hC (ci := 6) (N := 4) [.int (nI 1)] rfl (SZ_3 hS) rfl mf_X5_holds tw_523 (d_holds _ _ (am_tr hC) h hS _) rfl ⟨rfl, Nat.le_of_ble_eq_true rfl⟩ ⟨by decide, by decide⟩ (by decide) (by decide) dL_floor_704 rfl (fun _ _ q _ => (XN_0 q.2 (by decide +kernel)).elim) (fun v h hp hlc => ?_)
  obtain ⟨rfl, hS⟩ := z_go (x' := nI 1) (σ' := qs_16) (by decide +kernel) rfl hp
  refine am_if_eq (tgt := 804) hC dL_floor_707 (by decide) (fun c_707 => absurd c_707 (by decide)) (fun c_707 => ?_)
  refine am_aload_n hC dL_floor_710 rfl ?_
  refine am_iconst (v := nI 0) hC dL_floor_711 (by decide) ?_
  refine am_iconst (v := nI 2) hC dL_floor_712 (by decide) ?_
  refine am_bipush (v := nI 39) hC dL_floor_713 (by decide) ?_
  refine am_iconst (v := nI 2) hC dL_floor_715 (by decide) ?_
  refine am_callV hC (ci := 6) (N := 4) [.int (nI 0), .int (nI 2), .int (nI 39), .int (nI 2)] rfl (SZ_3 hS) rfl mf_X5_tell tw_272 (d_tell _ _ (am_tr hC) h hS _ _ _ _) rfl ⟨rfl, Nat.le_of_ble_eq_true rfl⟩ ⟨by decide, by decide⟩ (by decide) (by decide) dL_floor_716 rfl (fun _ _ q _ => (XN_0 q.2 (by decide +kernel)).elim) (fun v h hp hlc => ?_)
  obtain ⟨rfl, hS⟩ := z_go (x' := (-1)) (σ' := qs_19) (by decide +kernel) (z_sx (by decide +kernel)) hp
  refine am_iconst (v := -1) hC dL_floor_719 (by decide) ?_
  refine am_icmp_ne (tgt := 804) hC dL_floor_720 (by decide) (fun c_720 => absurd (by decide) c_720) (fun c_720 => ?_)
  refine am_aload_n hC dL_floor_723 rfl ?_
  refine am_iconst (v := nI 0) hC dL_floor_724 (by decide) ?_
  refine am_callV hC (ci := 6) (N := 4) [.int (nI 0)] rfl (SZ_3 hS) rfl mf_X5_rooms tw_361 (d_rooms _ _ (am_tr hC) h hS _) rfl ⟨rfl, Nat.le_of_ble_eq_true rfl⟩ ⟨by decide, by decide⟩ (by decide) (by decide) dL_floor_725 rfl (fun _ _ q _ => (XN_0 q.2 (by decide +kernel)).elim) (fun v h hp hlc => ?_)
  obtain ⟨rfl, hS⟩ := z_gor (x' := nI 2) (dn_nI (by decide)) (z_VR qv_11 (by decide +kernel)) hp
  refine am_iconst (v := nI 2) hC dL_floor_728 (by decide) ?_
  refine am_icmp_ne (tgt := 804) hC dL_floor_729 (by decide) (fun c_729 => absurd (by decide) c_729) (fun c_729 => ?_)
  refine am_aload_n hC dL_floor_732 rfl ?_
  refine am_iconst (v := nI 0) hC dL_floor_733 (by decide) ?_
  refine am_bipush (v := nI 24) hC dL_floor_734 (by decide) ?_
  refine am_iconst (v := nI 1) hC dL_floor_736 (by decide) ?_
  refine am_bipush (v := nI 20) hC dL_floor_737 (by decide) ?_
  refine am_iconst (v := nI 1) hC dL_floor_739 (by decide) ?_
  refine am_iconst (v := -1) hC dL_floor_740 (by decide) ?_
  refine am_callS hC [.ref (3), .int (nI 0), .int (nI 24), .int (nI 1), .int (nI 20), .int (nI 1), .int (-1)] mf_L_cell tw_596 (c_cell _ _ (am_tr hC) h hS _ _ _ _ _ _ 0 24 (by decide +kernel) (by decide) (dn_nI (by decide)) (dn_nI (by decide)) (z_VM qv_11 (by decide +kernel)) (z_VS qv_11 (by decide +kernel)) (z_VD qv_11 (by decide +kernel)) (z_VHy qv_11 (by decide +kernel))) rfl ⟨rfl, Nat.le_of_ble_eq_true rfl⟩ ⟨by decide, by decide⟩ (by decide) (by decide) dL_floor_741 rfl (fun _ _ q _ => False.elim q) (fun v h hp hlc => ?_)
  obtain ⟨rfl, hS⟩ := hp
  refine am_if_eq (tgt := 804) hC dL_floor_744 (by decide) (fun c_744 => absurd c_744 (by decide)) (fun c_744 => ?_)
  refine am_aload_n hC dL_floor_747 rfl ?_
  refine am_iconst (v := nI 0) hC dL_floor_748 (by decide) ?_
  refine am_callV hC (ci := 6) (N := 4) [.int (nI 0)] rfl (SZ_3 hS) rfl mf_X5_holds tw_523 (d_holds _ _ (am_tr hC) h hS _) rfl ⟨rfl, Nat.le_of_ble_eq_true rfl⟩ ⟨by decide, by decide⟩ (by decide) (by decide) dL_floor_749 rfl (fun _ _ q _ => (XN_0 q.2 (by decide +kernel)).elim) (fun v h hp hlc => ?_)
  obtain ⟨rfl, hS⟩ := z_go (x' := nI 0) (σ' := qs_19) (by decide +kernel) rfl hp
  refine am_if_ne (tgt := 804) hC dL_floor_752 (by decide) (fun c_752 => absurd (by decide) c_752) (fun c_752 => ?_)
  refine am_aload_n hC dL_floor_755 rfl ?_
  refine am_iconst (v := nI 0) hC dL_floor_756 (by decide) ?_
  refine am_callV hC (ci := 6) (N := 4) [.int (nI 0)] rfl (SZ_3 hS) rfl mf_X5_grant tw_496 (d_grant _ _ (am_tr hC) h hS _ true (fun _ => by rw [dn_nI (by decide)]; exact z_VWo qv_11 (by decide +kernel))) rfl ⟨rfl, Nat.le_of_ble_eq_true rfl⟩ ⟨by decide, by decide⟩ (by decide) (by decide) dL_floor_757 rfl (fun _ _ q _ => (XN_0 q.2 (by decide +kernel)).elim) (fun v h hp hlc => ?_)
  obtain ⟨rfl, hS⟩ := z_go (x' := nI 2) (σ' := qs_20) (by decide +kernel) (z_sx (by decide +kernel)) hp
  refine am_iconst (v := nI 2) hC dL_floor_760 (by decide) ?_
  refine am_icmp_ne (tgt := 804) hC dL_floor_761 (by decide) (fun c_761 => absurd (by decide) c_761) (fun c_761 => ?_)
  exact am_more (kc' := 4411) (ks' := 75151) (by decide) (by decide) (floor_9 hC hR h hS)
set_option maxRecDepth 100000 in
set_option maxHeartbeats 4000000 in
theorem floor_7 {Z : am_Z} (hC : am_OK Z "HousePlansLaw" cL_floor 3 16 6465 111205) (hR : am_Rt Z (some .boolean) [] z_one am_no 6465 111205) (h : am_H) (hS : SZ h qs_16) : am_W Z 4241 74001 571 [.ref (3), .int (-73), .int (nI 5)] [] h := by
  refine am_aload_n hC dL_floor_571 rfl ?_
  refine am_iconst (v := nI 0) hC dL_floor_572 (by decide) ?_
  refine am_callV hC (ci := 6) (N := 4) [.int (nI 0)] rfl (SZ_3 hS) rfl mf_X5_holds tw_523 (d_holds _ _ (am_tr hC) h hS _) rfl ⟨rfl, Nat.le_of_ble_eq_true rfl⟩ ⟨by decide, by decide⟩ (by decide) (by decide) dL_floor_573 rfl (fun _ _ q _ => (XN_0 q.2 (by decide +kernel)).elim) (fun v h hp hlc => ?_)
  obtain ⟨rfl, hS⟩ := z_go (x' := nI 1) (σ' := qs_16) (by decide +kernel) rfl hp
  refine am_if_eq (tgt := 619) hC dL_floor_576 (by decide) (fun c_576 => absurd c_576 (by decide)) (fun c_576 => ?_)
  refine am_aload_n hC dL_floor_579 rfl ?_
  refine am_iconst (v := nI 1) hC dL_floor_580 (by decide) ?_
  refine am_callV hC (ci := 6) (N := 4) [.int (nI 1)] rfl (SZ_3 hS) rfl mf_X5_isGood tw_564 (d_isGood _ _ (am_tr hC) h hS _) rfl ⟨rfl, Nat.le_of_ble_eq_true rfl⟩ ⟨by decide, by decide⟩ (by decide) (by decide) dL_floor_581 rfl (fun _ _ q _ => (XN_0 q.2 (by decide +kernel)).elim) (fun v h hp hlc => ?_)
  obtain ⟨rfl, hS⟩ := z_go (x' := nI 1) (σ' := qs_16) (by decide +kernel) rfl hp
  refine am_if_eq (tgt := 619) hC dL_floor_584 (by decide) (fun c_584 => absurd c_584 (by decide)) (fun c_584 => ?_)
  refine am_aload_n hC dL_floor_587 rfl ?_
  refine am_iconst (v := nI 2) hC dL_floor_588 (by decide) ?_
  refine am_callV hC (ci := 6) (N := 4) [.int (nI 2)] rfl (SZ_3 hS) rfl mf_X5_isGood tw_564 (d_isGood _ _ (am_tr hC) h hS _) rfl ⟨rfl, Nat.le_of_ble_eq_true rfl⟩ ⟨by decide, by decide⟩ (by decide) (by decide) dL_floor_589 rfl (fun _ _ q _ => (XN_0 q.2 (by decide +kernel)).elim) (fun v h hp hlc => ?_)
  obtain ⟨rfl, hS⟩ := z_go (x' := nI 1) (σ' := qs_16) (by decide +kernel) rfl hp
  refine am_if_eq (tgt := 619) hC dL_floor_592 (by decide) (fun c_592 => absurd c_592 (by decide)) (fun c_592 => ?_)
  refine am_aload_n hC dL_floor_595 rfl ?_
  refine am_iconst (v := nI 0) hC dL_floor_596 (by decide) ?_
  refine am_callV hC (ci := 6) (N := 4) [.int (nI 0)] rfl (SZ_3 hS) rfl mf_X5_isGood tw_564 (d_isGood _ _ (am_tr hC) h hS _) rfl ⟨rfl, Nat.le_of_ble_eq_true rfl⟩ ⟨by decide, by decide⟩ (by decide) (by decide) dL_floor_597 rfl (fun _ _ q _ => (XN_0 q.2 (by decide +kernel)).elim) (fun v h hp hlc => ?_)
  obtain ⟨rfl, hS⟩ := z_go (x' := nI 0) (σ' := qs_16) (by decide +kernel) rfl hp
  refine am_if_ne (tgt := 619) hC dL_floor_600 (by decide) (fun c_600 => absurd (by decide) c_600) (fun c_600 => ?_)
  refine am_aload_n hC dL_floor_603 rfl ?_
  refine am_iconst (v := nI 3) hC dL_floor_604 (by decide) ?_
  refine am_callV hC (ci := 6) (N := 4) [.int (nI 3)] rfl (SZ_3 hS) rfl mf_X5_isGood tw_564 (d_isGood _ _ (am_tr hC) h hS _) rfl ⟨rfl, Nat.le_of_ble_eq_true rfl⟩ ⟨by decide, by decide⟩ (by decide) (by decide) dL_floor_605 rfl (fun _ _ q _ => (XN_0 q.2 (by decide +kernel)).elim) (fun v h hp hlc => ?_)
  obtain ⟨rfl, hS⟩ := z_go (x' := nI 0) (σ' := qs_16) (by decide +kernel) rfl hp
  refine am_if_ne (tgt := 619) hC dL_floor_608 (by decide) (fun c_608 => absurd (by decide) c_608) (fun c_608 => ?_)
  refine am_aload_n hC dL_floor_611 rfl ?_
  refine am_callV hC (ci := 6) (N := 4) [] rfl (SZ_3 hS) rfl mf_X5_old tw_580 (d_old _ _ (am_tr hC) h hS) rfl ⟨rfl, Nat.le_of_ble_eq_true rfl⟩ ⟨by decide, by decide⟩ (by decide) (by decide) dL_floor_612 rfl (fun _ _ q _ => False.elim q) (fun v h hp hlc => ?_)
  obtain ⟨rfl, hS⟩ := z_goa (x' := nI 1) (by decide +kernel) rfl hp
  refine am_iconst (v := nI 1) hC dL_floor_615 (by decide) ?_
  refine am_icmp_eq (tgt := 621) hC dL_floor_616 (by decide) (fun c_616 => ?_) (fun c_616 => absurd (by decide) c_616)
  refine am_aload_n hC dL_floor_621 rfl ?_
  refine am_iconst (v := nI 0) hC dL_floor_622 (by decide) ?_
  refine am_iconst (v := nI 2) hC dL_floor_623 (by decide) ?_
  refine am_bipush (v := nI 24) hC dL_floor_624 (by decide) ?_
  refine am_iconst (v := nI 1) hC dL_floor_626 (by decide) ?_
  refine am_callV hC (ci := 6) (N := 4) [.int (nI 0), .int (nI 2), .int (nI 24), .int (nI 1)] rfl (SZ_3 hS) rfl mf_X5_setExit tw_342 (d_setExit _ _ (am_tr hC) h hS _ _ _ true) rfl ⟨rfl, Nat.le_of_ble_eq_true rfl⟩ ⟨by decide, by decide⟩ (by decide) (by decide) dL_floor_627 rfl (fun _ _ q _ => (XN_0 q.2 (by decide +kernel)).elim) (fun v h hp hlc => ?_)
  obtain ⟨rfl, hS⟩ := z_go (x' := nI 0) (σ' := qs_17) (by decide +kernel) (z_sx (by decide +kernel)) hp
  refine am_if_ne (tgt := 804) hC dL_floor_630 (by decide) (fun c_630 => absurd (by decide) c_630) (fun c_630 => ?_)
  refine am_aload_n hC dL_floor_633 rfl ?_
  refine am_iconst (v := nI 1) hC dL_floor_634 (by decide) ?_
  refine am_callV hC (ci := 6) (N := 4) [.int (nI 1)] rfl (SZ_3 hS) rfl mf_X5_holds tw_523 (d_holds _ _ (am_tr hC) h hS _) rfl ⟨rfl, Nat.le_of_ble_eq_true rfl⟩ ⟨by decide, by decide⟩ (by decide) (by decide) dL_floor_635 rfl (fun _ _ q _ => (XN_0 q.2 (by decide +kernel)).elim) (fun v h hp hlc => ?_)
  obtain ⟨rfl, hS⟩ := z_go (x' := nI 0) (σ' := qs_17) (by decide +kernel) rfl hp
  refine am_if_ne (tgt := 804) hC dL_floor_638 (by decide) (fun c_638 => absurd (by decide) c_638) (fun c_638 => ?_)
  refine am_aload_n hC dL_floor_641 rfl ?_
  refine am_callV hC (ci := 6) (N := 4) [] rfl (SZ_3 hS) rfl mf_X5_old tw_580 (d_old _ _ (am_tr hC) h hS) rfl ⟨rfl, Nat.le_of_ble_eq_true rfl⟩ ⟨by decide, by decide⟩ (by decide) (by decide) dL_floor_642 rfl (fun _ _ q _ => False.elim q) (fun v h hp hlc => ?_)
  obtain ⟨rfl, hS⟩ := z_goa (x' := nI 4) (by decide +kernel) rfl hp
  refine am_iconst (v := nI 4) hC dL_floor_645 (by decide) ?_
  refine am_icmp_ne (tgt := 804) hC dL_floor_646 (by decide) (fun c_646 => absurd (by decide) c_646) (fun c_646 => ?_)
  refine am_aload_n hC dL_floor_649 rfl ?_
  refine am_iconst (v := nI 0) hC dL_floor_650 (by decide) ?_
  refine am_iconst (v := nI 2) hC dL_floor_651 (by decide) ?_
  refine am_bipush (v := nI 24) hC dL_floor_652 (by decide) ?_
  refine am_iconst (v := nI 0) hC dL_floor_654 (by decide) ?_
  refine am_callV hC (ci := 6) (N := 4) [.int (nI 0), .int (nI 2), .int (nI 24), .int (nI 0)] rfl (SZ_3 hS) rfl mf_X5_setExit tw_342 (d_setExit _ _ (am_tr hC) h hS _ _ _ false) rfl ⟨rfl, Nat.le_of_ble_eq_true rfl⟩ ⟨by decide, by decide⟩ (by decide) (by decide) dL_floor_655 rfl (fun _ _ q _ => (XN_0 q.2 (by decide +kernel)).elim) (fun v h hp hlc => ?_)
  obtain ⟨rfl, hS⟩ := z_go (x' := nI 1) (σ' := qs_16) (by decide +kernel) (z_sx (by decide +kernel)) hp
  refine am_if_eq (tgt := 804) hC dL_floor_658 (by decide) (fun c_658 => absurd c_658 (by decide)) (fun c_658 => ?_)
  exact am_more (kc' := 4305) (ks' := 74385) (by decide) (by decide) (floor_8 hC hR h hS)
set_option maxRecDepth 100000 in
set_option maxHeartbeats 4000000 in
theorem floor_6 {Z : am_Z} (hC : am_OK Z "HousePlansLaw" cL_floor 3 16 6465 111205) (hR : am_Rt Z (some .boolean) [] z_one am_no 6465 111205) (h : am_H) (hS : SZ h qs_13) : am_W Z 2351 39331 473 [.ref (3), .int (-73), .int (nI 5)] [] h := by
  refine am_aload_n hC dL_floor_473 rfl ?_
  refine am_iconst (v := nI 2) hC dL_floor_474 (by decide) ?_
  refine am_iconst (v := nI 3) hC dL_floor_475 (by decide) ?_
  refine am_callS hC [.ref (3), .int (nI 2), .int (nI 3)] mf_L_refuses tw_573 (c_refuses' _ _ (am_tr hC) h hS (p := 2) (q := 3) rfl rfl) rfl ⟨rfl, Nat.le_of_ble_eq_true rfl⟩ ⟨by decide, by decide⟩ (by decide) (by decide) dL_floor_476 rfl (fun _ _ q _ => False.elim q) (fun v h hp hlc => ?_)
  obtain ⟨rfl, hS⟩ := hp
  refine am_if_eq (tgt := 619) hC dL_floor_479 (by decide) (fun c_479 => absurd c_479 (by decide)) (fun c_479 => ?_)
  refine am_aload_n hC dL_floor_482 rfl ?_
  refine am_iconst (v := nI 0) hC dL_floor_483 (by decide) ?_
  refine am_iconst (v := nI 2) hC dL_floor_484 (by decide) ?_
  refine am_iconst (v := nI 4) hC dL_floor_485 (by decide) ?_
  refine am_iconst (v := nI 0) hC dL_floor_486 (by decide) ?_
  refine am_callV hC (ci := 6) (N := 4) [.int (nI 0), .int (nI 2), .int (nI 4), .int (nI 0)] rfl (SZ_3 hS) rfl mf_X5_tell tw_272 (d_tell _ _ (am_tr hC) h hS _ _ _ _) rfl ⟨rfl, Nat.le_of_ble_eq_true rfl⟩ ⟨by decide, by decide⟩ (by decide) (by decide) dL_floor_487 rfl (fun _ _ q _ => (XN_0 q.2 (by decide +kernel)).elim) (fun v h hp hlc => ?_)
  obtain ⟨rfl, hS⟩ := z_go (x' := nI 1) (σ' := qs_14) (by decide +kernel) (z_sx (by decide +kernel)) hp
  refine am_iconst (v := nI 1) hC dL_floor_490 (by decide) ?_
  refine am_icmp_ne (tgt := 619) hC dL_floor_491 (by decide) (fun c_491 => absurd (by decide) c_491) (fun c_491 => ?_)
  refine am_aload_n hC dL_floor_494 rfl ?_
  refine am_iconst (v := nI 0) hC dL_floor_495 (by decide) ?_
  refine am_callV hC (ci := 6) (N := 4) [.int (nI 0)] rfl (SZ_3 hS) rfl mf_X5_rooms tw_361 (d_rooms _ _ (am_tr hC) h hS _) rfl ⟨rfl, Nat.le_of_ble_eq_true rfl⟩ ⟨by decide, by decide⟩ (by decide) (by decide) dL_floor_496 rfl (fun _ _ q _ => (XN_0 q.2 (by decide +kernel)).elim) (fun v h hp hlc => ?_)
  obtain ⟨rfl, hS⟩ := z_gor (x' := nI 1) (dn_nI (by decide)) (z_VR qv_10 (by decide +kernel)) hp
  refine am_iconst (v := nI 1) hC dL_floor_499 (by decide) ?_
  refine am_icmp_ne (tgt := 619) hC dL_floor_500 (by decide) (fun c_500 => absurd (by decide) c_500) (fun c_500 => ?_)
  refine am_aload_n hC dL_floor_503 rfl ?_
  refine am_iconst (v := nI 0) hC dL_floor_504 (by decide) ?_
  refine am_bipush (v := nI 24) hC dL_floor_505 (by decide) ?_
  refine am_iconst (v := nI 0) hC dL_floor_507 (by decide) ?_
  refine am_bipush (v := nI 25) hC dL_floor_508 (by decide) ?_
  refine am_iconst (v := nI 0) hC dL_floor_510 (by decide) ?_
  refine am_iconst (v := -1) hC dL_floor_511 (by decide) ?_
  refine am_callS hC [.ref (3), .int (nI 0), .int (nI 24), .int (nI 0), .int (nI 25), .int (nI 0), .int (-1)] mf_L_cell tw_596 (c_cell _ _ (am_tr hC) h hS _ _ _ _ _ _ 0 24 (by decide +kernel) (by decide) (dn_nI (by decide)) (dn_nI (by decide)) (z_VM qv_10 (by decide +kernel)) (z_VS qv_10 (by decide +kernel)) (z_VD qv_10 (by decide +kernel)) (z_VHy qv_10 (by decide +kernel))) rfl ⟨rfl, Nat.le_of_ble_eq_true rfl⟩ ⟨by decide, by decide⟩ (by decide) (by decide) dL_floor_512 rfl (fun _ _ q _ => False.elim q) (fun v h hp hlc => ?_)
  obtain ⟨rfl, hS⟩ := hp
  refine am_if_eq (tgt := 619) hC dL_floor_515 (by decide) (fun c_515 => absurd c_515 (by decide)) (fun c_515 => ?_)
  refine am_aload_n hC dL_floor_518 rfl ?_
  refine am_iconst (v := nI 0) hC dL_floor_519 (by decide) ?_
  refine am_callV hC (ci := 6) (N := 4) [.int (nI 0)] rfl (SZ_3 hS) rfl mf_X5_holds tw_523 (d_holds _ _ (am_tr hC) h hS _) rfl ⟨rfl, Nat.le_of_ble_eq_true rfl⟩ ⟨by decide, by decide⟩ (by decide) (by decide) dL_floor_520 rfl (fun _ _ q _ => (XN_0 q.2 (by decide +kernel)).elim) (fun v h hp hlc => ?_)
  obtain ⟨rfl, hS⟩ := z_go (x' := nI 0) (σ' := qs_14) (by decide +kernel) rfl hp
  refine am_if_ne (tgt := 619) hC dL_floor_523 (by decide) (fun c_523 => absurd (by decide) c_523) (fun c_523 => ?_)
  refine am_aload_n hC dL_floor_526 rfl ?_
  refine am_iconst (v := nI 1) hC dL_floor_527 (by decide) ?_
  refine am_callV hC (ci := 6) (N := 4) [.int (nI 1)] rfl (SZ_3 hS) rfl mf_X5_isGood tw_564 (d_isGood _ _ (am_tr hC) h hS _) rfl ⟨rfl, Nat.le_of_ble_eq_true rfl⟩ ⟨by decide, by decide⟩ (by decide) (by decide) dL_floor_528 rfl (fun _ _ q _ => (XN_0 q.2 (by decide +kernel)).elim) (fun v h hp hlc => ?_)
  obtain ⟨rfl, hS⟩ := z_go (x' := nI 0) (σ' := qs_14) (by decide +kernel) rfl hp
  refine am_if_ne (tgt := 619) hC dL_floor_531 (by decide) (fun c_531 => absurd (by decide) c_531) (fun c_531 => ?_)
  refine am_aload_n hC dL_floor_534 rfl ?_
  refine am_callV hC (ci := 6) (N := 4) [] rfl (SZ_3 hS) rfl mf_X5_old tw_580 (d_old _ _ (am_tr hC) h hS) rfl ⟨rfl, Nat.le_of_ble_eq_true rfl⟩ ⟨by decide, by decide⟩ (by decide) (by decide) dL_floor_535 rfl (fun _ _ q _ => False.elim q) (fun v h hp hlc => ?_)
  obtain ⟨rfl, hS⟩ := z_goa (x' := nI 3) (by decide +kernel) rfl hp
  refine am_iconst (v := nI 3) hC dL_floor_538 (by decide) ?_
  refine am_icmp_ne (tgt := 619) hC dL_floor_539 (by decide) (fun c_539 => absurd (by decide) c_539) (fun c_539 => ?_)
  refine am_aload_n hC dL_floor_542 rfl ?_
  refine am_iconst (v := nI 0) hC dL_floor_543 (by decide) ?_
  refine am_callV hC (ci := 6) (N := 4) [.int (nI 0)] rfl (SZ_3 hS) rfl mf_X5_print tw_536 (d_print _ _ (am_tr hC) h hS _) rfl ⟨rfl, Nat.le_of_ble_eq_true rfl⟩ ⟨by decide, by decide⟩ (by decide) (by decide) dL_floor_544 rfl (fun _ _ q _ => (XN_0 q.2 (by decide +kernel)).elim) (fun v h hp hlc => ?_)
  obtain ⟨rfl, hS⟩ := z_go (x' := nI 3) (σ' := qs_15) (by decide +kernel) (z_sx (by decide +kernel)) hp
  refine am_iconst (v := nI 3) hC dL_floor_547 (by decide) ?_
  refine am_icmp_ne (tgt := 619) hC dL_floor_548 (by decide) (fun c_548 => absurd (by decide) c_548) (fun c_548 => ?_)
  refine am_aload_n hC dL_floor_551 rfl ?_
  refine am_iconst (v := nI 3) hC dL_floor_552 (by decide) ?_
  refine am_callV hC (ci := 6) (N := 4) [.int (nI 3)] rfl (SZ_3 hS) rfl mf_X5_permitOf tw_426 (d_permitOf _ _ (am_tr hC) h hS _) rfl ⟨rfl, Nat.le_of_ble_eq_true rfl⟩ ⟨by decide, by decide⟩ (by decide) (by decide) dL_floor_553 rfl (fun _ _ q _ => (XN_0 q.2 (by decide +kernel)).elim) (fun v h hp hlc => ?_)
  obtain ⟨rfl, hS⟩ := z_go (x' := (-1)) (σ' := qs_15) (by decide +kernel) rfl hp
  refine am_iconst (v := -1) hC dL_floor_556 (by decide) ?_
  refine am_icmp_ne (tgt := 619) hC dL_floor_557 (by decide) (fun c_557 => absurd (by decide) c_557) (fun c_557 => ?_)
  refine am_aload_n hC dL_floor_560 rfl ?_
  refine am_iconst (v := nI 0) hC dL_floor_561 (by decide) ?_
  refine am_iconst (v := nI 2) hC dL_floor_562 (by decide) ?_
  refine am_iconst (v := nI 4) hC dL_floor_563 (by decide) ?_
  refine am_iconst (v := nI 1) hC dL_floor_564 (by decide) ?_
  refine am_callV hC (ci := 6) (N := 4) [.int (nI 0), .int (nI 2), .int (nI 4), .int (nI 1)] rfl (SZ_3 hS) rfl mf_X5_tell tw_272 (d_tell _ _ (am_tr hC) h hS _ _ _ _) rfl ⟨rfl, Nat.le_of_ble_eq_true rfl⟩ ⟨by decide, by decide⟩ (by decide) (by decide) dL_floor_565 rfl (fun _ _ q _ => (XN_0 q.2 (by decide +kernel)).elim) (fun v h hp hlc => ?_)
  obtain ⟨rfl, hS⟩ := z_go (x' := nI 0) (σ' := qs_16) (by decide +kernel) (z_sx (by decide +kernel)) hp
  refine am_if_ne (tgt := 619) hC dL_floor_568 (by decide) (fun c_568 => absurd (by decide) c_568) (fun c_568 => ?_)
  exact am_more (kc' := 4241) (ks' := 74001) (by decide) (by decide) (floor_7 hC hR h hS)
set_option maxRecDepth 100000 in
set_option maxHeartbeats 4000000 in
theorem floor_5 {Z : am_Z} (hC : am_OK Z "HousePlansLaw" cL_floor 3 16 6465 111205) (hR : am_Rt Z (some .boolean) [] z_one am_no 6465 111205) (h : am_H) (hS : SZ h qs_9) : am_W Z 2271 38331 389 [.ref (3), .int (-73), .int (nI 5)] [] h := by
  refine am_aload_n hC dL_floor_389 rfl ?_
  refine am_callV hC (ci := 6) (N := 4) [] rfl (SZ_3 hS) rfl mf_X5_old tw_580 (d_old _ _ (am_tr hC) h hS) rfl ⟨rfl, Nat.le_of_ble_eq_true rfl⟩ ⟨by decide, by decide⟩ (by decide) (by decide) dL_floor_390 rfl (fun _ _ q _ => False.elim q) (fun v h hp hlc => ?_)
  obtain ⟨rfl, hS⟩ := z_goa (x' := nI 0) (by decide +kernel) rfl hp
  refine am_if_ne (tgt := 619) hC dL_floor_393 (by decide) (fun c_393 => absurd (by decide) c_393) (fun c_393 => ?_)
  refine am_aload_n hC dL_floor_396 rfl ?_
  refine am_iconst (v := nI 0) hC dL_floor_397 (by decide) ?_
  refine am_callV hC (ci := 6) (N := 4) [.int (nI 0)] rfl (SZ_3 hS) rfl mf_X5_grant tw_496 (d_grant _ _ (am_tr hC) h hS _ true (fun _ => by rw [dn_nI (by decide)]; exact z_VWo qv_8 (by decide +kernel))) rfl ⟨rfl, Nat.le_of_ble_eq_true rfl⟩ ⟨by decide, by decide⟩ (by decide) (by decide) dL_floor_398 rfl (fun _ _ q _ => (XN_0 q.2 (by decide +kernel)).elim) (fun v h hp hlc => ?_)
  obtain ⟨rfl, hS⟩ := z_go (x' := nI 0) (σ' := qs_10) (by decide +kernel) (z_sx (by decide +kernel)) hp
  refine am_if_ne (tgt := 619) hC dL_floor_401 (by decide) (fun c_401 => absurd (by decide) c_401) (fun c_401 => ?_)
  refine am_aload_n hC dL_floor_404 rfl ?_
  refine am_iconst (v := nI 0) hC dL_floor_405 (by decide) ?_
  refine am_callV hC (ci := 6) (N := 4) [.int (nI 0)] rfl (SZ_3 hS) rfl mf_X5_holds tw_523 (d_holds _ _ (am_tr hC) h hS _) rfl ⟨rfl, Nat.le_of_ble_eq_true rfl⟩ ⟨by decide, by decide⟩ (by decide) (by decide) dL_floor_406 rfl (fun _ _ q _ => (XN_0 q.2 (by decide +kernel)).elim) (fun v h hp hlc => ?_)
  obtain ⟨rfl, hS⟩ := z_go (x' := nI 1) (σ' := qs_10) (by decide +kernel) rfl hp
  refine am_if_eq (tgt := 619) hC dL_floor_409 (by decide) (fun c_409 => absurd c_409 (by decide)) (fun c_409 => ?_)
  refine am_aload_n hC dL_floor_412 rfl ?_
  refine am_iconst (v := nI 0) hC dL_floor_413 (by decide) ?_
  refine am_callV hC (ci := 6) (N := 4) [.int (nI 0)] rfl (SZ_3 hS) rfl mf_X5_permitOf tw_426 (d_permitOf _ _ (am_tr hC) h hS _) rfl ⟨rfl, Nat.le_of_ble_eq_true rfl⟩ ⟨by decide, by decide⟩ (by decide) (by decide) dL_floor_414 rfl (fun _ _ q _ => (XN_0 q.2 (by decide +kernel)).elim) (fun v h hp hlc => ?_)
  obtain ⟨rfl, hS⟩ := z_go (x' := (-1)) (σ' := qs_10) (by decide +kernel) rfl hp
  refine am_iconst (v := -1) hC dL_floor_417 (by decide) ?_
  refine am_icmp_ne (tgt := 619) hC dL_floor_418 (by decide) (fun c_418 => absurd (by decide) c_418) (fun c_418 => ?_)
  refine am_aload_n hC dL_floor_421 rfl ?_
  refine am_iconst (v := nI 0) hC dL_floor_422 (by decide) ?_
  refine am_callV hC (ci := 6) (N := 4) [.int (nI 0)] rfl (SZ_3 hS) rfl mf_X5_print tw_536 (d_print _ _ (am_tr hC) h hS _) rfl ⟨rfl, Nat.le_of_ble_eq_true rfl⟩ ⟨by decide, by decide⟩ (by decide) (by decide) dL_floor_423 rfl (fun _ _ q _ => (XN_0 q.2 (by decide +kernel)).elim) (fun v h hp hlc => ?_)
  obtain ⟨rfl, hS⟩ := z_go (x' := nI 1) (σ' := qs_11) (by decide +kernel) (z_sx (by decide +kernel)) hp
  refine am_iconst (v := nI 1) hC dL_floor_426 (by decide) ?_
  refine am_icmp_ne (tgt := 619) hC dL_floor_427 (by decide) (fun c_427 => absurd (by decide) c_427) (fun c_427 => ?_)
  refine am_aload_n hC dL_floor_430 rfl ?_
  refine am_iconst (v := nI 1) hC dL_floor_431 (by decide) ?_
  refine am_callV hC (ci := 6) (N := 4) [.int (nI 1)] rfl (SZ_3 hS) rfl mf_X5_permitOf tw_426 (d_permitOf _ _ (am_tr hC) h hS _) rfl ⟨rfl, Nat.le_of_ble_eq_true rfl⟩ ⟨by decide, by decide⟩ (by decide) (by decide) dL_floor_432 rfl (fun _ _ q _ => (XN_0 q.2 (by decide +kernel)).elim) (fun v h hp hlc => ?_)
  obtain ⟨rfl, hS⟩ := z_go (x' := nI 0) (σ' := qs_11) (by decide +kernel) rfl hp
  refine am_if_ne (tgt := 619) hC dL_floor_435 (by decide) (fun c_435 => absurd (by decide) c_435) (fun c_435 => ?_)
  refine am_aload_n hC dL_floor_438 rfl ?_
  refine am_iconst (v := nI 1) hC dL_floor_439 (by decide) ?_
  refine am_callV hC (ci := 6) (N := 4) [.int (nI 1)] rfl (SZ_3 hS) rfl mf_X5_isGood tw_564 (d_isGood _ _ (am_tr hC) h hS _) rfl ⟨rfl, Nat.le_of_ble_eq_true rfl⟩ ⟨by decide, by decide⟩ (by decide) (by decide) dL_floor_440 rfl (fun _ _ q _ => (XN_0 q.2 (by decide +kernel)).elim) (fun v h hp hlc => ?_)
  obtain ⟨rfl, hS⟩ := z_go (x' := nI 1) (σ' := qs_11) (by decide +kernel) rfl hp
  refine am_if_eq (tgt := 619) hC dL_floor_443 (by decide) (fun c_443 => absurd c_443 (by decide)) (fun c_443 => ?_)
  refine am_aload_n hC dL_floor_446 rfl ?_
  refine am_iconst (v := nI 0) hC dL_floor_447 (by decide) ?_
  refine am_callV hC (ci := 6) (N := 4) [.int (nI 0)] rfl (SZ_3 hS) rfl mf_X5_grant tw_496 (d_grant _ _ (am_tr hC) h hS _ true (fun _ => by rw [dn_nI (by decide)]; exact z_VWo qv_9 (by decide +kernel))) rfl ⟨rfl, Nat.le_of_ble_eq_true rfl⟩ ⟨by decide, by decide⟩ (by decide) (by decide) dL_floor_448 rfl (fun _ _ q _ => (XN_0 q.2 (by decide +kernel)).elim) (fun v h hp hlc => ?_)
  obtain ⟨rfl, hS⟩ := z_go (x' := nI 1) (σ' := qs_12) (by decide +kernel) (z_sx (by decide +kernel)) hp
  refine am_iconst (v := nI 1) hC dL_floor_451 (by decide) ?_
  refine am_icmp_ne (tgt := 619) hC dL_floor_452 (by decide) (fun c_452 => absurd (by decide) c_452) (fun c_452 => ?_)
  refine am_aload_n hC dL_floor_455 rfl ?_
  refine am_iconst (v := nI 0) hC dL_floor_456 (by decide) ?_
  refine am_callV hC (ci := 6) (N := 4) [.int (nI 0)] rfl (SZ_3 hS) rfl mf_X5_print tw_536 (d_print _ _ (am_tr hC) h hS _) rfl ⟨rfl, Nat.le_of_ble_eq_true rfl⟩ ⟨by decide, by decide⟩ (by decide) (by decide) dL_floor_457 rfl (fun _ _ q _ => (XN_0 q.2 (by decide +kernel)).elim) (fun v h hp hlc => ?_)
  obtain ⟨rfl, hS⟩ := z_go (x' := nI 2) (σ' := qs_13) (by decide +kernel) (z_sx (by decide +kernel)) hp
  refine am_iconst (v := nI 2) hC dL_floor_460 (by decide) ?_
  refine am_icmp_ne (tgt := 619) hC dL_floor_461 (by decide) (fun c_461 => absurd (by decide) c_461) (fun c_461 => ?_)
  refine am_aload_n hC dL_floor_464 rfl ?_
  refine am_iconst (v := nI 2) hC dL_floor_465 (by decide) ?_
  refine am_callV hC (ci := 6) (N := 4) [.int (nI 2)] rfl (SZ_3 hS) rfl mf_X5_permitOf tw_426 (d_permitOf _ _ (am_tr hC) h hS _) rfl ⟨rfl, Nat.le_of_ble_eq_true rfl⟩ ⟨by decide, by decide⟩ (by decide) (by decide) dL_floor_466 rfl (fun _ _ q _ => (XN_0 q.2 (by decide +kernel)).elim) (fun v h hp hlc => ?_)
  obtain ⟨rfl, hS⟩ := z_go (x' := nI 1) (σ' := qs_13) (by decide +kernel) rfl hp
  refine am_iconst (v := nI 1) hC dL_floor_469 (by decide) ?_
  refine am_icmp_ne (tgt := 619) hC dL_floor_470 (by decide) (fun c_470 => absurd (by decide) c_470) (fun c_470 => ?_)
  exact am_more (kc' := 2351) (ks' := 39331) (by decide) (by decide) (floor_6 hC hR h hS)
set_option maxRecDepth 100000 in
set_option maxHeartbeats 4000000 in
theorem floor_4 {Z : am_Z} (hC : am_OK Z "HousePlansLaw" cL_floor 3 16 6465 111205) (hR : am_Rt Z (some .boolean) [] z_one am_no 6465 111205) (h : am_H) (hS : SZ h qs_6) : am_W Z 2115 37135 273 [.ref (3), .int (-73), .int (nI 5)] [] h := by
  refine am_aload_n hC dL_floor_273 rfl ?_
  refine am_iconst (v := nI 0) hC dL_floor_274 (by decide) ?_
  refine am_iconst (v := nI 2) hC dL_floor_275 (by decide) ?_
  refine am_bipush (v := nI 15) hC dL_floor_276 (by decide) ?_
  refine am_iconst (v := nI 1) hC dL_floor_278 (by decide) ?_
  refine am_callV hC (ci := 6) (N := 4) [.int (nI 0), .int (nI 2), .int (nI 15), .int (nI 1)] rfl (SZ_3 hS) rfl mf_X5_setExit tw_342 (d_setExit _ _ (am_tr hC) h hS _ _ _ true) rfl ⟨rfl, Nat.le_of_ble_eq_true rfl⟩ ⟨by decide, by decide⟩ (by decide) (by decide) dL_floor_279 rfl (fun _ _ q _ => (XN_0 q.2 (by decide +kernel)).elim) (fun v h hp hlc => ?_)
  obtain ⟨rfl, hS⟩ := z_go (x' := nI 0) (σ' := qs_7) (by decide +kernel) (z_sx (by decide +kernel)) hp
  refine am_if_ne (tgt := 619) hC dL_floor_282 (by decide) (fun c_282 => absurd (by decide) c_282) (fun c_282 => ?_)
  refine am_aload_n hC dL_floor_285 rfl ?_
  refine am_iconst (v := nI 0) hC dL_floor_286 (by decide) ?_
  refine am_iconst (v := nI 0) hC dL_floor_287 (by decide) ?_
  refine am_iconst (v := nI 0) hC dL_floor_288 (by decide) ?_
  refine am_iconst (v := nI 5) hC dL_floor_289 (by decide) ?_
  refine am_iconst (v := nI 0) hC dL_floor_290 (by decide) ?_
  refine am_iconst (v := -1) hC dL_floor_291 (by decide) ?_
  refine am_callS hC [.ref (3), .int (nI 0), .int (nI 0), .int (nI 0), .int (nI 5), .int (nI 0), .int (-1)] mf_L_cell tw_596 (c_cell _ _ (am_tr hC) h hS _ _ _ _ _ _ 0 0 (by decide +kernel) (by decide) (dn_nI (by decide)) (dn_nI (by decide)) (z_VM qv_6 (by decide +kernel)) (z_VS qv_6 (by decide +kernel)) (z_VD qv_6 (by decide +kernel)) (z_VHy qv_6 (by decide +kernel))) rfl ⟨rfl, Nat.le_of_ble_eq_true rfl⟩ ⟨by decide, by decide⟩ (by decide) (by decide) dL_floor_292 rfl (fun _ _ q _ => False.elim q) (fun v h hp hlc => ?_)
  obtain ⟨rfl, hS⟩ := hp
  refine am_if_eq (tgt := 619) hC dL_floor_295 (by decide) (fun c_295 => absurd c_295 (by decide)) (fun c_295 => ?_)
  refine am_aload_n hC dL_floor_298 rfl ?_
  refine am_iconst (v := nI 0) hC dL_floor_299 (by decide) ?_
  refine am_bipush (v := nI 24) hC dL_floor_300 (by decide) ?_
  refine am_iconst (v := nI 1) hC dL_floor_302 (by decide) ?_
  refine am_bipush (v := nI 20) hC dL_floor_303 (by decide) ?_
  refine am_iconst (v := -1) hC dL_floor_305 (by decide) ?_
  refine am_iconst (v := nI 0) hC dL_floor_306 (by decide) ?_
  refine am_callS hC [.ref (3), .int (nI 0), .int (nI 24), .int (nI 1), .int (nI 20), .int (-1), .int (nI 0)] mf_L_cell tw_596 (c_cell _ _ (am_tr hC) h hS _ _ _ _ _ _ 0 24 (by decide +kernel) (by decide) (dn_nI (by decide)) (dn_nI (by decide)) (z_VM qv_6 (by decide +kernel)) (z_VS qv_6 (by decide +kernel)) (z_VD qv_6 (by decide +kernel)) (z_VHn qv_6 qn_9 (by decide +kernel))) rfl ⟨rfl, Nat.le_of_ble_eq_true rfl⟩ ⟨by decide, by decide⟩ (by decide) (by decide) dL_floor_307 rfl (fun _ _ q _ => False.elim q) (fun v h hp hlc => ?_)
  obtain ⟨rfl, hS⟩ := hp
  refine am_if_eq (tgt := 619) hC dL_floor_310 (by decide) (fun c_310 => absurd c_310 (by decide)) (fun c_310 => ?_)
  refine am_aload_n hC dL_floor_313 rfl ?_
  refine am_bipush (v := nI 13) hC dL_floor_314 (by decide) ?_
  refine am_iconst (v := nI 0) hC dL_floor_316 (by decide) ?_
  refine am_iconst (v := nI 0) hC dL_floor_317 (by decide) ?_
  refine am_iconst (v := nI 0) hC dL_floor_318 (by decide) ?_
  refine am_iconst (v := nI 0) hC dL_floor_319 (by decide) ?_
  refine am_callSX hC [.ref (3), .int (nI 13), .int (nI 0), .int (nI 0), .int (nI 0), .int (nI 0)] mf_L_act tw_447 (c_act13 _ _ (am_tr hC) h hS _ _ _ _ false (fun _ => by rw [dn_nI (by decide)]; exact z_VWo qv_6 (by decide +kernel))) rfl ⟨rfl, Nat.le_of_ble_eq_true rfl⟩ ⟨by decide, by decide⟩ (by decide) (by decide) dL_floor_320 rfl (fun _ _ q _ => False.elim q) (fun v h hp hlc => ?_)
  obtain ⟨rfl, hS⟩ := z_goa (x' := (-73)) (σ' := qs_7) (by decide +kernel) (z_sx (by decide +kernel)) hp
  refine am_iload_n hC dL_floor_323 rfl ?_
  refine am_icmp_ne (tgt := 619) hC dL_floor_324 (by decide) (fun c_324 => absurd (by decide) c_324) (fun c_324 => ?_)
  refine am_aload_n hC dL_floor_327 rfl ?_
  refine am_iconst (v := nI 0) hC dL_floor_328 (by decide) ?_
  refine am_iconst (v := nI 2) hC dL_floor_329 (by decide) ?_
  refine am_bipush (v := nI 8) hC dL_floor_330 (by decide) ?_
  refine am_iconst (v := nI 2) hC dL_floor_332 (by decide) ?_
  refine am_callV hC (ci := 6) (N := 4) [.int (nI 0), .int (nI 2), .int (nI 8), .int (nI 2)] rfl (SZ_3 hS) rfl mf_X5_tell tw_272 (d_tell _ _ (am_tr hC) h hS _ _ _ _) rfl ⟨rfl, Nat.le_of_ble_eq_true rfl⟩ ⟨by decide, by decide⟩ (by decide) (by decide) dL_floor_333 rfl (fun _ _ q _ => (XN_0 q.2 (by decide +kernel)).elim) (fun v h hp hlc => ?_)
  obtain ⟨rfl, hS⟩ := z_go (x' := nI 1) (σ' := qs_8) (by decide +kernel) (z_sx (by decide +kernel)) hp
  refine am_iconst (v := nI 1) hC dL_floor_336 (by decide) ?_
  refine am_icmp_ne (tgt := 619) hC dL_floor_337 (by decide) (fun c_337 => absurd (by decide) c_337) (fun c_337 => ?_)
  refine am_aload_n hC dL_floor_340 rfl ?_
  refine am_iconst (v := nI 0) hC dL_floor_341 (by decide) ?_
  refine am_callV hC (ci := 6) (N := 4) [.int (nI 0)] rfl (SZ_3 hS) rfl mf_X5_rooms tw_361 (d_rooms _ _ (am_tr hC) h hS _) rfl ⟨rfl, Nat.le_of_ble_eq_true rfl⟩ ⟨by decide, by decide⟩ (by decide) (by decide) dL_floor_342 rfl (fun _ _ q _ => (XN_0 q.2 (by decide +kernel)).elim) (fun v h hp hlc => ?_)
  obtain ⟨rfl, hS⟩ := z_gor (x' := nI 2) (dn_nI (by decide)) (z_VR qv_7 (by decide +kernel)) hp
  refine am_iconst (v := nI 2) hC dL_floor_345 (by decide) ?_
  refine am_icmp_ne (tgt := 619) hC dL_floor_346 (by decide) (fun c_346 => absurd (by decide) c_346) (fun c_346 => ?_)
  refine am_aload_n hC dL_floor_349 rfl ?_
  refine am_iconst (v := nI 0) hC dL_floor_350 (by decide) ?_
  refine am_bipush (v := nI 24) hC dL_floor_351 (by decide) ?_
  refine am_iconst (v := nI 1) hC dL_floor_353 (by decide) ?_
  refine am_bipush (v := nI 20) hC dL_floor_354 (by decide) ?_
  refine am_iconst (v := nI 1) hC dL_floor_356 (by decide) ?_
  refine am_iconst (v := -1) hC dL_floor_357 (by decide) ?_
  refine am_callS hC [.ref (3), .int (nI 0), .int (nI 24), .int (nI 1), .int (nI 20), .int (nI 1), .int (-1)] mf_L_cell tw_596 (c_cell _ _ (am_tr hC) h hS _ _ _ _ _ _ 0 24 (by decide +kernel) (by decide) (dn_nI (by decide)) (dn_nI (by decide)) (z_VM qv_7 (by decide +kernel)) (z_VS qv_7 (by decide +kernel)) (z_VD qv_7 (by decide +kernel)) (z_VHy qv_7 (by decide +kernel))) rfl ⟨rfl, Nat.le_of_ble_eq_true rfl⟩ ⟨by decide, by decide⟩ (by decide) (by decide) dL_floor_358 rfl (fun _ _ q _ => False.elim q) (fun v h hp hlc => ?_)
  obtain ⟨rfl, hS⟩ := hp
  refine am_if_eq (tgt := 619) hC dL_floor_361 (by decide) (fun c_361 => absurd c_361 (by decide)) (fun c_361 => ?_)
  refine am_aload_n hC dL_floor_364 rfl ?_
  refine am_iconst (v := nI 0) hC dL_floor_365 (by decide) ?_
  refine am_callV hC (ci := 6) (N := 4) [.int (nI 0)] rfl (SZ_3 hS) rfl mf_X5_print tw_536 (d_print _ _ (am_tr hC) h hS _) rfl ⟨rfl, Nat.le_of_ble_eq_true rfl⟩ ⟨by decide, by decide⟩ (by decide) (by decide) dL_floor_366 rfl (fun _ _ q _ => (XN_0 q.2 (by decide +kernel)).elim) (fun v h hp hlc => ?_)
  obtain ⟨rfl, hS⟩ := z_go (x' := nI 0) (σ' := qs_9) (by decide +kernel) (z_sx (by decide +kernel)) hp
  refine am_if_ne (tgt := 619) hC dL_floor_369 (by decide) (fun c_369 => absurd (by decide) c_369) (fun c_369 => ?_)
  refine am_aload_n hC dL_floor_372 rfl ?_
  refine am_iconst (v := nI 0) hC dL_floor_373 (by decide) ?_
  refine am_callV hC (ci := 6) (N := 4) [.int (nI 0)] rfl (SZ_3 hS) rfl mf_X5_permitOf tw_426 (d_permitOf _ _ (am_tr hC) h hS _) rfl ⟨rfl, Nat.le_of_ble_eq_true rfl⟩ ⟨by decide, by decide⟩ (by decide) (by decide) dL_floor_374 rfl (fun _ _ q _ => (XN_0 q.2 (by decide +kernel)).elim) (fun v h hp hlc => ?_)
  obtain ⟨rfl, hS⟩ := z_go (x' := (-1)) (σ' := qs_9) (by decide +kernel) rfl hp
  refine am_iconst (v := -1) hC dL_floor_377 (by decide) ?_
  refine am_icmp_ne (tgt := 619) hC dL_floor_378 (by decide) (fun c_378 => absurd (by decide) c_378) (fun c_378 => ?_)
  refine am_aload_n hC dL_floor_381 rfl ?_
  refine am_iconst (v := nI 0) hC dL_floor_382 (by decide) ?_
  refine am_callV hC (ci := 6) (N := 4) [.int (nI 0)] rfl (SZ_3 hS) rfl mf_X5_isGood tw_564 (d_isGood _ _ (am_tr hC) h hS _) rfl ⟨rfl, Nat.le_of_ble_eq_true rfl⟩ ⟨by decide, by decide⟩ (by decide) (by decide) dL_floor_383 rfl (fun _ _ q _ => (XN_0 q.2 (by decide +kernel)).elim) (fun v h hp hlc => ?_)
  obtain ⟨rfl, hS⟩ := z_go (x' := nI 0) (σ' := qs_9) (by decide +kernel) rfl hp
  refine am_if_ne (tgt := 619) hC dL_floor_386 (by decide) (fun c_386 => absurd (by decide) c_386) (fun c_386 => ?_)
  exact am_more (kc' := 2271) (ks' := 38331) (by decide) (by decide) (floor_5 hC hR h hS)
set_option maxRecDepth 100000 in
set_option maxHeartbeats 4000000 in
theorem floor_3 {Z : am_Z} (hC : am_OK Z "HousePlansLaw" cL_floor 3 16 6465 111205) (hR : am_Rt Z (some .boolean) [] z_one am_no 6465 111205) (h : am_H) (hS : SZ h qs_2) : am_W Z 1987 36367 238 [.ref (3), .int (-73), .int (nI 0)] [] h := by
  refine am_iinc (v := nI 1) hC dL_floor_238 rfl (by decide) (by decide) ?_
  change am_W _ _ _ _ [.ref (3), .int (-73), .int (nI 1)] _ _
  refine am_goto (tgt := 199) hC dL_floor_241 (by decide) ?_
  refine am_iload_n hC dL_floor_199 rfl ?_
  refine am_iconst (v := nI 5) hC dL_floor_200 (by decide) ?_
  refine am_icmp_ge (tgt := 244) hC dL_floor_201 (by decide) (fun c_201 => absurd c_201 (by decide)) (fun c_201 => ?_)
  refine am_aload_n hC dL_floor_204 rfl ?_
  refine am_iconst (v := nI 0) hC dL_floor_205 (by decide) ?_
  refine am_iconst (v := nI 2) hC dL_floor_206 (by decide) ?_
  refine am_iconst (v := nI 4) hC dL_floor_207 (by decide) ?_
  refine am_iload_n hC dL_floor_208 rfl ?_
  refine am_imulE (z := nI (4 * 1)) hC dL_floor_209 (pk_mul (4) (1)) ?_
  refine am_iconst (v := nI 1) hC dL_floor_210 (by decide) ?_
  refine am_callV hC (ci := 6) (N := 4) [.int (nI 0), .int (nI 2), .int (nI (4 * 1)), .int (nI 1)] rfl (SZ_3 hS) rfl mf_X5_tell tw_272 (d_tell _ _ (am_tr hC) h hS _ _ _ _) rfl ⟨rfl, Nat.le_of_ble_eq_true rfl⟩ ⟨by decide, by decide⟩ (by decide) (by decide) dL_floor_211 rfl (fun _ _ q _ => (XN_0 q.2 (by decide +kernel)).elim) (fun v h hp hlc => ?_)
  obtain ⟨rfl, hS⟩ := z_go (x' := (-1)) (σ' := qs_3) (by decide +kernel) (z_sx (by decide +kernel)) hp
  refine am_iconst (v := -1) hC dL_floor_214 (by decide) ?_
  refine am_icmp_ne (tgt := 236) hC dL_floor_215 (by decide) (fun c_215 => absurd (by decide) c_215) (fun c_215 => ?_)
  refine am_aload_n hC dL_floor_218 rfl ?_
  refine am_iconst (v := nI 0) hC dL_floor_219 (by decide) ?_
  refine am_callV hC (ci := 6) (N := 4) [.int (nI 0)] rfl (SZ_3 hS) rfl mf_X5_rooms tw_361 (d_rooms _ _ (am_tr hC) h hS _) rfl ⟨rfl, Nat.le_of_ble_eq_true rfl⟩ ⟨by decide, by decide⟩ (by decide) (by decide) dL_floor_220 rfl (fun _ _ q _ => (XN_0 q.2 (by decide +kernel)).elim) (fun v h hp hlc => ?_)
  obtain ⟨rfl, hS⟩ := z_gor (x' := nI 1) (dn_nI (by decide)) (z_VR qv_2 (by decide +kernel)) hp
  refine am_iload_n hC dL_floor_223 rfl ?_
  refine am_iconst (v := nI 4) hC dL_floor_224 (by decide) ?_
  refine am_icmp_ge (tgt := 232) hC dL_floor_225 (by decide) (fun c_225 => absurd c_225 (by decide)) (fun c_225 => ?_)
  refine am_iconst (v := nI 1) hC dL_floor_228 (by decide) ?_
  refine am_goto (tgt := 233) hC dL_floor_229 (by decide) ?_
  refine am_icmp_eq (tgt := 238) hC dL_floor_233 (by decide) (fun c_233 => ?_) (fun c_233 => absurd (by decide) c_233)
  refine am_iinc (v := nI 2) hC dL_floor_238 rfl (by decide) (by decide) ?_
  change am_W _ _ _ _ [.ref (3), .int (-73), .int (nI 2)] _ _
  refine am_goto (tgt := 199) hC dL_floor_241 (by decide) ?_
  refine am_iload_n hC dL_floor_199 rfl ?_
  refine am_iconst (v := nI 5) hC dL_floor_200 (by decide) ?_
  refine am_icmp_ge (tgt := 244) hC dL_floor_201 (by decide) (fun c_201 => absurd c_201 (by decide)) (fun c_201 => ?_)
  refine am_aload_n hC dL_floor_204 rfl ?_
  refine am_iconst (v := nI 0) hC dL_floor_205 (by decide) ?_
  refine am_iconst (v := nI 2) hC dL_floor_206 (by decide) ?_
  refine am_iconst (v := nI 4) hC dL_floor_207 (by decide) ?_
  refine am_iload_n hC dL_floor_208 rfl ?_
  refine am_imulE (z := nI (4 * 2)) hC dL_floor_209 (pk_mul (4) (2)) ?_
  refine am_iconst (v := nI 1) hC dL_floor_210 (by decide) ?_
  refine am_callV hC (ci := 6) (N := 4) [.int (nI 0), .int (nI 2), .int (nI (4 * 2)), .int (nI 1)] rfl (SZ_3 hS) rfl mf_X5_tell tw_272 (d_tell _ _ (am_tr hC) h hS _ _ _ _) rfl ⟨rfl, Nat.le_of_ble_eq_true rfl⟩ ⟨by decide, by decide⟩ (by decide) (by decide) dL_floor_211 rfl (fun _ _ q _ => (XN_0 q.2 (by decide +kernel)).elim) (fun v h hp hlc => ?_)
  obtain ⟨rfl, hS⟩ := z_go (x' := (-1)) (σ' := qs_4) (by decide +kernel) (z_sx (by decide +kernel)) hp
  refine am_iconst (v := -1) hC dL_floor_214 (by decide) ?_
  refine am_icmp_ne (tgt := 236) hC dL_floor_215 (by decide) (fun c_215 => absurd (by decide) c_215) (fun c_215 => ?_)
  refine am_aload_n hC dL_floor_218 rfl ?_
  refine am_iconst (v := nI 0) hC dL_floor_219 (by decide) ?_
  refine am_callV hC (ci := 6) (N := 4) [.int (nI 0)] rfl (SZ_3 hS) rfl mf_X5_rooms tw_361 (d_rooms _ _ (am_tr hC) h hS _) rfl ⟨rfl, Nat.le_of_ble_eq_true rfl⟩ ⟨by decide, by decide⟩ (by decide) (by decide) dL_floor_220 rfl (fun _ _ q _ => (XN_0 q.2 (by decide +kernel)).elim) (fun v h hp hlc => ?_)
  obtain ⟨rfl, hS⟩ := z_gor (x' := nI 1) (dn_nI (by decide)) (z_VR qv_3 (by decide +kernel)) hp
  refine am_iload_n hC dL_floor_223 rfl ?_
  refine am_iconst (v := nI 4) hC dL_floor_224 (by decide) ?_
  refine am_icmp_ge (tgt := 232) hC dL_floor_225 (by decide) (fun c_225 => absurd c_225 (by decide)) (fun c_225 => ?_)
  refine am_iconst (v := nI 1) hC dL_floor_228 (by decide) ?_
  refine am_goto (tgt := 233) hC dL_floor_229 (by decide) ?_
  refine am_icmp_eq (tgt := 238) hC dL_floor_233 (by decide) (fun c_233 => ?_) (fun c_233 => absurd (by decide) c_233)
  refine am_iinc (v := nI 3) hC dL_floor_238 rfl (by decide) (by decide) ?_
  change am_W _ _ _ _ [.ref (3), .int (-73), .int (nI 3)] _ _
  refine am_goto (tgt := 199) hC dL_floor_241 (by decide) ?_
  refine am_iload_n hC dL_floor_199 rfl ?_
  refine am_iconst (v := nI 5) hC dL_floor_200 (by decide) ?_
  refine am_icmp_ge (tgt := 244) hC dL_floor_201 (by decide) (fun c_201 => absurd c_201 (by decide)) (fun c_201 => ?_)
  refine am_aload_n hC dL_floor_204 rfl ?_
  refine am_iconst (v := nI 0) hC dL_floor_205 (by decide) ?_
  refine am_iconst (v := nI 2) hC dL_floor_206 (by decide) ?_
  refine am_iconst (v := nI 4) hC dL_floor_207 (by decide) ?_
  refine am_iload_n hC dL_floor_208 rfl ?_
  refine am_imulE (z := nI (4 * 3)) hC dL_floor_209 (pk_mul (4) (3)) ?_
  refine am_iconst (v := nI 1) hC dL_floor_210 (by decide) ?_
  refine am_callV hC (ci := 6) (N := 4) [.int (nI 0), .int (nI 2), .int (nI (4 * 3)), .int (nI 1)] rfl (SZ_3 hS) rfl mf_X5_tell tw_272 (d_tell _ _ (am_tr hC) h hS _ _ _ _) rfl ⟨rfl, Nat.le_of_ble_eq_true rfl⟩ ⟨by decide, by decide⟩ (by decide) (by decide) dL_floor_211 rfl (fun _ _ q _ => (XN_0 q.2 (by decide +kernel)).elim) (fun v h hp hlc => ?_)
  obtain ⟨rfl, hS⟩ := z_go (x' := (-1)) (σ' := qs_5) (by decide +kernel) (z_sx (by decide +kernel)) hp
  refine am_iconst (v := -1) hC dL_floor_214 (by decide) ?_
  refine am_icmp_ne (tgt := 236) hC dL_floor_215 (by decide) (fun c_215 => absurd (by decide) c_215) (fun c_215 => ?_)
  refine am_aload_n hC dL_floor_218 rfl ?_
  refine am_iconst (v := nI 0) hC dL_floor_219 (by decide) ?_
  refine am_callV hC (ci := 6) (N := 4) [.int (nI 0)] rfl (SZ_3 hS) rfl mf_X5_rooms tw_361 (d_rooms _ _ (am_tr hC) h hS _) rfl ⟨rfl, Nat.le_of_ble_eq_true rfl⟩ ⟨by decide, by decide⟩ (by decide) (by decide) dL_floor_220 rfl (fun _ _ q _ => (XN_0 q.2 (by decide +kernel)).elim) (fun v h hp hlc => ?_)
  obtain ⟨rfl, hS⟩ := z_gor (x' := nI 1) (dn_nI (by decide)) (z_VR qv_4 (by decide +kernel)) hp
  refine am_iload_n hC dL_floor_223 rfl ?_
  refine am_iconst (v := nI 4) hC dL_floor_224 (by decide) ?_
  refine am_icmp_ge (tgt := 232) hC dL_floor_225 (by decide) (fun c_225 => absurd c_225 (by decide)) (fun c_225 => ?_)
  refine am_iconst (v := nI 1) hC dL_floor_228 (by decide) ?_
  refine am_goto (tgt := 233) hC dL_floor_229 (by decide) ?_
  refine am_icmp_eq (tgt := 238) hC dL_floor_233 (by decide) (fun c_233 => ?_) (fun c_233 => absurd (by decide) c_233)
  refine am_iinc (v := nI 4) hC dL_floor_238 rfl (by decide) (by decide) ?_
  change am_W _ _ _ _ [.ref (3), .int (-73), .int (nI 4)] _ _
  refine am_goto (tgt := 199) hC dL_floor_241 (by decide) ?_
  refine am_iload_n hC dL_floor_199 rfl ?_
  refine am_iconst (v := nI 5) hC dL_floor_200 (by decide) ?_
  refine am_icmp_ge (tgt := 244) hC dL_floor_201 (by decide) (fun c_201 => absurd c_201 (by decide)) (fun c_201 => ?_)
  refine am_aload_n hC dL_floor_204 rfl ?_
  refine am_iconst (v := nI 0) hC dL_floor_205 (by decide) ?_
  refine am_iconst (v := nI 2) hC dL_floor_206 (by decide) ?_
  refine am_iconst (v := nI 4) hC dL_floor_207 (by decide) ?_
  refine am_iload_n hC dL_floor_208 rfl ?_
  refine am_imulE (z := nI (4 * 4)) hC dL_floor_209 (pk_mul (4) (4)) ?_
  refine am_iconst (v := nI 1) hC dL_floor_210 (by decide) ?_
  refine am_callV hC (ci := 6) (N := 4) [.int (nI 0), .int (nI 2), .int (nI (4 * 4)), .int (nI 1)] rfl (SZ_3 hS) rfl mf_X5_tell tw_272 (d_tell _ _ (am_tr hC) h hS _ _ _ _) rfl ⟨rfl, Nat.le_of_ble_eq_true rfl⟩ ⟨by decide, by decide⟩ (by decide) (by decide) dL_floor_211 rfl (fun _ _ q _ => (XN_0 q.2 (by decide +kernel)).elim) (fun v h hp hlc => ?_)
  obtain ⟨rfl, hS⟩ := z_go (x' := (-1)) (σ' := qs_6) (by decide +kernel) (z_sx (by decide +kernel)) hp
  refine am_iconst (v := -1) hC dL_floor_214 (by decide) ?_
  refine am_icmp_ne (tgt := 236) hC dL_floor_215 (by decide) (fun c_215 => absurd (by decide) c_215) (fun c_215 => ?_)
  refine am_aload_n hC dL_floor_218 rfl ?_
  refine am_iconst (v := nI 0) hC dL_floor_219 (by decide) ?_
  refine am_callV hC (ci := 6) (N := 4) [.int (nI 0)] rfl (SZ_3 hS) rfl mf_X5_rooms tw_361 (d_rooms _ _ (am_tr hC) h hS _) rfl ⟨rfl, Nat.le_of_ble_eq_true rfl⟩ ⟨by decide, by decide⟩ (by decide) (by decide) dL_floor_220 rfl (fun _ _ q _ => (XN_0 q.2 (by decide +kernel)).elim) (fun v h hp hlc => ?_)
  obtain ⟨rfl, hS⟩ := z_gor (x' := nI 2) (dn_nI (by decide)) (z_VR qv_5 (by decide +kernel)) hp
  refine am_iload_n hC dL_floor_223 rfl ?_
  refine am_iconst (v := nI 4) hC dL_floor_224 (by decide) ?_
  refine am_icmp_ge (tgt := 232) hC dL_floor_225 (by decide) (fun c_225 => ?_) (fun c_225 => absurd (by decide) c_225)
  refine am_iconst (v := nI 2) hC dL_floor_232 (by decide) ?_
  refine am_icmp_eq (tgt := 238) hC dL_floor_233 (by decide) (fun c_233 => ?_) (fun c_233 => absurd (by decide) c_233)
  refine am_iinc (v := nI 5) hC dL_floor_238 rfl (by decide) (by decide) ?_
  change am_W _ _ _ _ [.ref (3), .int (-73), .int (nI 5)] _ _
  refine am_goto (tgt := 199) hC dL_floor_241 (by decide) ?_
  refine am_iload_n hC dL_floor_199 rfl ?_
  refine am_iconst (v := nI 5) hC dL_floor_200 (by decide) ?_
  refine am_icmp_ge (tgt := 244) hC dL_floor_201 (by decide) (fun c_201 => ?_) (fun c_201 => absurd (by decide) c_201)
  refine am_aload_n hC dL_floor_244 rfl ?_
  refine am_iconst (v := nI 0) hC dL_floor_245 (by decide) ?_
  refine am_bipush (v := nI 20) hC dL_floor_246 (by decide) ?_
  refine am_iconst (v := nI 0) hC dL_floor_248 (by decide) ?_
  refine am_iconst (v := nI 5) hC dL_floor_249 (by decide) ?_
  refine am_iconst (v := -1) hC dL_floor_250 (by decide) ?_
  refine am_iconst (v := -1) hC dL_floor_251 (by decide) ?_
  refine am_callS hC [.ref (3), .int (nI 0), .int (nI 20), .int (nI 0), .int (nI 5), .int (-1), .int (-1)] mf_L_cell tw_596 (c_cell _ _ (am_tr hC) h hS _ _ _ _ _ _ 0 20 (by decide +kernel) (by decide) (dn_nI (by decide)) (dn_nI (by decide)) (z_VM qv_5 (by decide +kernel)) (z_VS qv_5 (by decide +kernel)) (z_VD qv_5 (by decide +kernel)) (z_VHn qv_5 qn_2 (by decide +kernel))) rfl ⟨rfl, Nat.le_of_ble_eq_true rfl⟩ ⟨by decide, by decide⟩ (by decide) (by decide) dL_floor_252 rfl (fun _ _ q _ => False.elim q) (fun v h hp hlc => ?_)
  obtain ⟨rfl, hS⟩ := hp
  refine am_if_eq (tgt := 619) hC dL_floor_255 (by decide) (fun c_255 => absurd c_255 (by decide)) (fun c_255 => ?_)
  refine am_aload_n hC dL_floor_258 rfl ?_
  refine am_iconst (v := nI 0) hC dL_floor_259 (by decide) ?_
  refine am_bipush (v := nI 24) hC dL_floor_260 (by decide) ?_
  refine am_iconst (v := nI 1) hC dL_floor_262 (by decide) ?_
  refine am_bipush (v := nI 20) hC dL_floor_263 (by decide) ?_
  refine am_iconst (v := -1) hC dL_floor_265 (by decide) ?_
  refine am_iconst (v := -1) hC dL_floor_266 (by decide) ?_
  refine am_callS hC [.ref (3), .int (nI 0), .int (nI 24), .int (nI 1), .int (nI 20), .int (-1), .int (-1)] mf_L_cell tw_596 (c_cell _ _ (am_tr hC) h hS _ _ _ _ _ _ 0 24 (by decide +kernel) (by decide) (dn_nI (by decide)) (dn_nI (by decide)) (z_VM qv_5 (by decide +kernel)) (z_VS qv_5 (by decide +kernel)) (z_VD qv_5 (by decide +kernel)) (z_VHn qv_5 qn_9 (by decide +kernel))) rfl ⟨rfl, Nat.le_of_ble_eq_true rfl⟩ ⟨by decide, by decide⟩ (by decide) (by decide) dL_floor_267 rfl (fun _ _ q _ => False.elim q) (fun v h hp hlc => ?_)
  obtain ⟨rfl, hS⟩ := hp
  refine am_if_eq (tgt := 619) hC dL_floor_270 (by decide) (fun c_270 => absurd c_270 (by decide)) (fun c_270 => ?_)
  exact am_more (kc' := 2115) (ks' := 37135) (by decide) (by decide) (floor_4 hC hR h hS)
set_option maxRecDepth 100000 in
set_option maxHeartbeats 4000000 in
theorem floor_2 {Z : am_Z} (hC : am_OK Z "HousePlansLaw" cL_floor 3 16 6465 111205) (hR : am_Rt Z (some .boolean) [] z_one am_no 6465 111205) (h : am_H) (hS : SZ h qs_0) : am_W Z 1893 34893 107 [.ref (3), .int (-73), .null] [] h := by
  refine am_aload_n hC dL_floor_107 rfl ?_
  refine am_bipush (v := nI 13) hC dL_floor_108 (by decide) ?_
  refine am_iconst (v := nI 0) hC dL_floor_110 (by decide) ?_
  refine am_iconst (v := nI 0) hC dL_floor_111 (by decide) ?_
  refine am_iconst (v := nI 0) hC dL_floor_112 (by decide) ?_
  refine am_iconst (v := nI 0) hC dL_floor_113 (by decide) ?_
  refine am_callSX hC [.ref (3), .int (nI 13), .int (nI 0), .int (nI 0), .int (nI 0), .int (nI 0)] mf_L_act tw_447 (c_act13 _ _ (am_tr hC) h hS _ _ _ _ false (fun _ => by rw [dn_nI (by decide)]; exact z_VWo qv_0 (by decide +kernel))) rfl ⟨rfl, Nat.le_of_ble_eq_true rfl⟩ ⟨by decide, by decide⟩ (by decide) (by decide) dL_floor_114 rfl (fun _ _ q _ => False.elim q) (fun v h hp hlc => ?_)
  obtain ⟨rfl, hS⟩ := z_goa (x' := (-73)) (σ' := qs_0) (by decide +kernel) (z_sx (by decide +kernel)) hp
  refine am_iload_n hC dL_floor_117 rfl ?_
  refine am_icmp_ne (tgt := 195) hC dL_floor_118 (by decide) (fun c_118 => absurd (by decide) c_118) (fun c_118 => ?_)
  refine am_aload_n hC dL_floor_121 rfl ?_
  refine am_iconst (v := nI 0) hC dL_floor_122 (by decide) ?_
  refine am_iconst (v := nI 0) hC dL_floor_123 (by decide) ?_
  refine am_callSX hC [.ref (3), .int (nI 0), .int (nI 0)] mf_L_unlock tw_585 (c_unlock _ _ (am_tr hC) h hS _ _) rfl ⟨rfl, Nat.le_of_ble_eq_true rfl⟩ ⟨by decide, by decide⟩ (by decide) (by decide) dL_floor_124 rfl (fun _ _ q _ => False.elim q) (fun v h hp hlc => ?_)
  obtain ⟨rfl, hS⟩ := z_goa (x' := (-73)) (σ' := qs_0) (by decide +kernel) (z_sx (by decide +kernel)) hp
  refine am_iload_n hC dL_floor_127 rfl ?_
  refine am_icmp_ne (tgt := 195) hC dL_floor_128 (by decide) (fun c_128 => absurd (by decide) c_128) (fun c_128 => ?_)
  refine am_aload_n hC dL_floor_131 rfl ?_
  refine am_iconst (v := nI 0) hC dL_floor_132 (by decide) ?_
  refine am_iconst (v := nI 2) hC dL_floor_133 (by decide) ?_
  refine am_callSX hC [.ref (3), .int (nI 0), .int (nI 2)] mf_L_lock tw_436 (c_lock _ _ (am_tr hC) h hS _ _) rfl ⟨rfl, Nat.le_of_ble_eq_true rfl⟩ ⟨by decide, by decide⟩ (by decide) (by decide) dL_floor_134 rfl (fun _ _ q _ => False.elim q) (fun v h hp hlc => ?_)
  obtain ⟨rfl, hS⟩ := z_goa (x' := nI 0) (σ' := qs_1) (by decide +kernel) (z_sx (by decide +kernel)) hp
  refine am_if_ne (tgt := 195) hC dL_floor_137 (by decide) (fun c_137 => absurd (by decide) c_137) (fun c_137 => ?_)
  refine am_aload_n hC dL_floor_140 rfl ?_
  refine am_iconst (v := nI 0) hC dL_floor_141 (by decide) ?_
  refine am_iconst (v := nI 2) hC dL_floor_142 (by decide) ?_
  refine am_callSX hC [.ref (3), .int (nI 0), .int (nI 2)] mf_L_lock tw_436 (c_lock _ _ (am_tr hC) h hS _ _) rfl ⟨rfl, Nat.le_of_ble_eq_true rfl⟩ ⟨by decide, by decide⟩ (by decide) (by decide) dL_floor_143 rfl (fun _ _ q _ => False.elim q) (fun v h hp hlc => ?_)
  obtain ⟨rfl, hS⟩ := z_goa (x' := (-73)) (σ' := qs_1) (by decide +kernel) (z_sx (by decide +kernel)) hp
  refine am_iload_n hC dL_floor_146 rfl ?_
  refine am_icmp_ne (tgt := 195) hC dL_floor_147 (by decide) (fun c_147 => absurd (by decide) c_147) (fun c_147 => ?_)
  refine am_aload_n hC dL_floor_150 rfl ?_
  refine am_iconst (v := nI 0) hC dL_floor_151 (by decide) ?_
  refine am_iconst (v := nI 3) hC dL_floor_152 (by decide) ?_
  refine am_callSX hC [.ref (3), .int (nI 0), .int (nI 3)] mf_L_lock tw_436 (c_lock _ _ (am_tr hC) h hS _ _) rfl ⟨rfl, Nat.le_of_ble_eq_true rfl⟩ ⟨by decide, by decide⟩ (by decide) (by decide) dL_floor_153 rfl (fun _ _ q _ => False.elim q) (fun v h hp hlc => ?_)
  obtain ⟨rfl, hS⟩ := z_goa (x' := (-73)) (σ' := qs_1) (by decide +kernel) (z_sx (by decide +kernel)) hp
  refine am_iload_n hC dL_floor_156 rfl ?_
  refine am_icmp_ne (tgt := 195) hC dL_floor_157 (by decide) (fun c_157 => absurd (by decide) c_157) (fun c_157 => ?_)
  refine am_aload_n hC dL_floor_160 rfl ?_
  refine am_iconst (v := nI 0) hC dL_floor_161 (by decide) ?_
  refine am_callV hC (ci := 6) (N := 4) [.int (nI 0)] rfl (SZ_3 hS) rfl mf_X5_canChange tw_492 (d_canChange _ _ (am_tr hC) h hS _) rfl ⟨rfl, Nat.le_of_ble_eq_true rfl⟩ ⟨by decide, by decide⟩ (by decide) (by decide) dL_floor_162 rfl (fun _ _ q _ => (XN_0 q.2 (by decide +kernel)).elim) (fun v h hp hlc => ?_)
  obtain ⟨rfl, hS⟩ := z_go (x' := nI 2) (σ' := qs_1) (by decide +kernel) rfl hp
  refine am_iconst (v := nI 2) hC dL_floor_165 (by decide) ?_
  refine am_icmp_ne (tgt := 195) hC dL_floor_166 (by decide) (fun c_166 => absurd (by decide) c_166) (fun c_166 => ?_)
  refine am_aload_n hC dL_floor_169 rfl ?_
  refine am_iconst (v := nI 1) hC dL_floor_170 (by decide) ?_
  refine am_iconst (v := nI 0) hC dL_floor_171 (by decide) ?_
  refine am_iconst (v := nI 0) hC dL_floor_172 (by decide) ?_
  refine am_iconst (v := nI 0) hC dL_floor_173 (by decide) ?_
  refine am_iconst (v := nI 1) hC dL_floor_174 (by decide) ?_
  refine am_callSX hC [.ref (3), .int (nI 1), .int (nI 0), .int (nI 0), .int (nI 0), .int (nI 1)] mf_L_act tw_447 (c_act1 _ _ (am_tr hC) h hS _ _ _ _) rfl ⟨rfl, Nat.le_of_ble_eq_true rfl⟩ ⟨by decide, by decide⟩ (by decide) (by decide) dL_floor_175 rfl (fun _ _ q _ => False.elim q) (fun v h hp hlc => ?_)
  obtain ⟨rfl, hS⟩ := z_goa (x' := (-73)) (σ' := qs_1) (by decide +kernel) (z_sx (by decide +kernel)) hp
  refine am_iload_n hC dL_floor_178 rfl ?_
  refine am_icmp_ne (tgt := 195) hC dL_floor_179 (by decide) (fun c_179 => absurd (by decide) c_179) (fun c_179 => ?_)
  refine am_aload_n hC dL_floor_182 rfl ?_
  refine am_iconst (v := nI 2) hC dL_floor_183 (by decide) ?_
  refine am_iconst (v := nI 0) hC dL_floor_184 (by decide) ?_
  refine am_iconst (v := nI 3) hC dL_floor_185 (by decide) ?_
  refine am_iconst (v := nI 0) hC dL_floor_186 (by decide) ?_
  refine am_iconst (v := nI 1) hC dL_floor_187 (by decide) ?_
  refine am_callSX hC [.ref (3), .int (nI 2), .int (nI 0), .int (nI 3), .int (nI 0), .int (nI 1)] mf_L_act tw_447 (c_act2 _ _ (am_tr hC) h hS _ _ _ _) rfl ⟨rfl, Nat.le_of_ble_eq_true rfl⟩ ⟨by decide, by decide⟩ (by decide) (by decide) dL_floor_188 rfl (fun _ _ q _ => False.elim q) (fun v h hp hlc => ?_)
  obtain ⟨rfl, hS⟩ := z_goa (x' := (-73)) (σ' := qs_1) (by decide +kernel) (z_sx (by decide +kernel)) hp
  refine am_iload_n hC dL_floor_191 rfl ?_
  refine am_icmp_eq (tgt := 197) hC dL_floor_192 (by decide) (fun c_192 => ?_) (fun c_192 => absurd (by decide) c_192)
  refine am_iconst (v := nI 0) hC dL_floor_197 (by decide) ?_
  refine am_istore_n hC dL_floor_198 (by decide) ?_
  change am_W _ _ _ _ [.ref (3), .int (-73), .int (nI 0)] _ _
  refine am_iload_n hC dL_floor_199 rfl ?_
  refine am_iconst (v := nI 5) hC dL_floor_200 (by decide) ?_
  refine am_icmp_ge (tgt := 244) hC dL_floor_201 (by decide) (fun c_201 => absurd c_201 (by decide)) (fun c_201 => ?_)
  refine am_aload_n hC dL_floor_204 rfl ?_
  refine am_iconst (v := nI 0) hC dL_floor_205 (by decide) ?_
  refine am_iconst (v := nI 2) hC dL_floor_206 (by decide) ?_
  refine am_iconst (v := nI 4) hC dL_floor_207 (by decide) ?_
  refine am_iload_n hC dL_floor_208 rfl ?_
  refine am_imulE (z := nI (4 * 0)) hC dL_floor_209 (pk_mul (4) (0)) ?_
  refine am_iconst (v := nI 1) hC dL_floor_210 (by decide) ?_
  refine am_callV hC (ci := 6) (N := 4) [.int (nI 0), .int (nI 2), .int (nI (4 * 0)), .int (nI 1)] rfl (SZ_3 hS) rfl mf_X5_tell tw_272 (d_tell _ _ (am_tr hC) h hS _ _ _ _) rfl ⟨rfl, Nat.le_of_ble_eq_true rfl⟩ ⟨by decide, by decide⟩ (by decide) (by decide) dL_floor_211 rfl (fun _ _ q _ => (XN_0 q.2 (by decide +kernel)).elim) (fun v h hp hlc => ?_)
  obtain ⟨rfl, hS⟩ := z_go (x' := (-1)) (σ' := qs_2) (by decide +kernel) (z_sx (by decide +kernel)) hp
  refine am_iconst (v := -1) hC dL_floor_214 (by decide) ?_
  refine am_icmp_ne (tgt := 236) hC dL_floor_215 (by decide) (fun c_215 => absurd (by decide) c_215) (fun c_215 => ?_)
  refine am_aload_n hC dL_floor_218 rfl ?_
  refine am_iconst (v := nI 0) hC dL_floor_219 (by decide) ?_
  refine am_callV hC (ci := 6) (N := 4) [.int (nI 0)] rfl (SZ_3 hS) rfl mf_X5_rooms tw_361 (d_rooms _ _ (am_tr hC) h hS _) rfl ⟨rfl, Nat.le_of_ble_eq_true rfl⟩ ⟨by decide, by decide⟩ (by decide) (by decide) dL_floor_220 rfl (fun _ _ q _ => (XN_0 q.2 (by decide +kernel)).elim) (fun v h hp hlc => ?_)
  obtain ⟨rfl, hS⟩ := z_gor (x' := nI 1) (dn_nI (by decide)) (z_VR qv_1 (by decide +kernel)) hp
  refine am_iload_n hC dL_floor_223 rfl ?_
  refine am_iconst (v := nI 4) hC dL_floor_224 (by decide) ?_
  refine am_icmp_ge (tgt := 232) hC dL_floor_225 (by decide) (fun c_225 => absurd c_225 (by decide)) (fun c_225 => ?_)
  refine am_iconst (v := nI 1) hC dL_floor_228 (by decide) ?_
  refine am_goto (tgt := 233) hC dL_floor_229 (by decide) ?_
  refine am_icmp_eq (tgt := 238) hC dL_floor_233 (by decide) (fun c_233 => ?_) (fun c_233 => absurd (by decide) c_233)
  exact am_more (kc' := 1987) (ks' := 36367) (by decide) (by decide) (floor_3 hC hR h hS)
set_option maxRecDepth 100000 in
set_option maxHeartbeats 4000000 in
theorem floor_1 {Z : am_Z} (hC : am_OK Z "HousePlansLaw" cL_floor 3 16 6465 111205) (hR : am_Rt Z (some .boolean) [] z_one am_no 6465 111205) (h : am_H) (hS : SZ h z_00) : am_W Z 11 159 8 [.ref (3), .null, .null] [] h := by
  refine am_bipush (v := -73) hC dL_floor_8 (by decide) ?_
  refine am_istore_n hC dL_floor_10 (by decide) ?_
  change am_W _ _ _ _ [.ref (3), .int (-73), .null] _ _
  refine am_aload_n hC dL_floor_11 rfl ?_
  refine am_callV hC (ci := 6) (N := 4) [] rfl (SZ_3 hS) rfl mf_X5_drawings tw_576 (d_drawings _ _ (am_tr hC) h hS) rfl ⟨rfl, Nat.le_of_ble_eq_true rfl⟩ ⟨by decide, by decide⟩ (by decide) (by decide) dL_floor_12 rfl (fun _ _ q _ => False.elim q) (fun v h hp hlc => ?_)
  obtain ⟨rfl, hS⟩ := z_goa (x' := nI 0) (by decide +kernel) rfl hp
  refine am_if_ne (tgt := 195) hC dL_floor_15 (by decide) (fun c_15 => absurd (by decide) c_15) (fun c_15 => ?_)
  refine am_aload_n hC dL_floor_18 rfl ?_
  refine am_callV hC (ci := 6) (N := 4) [] rfl (SZ_3 hS) rfl mf_X5_old tw_580 (d_old _ _ (am_tr hC) h hS) rfl ⟨rfl, Nat.le_of_ble_eq_true rfl⟩ ⟨by decide, by decide⟩ (by decide) (by decide) dL_floor_19 rfl (fun _ _ q _ => False.elim q) (fun v h hp hlc => ?_)
  obtain ⟨rfl, hS⟩ := z_goa (x' := nI 0) (by decide +kernel) rfl hp
  refine am_if_ne (tgt := 195) hC dL_floor_22 (by decide) (fun c_22 => absurd (by decide) c_22) (fun c_22 => ?_)
  refine am_aload_n hC dL_floor_25 rfl ?_
  refine am_iconst (v := nI 0) hC dL_floor_26 (by decide) ?_
  refine am_iconst (v := nI 0) hC dL_floor_27 (by decide) ?_
  refine am_callS hC [.ref (3), .int (nI 0), .int (nI 0)] mf_L_refuses tw_573 (c_refuses' _ _ (am_tr hC) h hS (p := 0) (q := 0) rfl rfl) rfl ⟨rfl, Nat.le_of_ble_eq_true rfl⟩ ⟨by decide, by decide⟩ (by decide) (by decide) dL_floor_28 rfl (fun _ _ q _ => False.elim q) (fun v h hp hlc => ?_)
  obtain ⟨rfl, hS⟩ := hp
  refine am_if_eq (tgt := 195) hC dL_floor_31 (by decide) (fun c_31 => absurd c_31 (by decide)) (fun c_31 => ?_)
  refine am_aload_n hC dL_floor_34 rfl ?_
  refine am_callV hC (ci := 6) (N := 4) [] rfl (SZ_3 hS) rfl mf_X5_begin tw_107 (d_begin _ _ (am_tr hC) h hS ) rfl ⟨rfl, Nat.le_of_ble_eq_true rfl⟩ ⟨by decide, by decide⟩ (by decide) (by decide) dL_floor_35 rfl (fun _ _ q _ => (XN_0 q.2 (by decide +kernel)).elim) (fun v h hp hlc => ?_)
  obtain ⟨rfl, hS⟩ := z_go (x' := nI 0) (σ' := qs_0) (by decide +kernel) (z_sx (by decide +kernel)) hp
  refine am_if_ne (tgt := 195) hC dL_floor_38 (by decide) (fun c_38 => absurd (by decide) c_38) (fun c_38 => ?_)
  refine am_aload_n hC dL_floor_41 rfl ?_
  refine am_iconst (v := nI 0) hC dL_floor_42 (by decide) ?_
  refine am_callV hC (ci := 6) (N := 4) [.int (nI 0)] rfl (SZ_3 hS) rfl mf_X5_rooms tw_361 (d_rooms _ _ (am_tr hC) h hS _) rfl ⟨rfl, Nat.le_of_ble_eq_true rfl⟩ ⟨by decide, by decide⟩ (by decide) (by decide) dL_floor_43 rfl (fun _ _ q _ => (XN_0 q.2 (by decide +kernel)).elim) (fun v h hp hlc => ?_)
  obtain ⟨rfl, hS⟩ := z_gor (x' := nI 1) (dn_nI (by decide)) (z_VR qv_0 (by decide +kernel)) hp
  refine am_iconst (v := nI 1) hC dL_floor_46 (by decide) ?_
  refine am_icmp_ne (tgt := 195) hC dL_floor_47 (by decide) (fun c_47 => absurd (by decide) c_47) (fun c_47 => ?_)
  refine am_aload_n hC dL_floor_50 rfl ?_
  refine am_iconst (v := nI 0) hC dL_floor_51 (by decide) ?_
  refine am_bipush (v := nI 24) hC dL_floor_52 (by decide) ?_
  refine am_iconst (v := nI 0) hC dL_floor_54 (by decide) ?_
  refine am_bipush (v := nI 25) hC dL_floor_55 (by decide) ?_
  refine am_iconst (v := -1) hC dL_floor_57 (by decide) ?_
  refine am_iconst (v := -1) hC dL_floor_58 (by decide) ?_
  refine am_callS hC [.ref (3), .int (nI 0), .int (nI 24), .int (nI 0), .int (nI 25), .int (-1), .int (-1)] mf_L_cell tw_596 (c_cell _ _ (am_tr hC) h hS _ _ _ _ _ _ 0 24 (by decide +kernel) (by decide) (dn_nI (by decide)) (dn_nI (by decide)) (z_VM qv_0 (by decide +kernel)) (z_VS qv_0 (by decide +kernel)) (z_VD qv_0 (by decide +kernel)) (z_VHn qv_0 qn_2 (by decide +kernel))) rfl ⟨rfl, Nat.le_of_ble_eq_true rfl⟩ ⟨by decide, by decide⟩ (by decide) (by decide) dL_floor_59 rfl (fun _ _ q _ => False.elim q) (fun v h hp hlc => ?_)
  obtain ⟨rfl, hS⟩ := hp
  refine am_if_eq (tgt := 195) hC dL_floor_62 (by decide) (fun c_62 => absurd c_62 (by decide)) (fun c_62 => ?_)
  refine am_aload_n hC dL_floor_65 rfl ?_
  refine am_iconst (v := nI 0) hC dL_floor_66 (by decide) ?_
  refine am_bipush (v := nI 39) hC dL_floor_67 (by decide) ?_
  refine am_callV hC (ci := 6) (N := 4) [.int (nI 0), .int (nI 39)] rfl (SZ_3 hS) rfl mf_X5_side tw_350 (d_side _ _ (am_tr hC) h hS _ _) rfl ⟨rfl, Nat.le_of_ble_eq_true rfl⟩ ⟨by decide, by decide⟩ (by decide) (by decide) dL_floor_69 rfl (fun _ _ q _ => (XN_0 q.2 (by decide +kernel)).elim) (fun v h hp hlc => ?_)
  obtain ⟨rfl, hS⟩ := z_go (x' := (-1)) (σ' := qs_0) (by decide +kernel) rfl hp
  refine am_iconst (v := -1) hC dL_floor_72 (by decide) ?_
  refine am_icmp_ne (tgt := 195) hC dL_floor_73 (by decide) (fun c_73 => absurd (by decide) c_73) (fun c_73 => ?_)
  refine am_aload_n hC dL_floor_76 rfl ?_
  refine am_iconst (v := nI 0) hC dL_floor_77 (by decide) ?_
  refine am_iconst (v := nI 0) hC dL_floor_78 (by decide) ?_
  refine am_callV hC (ci := 6) (N := 4) [.int (nI 0), .int (nI 0)] rfl (SZ_3 hS) rfl mf_X5_hasExit tw_462 (d_hasExit _ _ (am_tr hC) h hS _ _) rfl ⟨rfl, Nat.le_of_ble_eq_true rfl⟩ ⟨by decide, by decide⟩ (by decide) (by decide) dL_floor_79 rfl (fun _ _ q _ => (XN_0 q.2 (by decide +kernel)).elim) (fun v h hp hlc => ?_)
  obtain ⟨rfl, hS⟩ := z_go (x' := nI 0) (σ' := qs_0) (by decide +kernel) rfl hp
  refine am_if_ne (tgt := 195) hC dL_floor_82 (by decide) (fun c_82 => absurd (by decide) c_82) (fun c_82 => ?_)
  refine am_aload_n hC dL_floor_85 rfl ?_
  refine am_iconst (v := nI 0) hC dL_floor_86 (by decide) ?_
  refine am_callV hC (ci := 6) (N := 4) [.int (nI 0)] rfl (SZ_3 hS) rfl mf_X5_canChange tw_492 (d_canChange _ _ (am_tr hC) h hS _) rfl ⟨rfl, Nat.le_of_ble_eq_true rfl⟩ ⟨by decide, by decide⟩ (by decide) (by decide) dL_floor_87 rfl (fun _ _ q _ => (XN_0 q.2 (by decide +kernel)).elim) (fun v h hp hlc => ?_)
  obtain ⟨rfl, hS⟩ := z_go (x' := (-1)) (σ' := qs_0) (by decide +kernel) rfl hp
  refine am_iconst (v := -1) hC dL_floor_90 (by decide) ?_
  refine am_icmp_ne (tgt := 195) hC dL_floor_91 (by decide) (fun c_91 => absurd (by decide) c_91) (fun c_91 => ?_)
  refine am_aload_n hC dL_floor_94 rfl ?_
  refine am_iconst (v := nI 1) hC dL_floor_95 (by decide) ?_
  refine am_iconst (v := nI 0) hC dL_floor_96 (by decide) ?_
  refine am_iconst (v := nI 0) hC dL_floor_97 (by decide) ?_
  refine am_iconst (v := nI 0) hC dL_floor_98 (by decide) ?_
  refine am_iconst (v := nI 1) hC dL_floor_99 (by decide) ?_
  refine am_callSX hC [.ref (3), .int (nI 1), .int (nI 0), .int (nI 0), .int (nI 0), .int (nI 1)] mf_L_act tw_447 (c_act1 _ _ (am_tr hC) h hS _ _ _ _) rfl ⟨rfl, Nat.le_of_ble_eq_true rfl⟩ ⟨by decide, by decide⟩ (by decide) (by decide) dL_floor_100 rfl (fun _ _ q _ => False.elim q) (fun v h hp hlc => ?_)
  obtain ⟨rfl, hS⟩ := z_goa (x' := (-73)) (σ' := qs_0) (by decide +kernel) (z_sx (by decide +kernel)) hp
  refine am_iload_n hC dL_floor_103 rfl ?_
  refine am_icmp_ne (tgt := 195) hC dL_floor_104 (by decide) (fun c_104 => absurd (by decide) c_104) (fun c_104 => ?_)
  exact am_more (kc' := 1893) (ks' := 34893) (by decide) (by decide) (floor_2 hC hR h hS)
set_option maxRecDepth 100000 in
set_option maxHeartbeats 4000000 in
theorem c_floor (G : am_G) (l : Launch) (htr : l.stackTraces = false) : am_Met G l yL_floor (.code yL_floor cL_floor 3 (some .boolean)) 16 6465 111205 [] h00 z_one am_no := by
  refine am_intro rfl htr rfl (Nat.le_of_ble_eq_true rfl) (fun Z hC hR hI => ?_)
  change am_W Z 0 0 0 [.null, .null, .null] [] h00
  refine am_newO hC (ci := 6) (N := 4) 3 rfl (hk_00 (by decide) (by decide) (by decide)) (by decide) tw_22 tw_23 tw_1 (by decide) (by decide) dL_floor_0 ?_
  refine am_dup hC dL_floor_3 rfl ?_
  refine am_callI hC [] (by decide) mf_X5_init tw_24 (c_X5_init _ _ (am_tr hC) (am_new h00 3 7 0) rfl rfl (fun r h1 h2 => by rw [hk_new, if_neg (by omega)]; exact hk_00 (by omega) (by omega) (by omega)) (fun L c h1 h2 h3 => by rw [hk_new, if_neg (by unfold rw_; omega)]; exact hk_00 (by unfold rw_; omega) (by unfold rw_; omega) (by unfold rw_; omega))) rfl ⟨rfl, Nat.le_of_ble_eq_true rfl⟩ ⟨by decide, by decide⟩ (by decide) (by decide) dL_floor_4 rfl (fun _ _ q _ => False.elim q) (fun v h hp hlc => ?_)
  obtain ⟨rfl, f1, l4, l5, l6, e1⟩ := hp
  have hS : SZ h z_00 := SZ_0 f1 l4 l5 l6 (am_eq_tr (am_eq_new (by decide)) e1)
  clear f1 l4 l5 l6 e1
  refine am_astore_n hC dL_floor_7 (by decide) ?_
  change am_W _ _ _ _ [.ref (3), .null, .null] _ _
  exact am_more (kc' := 11) (ks' := 159) (by decide) (by decide) (floor_1 hC hR h hS)
