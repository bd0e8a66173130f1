/-! ===== the model is made ===== -/
def moH (h : am_H) : am_H := am_sR (am_new (am_sR (am_new (am_sR (am_new (am_sR (am_new (am_sR (am_new (am_sR (am_new (am_sR (am_new (am_sR (am_new (am_sR (am_new (am_sR (am_new (am_sR (am_new (am_sR (am_new (am_sR (am_new (am_sR (am_new (am_sR (am_new (am_sR (am_new h 15 9 240) 14 1 15) 16 9 6) 14 2 16) 17 9 6) 14 3 17) 18 9 6) 14 4 18) 19 9 6) 14 5 19) 20 9 240) 14 6 20) 21 9 6) 14 7 21) 22 9 25) 14 8 22) 23 9 25) 14 9 23) 25 9 20) 14 11 25) 26 9 800) 14 12 26) 27 9 20) 14 13 27) 29 9 30) 14 15 29) 30 9 1200) 14 16 30) 31 9 30) 14 17 31) 32 9 30) 14 18 32
set_option maxRecDepth 100000 in
theorem cons6 {h : am_H} (hk14 : hk_ h 14 = 8) (hn14 : hn_ h 14 = 0) (hi14 : ∀ j, hi_ h 14 j = 0) : FM (moH h) ∧ am_eq (fun r => 14 ≤ r ∧ r ≤ 32) h (moH h) ∧ (∀ q ∈ rp_KM, q.1 ≠ 14 → ∀ j, hi_ (moH h) q.1 j = 0) ∧ ∀ j, hi_ (moH h) 14 j = 0 := by
  refine ⟨⟨fun q hq => ?_, fun q hq => ?_⟩, ?_, fun q hq hne j => ?_, fun j => hi14 j⟩
  · simp only [rp_KM, List.mem_cons, List.not_mem_nil, or_false] at hq
    rcases hq with rfl | rfl | rfl | rfl | rfl | rfl | rfl | rfl | rfl | rfl | rfl | rfl | rfl | rfl | rfl | rfl | rfl
    · exact ⟨hk14, hn14⟩
    all_goals exact ⟨rfl, rfl⟩
  · simp only [rp_RM, List.mem_cons, List.not_mem_nil, or_false] at hq
    rcases hq with rfl | rfl | rfl | rfl | rfl | rfl | rfl | rfl | rfl | rfl | rfl | rfl | rfl | rfl | rfl | rfl
    all_goals rfl
  · exact am_eq_tr (am_eq_tr (am_eq_tr (am_eq_tr (am_eq_tr (am_eq_tr (am_eq_tr (am_eq_tr (am_eq_tr (am_eq_tr (am_eq_tr (am_eq_tr (am_eq_tr (am_eq_tr (am_eq_tr (am_eq_tr (am_eq_new (r := 15) ⟨by decide, by decide⟩) (am_eq_sR (r := 14) ⟨by decide, by decide⟩)) (am_eq_tr (am_eq_new (r := 16) ⟨by decide, by decide⟩) (am_eq_sR (r := 14) ⟨by decide, by decide⟩))) (am_eq_tr (am_eq_new (r := 17) ⟨by decide, by decide⟩) (am_eq_sR (r := 14) ⟨by decide, by decide⟩))) (am_eq_tr (am_eq_new (r := 18) ⟨by decide, by decide⟩) (am_eq_sR (r := 14) ⟨by decide, by decide⟩))) (am_eq_tr (am_eq_new (r := 19) ⟨by decide, by decide⟩) (am_eq_sR (r := 14) ⟨by decide, by decide⟩))) (am_eq_tr (am_eq_new (r := 20) ⟨by decide, by decide⟩) (am_eq_sR (r := 14) ⟨by decide, by decide⟩))) (am_eq_tr (am_eq_new (r := 21) ⟨by decide, by decide⟩) (am_eq_sR (r := 14) ⟨by decide, by decide⟩))) (am_eq_tr (am_eq_new (r := 22) ⟨by decide, by decide⟩) (am_eq_sR (r := 14) ⟨by decide, by decide⟩))) (am_eq_tr (am_eq_new (r := 23) ⟨by decide, by decide⟩) (am_eq_sR (r := 14) ⟨by decide, by decide⟩))) (am_eq_tr (am_eq_new (r := 25) ⟨by decide, by decide⟩) (am_eq_sR (r := 14) ⟨by decide, by decide⟩))) (am_eq_tr (am_eq_new (r := 26) ⟨by decide, by decide⟩) (am_eq_sR (r := 14) ⟨by decide, by decide⟩))) (am_eq_tr (am_eq_new (r := 27) ⟨by decide, by decide⟩) (am_eq_sR (r := 14) ⟨by decide, by decide⟩))) (am_eq_tr (am_eq_new (r := 29) ⟨by decide, by decide⟩) (am_eq_sR (r := 14) ⟨by decide, by decide⟩))) (am_eq_tr (am_eq_new (r := 30) ⟨by decide, by decide⟩) (am_eq_sR (r := 14) ⟨by decide, by decide⟩))) (am_eq_tr (am_eq_new (r := 31) ⟨by decide, by decide⟩) (am_eq_sR (r := 14) ⟨by decide, by decide⟩))) (am_eq_tr (am_eq_new (r := 32) ⟨by decide, by decide⟩) (am_eq_sR (r := 14) ⟨by decide, by decide⟩))
  · simp only [rp_KM, List.mem_cons, List.not_mem_nil, or_false] at hq
    rcases hq with rfl | rfl | rfl | rfl | rfl | rfl | rfl | rfl | rfl | rfl | rfl | rfl | rfl | rfl | rfl | rfl | rfl
    · exact absurd rfl hne
    all_goals rfl
set_option maxRecDepth 100000 in
set_option maxHeartbeats 4000000 in
theorem c_X6_init (G : am_G) (l : Launch) (htr : l.stackTraces = false) (h : am_H) (hk14 : hk_ h 14 = 8) (hn14 : hn_ h 14 = 0) (hi14 : ∀ j, hi_ h 14 j = 0) (hd : ∀ r, 15 ≤ r → r ≤ 32 → hk_ h r = 0) : am_Met G l yX6_init (.code yX6_init cX6_init 1 none) 1 16 2690 [.ref (14)] h (fun v h' => v = none ∧ FM h' ∧ am_eq (fun r => 14 ≤ r ∧ r ≤ 32) h h' ∧ (∀ q ∈ rp_KM, q.1 ≠ 14 → ∀ j, hi_ h' q.1 j = 0) ∧ ∀ j, hi_ h' 14 j = 0) (am_no) := by
  have hk14_ := hk14
  refine am_intro rfl htr rfl (Nat.le_of_ble_eq_true rfl) (fun Z hC hR hI => ?_)
  replace hI := hI rfl
  change am_W Z 0 0 0 [.ref (14)] [] h
  refine am_aload_n hC dX6_init_0 rfl ?_
  refine am_objinit hC (by decide) tw_647 tw_29 tw_30 (by decide) ⟨rfl, Nat.le_of_ble_eq_true rfl⟩ dX6_init_1 ?_
  refine am_aload_n hC dX6_init_4 rfl ?_
  refine am_sipush (v := nI 240) hC dX6_init_5 (by decide) ?_
  refine am_newA hC (at_ := .int) 15 (kk := 9) (N := 240) (by decide) (hd 15 (by decide) (by decide)) (by decide) rfl (by decide) tw_78 (by decide) (by decide) dX6_init_8 ?_
  have hk14 : hk_ (am_new h 15 9 240) 14 = 8 := hk14
  refine am_putFR hC hI (ci := 7) (N := 20) (j := 1) rfl hk14 (by decide) rfl rfl rfl (Or.inr ⟨_, rfl⟩) rfl tw_649 dX6_init_10 ?_
  refine am_aload_n hC dX6_init_13 rfl ?_
  refine am_bipush (v := nI 6) hC dX6_init_14 (by decide) ?_
  refine am_newA hC (at_ := .int) 16 (kk := 9) (N := 6) (by decide) (hd 16 (by decide) (by decide)) (by decide) rfl (by decide) tw_78 (by decide) (by decide) dX6_init_16 ?_
  have hk14 : hk_ (am_new (am_sR (am_new h 15 9 240) 14 1 15) 16 9 6) 14 = 8 := hk14
  refine am_putFR hC hI (ci := 7) (N := 20) (j := 2) rfl hk14 (by decide) rfl rfl rfl (Or.inr ⟨_, rfl⟩) rfl tw_650 dX6_init_18 ?_
  refine am_aload_n hC dX6_init_21 rfl ?_
  refine am_bipush (v := nI 6) hC dX6_init_22 (by decide) ?_
  refine am_newA hC (at_ := .int) 17 (kk := 9) (N := 6) (by decide) (hd 17 (by decide) (by decide)) (by decide) rfl (by decide) tw_78 (by decide) (by decide) dX6_init_24 ?_
  have hk14 : hk_ (am_new (am_sR (am_new (am_sR (am_new h 15 9 240) 14 1 15) 16 9 6) 14 2 16) 17 9 6) 14 = 8 := hk14
  refine am_putFR hC hI (ci := 7) (N := 20) (j := 3) rfl hk14 (by decide) rfl rfl rfl (Or.inr ⟨_, rfl⟩) rfl tw_651 dX6_init_26 ?_
  refine am_aload_n hC dX6_init_29 rfl ?_
  refine am_bipush (v := nI 6) hC dX6_init_30 (by decide) ?_
  refine am_newA hC (at_ := .int) 18 (kk := 9) (N := 6) (by decide) (hd 18 (by decide) (by decide)) (by decide) rfl (by decide) tw_78 (by decide) (by decide) dX6_init_32 ?_
  have hk14 : hk_ (am_new (am_sR (am_new (am_sR (am_new (am_sR (am_new h 15 9 240) 14 1 15) 16 9 6) 14 2 16) 17 9 6) 14 3 17) 18 9 6) 14 = 8 := hk14
  refine am_putFR hC hI (ci := 7) (N := 20) (j := 4) rfl hk14 (by decide) rfl rfl rfl (Or.inr ⟨_, rfl⟩) rfl tw_652 dX6_init_34 ?_
  refine am_aload_n hC dX6_init_37 rfl ?_
  refine am_bipush (v := nI 6) hC dX6_init_38 (by decide) ?_
  refine am_newA hC (at_ := .int) 19 (kk := 9) (N := 6) (by decide) (hd 19 (by decide) (by decide)) (by decide) rfl (by decide) tw_78 (by decide) (by decide) dX6_init_40 ?_
  have hk14 : hk_ (am_new (am_sR (am_new (am_sR (am_new (am_sR (am_new (am_sR (am_new h 15 9 240) 14 1 15) 16 9 6) 14 2 16) 17 9 6) 14 3 17) 18 9 6) 14 4 18) 19 9 6) 14 = 8 := hk14
  refine am_putFR hC hI (ci := 7) (N := 20) (j := 5) rfl hk14 (by decide) rfl rfl rfl (Or.inr ⟨_, rfl⟩) rfl tw_653 dX6_init_42 ?_
  refine am_aload_n hC dX6_init_45 rfl ?_
  refine am_sipush (v := nI 240) hC dX6_init_46 (by decide) ?_
  refine am_newA hC (at_ := .int) 20 (kk := 9) (N := 240) (by decide) (hd 20 (by decide) (by decide)) (by decide) rfl (by decide) tw_78 (by decide) (by decide) dX6_init_49 ?_
  have hk14 : hk_ (am_new (am_sR (am_new (am_sR (am_new (am_sR (am_new (am_sR (am_new (am_sR (am_new h 15 9 240) 14 1 15) 16 9 6) 14 2 16) 17 9 6) 14 3 17) 18 9 6) 14 4 18) 19 9 6) 14 5 19) 20 9 240) 14 = 8 := hk14
  refine am_putFR hC hI (ci := 7) (N := 20) (j := 6) rfl hk14 (by decide) rfl rfl rfl (Or.inr ⟨_, rfl⟩) rfl tw_654 dX6_init_51 ?_
  refine am_aload_n hC dX6_init_54 rfl ?_
  refine am_bipush (v := nI 6) hC dX6_init_55 (by decide) ?_
  refine am_newA hC (at_ := .int) 21 (kk := 9) (N := 6) (by decide) (hd 21 (by decide) (by decide)) (by decide) rfl (by decide) tw_78 (by decide) (by decide) dX6_init_57 ?_
  have hk14 : hk_ (am_new (am_sR (am_new (am_sR (am_new (am_sR (am_new (am_sR (am_new (am_sR (am_new (am_sR (am_new h 15 9 240) 14 1 15) 16 9 6) 14 2 16) 17 9 6) 14 3 17) 18 9 6) 14 4 18) 19 9 6) 14 5 19) 20 9 240) 14 6 20) 21 9 6) 14 = 8 := hk14
  refine am_putFR hC hI (ci := 7) (N := 20) (j := 7) rfl hk14 (by decide) rfl rfl rfl (Or.inr ⟨_, rfl⟩) rfl tw_655 dX6_init_59 ?_
  refine am_aload_n hC dX6_init_62 rfl ?_
  refine am_bipush (v := nI 25) hC dX6_init_63 (by decide) ?_
  refine am_newA hC (at_ := .int) 22 (kk := 9) (N := 25) (by decide) (hd 22 (by decide) (by decide)) (by decide) rfl (by decide) tw_78 (by decide) (by decide) dX6_init_65 ?_
  have hk14 : hk_ (am_new (am_sR (am_new (am_sR (am_new (am_sR (am_new (am_sR (am_new (am_sR (am_new (am_sR (am_new (am_sR (am_new h 15 9 240) 14 1 15) 16 9 6) 14 2 16) 17 9 6) 14 3 17) 18 9 6) 14 4 18) 19 9 6) 14 5 19) 20 9 240) 14 6 20) 21 9 6) 14 7 21) 22 9 25) 14 = 8 := hk14
  refine am_putFR hC hI (ci := 7) (N := 20) (j := 8) rfl hk14 (by decide) rfl rfl rfl (Or.inr ⟨_, rfl⟩) rfl tw_656 dX6_init_67 ?_
  refine am_aload_n hC dX6_init_70 rfl ?_
  refine am_bipush (v := nI 25) hC dX6_init_71 (by decide) ?_
  refine am_newA hC (at_ := .int) 23 (kk := 9) (N := 25) (by decide) (hd 23 (by decide) (by decide)) (by decide) rfl (by decide) tw_78 (by decide) (by decide) dX6_init_73 ?_
  have hk14 : hk_ (am_new (am_sR (am_new (am_sR (am_new (am_sR (am_new (am_sR (am_new (am_sR (am_new (am_sR (am_new (am_sR (am_new (am_sR (am_new h 15 9 240) 14 1 15) 16 9 6) 14 2 16) 17 9 6) 14 3 17) 18 9 6) 14 4 18) 19 9 6) 14 5 19) 20 9 240) 14 6 20) 21 9 6) 14 7 21) 22 9 25) 14 8 22) 23 9 25) 14 = 8 := hk14
  refine am_putFR hC hI (ci := 7) (N := 20) (j := 9) rfl hk14 (by decide) rfl rfl rfl (Or.inr ⟨_, rfl⟩) rfl tw_657 dX6_init_75 ?_
  refine am_aload_n hC dX6_init_78 rfl ?_
  refine am_bipush (v := nI 20) hC dX6_init_79 (by decide) ?_
  refine am_newA hC (at_ := .int) 25 (kk := 9) (N := 20) (by decide) (hd 25 (by decide) (by decide)) (by decide) rfl (by decide) tw_78 (by decide) (by decide) dX6_init_81 ?_
  have hk14 : hk_ (am_new (am_sR (am_new (am_sR (am_new (am_sR (am_new (am_sR (am_new (am_sR (am_new (am_sR (am_new (am_sR (am_new (am_sR (am_new (am_sR (am_new h 15 9 240) 14 1 15) 16 9 6) 14 2 16) 17 9 6) 14 3 17) 18 9 6) 14 4 18) 19 9 6) 14 5 19) 20 9 240) 14 6 20) 21 9 6) 14 7 21) 22 9 25) 14 8 22) 23 9 25) 14 9 23) 25 9 20) 14 = 8 := hk14
  refine am_putFR hC hI (ci := 7) (N := 20) (j := 11) rfl hk14 (by decide) rfl rfl rfl (Or.inr ⟨_, rfl⟩) rfl tw_659 dX6_init_83 ?_
  refine am_aload_n hC dX6_init_86 rfl ?_
  refine am_sipush (v := nI 800) hC dX6_init_87 (by decide) ?_
  refine am_newA hC (at_ := .int) 26 (kk := 9) (N := 800) (by decide) (hd 26 (by decide) (by decide)) (by decide) rfl (by decide) tw_78 (by decide) (by decide) dX6_init_90 ?_
  have hk14 : hk_ (am_new (am_sR (am_new (am_sR (am_new (am_sR (am_new (am_sR (am_new (am_sR (am_new (am_sR (am_new (am_sR (am_new (am_sR (am_new (am_sR (am_new (am_sR (am_new h 15 9 240) 14 1 15) 16 9 6) 14 2 16) 17 9 6) 14 3 17) 18 9 6) 14 4 18) 19 9 6) 14 5 19) 20 9 240) 14 6 20) 21 9 6) 14 7 21) 22 9 25) 14 8 22) 23 9 25) 14 9 23) 25 9 20) 14 11 25) 26 9 800) 14 = 8 := hk14
  refine am_putFR hC hI (ci := 7) (N := 20) (j := 12) rfl hk14 (by decide) rfl rfl rfl (Or.inr ⟨_, rfl⟩) rfl tw_660 dX6_init_92 ?_
  refine am_aload_n hC dX6_init_95 rfl ?_
  refine am_bipush (v := nI 20) hC dX6_init_96 (by decide) ?_
  refine am_newA hC (at_ := .int) 27 (kk := 9) (N := 20) (by decide) (hd 27 (by decide) (by decide)) (by decide) rfl (by decide) tw_78 (by decide) (by decide) dX6_init_98 ?_
  have hk14 : hk_ (am_new (am_sR (am_new (am_sR (am_new (am_sR (am_new (am_sR (am_new (am_sR (am_new (am_sR (am_new (am_sR (am_new (am_sR (am_new (am_sR (am_new (am_sR (am_new (am_sR (am_new h 15 9 240) 14 1 15) 16 9 6) 14 2 16) 17 9 6) 14 3 17) 18 9 6) 14 4 18) 19 9 6) 14 5 19) 20 9 240) 14 6 20) 21 9 6) 14 7 21) 22 9 25) 14 8 22) 23 9 25) 14 9 23) 25 9 20) 14 11 25) 26 9 800) 14 12 26) 27 9 20) 14 = 8 := hk14
  refine am_putFR hC hI (ci := 7) (N := 20) (j := 13) rfl hk14 (by decide) rfl rfl rfl (Or.inr ⟨_, rfl⟩) rfl tw_661 dX6_init_100 ?_
  refine am_aload_n hC dX6_init_103 rfl ?_
  refine am_bipush (v := nI 30) hC dX6_init_104 (by decide) ?_
  refine am_newA hC (at_ := .int) 29 (kk := 9) (N := 30) (by decide) (hd 29 (by decide) (by decide)) (by decide) rfl (by decide) tw_78 (by decide) (by decide) dX6_init_106 ?_
  have hk14 : hk_ (am_new (am_sR (am_new (am_sR (am_new (am_sR (am_new (am_sR (am_new (am_sR (am_new (am_sR (am_new (am_sR (am_new (am_sR (am_new (am_sR (am_new (am_sR (am_new (am_sR (am_new (am_sR (am_new h 15 9 240) 14 1 15) 16 9 6) 14 2 16) 17 9 6) 14 3 17) 18 9 6) 14 4 18) 19 9 6) 14 5 19) 20 9 240) 14 6 20) 21 9 6) 14 7 21) 22 9 25) 14 8 22) 23 9 25) 14 9 23) 25 9 20) 14 11 25) 26 9 800) 14 12 26) 27 9 20) 14 13 27) 29 9 30) 14 = 8 := hk14
  refine am_putFR hC hI (ci := 7) (N := 20) (j := 15) rfl hk14 (by decide) rfl rfl rfl (Or.inr ⟨_, rfl⟩) rfl tw_663 dX6_init_108 ?_
  refine am_aload_n hC dX6_init_111 rfl ?_
  refine am_sipush (v := nI 1200) hC dX6_init_112 (by decide) ?_
  refine am_newA hC (at_ := .int) 30 (kk := 9) (N := 1200) (by decide) (hd 30 (by decide) (by decide)) (by decide) rfl (by decide) tw_78 (by decide) (by decide) dX6_init_115 ?_
  have hk14 : hk_ (am_new (am_sR (am_new (am_sR (am_new (am_sR (am_new (am_sR (am_new (am_sR (am_new (am_sR (am_new (am_sR (am_new (am_sR (am_new (am_sR (am_new (am_sR (am_new (am_sR (am_new (am_sR (am_new (am_sR (am_new h 15 9 240) 14 1 15) 16 9 6) 14 2 16) 17 9 6) 14 3 17) 18 9 6) 14 4 18) 19 9 6) 14 5 19) 20 9 240) 14 6 20) 21 9 6) 14 7 21) 22 9 25) 14 8 22) 23 9 25) 14 9 23) 25 9 20) 14 11 25) 26 9 800) 14 12 26) 27 9 20) 14 13 27) 29 9 30) 14 15 29) 30 9 1200) 14 = 8 := hk14
  refine am_putFR hC hI (ci := 7) (N := 20) (j := 16) rfl hk14 (by decide) rfl rfl rfl (Or.inr ⟨_, rfl⟩) rfl tw_664 dX6_init_117 ?_
  refine am_aload_n hC dX6_init_120 rfl ?_
  refine am_bipush (v := nI 30) hC dX6_init_121 (by decide) ?_
  refine am_newA hC (at_ := .int) 31 (kk := 9) (N := 30) (by decide) (hd 31 (by decide) (by decide)) (by decide) rfl (by decide) tw_78 (by decide) (by decide) dX6_init_123 ?_
  have hk14 : hk_ (am_new (am_sR (am_new (am_sR (am_new (am_sR (am_new (am_sR (am_new (am_sR (am_new (am_sR (am_new (am_sR (am_new (am_sR (am_new (am_sR (am_new (am_sR (am_new (am_sR (am_new (am_sR (am_new (am_sR (am_new (am_sR (am_new h 15 9 240) 14 1 15) 16 9 6) 14 2 16) 17 9 6) 14 3 17) 18 9 6) 14 4 18) 19 9 6) 14 5 19) 20 9 240) 14 6 20) 21 9 6) 14 7 21) 22 9 25) 14 8 22) 23 9 25) 14 9 23) 25 9 20) 14 11 25) 26 9 800) 14 12 26) 27 9 20) 14 13 27) 29 9 30) 14 15 29) 30 9 1200) 14 16 30) 31 9 30) 14 = 8 := hk14
  refine am_putFR hC hI (ci := 7) (N := 20) (j := 17) rfl hk14 (by decide) rfl rfl rfl (Or.inr ⟨_, rfl⟩) rfl tw_665 dX6_init_125 ?_
  refine am_aload_n hC dX6_init_128 rfl ?_
  refine am_bipush (v := nI 30) hC dX6_init_129 (by decide) ?_
  refine am_newA hC (at_ := .int) 32 (kk := 9) (N := 30) (by decide) (hd 32 (by decide) (by decide)) (by decide) rfl (by decide) tw_78 (by decide) (by decide) dX6_init_131 ?_
  have hk14 : hk_ (am_new (am_sR (am_new (am_sR (am_new (am_sR (am_new (am_sR (am_new (am_sR (am_new (am_sR (am_new (am_sR (am_new (am_sR (am_new (am_sR (am_new (am_sR (am_new (am_sR (am_new (am_sR (am_new (am_sR (am_new (am_sR (am_new (am_sR (am_new h 15 9 240) 14 1 15) 16 9 6) 14 2 16) 17 9 6) 14 3 17) 18 9 6) 14 4 18) 19 9 6) 14 5 19) 20 9 240) 14 6 20) 21 9 6) 14 7 21) 22 9 25) 14 8 22) 23 9 25) 14 9 23) 25 9 20) 14 11 25) 26 9 800) 14 12 26) 27 9 20) 14 13 27) 29 9 30) 14 15 29) 30 9 1200) 14 16 30) 31 9 30) 14 17 31) 32 9 30) 14 = 8 := hk14
  refine am_putFR hC hI (ci := 7) (N := 20) (j := 18) rfl hk14 (by decide) rfl rfl rfl (Or.inr ⟨_, rfl⟩) rfl tw_666 dX6_init_133 ?_
  refine am_vret hC hR (by decide) (by decide) dX6_init_136 ?_
  exact ⟨rfl, cons6 hk14_ hn14 hi14⟩
