/-! ===== the model's print ===== -/
def HPk (Q : Nat → Prop) (k : Nat) (R : Int32) : Prop := (R = -1 ∧ ∀ j, j < k → ¬ Q j) ∨ ∃ j, j < k ∧ R = nI j ∧ Q j ∧ ∀ i, j < i → i < k → ¬ Q i
theorem HPk_y {Q : Nat → Prop} {k : Nat} {R : Int32} (hq : Q k) (_ : HPk Q k R) : HPk Q (k + 1) (nI k) := Or.inr ⟨k, Nat.lt_succ_self k, rfl, hq, fun i h1 h2 => by omega⟩
theorem HPk_n {Q : Nat → Prop} {k : Nat} {R : Int32} (hq : ¬ Q k) (h : HPk Q k R) : HPk Q (k + 1) R := by
  rcases h with ⟨a, b⟩ | ⟨j, h1, h2, h3, h4⟩
  · exact Or.inl ⟨a, fun j hj => (Nat.lt_or_eq_of_le (Nat.le_of_lt_succ hj)).elim (b j) (fun e => by rw [e]; exact hq)⟩
  · exact Or.inr ⟨j, by omega, h2, h3, fun i i1 i2 => (Nat.lt_or_eq_of_le (Nat.le_of_lt_succ i2)).elim (h4 i i1) (fun e => by rw [e]; exact hq)⟩
def S8 (q : Nat) : Prop := 29 ≤ q ∧ q ≤ 32
set_option maxRecDepth 100000 in
set_option maxHeartbeats 4000000 in
theorem c_X6_print (G : am_G) (l : Launch) (htr : l.stackTraces = false) (h : am_H) (n : Nat) (t : Nat → Nat → Int32) (x r : Nat → Nat → Bool) (hT : MT h n t x r) (np nq : Nat) (hp20 : np ≤ 20) (hq30 : nq ≤ 30) (hx0 : hi_ h 14 10 = nI np) (hy0 : hi_ h 14 14 = nI nq) (pd : Nat → Nat) (hpd : ∀ p, p < np → pd p < n ∧ hi_ h 25 p = nI (pd p)) (D : Int32) : am_Met G l yX6_print (.code yX6_print cX6_print 3 (some .int)) 4 0 0 [.ref (14), .int (D)] h (fun v h' => am_le h h' ∧ ∃ V, v = some (.int V) ∧ ((k3 (IX n D) (decide (nq < 30)) true) ≠ 0 → h' = am_sI h 14 19 (nI (k3 (IX n D) (decide (nq < 30)) true))) ∧ ((k3 (IX n D) (decide (nq < 30)) true) = 0 → V = nI nq ∧ am_eq (fun q => q = 14 ∨ S4 q ∨ S8 q) h h' ∧ FM h' ∧ hi_ h' 14 19 = nI 0 ∧ hi_ h' 14 14 = nI (nq + 1) ∧ (∀ j, j ≠ 14 → j ≠ 19 → hi_ h' 14 j = hi_ h 14 j) ∧ hi_ h' 29 nq = D ∧ (∀ c, c < 32 → bt (hi_ h' 31 nq) c = exF x r 6 (dn D) c) ∧ (∀ b, b ≠ nq → hi_ h' 29 b = hi_ h 29 b ∧ hi_ h' 31 b = hi_ h 31 b ∧ hi_ h' 32 b = hi_ h 32 b) ∧ (∀ s, s < 40 → hi_ h' 30 (40 * nq + s) = sdF t r 6 (dn D) s) ∧ (∀ b, b < 40 * nq → hi_ h' 30 b = hi_ h 30 b) ∧ HPk (fun k => pd k = dn D ∧ MK h t x r 27 26 k (pd k)) np (hi_ h' 32 nq))) (am_no) := by
  have hM := hT.1
  have hn6 := hT.2.1
  have hn0 := hT.2.2.1
  refine am_intro rfl htr rfl (Nat.le_of_ble_eq_true rfl) (fun Z hC hR hI => ?_)
  change am_W Z 0 0 0 [.ref (14), .int (D), .null] [] h
  refine am_aload_n hC dX6_print_0 rfl ?_
  refine am_aload_n hC dX6_print_1 rfl ?_
  refine am_iload_n hC dX6_print_2 rfl ?_
  refine am_callV hC (ci := 7) (N := 20) [.int (D)] rfl (kM_14 hM) rfl mf_X6_isDrawing tw_727 (c_X6_isDrawing _ _ (am_tr hC) h hM n hn6 hn0 D) rfl ⟨rfl, Nat.le_of_ble_eq_true rfl⟩ ⟨by decide, by decide⟩ (by decide) (by decide) dX6_print_3 rfl (fun _ _ q _ => False.elim q) (fun v h' hp hlc => ?_)
  obtain ⟨z8, z9⟩ := hp
  have z8 := z8.symm
  subst z8
  subst z9
  refine am_if_ne (tgt := 13) hC dX6_print_6 (by decide) (fun c_6 => ?_) (fun c_6 => ?_)
  · have hD1 := b2i_ne c_6
    obtain ⟨d, hd, rfl⟩ := (IX_iff (by omega)).mp hD1
    refine am_aload_n hC dX6_print_13 rfl ?_
    refine am_get (v := .int (nI nq)) hC (ci := 7) (N := 20) (j := 14) rfl (kM_14 hM) (by decide) tw_662 (Or.inl rfl) dX6_print_14 (congrArg Value.int hy0) ?_
    refine am_bipush (v := nI 30) hC dX6_print_17 (by decide) ?_
    refine am_icmp_ne (tgt := 26) hC dX6_print_19 (by decide) (fun c_19 => ?_) (fun c_19 => ?_)
    · replace c_19 : ¬ nq = 30 := fun q9 => c_19 ((nI_eq (a := nq) (b := 30) (by omega) (by omega)).mpr q9)
      refine am_iconst (v := nI 0) hC dX6_print_26 (by decide) ?_
      refine am_putI hC (ci := 7) (N := 20) (j := 19) rfl (kM_14 hM) (by decide) rfl rfl rfl tw_667 (Or.inl rfl) dX6_print_27 ?_
      have hM : FM (am_sI h 14 19 (nI 0)) := hM
      refine am_aload_n hC dX6_print_30 rfl ?_
      refine am_get (v := .int (nI 0)) hC (ci := 7) (N := 20) (j := 19) rfl (kM_14 hM) (by decide) tw_667 (Or.inl rfl) dX6_print_31 rfl ?_
      refine am_if_le (tgt := 39) hC dX6_print_34 (by decide) (fun c_34 => ?_) (fun c_34 => absurd (by decide) c_34)
      refine am_aload_n hC dX6_print_39 rfl ?_
      refine am_callV hC (ci := 7) (N := 20) [] rfl (kM_14 hM) rfl mf_X6_finds tw_758 (c_X6_finds _ _ (am_tr hC) (am_sI h 14 19 (nI 0)) n t x r (MT_th hT)) rfl ⟨rfl, Nat.le_of_ble_eq_true rfl⟩ ⟨by decide, by decide⟩ (by decide) (by decide) dX6_print_40 rfl (fun _ _ q _ => False.elim q) (fun v h5 hp l5 => ?_)
      obtain ⟨rfl, e5, hf⟩ := hp
      have e6 := S4_of e5
      have l6 := am_le_tr (am_le_sI h 14 19 (nI 0)) l5
      have hM := FM_eq (S := SF2) (by unfold SF2; omega) e5 l5 hM
      have hM5_ := hM
      have hy5_ : hi_ h5 14 14 = nI nq := ((e5 14 (by unfold SF2; omega)).2.2.1 14).trans (by rw [hi_sI, if_neg (fun z => absurd z.2 (by decide))]; exact hy0)
      have hnq : nq < 30 := by omega
      refine am_aload_n hC dX6_print_43 rfl ?_
      refine am_get (v := .ref (29)) hC (ci := 7) (N := 20) (j := 15) rfl (kM_14 hM) (by decide) tw_663 (Or.inl rfl) dX6_print_44 (am_rfe (rM_15 hM)) ?_
      refine am_aload_n hC dX6_print_47 rfl ?_
      refine am_get (v := .int (nI nq)) hC (ci := 7) (N := 20) (j := 14) rfl (kM_14 hM) (by decide) tw_662 (Or.inl rfl) dX6_print_48 (congrArg Value.int hy5_) ?_
      refine am_iload_n hC dX6_print_51 rfl ?_
      refine am_iast hC (j := nq) (N := 30) (kM_29 hM) (nM_29 hM) rfl (by omega) (by decide) dX6_print_52 ?_
      refine am_aload_n hC dX6_print_53 rfl ?_
      refine am_get (v := .ref (31)) hC (ci := 7) (N := 20) (j := 17) rfl (kM_14 hM) (by decide) tw_665 (Or.inl rfl) dX6_print_54 (am_rfe (rM_17 hM)) ?_
      refine am_aload_n hC dX6_print_57 rfl ?_
      refine am_get (v := .int (nI nq)) hC (ci := 7) (N := 20) (j := 14) rfl (kM_14 hM) (by decide) tw_662 (Or.inl rfl) dX6_print_58 (congrArg Value.int hy5_) ?_
      refine am_aload_n hC dX6_print_61 rfl ?_
      refine am_get (v := .ref (21)) hC (ci := 7) (N := 20) (j := 7) rfl (kM_14 hM) (by decide) tw_655 (Or.inl rfl) dX6_print_62 (am_rfe (rM_7 hM)) ?_
      refine am_iload_n hC dX6_print_65 rfl ?_
      refine am_ialdE (v := hi_ (am_sI h5 29 nq (nI d)) 21 d) hC (j := d) (N := 6) (kM_21 hM) (nM_21 hM) rfl (by omega) (by decide) dX6_print_66 rfl ?_
      refine am_iast hC (j := nq) (N := 30) (kM_31 hM) (nM_31 hM) rfl (by omega) (by decide) dX6_print_67 ?_
      refine am_iconst (v := nI 0) hC dX6_print_68 (by decide) ?_
      refine am_istore_n hC dX6_print_69 (by decide) ?_
      change am_W _ _ _ _ [.ref (14), .int (nI d), .int (nI 0)] _ _
      have hx5 : hi_ h5 14 10 = nI np := ((e5 14 (by unfold SF2; omega)).2.2.1 10).trans (by rw [hi_sI, if_neg (fun z => absurd z.2 (by decide))]; exact hx0)
      have hy5 := hy5_
      have hM5 := hM5_
      have o5 : ∀ a b, a ≠ 14 → ¬ S4 a → hi_ h5 a b = hi_ h a b := fun a b q1 q2 => ((e6 a q2).2.2.1 b).trans (by rw [hi_sI, if_neg (fun z => q1 z.1)])
      have kl : ∀ (m k : Nat) (g : am_H), k + m = np → am_eq S8 h5 g → am_le h5 g → hi_ g 29 nq = nI d → (∀ c, c < 32 → bt (hi_ g 31 nq) c = exF x r 6 d c) → (∀ b, b ≠ nq → hi_ g 29 b = hi_ h 29 b ∧ hi_ g 31 b = hi_ h 31 b ∧ hi_ g 32 b = hi_ h 32 b) → (∀ b, b < 40 * nq → hi_ g 30 b = hi_ h 30 b) → (∀ s, s < 40 → hi_ g 30 (40 * nq + s) = sdF t r 6 d s) → HPk (fun k => pd k = d ∧ MK h t x r 27 26 k (pd k)) k (hi_ g 32 nq) → am_W Z (0 + 0 + 0) (0 + 0 + 0) 119 [.ref (14), .int (nI d), .int (nI k)] [] g := by
        intro m
        induction m with
        | zero =>
          intro k g hk eg lg f1 f2 f3 f4 hv hp
          have hkn : k = np := by omega
          rw [hkn] at hp
          have hM := FM_eq (S := S8) (by unfold S8; omega) eg lg hM5
          have hx1 : hi_ g 14 10 = nI np := ((eg 14 (by unfold S8; omega)).2.2.1 _).trans hx5
          have hy1 : hi_ g 14 14 = nI nq := ((eg 14 (by unfold S8; omega)).2.2.1 _).trans hy5
          have hg : ∀ a b, ¬ S8 a → hi_ g a b = hi_ h5 a b := fun a b q => (eg a q).2.2.1 b
          refine am_iload_n hC dX6_print_119 rfl ?_
          refine am_aload_n hC dX6_print_120 rfl ?_
          refine am_get (v := .int (nI np)) hC (ci := 7) (N := 20) (j := 10) rfl (kM_14 hM) (by decide) tw_658 (Or.inl rfl) dX6_print_121 (congrArg Value.int hx1) ?_
          refine am_icmp_ge (tgt := 173) hC dX6_print_124 (by decide) (fun c_124 => ?_) (fun c_124 => absurd (nI_le (by omega) (by omega)) c_124)
          refine am_aload_n hC dX6_print_173 rfl ?_
          refine am_dup hC dX6_print_174 rfl ?_
          refine am_get (v := .int (nI nq)) hC (ci := 7) (N := 20) (j := 14) rfl (kM_14 hM) (by decide) tw_662 (Or.inl rfl) dX6_print_175 (congrArg Value.int hy1) ?_
          refine am_iconst (v := nI 1) hC dX6_print_178 (by decide) ?_
          refine am_iaddE (z := nI (nq + 1)) hC dX6_print_179 (nI_add (nq) (1)) ?_
          refine am_putI hC (ci := 7) (N := 20) (j := 14) rfl (kM_14 hM) (by decide) rfl rfl rfl tw_662 (Or.inl rfl) dX6_print_180 ?_
          have hy1 : hi_ (am_sI g 14 14 (nI (nq + 1))) 14 14 = nI (nq + 1) := by rw [hi_sI, if_pos ⟨rfl, rfl⟩]
          refine am_aload_n hC dX6_print_183 rfl ?_
          refine am_get (v := .int (nI (nq + 1))) hC (ci := 7) (N := 20) (j := 14) rfl (kM_14 hM) (by decide) tw_662 (Or.inl rfl) dX6_print_184 (congrArg Value.int hy1) ?_
          refine am_iconst (v := nI 1) hC dX6_print_187 (by decide) ?_
          refine am_isubE (z := nI (nq + 1 - 1)) hC dX6_print_188 (pk_sub (by omega)) ?_
          refine am_iret hC hR rfl (by decide) (by decide) dX6_print_189 ?_
          have o14 : ∀ j, j ≠ 14 → hi_ (am_sI g 14 14 (nI (nq + 1))) 14 j = hi_ (am_sI h 14 19 (nI 0)) 14 j := fun j j1 => by rw [hi_sI, if_neg (fun z => j1 z.2), hg 14 j (by unfold S8; omega), (e5 14 (by unfold SF2; omega)).2.2.1]
          have oo : ∀ a b, a ≠ 14 → hi_ (am_sI g 14 14 (nI (nq + 1))) a b = hi_ g a b := fun a b q => by rw [hi_sI, if_neg (fun z => q z.1)]
          have hK := k3_0 (a := IX n (nI d)) (b := decide (nq < 30)) (c := true) hD1 (decide_eq_true hnq) rfl
          refine ⟨am_le_tr l6 (am_le_tr lg (am_le_sI _ _ _ _)), _, rfl, fun z => absurd hK z, fun _ => ⟨congrArg nI (by omega), ?_, hM, ?_, hy1, fun j j1 j2 => ?_, ?_, fun c hc => ?_, fun b hb => ⟨?_, ?_, ?_⟩, fun s hs => ?_, fun b hb => ?_, ?_⟩⟩
          · exact am_eq_tr (am_eq_tr (am_eq_tr (am_eq_sI (r := 14) (Or.inl rfl)) (am_eq_mono (fun q z => Or.inr (Or.inl z)) e6)) (am_eq_mono (fun q z => Or.inr (Or.inr z)) eg)) (am_eq_sI (Or.inl rfl))
          · rw [o14 19 (by decide), hi_sI, if_pos ⟨rfl, rfl⟩]
          · rw [o14 j j1, hi_sI, if_neg (fun z => j2 z.2)]
          · rw [oo _ _ (by decide)]; exact f1
          · rw [dn_nI (by omega), oo _ _ (by decide)]; exact f2 c hc
          · rw [oo _ _ (by decide)]; exact (f3 b hb).1
          · rw [oo _ _ (by decide)]; exact (f3 b hb).2.1
          · rw [oo _ _ (by decide)]; exact (f3 b hb).2.2
          · rw [dn_nI (by omega), oo _ _ (by decide)]; exact hv s hs
          · rw [oo _ _ (by decide)]; exact f4 b hb
          · rw [dn_nI (by omega), oo _ _ (by decide)]; exact hp
        | succ m ih =>
          intro k g hk eg lg f1 f2 f3 f4 hv hp
          have hM := FM_eq (S := S8) (by unfold S8; omega) eg lg hM5
          have hx1 : hi_ g 14 10 = nI np := ((eg 14 (by unfold S8; omega)).2.2.1 _).trans hx5
          have hy1 : hi_ g 14 14 = nI nq := ((eg 14 (by unfold S8; omega)).2.2.1 _).trans hy5
          have hg : ∀ a b, ¬ S8 a → hi_ g a b = hi_ h5 a b := fun a b q => (eg a q).2.2.1 b
          have hpk := hpd k (by omega)
          refine am_iload_n hC dX6_print_119 rfl ?_
          refine am_aload_n hC dX6_print_120 rfl ?_
          refine am_get (v := .int (nI np)) hC (ci := 7) (N := 20) (j := 10) rfl (kM_14 hM) (by decide) tw_658 (Or.inl rfl) dX6_print_121 (congrArg Value.int hx1) ?_
          refine am_icmp_ge (tgt := 173) hC dX6_print_124 (by decide) (fun c_124 => absurd c_124 (nI_ge (by omega) (by omega))) (fun c_124 => ?_)
          refine am_aload_n hC dX6_print_127 rfl ?_
          refine am_get (v := .ref (32)) hC (ci := 7) (N := 20) (j := 18) rfl (kM_14 hM) (by decide) tw_666 (Or.inl rfl) dX6_print_128 (am_rfe (rM_18 hM)) ?_
          refine am_aload_n hC dX6_print_131 rfl ?_
          refine am_get (v := .int (nI nq)) hC (ci := 7) (N := 20) (j := 14) rfl (kM_14 hM) (by decide) tw_662 (Or.inl rfl) dX6_print_132 (congrArg Value.int hy1) ?_
          refine am_aload_n hC dX6_print_135 rfl ?_
          refine am_get (v := .ref (25)) hC (ci := 7) (N := 20) (j := 11) rfl (kM_14 hM) (by decide) tw_659 (Or.inl rfl) dX6_print_136 (am_rfe (rM_11 hM)) ?_
          refine am_iload_n hC dX6_print_139 rfl ?_
          refine am_ialdE (v := nI (pd k)) hC (j := k) (N := 20) (kM_25 hM) (nM_25 hM) rfl (by omega) (by decide) dX6_print_140 ((hg 25 k (by unfold S8; omega)).trans ((o5 25 k (by decide) (by unfold S4; omega)).trans hpk.2)) ?_
          refine am_iload_n hC dX6_print_141 rfl ?_
          refine am_icmp_ne (tgt := 157) hC dX6_print_142 (by decide) (fun c_142 => ?_) (fun c_142 => ?_)
          · replace c_142 : ¬ (pd k) = d := fun q9 => c_142 ((nI_eq (a := (pd k)) (b := d) (by omega) (by omega)).mpr q9)
            refine am_aload_n hC dX6_print_157 rfl ?_
            refine am_get (v := .ref (32)) hC (ci := 7) (N := 20) (j := 18) rfl (kM_14 hM) (by decide) tw_666 (Or.inl rfl) dX6_print_158 (am_rfe (rM_18 hM)) ?_
            refine am_aload_n hC dX6_print_161 rfl ?_
            refine am_get (v := .int (nI nq)) hC (ci := 7) (N := 20) (j := 14) rfl (kM_14 hM) (by decide) tw_662 (Or.inl rfl) dX6_print_162 (congrArg Value.int hy1) ?_
            refine am_ialdE (v := hi_ g 32 nq) hC (j := nq) (N := 30) (kM_32 hM) (nM_32 hM) rfl (by omega) (by decide) dX6_print_165 rfl ?_
            refine am_iast hC (j := nq) (N := 30) (kM_32 hM) (nM_32 hM) rfl (by omega) (by decide) dX6_print_166 ?_
            refine am_iinc (v := nI (k + 1)) hC dX6_print_167 rfl (nI_1 (k)) (by decide) ?_
            change am_W _ _ _ _ [.ref (14), .int (nI d), .int (nI (k + 1))] _ _
            refine am_goto (tgt := 119) hC dX6_print_170 (by decide) ?_
            have hnQ : ¬ (pd k = d ∧ MK h t x r 27 26 k (pd k)) := fun z => by
              first
                | exact c_142 z.1
                | (rw [hR9.mpr (hMK.mpr z.2)] at c_150; exact absurd c_150 (by decide))
            exact ih (k + 1) _ (by omega) (am_eq_tr eg (am_eq_sI (r := 32) ⟨by decide, by decide⟩)) (am_le_tr lg (am_le_sI _ _ _ _)) (by rw [hi_sI, if_neg (fun z => absurd z.1 (by decide))]; exact f1) (fun c hc => by rw [hi_sI, if_neg (fun z => absurd z.1 (by decide))]; exact f2 c hc) (fun b hb => ⟨by rw [hi_sI, if_neg (fun z => absurd z.1 (by decide))]; exact (f3 b hb).1, by rw [hi_sI, if_neg (fun z => absurd z.1 (by decide))]; exact (f3 b hb).2.1, by rw [hi_sI, if_neg (fun z => hb z.2)]; exact (f3 b hb).2.2⟩) (fun b hb => by rw [hi_sI, if_neg (fun z => absurd z.1 (by decide))]; exact f4 b hb) (fun s hs => by rw [hi_sI, if_neg (fun z => absurd z.1 (by decide))]; exact hv s hs) (by rw [hi_sI, if_pos ⟨rfl, rfl⟩]; exact HPk_n hnQ hp)
          · replace c_142 : (pd k) = d := (nI_eq (a := (pd k)) (b := d) (by omega) (by omega)).mp c_142
            refine am_aload_n hC dX6_print_145 rfl ?_
            refine am_iload_n hC dX6_print_146 rfl ?_
            refine am_callV hC (ci := 7) (N := 20) [.int (nI k)] rfl (kM_14 hM) rfl mf_X6_stands tw_832 (c_X6_stands _ _ (am_tr hC) g hM (pd k) (by omega) k (by omega) ((hg 25 k (by unfold S8; omega)).trans ((o5 25 k (by decide) (by unfold S4; omega)).trans hpk.2))) rfl ⟨rfl, Nat.le_of_ble_eq_true rfl⟩ ⟨by decide, by decide⟩ (by decide) (by decide) dX6_print_147 rfl (fun _ _ q _ => False.elim q) (fun v h' hp_ hlc => ?_)
            obtain ⟨z8, R, z9, hR9⟩ := hp_
            have z8 := z8.symm
            subst z8
            subst z9
            have hMK := MK_of (h := h) (h' := g) (t := t) (x := x) (r := r) (ko := 27) (ks := 26) (p := k) (d := pd k) ((hg 27 k (by unfold S8; omega)).trans (o5 27 k (by decide) (by unfold S4; omega))) (fun s => (hg 26 s (by unfold S8; omega)).trans (o5 26 s (by decide) (by unfold S4; omega))) ⟨fun s hs => (hg 20 _ (by unfold S8; omega)).trans ((hf _ hpk.1).1 s hs), fun c hc => by rw [hg 21 _ (by unfold S8; omega)]; exact (hf _ hpk.1).2 c hc⟩
            refine am_if_eq (tgt := 157) hC dX6_print_150 (by decide) (fun c_150 => ?_) (fun c_150 => ?_)
            · refine am_aload_n hC dX6_print_157 rfl ?_
              refine am_get (v := .ref (32)) hC (ci := 7) (N := 20) (j := 18) rfl (kM_14 hM) (by decide) tw_666 (Or.inl rfl) dX6_print_158 (am_rfe (rM_18 hM)) ?_
              refine am_aload_n hC dX6_print_161 rfl ?_
              refine am_get (v := .int (nI nq)) hC (ci := 7) (N := 20) (j := 14) rfl (kM_14 hM) (by decide) tw_662 (Or.inl rfl) dX6_print_162 (congrArg Value.int hy1) ?_
              refine am_ialdE (v := hi_ g 32 nq) hC (j := nq) (N := 30) (kM_32 hM) (nM_32 hM) rfl (by omega) (by decide) dX6_print_165 rfl ?_
              refine am_iast hC (j := nq) (N := 30) (kM_32 hM) (nM_32 hM) rfl (by omega) (by decide) dX6_print_166 ?_
              refine am_iinc (v := nI (k + 1)) hC dX6_print_167 rfl (nI_1 (k)) (by decide) ?_
              change am_W _ _ _ _ [.ref (14), .int (nI d), .int (nI (k + 1))] _ _
              refine am_goto (tgt := 119) hC dX6_print_170 (by decide) ?_
              have hnQ : ¬ (pd k = d ∧ MK h t x r 27 26 k (pd k)) := fun z => by
                first
                  | exact c_142 z.1
                  | (rw [hR9.mpr (hMK.mpr z.2)] at c_150; exact absurd c_150 (by decide))
              exact ih (k + 1) _ (by omega) (am_eq_tr eg (am_eq_sI (r := 32) ⟨by decide, by decide⟩)) (am_le_tr lg (am_le_sI _ _ _ _)) (by rw [hi_sI, if_neg (fun z => absurd z.1 (by decide))]; exact f1) (fun c hc => by rw [hi_sI, if_neg (fun z => absurd z.1 (by decide))]; exact f2 c hc) (fun b hb => ⟨by rw [hi_sI, if_neg (fun z => absurd z.1 (by decide))]; exact (f3 b hb).1, by rw [hi_sI, if_neg (fun z => absurd z.1 (by decide))]; exact (f3 b hb).2.1, by rw [hi_sI, if_neg (fun z => hb z.2)]; exact (f3 b hb).2.2⟩) (fun b hb => by rw [hi_sI, if_neg (fun z => absurd z.1 (by decide))]; exact f4 b hb) (fun s hs => by rw [hi_sI, if_neg (fun z => absurd z.1 (by decide))]; exact hv s hs) (by rw [hi_sI, if_pos ⟨rfl, rfl⟩]; exact HPk_n hnQ hp)
            · refine am_iload_n hC dX6_print_153 rfl ?_
              refine am_goto (tgt := 166) hC dX6_print_154 (by decide) ?_
              refine am_iast hC (j := nq) (N := 30) (kM_32 hM) (nM_32 hM) rfl (by omega) (by decide) dX6_print_166 ?_
              refine am_iinc (v := nI (k + 1)) hC dX6_print_167 rfl (nI_1 (k)) (by decide) ?_
              change am_W _ _ _ _ [.ref (14), .int (nI d), .int (nI (k + 1))] _ _
              refine am_goto (tgt := 119) hC dX6_print_170 (by decide) ?_
              exact ih (k + 1) _ (by omega) (am_eq_tr eg (am_eq_sI (r := 32) ⟨by decide, by decide⟩)) (am_le_tr lg (am_le_sI _ _ _ _)) (by rw [hi_sI, if_neg (fun z => absurd z.1 (by decide))]; exact f1) (fun c hc => by rw [hi_sI, if_neg (fun z => absurd z.1 (by decide))]; exact f2 c hc) (fun b hb => ⟨by rw [hi_sI, if_neg (fun z => absurd z.1 (by decide))]; exact (f3 b hb).1, by rw [hi_sI, if_neg (fun z => absurd z.1 (by decide))]; exact (f3 b hb).2.1, by rw [hi_sI, if_neg (fun z => hb z.2)]; exact (f3 b hb).2.2⟩) (fun b hb => by rw [hi_sI, if_neg (fun z => absurd z.1 (by decide))]; exact f4 b hb) (fun s hs => by rw [hi_sI, if_neg (fun z => absurd z.1 (by decide))]; exact hv s hs) (by rw [hi_sI, if_pos ⟨rfl, rfl⟩]; exact HPk_y ⟨by omega, hMK.mp (hR9.mp (b2i_ne c_150))⟩ hp)
      have sl : ∀ (m s : Nat) (g : am_H), s + m = 40 → am_eq S8 h5 g → am_le h5 g → hi_ g 29 nq = nI d → (∀ c, c < 32 → bt (hi_ g 31 nq) c = exF x r 6 d c) → (∀ b, b ≠ nq → hi_ g 29 b = hi_ h 29 b ∧ hi_ g 31 b = hi_ h 31 b ∧ hi_ g 32 b = hi_ h 32 b) → (∀ b, b < 40 * nq → hi_ g 30 b = hi_ h 30 b) → (∀ s1, s1 < s → hi_ g 30 (40 * nq + s1) = sdF t r 6 d s1) → am_W Z (0 + 0 + 0) (0 + 0 + 0) 70 [.ref (14), .int (nI d), .int (nI s)] [] g := by
        intro m
        induction m with
        | zero =>
          intro s g hs eg lg f1 f2 f3 f4 hv
          obtain rfl : s = 40 := by omega
          have hM := FM_eq (S := S8) (by unfold S8; omega) eg lg hM5
          have hx1 : hi_ g 14 10 = nI np := ((eg 14 (by unfold S8; omega)).2.2.1 _).trans hx5
          have hy1 : hi_ g 14 14 = nI nq := ((eg 14 (by unfold S8; omega)).2.2.1 _).trans hy5
          have hg : ∀ a b, ¬ S8 a → hi_ g a b = hi_ h5 a b := fun a b q => (eg a q).2.2.1 b
          refine am_iload_n hC dX6_print_70 rfl ?_
          refine am_bipush (v := nI 40) hC dX6_print_71 (by decide) ?_
          refine am_icmp_ge (tgt := 107) hC dX6_print_73 (by decide) (fun c_73 => ?_) (fun c_73 => absurd (nI_le (by omega) (by omega)) c_73)
          refine am_aload_n hC dX6_print_107 rfl ?_
          refine am_get (v := .ref (32)) hC (ci := 7) (N := 20) (j := 18) rfl (kM_14 hM) (by decide) tw_666 (Or.inl rfl) dX6_print_108 (am_rfe (rM_18 hM)) ?_
          refine am_aload_n hC dX6_print_111 rfl ?_
          refine am_get (v := .int (nI nq)) hC (ci := 7) (N := 20) (j := 14) rfl (kM_14 hM) (by decide) tw_662 (Or.inl rfl) dX6_print_112 (congrArg Value.int hy1) ?_
          refine am_iconst (v := -1) hC dX6_print_115 (by decide) ?_
          refine am_iast hC (j := nq) (N := 30) (kM_32 hM) (nM_32 hM) rfl (by omega) (by decide) dX6_print_116 ?_
          refine am_iconst (v := nI 0) hC dX6_print_117 (by decide) ?_
          refine am_istore_n hC dX6_print_118 (by decide) ?_
          change am_W _ _ _ _ [.ref (14), .int (nI d), .int (nI 0)] _ _
          exact kl np 0 _ (Nat.zero_add _) (am_eq_tr eg (am_eq_sI (r := 32) ⟨by decide, by decide⟩)) (am_le_tr lg (am_le_sI _ _ _ _)) (by rw [hi_sI, if_neg (fun z => absurd z.1 (by decide))]; exact f1) (fun c hc => by rw [hi_sI, if_neg (fun z => absurd z.1 (by decide))]; exact f2 c hc) (fun b hb => ⟨by rw [hi_sI, if_neg (fun z => absurd z.1 (by decide))]; exact (f3 b hb).1, by rw [hi_sI, if_neg (fun z => absurd z.1 (by decide))]; exact (f3 b hb).2.1, by rw [hi_sI, if_neg (fun z => hb z.2)]; exact (f3 b hb).2.2⟩) (fun b hb => by rw [hi_sI, if_neg (fun z => absurd z.1 (by decide))]; exact f4 b hb) (fun s hs => by rw [hi_sI, if_neg (fun z => absurd z.1 (by decide))]; exact hv s hs) (by rw [hi_sI, if_pos ⟨rfl, rfl⟩]; exact Or.inl ⟨rfl, fun j z => absurd z (Nat.not_lt_zero j)⟩)
        | succ m ih =>
          intro s g hs eg lg f1 f2 f3 f4 hv
          have hM := FM_eq (S := S8) (by unfold S8; omega) eg lg hM5
          have hx1 : hi_ g 14 10 = nI np := ((eg 14 (by unfold S8; omega)).2.2.1 _).trans hx5
          have hy1 : hi_ g 14 14 = nI nq := ((eg 14 (by unfold S8; omega)).2.2.1 _).trans hy5
          have hg : ∀ a b, ¬ S8 a → hi_ g a b = hi_ h5 a b := fun a b q => (eg a q).2.2.1 b
          refine am_iload_n hC dX6_print_70 rfl ?_
          refine am_bipush (v := nI 40) hC dX6_print_71 (by decide) ?_
          refine am_icmp_ge (tgt := 107) hC dX6_print_73 (by decide) (fun c_73 => absurd c_73 (nI_ge (by omega) (by omega))) (fun c_73 => ?_)
          refine am_aload_n hC dX6_print_76 rfl ?_
          refine am_get (v := .ref (30)) hC (ci := 7) (N := 20) (j := 16) rfl (kM_14 hM) (by decide) tw_664 (Or.inl rfl) dX6_print_77 (am_rfe (rM_16 hM)) ?_
          refine am_bipush (v := nI 40) hC dX6_print_80 (by decide) ?_
          refine am_aload_n hC dX6_print_82 rfl ?_
          refine am_get (v := .int (nI nq)) hC (ci := 7) (N := 20) (j := 14) rfl (kM_14 hM) (by decide) tw_662 (Or.inl rfl) dX6_print_83 (congrArg Value.int hy1) ?_
          refine am_imulE (z := nI (40 * nq)) hC dX6_print_86 (pk_mul (40) (nq)) ?_
          refine am_iload_n hC dX6_print_87 rfl ?_
          refine am_iaddE (z := nI (40 * nq + s)) hC dX6_print_88 (nI_add (40 * nq) (s)) ?_
          refine am_aload_n hC dX6_print_89 rfl ?_
          refine am_get (v := .ref (20)) hC (ci := 7) (N := 20) (j := 6) rfl (kM_14 hM) (by decide) tw_654 (Or.inl rfl) dX6_print_90 (am_rfe (rM_6 hM)) ?_
          refine am_bipush (v := nI 40) hC dX6_print_93 (by decide) ?_
          refine am_iload_n hC dX6_print_95 rfl ?_
          refine am_imulE (z := nI (40 * d)) hC dX6_print_96 (pk_mul (40) (d)) ?_
          refine am_iload_n hC dX6_print_97 rfl ?_
          refine am_iaddE (z := nI (40 * d + s)) hC dX6_print_98 (nI_add (40 * d) (s)) ?_
          refine am_ialdE (v := sdF t r 6 d s) hC (j := 40 * d + s) (N := 240) (kM_20 hM) (nM_20 hM) rfl (by omega) (by decide) dX6_print_99 ((hg 20 _ (by unfold S8; omega)).trans ((hf d hd).1 s (by omega))) ?_
          refine am_iast hC (j := 40 * nq + s) (N := 1200) (kM_30 hM) (nM_30 hM) rfl (by omega) (by decide) dX6_print_100 ?_
          refine am_iinc (v := nI (s + 1)) hC dX6_print_101 rfl (nI_1 (s)) (by decide) ?_
          change am_W _ _ _ _ [.ref (14), .int (nI d), .int (nI (s + 1))] _ _
          refine am_goto (tgt := 70) hC dX6_print_104 (by decide) ?_
          refine ih (s + 1) _ (by omega) (am_eq_tr eg (am_eq_sI (r := 30) ⟨by decide, by decide⟩)) (am_le_tr lg (am_le_sI _ _ _ _)) (by rw [hi_sI, if_neg (fun z => absurd z.1 (by decide))]; exact f1) (fun c hc => by rw [hi_sI, if_neg (fun z => absurd z.1 (by decide))]; exact f2 c hc) (fun b hb => ⟨by rw [hi_sI, if_neg (fun z => absurd z.1 (by decide))]; exact (f3 b hb).1, by rw [hi_sI, if_neg (fun z => absurd z.1 (by decide))]; exact (f3 b hb).2.1, by rw [hi_sI, if_neg (fun z => absurd z.1 (by decide))]; exact (f3 b hb).2.2⟩) (fun b hb => by rw [hi_sI, if_neg (fun y => by omega)]; exact f4 b hb) (fun s1 h9 => ?_)
          rw [hi_sI]
          by_cases z : s1 = s
          · rw [if_pos ⟨rfl, by rw [z]⟩, z]
          · rw [if_neg (fun y => z (by omega))]; exact hv s1 (by omega)
      exact sl 40 0 _ rfl (am_eq_tr (am_eq_sI (r := 29) ⟨by decide, by decide⟩) (am_eq_sI (r := 31) ⟨by decide, by decide⟩)) (am_le_tr (am_le_sI _ _ _ _) (am_le_sI _ _ _ _)) (by rw [hi_sI, if_neg (fun z => absurd z.1 (by decide)), hi_sI, if_pos ⟨rfl, rfl⟩]) (fun c hc => by rw [hi_sI, if_pos ⟨rfl, rfl⟩]; exact (hf d hd).2 c hc) (fun b hb => ⟨by rw [hi_sI, if_neg (fun z => absurd z.1 (by decide)), hi_sI, if_neg (fun z => hb z.2)]; exact o5 29 b (by decide) (by unfold S4; omega), by rw [hi_sI, if_neg (fun z => hb z.2), hi_sI, if_neg (fun z => absurd z.1 (by decide))]; exact o5 31 b (by decide) (by unfold S4; omega), by rw [hi_sI, if_neg (fun z => absurd z.1 (by decide)), hi_sI, if_neg (fun z => absurd z.1 (by decide))]; exact o5 32 b (by decide) (by unfold S4; omega)⟩) (fun b hb => by rw [hi_sI, if_neg (fun z => absurd z.1 (by decide)), hi_sI, if_neg (fun z => absurd z.1 (by decide))]; exact o5 30 b (by decide) (by unfold S4; omega)) (fun s1 z => absurd z (Nat.not_lt_zero s1))
    · replace c_19 : nq = 30 := (nI_eq (a := nq) (b := 30) (by omega) (by omega)).mp c_19
      refine am_iconst (v := nI 2) hC dX6_print_22 (by decide) ?_
      refine am_goto (tgt := 27) hC dX6_print_23 (by decide) ?_
      refine am_putI hC (ci := 7) (N := 20) (j := 19) rfl (kM_14 hM) (by decide) rfl rfl rfl tw_667 (Or.inl rfl) dX6_print_27 ?_
      have hM : FM (am_sI h 14 19 (nI 2)) := hM
      refine am_aload_n hC dX6_print_30 rfl ?_
      refine am_get (v := .int (nI 2)) hC (ci := 7) (N := 20) (j := 19) rfl (kM_14 hM) (by decide) tw_667 (Or.inl rfl) dX6_print_31 rfl ?_
      refine am_if_le (tgt := 39) hC dX6_print_34 (by decide) (fun c_34 => absurd c_34 (by decide)) (fun c_34 => ?_)
      refine am_iconst (v := nI 0) hC dX6_print_37 (by decide) ?_
      refine am_iret hC hR rfl (by decide) (by decide) dX6_print_38 ?_
      exact ⟨am_le_sI _ _ _ _, _, rfl, rfz (k3_2 hD1 (decide_eq_false (by omega))) (by decide) rfl⟩
  · refine am_iconst (v := nI 1) hC dX6_print_9 (by decide) ?_
    refine am_goto (tgt := 27) hC dX6_print_10 (by decide) ?_
    refine am_putI hC (ci := 7) (N := 20) (j := 19) rfl (kM_14 hM) (by decide) rfl rfl rfl tw_667 (Or.inl rfl) dX6_print_27 ?_
    have hM : FM (am_sI h 14 19 (nI 1)) := hM
    refine am_aload_n hC dX6_print_30 rfl ?_
    refine am_get (v := .int (nI 1)) hC (ci := 7) (N := 20) (j := 19) rfl (kM_14 hM) (by decide) tw_667 (Or.inl rfl) dX6_print_31 rfl ?_
    refine am_if_le (tgt := 39) hC dX6_print_34 (by decide) (fun c_34 => absurd c_34 (by decide)) (fun c_34 => ?_)
    refine am_iconst (v := nI 0) hC dX6_print_37 (by decide) ?_
    refine am_iret hC hR rfl (by decide) (by decide) dX6_print_38 ?_
    exact ⟨am_le_sI _ _ _ _, _, rfl, rfz (k3_1 (b2i_0.mp c_6)) (by decide) rfl⟩
