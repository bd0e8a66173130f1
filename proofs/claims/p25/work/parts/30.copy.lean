/-! ===== copying a row of lists ===== -/
def am_cp (h : am_H) (q r N : Nat) : am_H := (h.1, h.2.1, h.2.2.1, (fun a b => if a = r ∧ b < N then h.2.2.2.1 q b else h.2.2.2.1 a b), h.2.2.2.2)
theorem hr_cp (h : am_H) (q r N a b : Nat) : hr_ (am_cp h q r N) a b = if a = r ∧ b < N then hr_ h q b else hr_ h a b := rfl
theorem am_le_cp (h : am_H) (q r N : Nat) : am_le h (am_cp h q r N) := fun _ _ => ⟨rfl, rfl⟩
theorem am_F12 {h : am_H} {ad : Nat → Nat} {r : Nat} (hk : hk_ h r = 12) (j : Nat) : am_F h ad r j = am_rv ad (hr_ h r j) := by
  unfold am_F
  rw [hk, if_neg (by decide), if_neg (by show ¬ false = true; decide)]
section CPY
variable {Z : am_Z} {own : String} {cc : ByteArray} {n L mc ms : Nat} {kc ks pc : Nat} {ls st : List Value} {h : am_H}
theorem am_copy (hC : am_OK Z own cc n L mc ms) {idx q r N : Nat} (hkq : hk_ h q = 12) (hkr : hk_ h r = 12) (hnq : N ≤ hn_ h q) (hnr : N ≤ hn_ h r) (hN : N < 2 ^ 31)
    (hel : ∀ j, j < N → ∃ (ci : Nat) (C : String) (T : u_T) (N' : Nat), am_cl[ci]? = some (C, T, N') ∧ Cond.castable C "java/lang/Object" ∈ am_bw ∧ hk_ h (hr_ h q j) = ci + 1)
    (w1 : Cond.methodLink own idx arraycopyName ∈ am_TG) (w2 : Cond.native arraycopyName ∈ am_TG) (w3 : Cond.static arraycopyName ∈ am_TG) (w4 : Cond.initialized "java/lang/System" ∈ am_TG) (hL : 1 ≤ L) (hst : st.all am_s1 = true ∧ st.length ≤ 8)
    (hd : decode cc pc = .ok (.invokestatic idx, 3)) (k : am_W Z kc ks (pc + 3) ls st (am_cp h q r N)) : am_W Z kc ks pc ls (.int (nI N) :: .int 0 :: .ref r :: .int 0 :: .ref q :: st) h := by
  obtain ⟨G, p, l, e, R, s, m, args, below, meth, c, h0, ad0, n', Q⟩ := Z
  obtain ⟨rfl, ⟨hx, hb, hml, hown, hts⟩, hlk, hE, htr, hR1, hR2, hR3, hR4⟩ := hC
  refine fun ad H locs lc hA hS hX hl hvl hvs => ?_
  have hcat : ((st.map (am_cv ad)).map fun v => v.category).sum ≤ 8 := by rw [am_catS hst.1]; exact hst.2
  obtain ⟨r0, -, -, hlo, hrs⟩ := am_own hA hkr (by omega) (by omega)
  obtain ⟨q0, -, -, -, -⟩ := am_own hA hkq (by omega) (by omega)
  have hc0 := am_arr (k := 3) hA hkq (by omega)
  have hc1 := am_arr (k := 3) hA hkr (by omega)
  change W p l e R s m args below meth c H locs kc ks Q (F0 m pc lc (.int (nI N) :: .int 0 :: am_rv ad r :: .int 0 :: am_rv ad q :: _))
  rw [am_rv_ref r0, am_rv_ref q0]
  have hnf : nativeFrameWords "java/lang/System" "arraycopy" 5 ≤ 80 := by decide
  have hiN : (nI N).toNatClampNeg = N := nI_clamp hN
  have hz0 : (0 : Int32).toNatClampNeg = 0 := rfl
  have hFq : ∀ j, am_F h ad q j = am_rv ad (hr_ h q j) := fun j => am_F12 hkq j
  intro T hT X
  obtain ⟨-, k0, hk0, cm0, hkk0⟩ := (hE.2.2.1.2 3 _ rfl).1 (hn_ h q) (am_F h ad q)
  obtain ⟨-, k1, hk1, cm1, hkk1⟩ := (hE.2.2.1.2 3 _ rfl).1 (hn_ h r) (am_F h ad r)
  obtain ⟨vm', X', step⟩ := X.arraycopy hx hown (hts _ w1) (hts _ w2) (hts _ w3) (hts _ w4) (src := ad q) (dst := ad r) (cs := arrV (G.2.1 3) (hn_ h q) (am_F h ad q)) (cd := arrV (G.2.1 3) (hn_ h r) (am_F h ad r)) (srcPos := 0) (destPos := 0) (n := nI N) (by rw [hT]; exact hc0) (by rw [hT]; exact hc1)
    (fun _ h => by cases h) (fun _ h => by cases h) (fun h => by cases h) (fun h => by cases h) hk0 hk1 hkk0 hkk1 rfl (by decide) (by decide) (nI_pos hN)
    (by rw [nI_toInt hN, arrV_size]; show ¬ (0 : Int) + (N : Int) > _; omega)
    (by rw [nI_toInt hN, arrV_size]; show ¬ (0 : Int) + (N : Int) > _; omega)
    (fun vm₁ hal i hi => by
      rw [hiN] at hi
      have e : (arrV (G.2.1 3) (hn_ h q) (am_F h ad q)).slots.getD ((0 : Int32).toNatClampNeg + i) .null = am_rv ad (hr_ h q i) := by
        rw [hz0, Nat.zero_add, Array.getD_eq_getD_getElem?, arrV_read _ _ (by omega), hFq]
        rfl
      rw [e]
      obtain ⟨ci, C, T', N', e1, e2, e3⟩ := hel i hi
      have hne : hr_ h q i ≠ 0 := fun z => by rw [z, hA.1.1] at e3; omega
      rw [am_rv_ref hne]
      obtain ⟨cellV, g1, g2, ⟨kC, hkC⟩, hasg⟩ := am_asg (args := args) hA hE e3 e1 (Or.inr e2)
      obtain ⟨kA, comp, r1, r2, r3, -⟩ := (hE.2.2.1.2 3 _ rfl).2
      cases hk1.symm.trans r1
      cases hkk1.symm.trans r2
      obtain ⟨kE, hkE, -⟩ := Vm.findClass_spec r3
      obtain ⟨kC', hkC', -⟩ := hal.2.2 _ _ hkC
      obtain ⟨kE', hkE', -⟩ := hal.2.2 _ _ hkE
      refine ⟨rfl, cellV, (show T.heap[ad (hr_ h q i)]? = some cellV by rw [hT]; exact g1), (fun q h => by rw [h] at g2; cases g2), ⟨kC', hkC'⟩, ?_, ?_⟩
      · exact ⟨kE', hkE'⟩
      · show vm₁.assignable _ _ = true
        rw [hal.assignable]
        exact hasg _ r3)
    (g := F0 m pc lc (.int (nI N) :: .int 0 :: .ref (ad r) :: .int 0 :: .ref (ad q) :: st.map (am_cv ad))) rfl (by rw [hml]; exact hl.1) (rest := st.map (am_cv ad)) rfl (by rw [hb]; exact hd) (by omega) (by show 2 * 0 + _ + _ ≤ _; omega)
  have e1 : copied (arrV (G.2.1 3) (hn_ h q) (am_F h ad q)) (arrV (G.2.1 3) (hn_ h r) (am_F h ad r)) 0 0 (nI N) = arrV (G.2.1 3) (hn_ h r) (va_cpy (am_F h ad q) (am_F h ad r) 0 0 N) := by
    unfold copied
    rw [hiN]
    exact va_copied (fun z => z) (G.2.1 3) (G.2.1 3) (am_F h ad q) (am_F h ad r) (by omega)
  rw [e1] at X' step
  have hheap : ((T.setVm vm').setCell (ad r) (arrV (G.2.1 3) (hn_ h r) (va_cpy (am_F h ad q) (am_F h ad r) 0 0 N))).heap = H.setIfInBounds (ad r) (arrV (G.2.1 3) (hn_ h r) (va_cpy (am_F h ad q) (am_F h ad r) 0 0 N)) := by rw [← hT]; rfl
  have oq : ∀ a : Nat, a ≠ ad r → (H.setIfInBounds (ad r) (arrV (G.2.1 3) (hn_ h r) (va_cpy (am_F h ad q) (am_F h ad r) 0 0 N)))[a]? = H[a]? := fun a ha => by simp [Array.getElem?_setIfInBounds, Ne.symm ha]
  have ee : (H.setIfInBounds (ad r) (arrV (G.2.1 3) (hn_ h r) (va_cpy (am_F h ad q) (am_F h ad r) 0 0 N)))[ad r]? = some (arrV (G.2.1 3) (hn_ h r) (va_cpy (am_F h ad q) (am_F h ad r) 0 0 N)) := by simp [Array.getElem?_setIfInBounds, hrs]
  generalize hH1 : H.setIfInBounds (ad r) (arrV (G.2.1 3) (hn_ h r) (va_cpy (am_F h ad q) (am_F h ad r) 0 0 N)) = H1 at hheap oq ee
  have z1 : H1.size = H.size := by rw [← hH1]; simp
  have hFr : ∀ j, am_F (am_cp h q r N) ad r j = va_cpy (am_F h ad q) (am_F h ad r) 0 0 N j := fun j => by
    have hkr' : hk_ (am_cp h q r N) r = 12 := hkr
    unfold va_cpy
    by_cases hj : j < N
    · rw [if_pos ⟨Nat.zero_le _, by omega⟩, Nat.sub_zero, Nat.zero_add, hFq, am_F12 hkr', hr_cp, if_pos ⟨rfl, hj⟩]
    · rw [if_neg (by omega), am_F12 hkr', am_F12 hkr, hr_cp, if_neg (fun z => hj z.2)]
  have hA1 : am_A G (am_cp h q r N) ad H1 := by
    refine am_A_upd hA hkr (by omega) (by omega) (fun _ => rfl) (fun _ => rfl) (fun a ha j => ?_) (fun a j ha => ?_) z1 oq ?_
    · unfold am_F
      have : hr_ (am_cp h q r N) a j = hr_ h a j := by rw [hr_cp, if_neg (fun z => ha z.1)]
      rw [this]
      rfl
    · rw [hr_cp]
      by_cases z : a = r ∧ j < N
      · rw [if_pos z]
        exact hA.2.2.2.2 q j (by omega)
      · rw [if_neg z]
        exact hA.2.2.2.2 a j ha
    · have hkr' : hk_ (am_cp h q r N) r = 12 := hkr
      have hnr' : hn_ (am_cp h q r N) r = hn_ h r := rfl
      unfold am_at
      rw [hkr', hnr', funext hFr]
      exact Or.inr (Or.inl ⟨by decide, by decide, ee⟩)
  obtain ⟨t, a1, b1⟩ := k ad H1 _ lc hA1 ⟨by rw [z1]; exact hS.1, fun a g1 g2 => by
      rw [oq a (fun e => g2 (by rw [e]; exact hlo))]
      exact hS.2.1 a g1 g2, fun a ha => by
      rcases List.mem_append.mp ha with h | h
      · exact hS.2.2 a h
      · obtain ⟨z, -, hz⟩ := List.mem_map.mp h
        rw [← hz]
        exact hlo⟩ (am_X_tr hX ⟨am_le_cp h q r N, fun _ _ => rfl⟩) hl (am_Vs_le (fun _ _ => rfl) hvl) (am_Vs_le (fun _ _ => rfl) (am_Vt (am_Vt (am_Vt (am_Vt (am_Vt hvs)))))) _ hheap X'
  exact ⟨t, step t a1, b1⟩
end CPY
