/-! ===== the abstract machine's arrays and new things ===== -/
theorem am_ix {i : Int32} {j N : Nat} (hi : i = nI j) (hj : j < N) (hN : N < 2 ^ 31) : ¬ (i < 0 ∨ N ≤ i.toNatClampNeg) ∧ i.toNatClampNeg = j := by
  subst hi
  have e := nI_clamp (n := j) (by omega)
  refine ⟨fun q => ?_, e⟩
  rcases q with q | q
  · exact nI_pos (by omega) q
  · omega
section AMA
variable {Z : am_Z} {own : String} {cc : ByteArray} {n L mc ms : Nat} {kc ks pc : Nat} {ls st : List Value} {h : am_H}
theorem am_iald (hC : am_OK Z own cc n L mc ms) {r j N : Nat} {i : Int32} (hkr : hk_ h r = 9) (hnr : hn_ h r = N) (hi : i = nI j) (hj : j < N) (hN : N < 2 ^ 31) (hd : decode cc pc = .ok (.iaload, 1)) (k : am_W Z kc ks (pc + 1) ls (.int (hi_ h r j) :: st) h) : am_W Z kc ks pc ls (.int i :: .ref r :: st) h := by
  obtain ⟨G, p, l, e, R, s, m, args, below, meth, c, h0, ad0, n', Q⟩ := Z
  obtain ⟨rfl, ⟨hx, hb, hml, hown, hts⟩, hlk, hE, htr, hR1, hR2, hR3, hR4⟩ := hC
  refine fun ad H locs lc hA hS hX hl hvl hvs => ?_
  obtain ⟨r0, -⟩ := am_own hA hkr (by omega) (by omega)
  have hc := am_arr (k := 0) hA hkr (by omega)
  obtain ⟨i1, i2⟩ := am_ix hi hj hN
  have k9 := k ad H locs lc hA hS hX hl hvl (am_Vc trivial (am_Vt (am_Vt hvs)))
  change W p l e R s m args below meth c H locs kc ks Q (F0 m pc lc (.int i :: am_rv ad r :: _))
  rw [am_rv_ref r0]
  refine W.iald (v := .int (hi_ h r j)) hx hb hc ((hE.2.2.1.2 0 _ rfl).1 _ _) (fun q => by cases q) (by rw [arrV_size, hnr]; exact i1) ?_ rfl rfl hd k9
  rw [arrV_read _ _ (by rw [i2, hnr]; exact hj), i2]
  unfold am_F
  rw [hkr]
  rfl
theorem am_zald (hC : am_OK Z own cc n L mc ms) {r j N : Nat} {i : Int32} (hkr : hk_ h r = 10) (hnr : hn_ h r = N) (hi : i = nI j) (hj : j < N) (hN : N < 2 ^ 31) (hd : decode cc pc = .ok (.baload, 1)) (k : am_W Z kc ks (pc + 1) ls (.int (hi_ h r j) :: st) h) : am_W Z kc ks pc ls (.int i :: .ref r :: st) h := by
  obtain ⟨G, p, l, e, R, s, m, args, below, meth, c, h0, ad0, n', Q⟩ := Z
  obtain ⟨rfl, ⟨hx, hb, hml, hown, hts⟩, hlk, hE, htr, hR1, hR2, hR3, hR4⟩ := hC
  refine fun ad H locs lc hA hS hX hl hvl hvs => ?_
  obtain ⟨r0, -⟩ := am_own hA hkr (by omega) (by omega)
  have hc := am_arr (k := 1) hA hkr (by omega)
  obtain ⟨i1, i2⟩ := am_ix hi hj hN
  have k9 := k ad H locs lc hA hS hX hl hvl (am_Vc trivial (am_Vt (am_Vt hvs)))
  change W p l e R s m args below meth c H locs kc ks Q (F0 m pc lc (.int i :: am_rv ad r :: _))
  rw [am_rv_ref r0]
  refine W.zald (v := .int (hi_ h r j)) hx hb hc ((hE.2.2.1.2 1 _ rfl).1 _ _) (fun q => by cases q) (by rw [arrV_size, hnr]; exact i1) ?_ rfl rfl hd k9
  rw [arrV_read _ _ (by rw [i2, hnr]; exact hj), i2]
  unfold am_F
  rw [hkr]
  rfl
theorem am_aald (hC : am_OK Z own cc n L mc ms) {r j N kk : Nat} {i : Int32} (hkk : kk = 11 ∨ kk = 12) (hkr : hk_ h r = kk) (hnr : hn_ h r = N) (hi : i = nI j) (hj : j < N) (hN : N < 2 ^ 31) (hd : decode cc pc = .ok (.aaload, 1)) (k : am_W Z kc ks (pc + 1) ls (.ref (hr_ h r j) :: st) h) : am_W Z kc ks pc ls (.int i :: .ref r :: st) h := by
  obtain ⟨G, p, l, e, R, s, m, args, below, meth, c, h0, ad0, n', Q⟩ := Z
  obtain ⟨rfl, ⟨hx, hb, hml, hown, hts⟩, hlk, hE, htr, hR1, hR2, hR3, hR4⟩ := hC
  refine fun ad H locs lc hA hS hX hl hvl hvs => ?_
  obtain ⟨r0, -⟩ := am_own hA hkr (by omega) (by omega)
  obtain ⟨i1, i2⟩ := am_ix hi hj hN
  have k9 := k ad H locs lc hA hS hX hl hvl (am_Vc (hA.2.2.2.2 r j (by omega)) (am_Vt (am_Vt hvs)))
  change W p l e R s m args below meth c H locs kc ks Q (F0 m pc lc (.int i :: am_rv ad r :: _))
  rw [am_rv_ref r0]
  rcases hkk with rfl | rfl
  · have hc := am_arr (k := 2) hA hkr (by omega)
    refine W.aald (v := am_rv ad (hr_ h r j)) (ty := .object "HousePlans$Drawing") hx hb hc ((hE.2.2.1.2 2 _ rfl).1 _ _) rfl (fun q => by cases q) (by rw [arrV_size, hnr]; exact i1) ?_ rfl rfl hd k9
    rw [arrV_read _ _ (by rw [i2, hnr]; exact hj), i2]
    unfold am_F
    rw [hkr]
    rfl
  · have hc := am_arr (k := 3) hA hkr (by omega)
    refine W.aald (v := am_rv ad (hr_ h r j)) (ty := .object "java/lang/Object") hx hb hc ((hE.2.2.1.2 3 _ rfl).1 _ _) rfl (fun q => by cases q) (by rw [arrV_size, hnr]; exact i1) ?_ rfl rfl hd k9
    rw [arrV_read _ _ (by rw [i2, hnr]; exact hj), i2]
    unfold am_F
    rw [hkr]
    rfl
theorem am_alen (hC : am_OK Z own cc n L mc ms) {r N kk : Nat} (hkk : kk = 9 ∨ kk = 10 ∨ kk = 11 ∨ kk = 12) (hkr : hk_ h r = kk) (hnr : hn_ h r = N) (hd : decode cc pc = .ok (.arraylength, 1)) (k : am_W Z kc ks (pc + 1) ls (.int (nI N) :: st) h) : am_W Z kc ks pc ls (.ref r :: st) h := by
  obtain ⟨G, p, l, e, R, s, m, args, below, meth, c, h0, ad0, n', Q⟩ := Z
  obtain ⟨rfl, ⟨hx, hb, hml, hown, hts⟩, hlk, hE, htr, hR1, hR2, hR3, hR4⟩ := hC
  refine fun ad H locs lc hA hS hX hl hvl hvs => ?_
  obtain ⟨r0, -⟩ := am_own hA hkr (by omega) (by omega)
  have k9 := k ad H locs lc hA hS hX hl hvl (am_Vc trivial (am_Vt hvs))
  change W p l e R s m args below meth c H locs kc ks Q (F0 m pc lc (am_rv ad r :: _))
  rw [am_rv_ref r0]
  subst hnr
  rcases hkk with rfl | rfl | rfl | rfl
  · exact W.alen (n := nI (hn_ h r)) hx hb (am_arr (k := 0) hA hkr (by omega)) ((hE.2.2.1.2 0 _ rfl).1 _ _) (by rw [arrV_size]; rfl) rfl rfl hd k9
  · exact W.alen (n := nI (hn_ h r)) hx hb (am_arr (k := 1) hA hkr (by omega)) ((hE.2.2.1.2 1 _ rfl).1 _ _) (by rw [arrV_size]; rfl) rfl rfl hd k9
  · exact W.alen (n := nI (hn_ h r)) hx hb (am_arr (k := 2) hA hkr (by omega)) ((hE.2.2.1.2 2 _ rfl).1 _ _) (by rw [arrV_size]; rfl) rfl rfl hd k9
  · exact W.alen (n := nI (hn_ h r)) hx hb (am_arr (k := 3) hA hkr (by omega)) ((hE.2.2.1.2 3 _ rfl).1 _ _) (by rw [arrV_size]; rfl) rfl rfl hd k9
/-- .. of the empty table -/
theorem am_alen0 (hC : am_OK Z own cc n L mc ms) (hd : decode cc pc = .ok (.arraylength, 1)) (k : am_W Z kc ks (pc + 1) ls (.int 0 :: st) h) : am_W Z kc ks pc ls (.ref 1 :: st) h := by
  obtain ⟨G, p, l, e, R, s, m, args, below, meth, c, h0, ad0, n', Q⟩ := Z
  obtain ⟨rfl, ⟨hx, hb, hml, hown, hts⟩, hlk, hE, htr, hR1, hR2, hR3, hR4⟩ := hC
  refine fun ad H locs lc hA hS hX hl hvl hvs => ?_
  have k9 := k ad H locs lc hA hS hX hl hvl (am_Vc trivial (am_Vt hvs))
  change W p l e R s m args below meth c H locs kc ks Q (F0 m pc lc (am_rv ad 1 :: _))
  rw [am_rv_ref (by decide), hA.1.2.2.2.2.1]
  obtain ⟨f, cell, g1, g2, g3, g4, g5, g6, g7⟩ := hE.2.2.2.2.2.2.1
  exact W.alen (n := 0) hx hb (by rw [hS.2.1 _ (Array.getElem?_eq_some_iff.mp g1).1 g7]; exact g1) g2 (by rw [g5]; rfl) rfl rfl hd k9
theorem am_A_arr {G : am_G} {h h' : am_H} {ad : Nat → Nat} {H H' : Heap} {r k j : Nat} {v : Value} (hA : am_A G h ad H) (hkr : hk_ h r = k + 9) (h4 : k ≤ 4) (hkk : ∀ q, hk_ h' q = hk_ h q) (hnn : ∀ q, hn_ h' q = hn_ h q) (hF : ∀ q, q ≠ r → ∀ j, am_F h' ad q j = am_F h ad q j) (hFr : ∀ i, am_F h' ad r i = updV (am_F h ad r) j v i) (hlv : ∀ q j, hk_ h q ≠ 0 → hr_ h' q j = 0 ∨ hk_ h (hr_ h' q j) ≠ 0)
    (e1 : H'[ad r]? = some ((arrV (G.2.1 k) (hn_ h r) (am_F h ad r)).setSlot j v)) (z : H'.size = H.size) (oq : ∀ q : Nat, q ≠ ad r → H'[q]? = H[q]?) : am_A G h' ad H' := by
  refine am_A_upd hA hkr (by omega) (by omega) hkk hnn hF hlv z oq ?_
  unfold am_at
  rw [hkk, hnn, hkr]
  refine Or.inr (Or.inl ⟨by omega, by omega, ?_⟩)
  rw [Nat.add_sub_cancel, e1, arrV_store, funext hFr]
theorem am_iast (hC : am_OK Z own cc n L mc ms) {r j N : Nat} {i x : Int32} (hkr : hk_ h r = 9) (hnr : hn_ h r = N) (hi : i = nI j) (hj : j < N) (hN : N < 2 ^ 31) (hd : decode cc pc = .ok (.iastore, 1)) (k : am_W Z kc ks (pc + 1) ls st (am_sI h r j x)) : am_W Z kc ks pc ls (.int x :: .int i :: .ref r :: st) h := by
  obtain ⟨G, p, l, e, R, s, m, args, below, meth, c, h0, ad0, n', Q⟩ := Z
  obtain ⟨rfl, ⟨hx, hb, hml, hown, hts⟩, hlk, hE, htr, hR1, hR2, hR3, hR4⟩ := hC
  refine fun ad H locs lc hA hS hX hl hvl hvs => ?_
  obtain ⟨r0, -, -, hlo, -⟩ := am_own hA hkr (by omega) (by omega)
  have hc := am_arr (k := 0) hA hkr (by omega)
  obtain ⟨i1, i2⟩ := am_ix hi hj hN
  change W p l e R s m args below meth c H locs kc ks Q (F0 m pc lc (.int x :: .int i :: am_rv ad r :: _))
  rw [am_rv_ref r0]
  refine W.iast hx hb hc ((hE.2.2.1.2 0 _ rfl).1 _ _) (fun q => by cases q) (by rw [arrV_size, hnr]; exact i1) rfl rfl hd fun H' e1 z oq => ?_
  rw [i2] at e1 ⊢
  exact k ad H' _ lc (am_A_arr (k := 0) hA hkr (by omega) (fun _ => rfl) (fun _ => rfl) (fun q hq t => am_F_sI hq t) (fun t => am_F_sI' (by omega) (by rw [hkr]; rfl) t) (fun q t hq => hA.2.2.2.2 q t hq) e1 z oq) (hS.put z oq hlo) (am_X_sI hX) hl (am_Vs_k (fun _ => rfl) hvl) (am_Vs_k (fun _ => rfl) (am_Vt (am_Vt (am_Vt hvs))))
theorem am_zast (hC : am_OK Z own cc n L mc ms) {r j N : Nat} {i x : Int32} (hkr : hk_ h r = 10) (hnr : hn_ h r = N) (hi : i = nI j) (hj : j < N) (hN : N < 2 ^ 31) (hx01 : narrow .boolean (.int x) = .int x) (hd : decode cc pc = .ok (.bastore, 1)) (k : am_W Z kc ks (pc + 1) ls st (am_sI h r j x)) : am_W Z kc ks pc ls (.int x :: .int i :: .ref r :: st) h := by
  obtain ⟨G, p, l, e, R, s, m, args, below, meth, c, h0, ad0, n', Q⟩ := Z
  obtain ⟨rfl, ⟨hx, hb, hml, hown, hts⟩, hlk, hE, htr, hR1, hR2, hR3, hR4⟩ := hC
  refine fun ad H locs lc hA hS hX hl hvl hvs => ?_
  obtain ⟨r0, -, -, hlo, -⟩ := am_own hA hkr (by omega) (by omega)
  have hc := am_arr (k := 1) hA hkr (by omega)
  obtain ⟨i1, i2⟩ := am_ix hi hj hN
  change W p l e R s m args below meth c H locs kc ks Q (F0 m pc lc (.int x :: .int i :: am_rv ad r :: _))
  rw [am_rv_ref r0]
  refine W.zast hx hb hc ((hE.2.2.1.2 1 _ rfl).1 _ _) (fun q => by cases q) (by rw [arrV_size, hnr]; exact i1) rfl rfl hd fun H' e1 z oq => ?_
  rw [i2] at e1 ⊢
  rw [hx01] at e1
  exact k ad H' _ lc (am_A_arr (k := 1) hA hkr (by omega) (fun _ => rfl) (fun _ => rfl) (fun q hq t => am_F_sI hq t) (fun t => am_F_sI' (by omega) (by rw [hkr]; rfl) t) (fun q t hq => hA.2.2.2.2 q t hq) e1 z oq) (hS.put z oq hlo) (am_X_sI hX) hl (am_Vs_k (fun _ => rfl) hvl) (am_Vs_k (fun _ => rfl) (am_Vt (am_Vt (am_Vt hvs))))
/-- an object of a class of ours may lie in a row of Object, a Drawing in a row of Drawing -/
theorem am_asg {G : am_G} {ad : Nat → Nat} {H : Heap} (hA : am_A G h ad H) {s : State} {args : Array Value} (hE : am_E G s) {x ci : Nat} {C : String} {T : u_T} {N : Nat} (hkx : hk_ h x = ci + 1) (hc : am_cl[ci]? = some (C, T, N)) {E : String} (hca : E = C ∨ Cond.castable C E ∈ am_bw) : va_Any E s H (ad x) := by
  obtain ⟨cell, q1, q2, q3, q4⟩ := am_obj hA hkx hc
  obtain ⟨hSl, hfc, kC, hkC, hkind⟩ := hE.2.2.1.1 ci _ hc
  refine ⟨cell, q1, by rw [q3]; rfl, ⟨kC, by rw [q2]; exact hkC⟩, fun comp hcomp => ?_⟩
  rw [q2]
  rcases hca with rfl | hca
  · rw [hfc] at hcomp
    cases hcomp
    exact va_assign ⟨hfc, kC, hkC, hkind⟩
  · obtain ⟨c0, t1, f1, f2, f3⟩ := Cond.castable_spec (va_Nw.use (A := args) rfl (hE.1 _ hca))
    cases hfc.symm.trans f1
    cases hcomp.symm.trans f2
    exact f3
theorem am_aast (hC : am_OK Z own cc n L mc ms) {r j N k' x ci : Nat} {C : String} {T : u_T} {N' : Nat} {i : Int32} (hk' : (k' = 2 ∧ C = "HousePlans$Drawing") ∨ (k' = 3 ∧ Cond.castable C "java/lang/Object" ∈ am_bw)) (hkr : hk_ h r = k' + 9) (hnr : hn_ h r = N) (hi : i = nI j) (hj : j < N) (hN : N < 2 ^ 31) (hx0 : (k' = 2 ∧ x = 0) ∨ hk_ h x = ci + 1) (hc : am_cl[ci]? = some (C, T, N')) (hd : decode cc pc = .ok (.aastore, 1)) (k : am_W Z kc ks (pc + 1) ls st (am_sR h r j x)) : am_W Z kc ks pc ls (.ref x :: .int i :: .ref r :: st) h := by
  obtain ⟨G, p, l, e, R, s, m, args, below, meth, c, h0, ad0, n', Q⟩ := Z
  obtain ⟨rfl, ⟨hx, hb, hml, hown, hts⟩, hlk, hE, htr, hR1, hR2, hR3, hR4⟩ := hC
  refine fun ad H locs lc hA hS hX hl hvl hvs => ?_
  obtain ⟨r0, -, -, hlo, -⟩ := am_own hA hkr (by omega) (by omega)
  have hcl := am_arr (k := k') hA hkr (by omega)
  obtain ⟨i1, i2⟩ := am_ix hi hj hN
  have hvx : x = 0 ∨ hk_ h x ≠ 0 := am_Vh hvs
  have fin : ∀ (H' : Heap), H'[ad r]? = some ((arrV (G.2.1 k') (hn_ h r) (am_F h ad r)).setSlot j (am_rv ad x)) → H'.size = H.size → (∀ q, q ≠ ad r → H'[q]? = H[q]?) → W p l e R s m args below meth c H' (locs ++ [⟨ad r, j⟩]) kc ks Q (F0 m (pc + 1) lc (st.map (am_cv ad))) := fun H' e1 z oq =>
    k ad H' _ lc (am_A_arr hA hkr (by omega) (fun _ => rfl) (fun _ => rfl) (fun q hq t => am_F_sR hq t) (fun t => am_F_sR' (by omega) (by rw [hkr]; rcases hk' with ⟨rfl, -⟩ | ⟨rfl, -⟩ <;> rfl) t) (am_lv_sR hA hvx) e1 z oq) (hS.put z oq hlo) (am_X_sR hX) hl (am_Vs_k (fun _ => rfl) hvl) (am_Vs_k (fun _ => rfl) (am_Vt (am_Vt (am_Vt hvs))))
  change W p l e R s m args below meth c H locs kc ks Q (F0 m pc lc (am_rv ad x :: .int i :: am_rv ad r :: _))
  rw [am_rv_ref r0]
  by_cases hxz : x = 0
  · have ex : am_rv ad x = .null := if_pos hxz
    rw [ex] at fin ⊢
    rcases hk' with ⟨rfl, -⟩ | ⟨rfl, -⟩
    · refine va_WaastN (C := "HousePlans$Drawing") hx hb hcl ((hE.2.2.1.2 2 _ rfl).1 _ _) (fun q => by cases q) (by rw [arrV_size, hnr]; exact i1) rfl rfl hd fun H' e1 z oq => ?_
      rw [i2] at e1 ⊢
      exact fin H' e1 z oq
    · rcases hx0 with ⟨hx0, -⟩ | hx0
      · omega
      · rw [hxz, hA.1.1] at hx0
        omega
  · have hkx : hk_ h x = ci + 1 := by
      rcases hx0 with ⟨-, hx0⟩ | hx0
      · exact absurd hx0 hxz
      · exact hx0
    rw [am_rv_ref hxz] at fin ⊢
    have key : ∀ (E : String) (t0 : Nat), (am_tys G)[t0]? = some (G.2.1 k', .object E) → va_Any E s H (ad x) → W p l e R s m args below meth c H locs kc ks Q (F0 m pc lc (.ref (ad x) :: .int i :: .ref (ad r) :: st.map (am_cv ad))) := by
      intro E t0 ht hany
      obtain ⟨cellV, g1, g3, ⟨kC, hkC⟩, hasg⟩ := hany
      obtain ⟨kA, comp, k1, k2, k3, -⟩ := (hE.2.2.1.2 t0 _ ht).2
      obtain ⟨kE, hkE, -⟩ := Vm.findClass_spec k3
      refine W.aast hx hb hcl (fun q h => by cases h) (fun h => by cases h) k1 k2 rfl hkE ⟨fun q => i1 (Or.inl q), by rw [arrV_size, i2, hnr]; exact hj⟩ g1 (fun q h => by rw [h] at g3; cases g3) hkC (hasg _ k3) rfl rfl hd fun H' e1 z oq => ?_
      rw [i2] at e1 ⊢
      exact fin H' e1 z oq
    rcases hk' with ⟨rfl, rfl⟩ | ⟨rfl, hca⟩
    · exact key _ 2 rfl (am_asg (args := args) hA hE hkx hc (Or.inl rfl))
    · exact key _ 3 rfl (am_asg (args := args) hA hE hkx hc (Or.inr hca))
end AMA
