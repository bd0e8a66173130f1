/-! ===== throws, handlers, copies, members of the library ===== -/
theorem am_A_grow {G : am_G} {h : am_H} {ad : Nat → Nat} {H H' : Heap} (hA : am_A G h ad H) (z : H.size ≤ H'.size) (oq : ∀ q : Nat, q < H.size → H'[q]? = H[q]?) : am_A G h ad H' := by
  obtain ⟨a0, a1, a2, a3, a4⟩ := hA
  refine ⟨a0, fun q hq => ?_, fun q hq => ?_, a3, a4⟩
  · rcases a2 q hq with e | e | ⟨-, e, -⟩ | ⟨e, -⟩
    · exact Or.inl (Or.inl (by rw [e]; exact a0.2.1))
    · exact Or.inl (Or.inr (by rw [e]; exact a0.2.2.1))
    · exact am_atk_kept (a1 q hq) (oq _ e)
    · exact Or.inl (Or.inl e)
  · rcases a2 q hq with e | e | ⟨e1, e2, e3⟩ | e
    · exact Or.inl e
    · exact Or.inr (Or.inl e)
    · exact Or.inr (Or.inr (Or.inl ⟨e1, by omega, e3⟩))
    · exact Or.inr (Or.inr (Or.inr e))
section AMX
variable {Z : am_Z} {own : String} {cc : ByteArray} {n L mc ms : Nat} {kc ks pc : Nat} {ls st : List Value} {h : am_H} {hh : List (Nat × Nat × Nat × Nat)} {P : Option Value → am_H → Prop} {E : String → am_H → Prop}
/-- 'throw new X("text")' -/
theorem am_throw (hC : am_OK Z own cc n L mc ms) {ret : Option FieldType} (hR : am_Rt Z ret [] P E mc ms) {X text : String} {ik is ic : Nat} (hX1 : Bundle.fit X = true) (hw1 : Cond.classLink own ik X ∈ am_TG) (hw2 : Cond.initialized X ∈ am_TG) (hw3 : Cond.stringRef own is text ∈ lw_tbl) (hat : ∀ w ∈ vx_atS own ic X ["java/lang/RuntimeException", "java/lang/Exception"], (w ∈ am_TG ∨ w ∈ am_bw) ∧ vx_ot w = true)
    (hst : st.all am_s1 = true ∧ st.length ≤ 8) (hL : 6 ≤ L) (hkc : kc + 1 ≤ mc) (hks : ks + 6 ≤ ms) (d0 : decode cc pc = .ok (.new ik, 3)) (d3 : decode cc (pc + 3) = .ok (.dup, 1)) (d4 : decode cc (pc + 4) = .ok (.ldc is, 2)) (d6 : decode cc (pc + 6) = .ok (.invokespecial ic, 3)) (d9 : decode cc (pc + 9) = .ok (.athrow, 1))
    (hE' : E X h) : am_W Z kc ks pc ls st h := by
  obtain ⟨G, p, l, e, R, s, m, args, below, meth, c, h0, ad0, n', Q⟩ := Z
  obtain ⟨rfl, ⟨hx, hb, hml, hown, hts⟩, hlk, hE, htr, hR1, hR2, hR3, hR4⟩ := hC
  obtain ⟨hr, rfl, htb⟩ := hR
  refine fun ad H locs lc hA hS hX hl hvl hvs => ?_
  obtain ⟨sa, hsa⟩ := hE.2.1.1 (own, is, text) hw3
  have hcat : ((st.map (am_cv ad)).map fun v => v.category).sum ≤ 8 := by rw [am_catS hst.1]; exact hst.2
  refine vx_throwS (names := ["java/lang/RuntimeException", "java/lang/Exception"]) hx hb htr hown hX1 (by decide +kernel) (hts _ hw1) (hts _ hw2) hsa (fun w hw => ?_) (fun w hw => ?_) hE.2.2.2.1 hE.2.2.2.2.1 hS (hl.1.trans hml.symm) d0 d3 d4 d6 d9 (fun x hx9 => ?_) (by show 2 + 3 < _; omega) (by show _ + (13 * (2 + 1) + 43) ≤ _; omega) (by omega) (by omega) hlk (fun t hal hz hq => ?_) hS.2.2 hkc hks
  · rcases (hat w hw).1 with g | g
    · exact hts w g
    · have g2 := (hat w hw).2
      simp only [vx_ot, Bool.or_eq_true] at g2
      rcases g2 with g2 | g2
      · exact va_tabs g2 rfl (hE.1 w g)
      · have hb9 := (List.mem_filter.mp g).2
        cases w <;> first | exact va_tabs rfl rfl (hE.1 _ g) | (cases hb9; done) | skip
        rename_i t
        cases g2
  · rcases List.mem_cons.mp hw with g | hw
    · rw [g]
      unfold vx_ot
      rw [am_good _ hw1, Bool.or_true]
    · rcases List.mem_cons.mp hw with g | hw
      · rw [g]
        unfold vx_ot
        rw [am_good _ hw2, Bool.or_true]
      · exact (hat w hw).2
  · rw [htb] at hx9
    cases hx9
  · exact ⟨h, ad, hE', hX, am_A_grow hA hz hq, Nat.le_trans hS.1 hz, fun q g1 g2 => by rw [hq q (Nat.lt_of_lt_of_le g1 hS.1)]; exact hS.2.1 q g1 g2⟩
/-- an exception leaves the method -/
theorem am_out (hC : am_OK Z own cc n L mc ms) {ret : Option FieldType} (hR : am_Rt Z ret [] P E mc ms) {X : String} (hkc : kc ≤ mc) (hks : ks ≤ ms) (hE' : E X h) : am_WX Z kc ks pc ls st h X := by
  obtain ⟨G, p, l, e, R, s, m, args, below, meth, c, h0, ad0, n', Q⟩ := Z
  obtain ⟨rfl, ⟨hx, hb, hml, hown, hts⟩, hlk, hE, htr, hR1, hR2, hR3, hR4⟩ := hC
  obtain ⟨hr, rfl, htb⟩ := hR
  refine fun ad H locs lc q ce hA hS hX hl hvl hvs hce hcv hcl => ?_
  refine vx_out (fun x hx9 => ?_) hlk hce hcv hcl (fun t ht hal => ⟨h, ad, hE', hX, by rw [ht]; exact hA, hS.F ht⟩) hS.2.2 hkc hks
  rw [htb] at hx9
  cases hx9
/-- a handler takes it, and puts it away at place i -/
theorem am_catch (hC : am_OK Z own cc n L mc ms) {ret : Option FieldType} (hR : am_Rt Z ret hh P E mc ms) {X : String} (pre : List ExceptionTableEntry) (x : ExceptionTableEntry) (suf : List ExceptionTableEntry) (hsp : tableOf hh = pre ++ x :: suf) (hpass : ∀ z ∈ pre, ∃ nm, z.catchType ≠ 0 ∧ Cond.classLink own z.catchType nm ∈ am_TG ∧ (X, nm) ∈ am_nc) (hcov : covers x pc = true) (h0c : x.catchType ≠ 0)
    (hw : Cond.classLink own x.catchType X ∈ am_TG) (hw2 : Cond.castable X X ∈ am_bw) {i len : Nat} (hi : i < n) (hd : decode cc x.handlerPc = .ok (.astore i, len) ∧ len = 2 ∨ ∃ i' : Fin 4, (i' : Nat) = i ∧ decode cc x.handlerPc = .ok (.astore_n i', len) ∧ len = 1) (k : am_W Z kc ks (x.handlerPc + len) (ls.set i .null) [] h) : am_WX Z kc ks pc ls st h X := by
  obtain ⟨G, p, l, e, R, s, m, args, below, meth, c, h0, ad0, n', Q⟩ := Z
  obtain ⟨rfl, ⟨hx, hb, hml, hown, hts⟩, hlk, hE, htr, hR1, hR2, hR3, hR4⟩ := hC
  obtain ⟨hr, rfl, htb⟩ := hR
  refine fun ad H locs lc q ce hA hS hX hl hvl hvs hce hcv hcl => ?_
  have fin : ∀ lc' : Array Slot, lv_has lc' n' ((i, Value.ref q) :: (am_ll ad 0 ls).filter (fun q => !(q.1 == i) && !(q.1 + 1 == i && q.2.category == 2))) → am_L ad n' (ls.set i .null) lc' := by
    intro lc' hl'
    refine am_L_to hl' (fun j w hw9 h1 => ?_)
    have hj : i ≠ j := by
      intro e9
      subst e9
      rw [List.getElem?_set] at hw9
      simp only [if_true] at hw9
      split at hw9
      · cases hw9; cases h1
      · cases hw9
    rw [List.getElem?_set_ne hj] at hw9
    refine List.mem_cons_of_mem _ (List.mem_filter.mpr ⟨(am_ll_mem ad ls 0 _).mpr ⟨j, w, hw9, h1, by rw [Nat.zero_add]⟩, ?_⟩)
    have h2 : (j == i) = false := by simpa using Ne.symm hj
    simp [h2, am_cat ad h1]
  refine vx_catch hown pre x suf (htb.trans hsp) (fun z hz => ?_) hcov h0c (hts _ hw) (va_Nw.use rfl (hE.1 _ hw2)) hce hcv hcl ?_
  · obtain ⟨nm, g1, g2, g3⟩ := hpass z hz
    exact Or.inr ⟨g1, nm, hts _ g2, hE.2.1.2 _ g3⟩
  · rcases hd with ⟨hd, rfl⟩ | ⟨i', hi', hd, rfl⟩
    · exact lv_astore hx hb hd hl hi rfl (fun lc' hl' => k ad H locs lc' hA hS hX (fin lc' hl') (am_Vset hvl trivial) (fun _ h => nomatch h))
    · exact lv_astore_n hx hb hd hi' hl hi rfl (fun lc' hl' => k ad H locs lc' hA hS hX (fin lc' hl') (am_Vset hvl trivial) (fun _ h => nomatch h))
theorem am_objinit (hC : am_OK Z own cc n L mc ms) {idx r : Nat} (hr0 : r ≠ 0) (hw : Cond.methodLink own idx Lib.objectInit ∈ am_TG) (hw2 : Cond.instanceMethod Lib.objectInit ∈ am_TG) (hw3 : Cond.code Lib.objectInit ⟨#[0xb1]⟩ 1 none ∈ am_TG) (hL : 1 ≤ L) (hst : st.all am_s1 = true ∧ st.length ≤ 8) (hd : decode cc pc = .ok (.invokespecial idx, 3)) (k : am_W Z kc ks (pc + 3) ls st h) : am_W Z kc ks pc ls (.ref r :: st) h := by
  obtain ⟨G, p, l, e, R, s, m, args, below, meth, c, h0, ad0, n', Q⟩ := Z
  obtain ⟨rfl, ⟨hx, hb, hml, hown, hts⟩, hlk, hE, htr, hR1, hR2, hR3, hR4⟩ := hC
  refine fun ad H locs lc hA hS hX hl hvl hvs => ?_
  have k9 := k ad H locs lc hA hS hX hl hvl (am_Vt hvs)
  have hcat : ((st.map (am_cv ad)).map fun v => v.category).sum ≤ 8 := by rw [am_catS hst.1]; exact hst.2
  change W p l e R s m args below meth c H locs kc ks Q (F0 m pc lc (am_rv ad r :: _))
  rw [am_rv_ref hr0]
  exact W.objInit hx hb hown (hts _ hw) (hts _ hw2) (hts _ hw3) rfl (hl.1.trans hml.symm) rfl hd (by omega) (by show 2 * 0 + _ + 12 ≤ _; omega) k9
theorem am_cast (hC : am_OK Z own cc n L mc ms) {C : String} {T : u_T} {N ci idx r : Nat} (hc : am_cl[ci]? = some (C, T, N)) (hkr : hk_ h r = ci + 1) (hw : Cond.classLink own idx C ∈ am_TG) (hd : decode cc pc = .ok (.checkcast idx, 3)) (k : am_W Z kc ks (pc + 3) ls (.ref r :: st) h) : am_W Z kc ks pc ls (.ref r :: st) h := by
  obtain ⟨G, p, l, e, R, s, m, args, below, meth, c, h0, ad0, n', Q⟩ := Z
  obtain ⟨rfl, ⟨hx, hb, hml, hown, hts⟩, hlk, hE, htr, hR1, hR2, hR3, hR4⟩ := hC
  refine fun ad H locs lc hA hS hX hl hvl hvs => ?_
  have k9 := k ad H locs lc hA hS hX hl hvl hvs
  obtain ⟨r0, -⟩ := am_own hA hkr (by omega) (by have := (am_cf hc).2.2.2; omega)
  obtain ⟨cell, q1, q2, q3, q4⟩ := am_obj hA hkr hc
  have hK := (hE.2.2.1.1 ci _ hc).2
  rw [List.map_cons] at k9 ⊢
  change W p l e R s m args below meth c H locs kc ks Q (F0 m _ lc (am_rv ad r :: _)) at k9
  change W p l e R s m args below meth c H locs kc ks Q (F0 m pc lc (am_rv ad r :: _))
  rw [am_rv_ref r0] at k9 ⊢
  exact va_castS hx hb hown (hts _ hw) hK ⟨cell, q1, by rw [q3]; rfl, by rw [q2]; exact hK.1⟩ hd k9
theorem am_mmax (hC : am_OK Z own cc n L mc ms) {idx : Nat} {x y : Int32} (hw : Cond.methodLink own idx Lib.Math.max.name ∈ am_TG) (hw2 : Cond.static Lib.Math.max.name ∈ am_TG) (hw3 : Cond.initialized "java/lang/Math" ∈ am_TG) (hw4 : Cond.code Lib.Math.max.name Lib.Math.max.code 2 (some .int) ∈ am_TG) (hL : 1 ≤ L) (hst : st.all am_s1 = true ∧ st.length ≤ 8) (hkc : kc ≤ mc) (hks : ks ≤ ms) (hd : decode cc pc = .ok (.invokestatic idx, 3)) (k : am_W Z kc ks (pc + 3) ls (.int (if x < y then y else x) :: st) h) : am_W Z kc ks pc ls (.int y :: .int x :: st) h := by
  obtain ⟨G, p, l, e, R, s, m, args, below, meth, c, h0, ad0, n', Q⟩ := Z
  obtain ⟨rfl, ⟨hx, hb, hml, hown, hts⟩, hlk, hE, htr, hR1, hR2, hR3, hR4⟩ := hC
  refine fun ad H locs lc hA hS hX hl hvl hvs => ?_
  have hcat : ((st.map (am_cv ad)).map fun v => v.category).sum ≤ 8 := by rw [am_catS hst.1]; exact hst.2
  exact va_mmax hx hb (hml.trans hl.1.symm) hown (hts _ hw) (hts _ hw2) (hts _ hw3) (hts _ hw4) (by omega) (by omega) (by omega) (by omega) hd (k ad H locs lc hA hS hX hl hvl (am_Vc trivial (am_Vt (am_Vt hvs))))
theorem am_mmin (hC : am_OK Z own cc n L mc ms) {idx : Nat} {x y : Int32} (hw : Cond.methodLink own idx Lib.Math.min.name ∈ am_TG) (hw2 : Cond.static Lib.Math.min.name ∈ am_TG) (hw3 : Cond.initialized "java/lang/Math" ∈ am_TG) (hw4 : Cond.code Lib.Math.min.name Lib.Math.min.code 2 (some .int) ∈ am_TG) (hL : 1 ≤ L) (hst : st.all am_s1 = true ∧ st.length ≤ 8) (hkc : kc ≤ mc) (hks : ks ≤ ms) (hd : decode cc pc = .ok (.invokestatic idx, 3)) (k : am_W Z kc ks (pc + 3) ls (.int (if y < x then y else x) :: st) h) : am_W Z kc ks pc ls (.int y :: .int x :: st) h := by
  obtain ⟨G, p, l, e, R, s, m, args, below, meth, c, h0, ad0, n', Q⟩ := Z
  obtain ⟨rfl, ⟨hx, hb, hml, hown, hts⟩, hlk, hE, htr, hR1, hR2, hR3, hR4⟩ := hC
  refine fun ad H locs lc hA hS hX hl hvl hvs => ?_
  have hcat : ((st.map (am_cv ad)).map fun v => v.category).sum ≤ 8 := by rw [am_catS hst.1]; exact hst.2
  exact va_mmin hx hb (hml.trans hl.1.symm) hown (hts _ hw) (hts _ hw2) (hts _ hw3) (hts _ hw4) (by omega) (by omega) (by omega) (by omega) hd (k ad H locs lc hA hS hX hl hvl (am_Vc trivial (am_Vt (am_Vt hvs))))
end AMX
