theorem am_iconst {Z : am_Z} {own : String} {cc : ByteArray} {n L mc ms : Nat} (hC : am_OK Z own cc n L mc ms) {kc ks pc : Nat} {ls st : List Value} {h : am_H} {a : Int} {v : Int32} (hd : decode cc pc = .ok (.iconst a, 1)) (hv : Int32.ofInt a = v) (k : am_W Z kc ks (pc + 1) ls (.int v :: st) h) : am_W Z kc ks pc ls st h := by
  obtain ⟨G, p, l, e, R, s, m, args, below, meth, c, h0, ad0, n', Q⟩ := Z
  obtain ⟨rfl, ⟨hx, hb, hml, hown, hts⟩, hlk, hE, htr, hR1, hR2, hR3, hR4⟩ := hC
  refine fun ad H locs lc hA hS hX hl hvl hvs => ?_
  exact lv_iconst hx hb hd hv (k ad H locs lc hA hS hX hl hvl (am_Vc trivial hvs))
theorem am_bipush {Z : am_Z} {own : String} {cc : ByteArray} {n L mc ms : Nat} (hC : am_OK Z own cc n L mc ms) {kc ks pc : Nat} {ls st : List Value} {h : am_H} {a : Int} {v : Int32} (hd : decode cc pc = .ok (.bipush a, 2)) (hv : (Int8.ofInt a).toInt32 = v) (k : am_W Z kc ks (pc + 2) ls (.int v :: st) h) : am_W Z kc ks pc ls st h := by
  obtain ⟨G, p, l, e, R, s, m, args, below, meth, c, h0, ad0, n', Q⟩ := Z
  obtain ⟨rfl, ⟨hx, hb, hml, hown, hts⟩, hlk, hE, htr, hR1, hR2, hR3, hR4⟩ := hC
  refine fun ad H locs lc hA hS hX hl hvl hvs => ?_
  exact lv_bipush hx hb hd hv (k ad H locs lc hA hS hX hl hvl (am_Vc trivial hvs))
theorem am_sipush {Z : am_Z} {own : String} {cc : ByteArray} {n L mc ms : Nat} (hC : am_OK Z own cc n L mc ms) {kc ks pc : Nat} {ls st : List Value} {h : am_H} {a : Int} {v : Int32} (hd : decode cc pc = .ok (.sipush a, 3)) (hv : (Int16.ofInt a).toInt32 = v) (k : am_W Z kc ks (pc + 3) ls (.int v :: st) h) : am_W Z kc ks pc ls st h := by
  obtain ⟨G, p, l, e, R, s, m, args, below, meth, c, h0, ad0, n', Q⟩ := Z
  obtain ⟨rfl, ⟨hx, hb, hml, hown, hts⟩, hlk, hE, htr, hR1, hR2, hR3, hR4⟩ := hC
  refine fun ad H locs lc hA hS hX hl hvl hvs => ?_
  exact lv_sipush hx hb hd hv (k ad H locs lc hA hS hX hl hvl (am_Vc trivial hvs))
theorem am_lconst {Z : am_Z} {own : String} {cc : ByteArray} {n L mc ms : Nat} (hC : am_OK Z own cc n L mc ms) {kc ks pc : Nat} {ls st : List Value} {h : am_H} {a : Fin 2} {v : Int64} (hd : decode cc pc = .ok (.lconst a, 1)) (hv : Int64.ofNat (a : Nat) = v) (k : am_W Z kc ks (pc + 1) ls (.long v :: st) h) : am_W Z kc ks pc ls st h := by
  obtain ⟨G, p, l, e, R, s, m, args, below, meth, c, h0, ad0, n', Q⟩ := Z
  obtain ⟨rfl, ⟨hx, hb, hml, hown, hts⟩, hlk, hE, htr, hR1, hR2, hR3, hR4⟩ := hC
  refine fun ad H locs lc hA hS hX hl hvl hvs => ?_
  exact lv_lconst hx hb hd hv (k ad H locs lc hA hS hX hl hvl (am_Vc trivial hvs))
theorem am_anull {Z : am_Z} {own : String} {cc : ByteArray} {n L mc ms : Nat} (hC : am_OK Z own cc n L mc ms) {kc ks pc : Nat} {ls st : List Value} {h : am_H} (hd : decode cc pc = .ok (.aconst_null, 1)) (k : am_W Z kc ks (pc + 1) ls (.ref 0 :: st) h) : am_W Z kc ks pc ls st h := by
  obtain ⟨G, p, l, e, R, s, m, args, below, meth, c, h0, ad0, n', Q⟩ := Z
  obtain ⟨rfl, ⟨hx, hb, hml, hown, hts⟩, hlk, hE, htr, hR1, hR2, hR3, hR4⟩ := hC
  refine fun ad H locs lc hA hS hX hl hvl hvs => ?_
  exact lv_null hx hb hd (k ad H locs lc hA hS hX hl hvl (am_Vc (Or.inl rfl) hvs))
theorem am_ldcI {Z : am_Z} {own : String} {cc : ByteArray} {n L mc ms : Nat} (hC : am_OK Z own cc n L mc ms) {kc ks pc : Nat} {ls st : List Value} {h : am_H} {ix : Nat} {v : Int32} (hw : Cond.constant own ix v ∈ am_TG) (hd : decode cc pc = .ok (.ldc ix, 2)) (k : am_W Z kc ks (pc + 2) ls (.int v :: st) h) : am_W Z kc ks pc ls st h := by
  obtain ⟨G, p, l, e, R, s, m, args, below, meth, c, h0, ad0, n', Q⟩ := Z
  obtain ⟨rfl, ⟨hx, hb, hml, hown, hts⟩, hlk, hE, htr, hR1, hR2, hR3, hR4⟩ := hC
  refine fun ad H locs lc hA hS hX hl hvl hvs => ?_
  exact lv_ldc hx hb hown (hts _ hw) hd (k ad H locs lc hA hS hX hl hvl (am_Vc trivial hvs))
theorem am_iload {Z : am_Z} {own : String} {cc : ByteArray} {n L mc ms : Nat} (hC : am_OK Z own cc n L mc ms) {kc ks pc : Nat} {ls st : List Value} {h : am_H} {i : Nat} {x : Int32} (hd : decode cc pc = .ok (.iload i, 2)) (hv : ls[i]? = some (.int x)) (k : am_W Z kc ks (pc + 2) ls (.int x :: st) h) : am_W Z kc ks pc ls st h := by
  obtain ⟨G, p, l, e, R, s, m, args, below, meth, c, h0, ad0, n', Q⟩ := Z
  obtain ⟨rfl, ⟨hx, hb, hml, hown, hts⟩, hlk, hE, htr, hR1, hR2, hR3, hR4⟩ := hC
  refine fun ad H locs lc hA hS hX hl hvl hvs => ?_
  exact lv_iload hx hb hd (am_L_at hl hv rfl) (k ad H locs lc hA hS hX hl hvl (am_Vc trivial hvs))
theorem am_iload_n {Z : am_Z} {own : String} {cc : ByteArray} {n L mc ms : Nat} (hC : am_OK Z own cc n L mc ms) {kc ks pc : Nat} {ls st : List Value} {h : am_H} {i : Fin 4} {x : Int32} (hd : decode cc pc = .ok (.iload_n i, 1)) (hv : ls[(i : Nat)]? = some (.int x)) (k : am_W Z kc ks (pc + 1) ls (.int x :: st) h) : am_W Z kc ks pc ls st h := by
  obtain ⟨G, p, l, e, R, s, m, args, below, meth, c, h0, ad0, n', Q⟩ := Z
  obtain ⟨rfl, ⟨hx, hb, hml, hown, hts⟩, hlk, hE, htr, hR1, hR2, hR3, hR4⟩ := hC
  refine fun ad H locs lc hA hS hX hl hvl hvs => ?_
  exact lv_iload_n hx hb hd rfl (am_L_at hl hv rfl) (k ad H locs lc hA hS hX hl hvl (am_Vc trivial hvs))
theorem am_aload {Z : am_Z} {own : String} {cc : ByteArray} {n L mc ms : Nat} (hC : am_OK Z own cc n L mc ms) {kc ks pc : Nat} {ls st : List Value} {h : am_H} {i : Nat} {x : Nat} (hd : decode cc pc = .ok (.aload i, 2)) (hv : ls[i]? = some (.ref x)) (k : am_W Z kc ks (pc + 2) ls (.ref x :: st) h) : am_W Z kc ks pc ls st h := by
  obtain ⟨G, p, l, e, R, s, m, args, below, meth, c, h0, ad0, n', Q⟩ := Z
  obtain ⟨rfl, ⟨hx, hb, hml, hown, hts⟩, hlk, hE, htr, hR1, hR2, hR3, hR4⟩ := hC
  refine fun ad H locs lc hA hS hX hl hvl hvs => ?_
  have hm : am_V h (.ref x) := hvl _ (List.mem_of_getElem? hv)
  have k9 := k ad H locs lc hA hS hX hl hvl (am_Vc hm hvs)
  have hc : lc[(i : Nat)]? = some (Slot.val (am_rv ad x)) := am_L_at hl hv rfl
  rw [List.map_cons] at k9
  change W p l e R s m args below meth c H locs kc ks Q (F0 m _ lc (am_rv ad x :: _)) at k9
  unfold am_rv at k9 hc
  by_cases hz : x = 0
  · rw [if_pos hz] at k9 hc
    exact lv_aloadN hx hb hd hc k9
  · rw [if_neg hz] at k9 hc
    exact lv_aload hx hb hd hc k9
theorem am_aload_n {Z : am_Z} {own : String} {cc : ByteArray} {n L mc ms : Nat} (hC : am_OK Z own cc n L mc ms) {kc ks pc : Nat} {ls st : List Value} {h : am_H} {i : Fin 4} {x : Nat} (hd : decode cc pc = .ok (.aload_n i, 1)) (hv : ls[(i : Nat)]? = some (.ref x)) (k : am_W Z kc ks (pc + 1) ls (.ref x :: st) h) : am_W Z kc ks pc ls st h := by
  obtain ⟨G, p, l, e, R, s, m, args, below, meth, c, h0, ad0, n', Q⟩ := Z
  obtain ⟨rfl, ⟨hx, hb, hml, hown, hts⟩, hlk, hE, htr, hR1, hR2, hR3, hR4⟩ := hC
  refine fun ad H locs lc hA hS hX hl hvl hvs => ?_
  have hm : am_V h (.ref x) := hvl _ (List.mem_of_getElem? hv)
  have k9 := k ad H locs lc hA hS hX hl hvl (am_Vc hm hvs)
  have hc : lc[(i : Nat)]? = some (Slot.val (am_rv ad x)) := am_L_at hl hv rfl
  rw [List.map_cons] at k9
  change W p l e R s m args below meth c H locs kc ks Q (F0 m _ lc (am_rv ad x :: _)) at k9
  unfold am_rv at k9 hc
  by_cases hz : x = 0
  · rw [if_pos hz] at k9 hc
    exact lv_aload_nN hx hb hd rfl hc k9
  · rw [if_neg hz] at k9 hc
    exact lv_aload_n hx hb hd rfl hc k9
theorem am_istore {Z : am_Z} {own : String} {cc : ByteArray} {n L mc ms : Nat} (hC : am_OK Z own cc n L mc ms) {kc ks pc : Nat} {ls st : List Value} {h : am_H} {i : Nat} {x : Int32} (hd : decode cc pc = .ok (.istore i, 2)) (hi : i < n) (k : am_W Z kc ks (pc + 2) (ls.set i (.int x)) st h) : am_W Z kc ks pc ls (.int x :: st) h := by
  obtain ⟨G, p, l, e, R, s, m, args, below, meth, c, h0, ad0, n', Q⟩ := Z
  obtain ⟨rfl, ⟨hx, hb, hml, hown, hts⟩, hlk, hE, htr, hR1, hR2, hR3, hR4⟩ := hC
  refine fun ad H locs lc hA hS hX hl hvl hvs => ?_
  exact lv_istore hx hb hd hl hi rfl (fun lc' hl' => k ad H locs lc' hA hS hX (am_L_set (v := .int x) hl') (am_Vset hvl trivial) (am_Vt hvs))
theorem am_istore_n {Z : am_Z} {own : String} {cc : ByteArray} {n L mc ms : Nat} (hC : am_OK Z own cc n L mc ms) {kc ks pc : Nat} {ls st : List Value} {h : am_H} {i : Fin 4} {x : Int32} (hd : decode cc pc = .ok (.istore_n i, 1)) (hi : (i : Nat) < n) (k : am_W Z kc ks (pc + 1) (ls.set i (.int x)) st h) : am_W Z kc ks pc ls (.int x :: st) h := by
  obtain ⟨G, p, l, e, R, s, m, args, below, meth, c, h0, ad0, n', Q⟩ := Z
  obtain ⟨rfl, ⟨hx, hb, hml, hown, hts⟩, hlk, hE, htr, hR1, hR2, hR3, hR4⟩ := hC
  refine fun ad H locs lc hA hS hX hl hvl hvs => ?_
  exact lv_istore_n hx hb hd rfl hl hi rfl (fun lc' hl' => k ad H locs lc' hA hS hX (am_L_set (v := .int x) hl') (am_Vset hvl trivial) (am_Vt hvs))
theorem am_astore {Z : am_Z} {own : String} {cc : ByteArray} {n L mc ms : Nat} (hC : am_OK Z own cc n L mc ms) {kc ks pc : Nat} {ls st : List Value} {h : am_H} {i : Nat} {x : Nat} (hd : decode cc pc = .ok (.astore i, 2)) (hi : i < n) (k : am_W Z kc ks (pc + 2) (ls.set i (.ref x)) st h) : am_W Z kc ks pc ls (.ref x :: st) h := by
  obtain ⟨G, p, l, e, R, s, m, args, below, meth, c, h0, ad0, n', Q⟩ := Z
  obtain ⟨rfl, ⟨hx, hb, hml, hown, hts⟩, hlk, hE, htr, hR1, hR2, hR3, hR4⟩ := hC
  refine fun ad H locs lc hA hS hX hl hvl hvs => ?_
  have k9 := fun lc' hl' => k ad H locs lc' hA hS hX (am_L_set (v := .ref x) hl') (am_Vset hvl (am_Vh hvs)) (am_Vt hvs)
  change W p l e R s m args below meth c H locs kc ks Q (F0 m _ lc (am_rv ad x :: _))
  change ∀ lc' : Array Slot, lv_has lc' n' (((i : Nat), am_rv ad x) :: _) → _ at k9
  unfold am_rv at k9 ⊢
  by_cases hz : x = 0
  · rw [if_pos hz] at k9 ⊢
    exact lv_astoreN hx hb hd hl hi rfl k9
  · rw [if_neg hz] at k9 ⊢
    exact lv_astore hx hb hd hl hi rfl k9
theorem am_astore_n {Z : am_Z} {own : String} {cc : ByteArray} {n L mc ms : Nat} (hC : am_OK Z own cc n L mc ms) {kc ks pc : Nat} {ls st : List Value} {h : am_H} {i : Fin 4} {x : Nat} (hd : decode cc pc = .ok (.astore_n i, 1)) (hi : (i : Nat) < n) (k : am_W Z kc ks (pc + 1) (ls.set i (.ref x)) st h) : am_W Z kc ks pc ls (.ref x :: st) h := by
  obtain ⟨G, p, l, e, R, s, m, args, below, meth, c, h0, ad0, n', Q⟩ := Z
  obtain ⟨rfl, ⟨hx, hb, hml, hown, hts⟩, hlk, hE, htr, hR1, hR2, hR3, hR4⟩ := hC
  refine fun ad H locs lc hA hS hX hl hvl hvs => ?_
  have k9 := fun lc' hl' => k ad H locs lc' hA hS hX (am_L_set (v := .ref x) hl') (am_Vset hvl (am_Vh hvs)) (am_Vt hvs)
  change W p l e R s m args below meth c H locs kc ks Q (F0 m _ lc (am_rv ad x :: _))
  change ∀ lc' : Array Slot, lv_has lc' n' (((i : Nat), am_rv ad x) :: _) → _ at k9
  unfold am_rv at k9 ⊢
  by_cases hz : x = 0
  · rw [if_pos hz] at k9 ⊢
    exact lv_astore_nN hx hb hd rfl hl hi rfl k9
  · rw [if_neg hz] at k9 ⊢
    exact lv_astore_n hx hb hd rfl hl hi rfl k9
theorem am_iinc {Z : am_Z} {own : String} {cc : ByteArray} {n L mc ms : Nat} (hC : am_OK Z own cc n L mc ms) {kc ks pc : Nat} {ls st : List Value} {h : am_H} {i : Nat} {a : Int} {x v : Int32} (hd : decode cc pc = .ok (.iinc i a, 3)) (hv : ls[i]? = some (.int x)) (hs : x + Int32.ofInt a = v) (hi : i < n) (k : am_W Z kc ks (pc + 3) (ls.set i (.int v)) st h) : am_W Z kc ks pc ls st h := by
  obtain ⟨G, p, l, e, R, s, m, args, below, meth, c, h0, ad0, n', Q⟩ := Z
  obtain ⟨rfl, ⟨hx, hb, hml, hown, hts⟩, hlk, hE, htr, hR1, hR2, hR3, hR4⟩ := hC
  refine fun ad H locs lc hA hS hX hl hvl hvs => ?_
  obtain ⟨k9, hk9⟩ := List.getElem?_of_mem ((am_ll_mem ad ls 0 (i, .int x)).mpr ⟨i, .int x, hv, rfl, by rw [Nat.zero_add]; rfl⟩)
  exact lv_iinc hx hb hd hl hk9 hs hi rfl (fun lc' hl' => k ad H locs lc' hA hS hX (am_L_set (v := .int v) hl') (am_Vset hvl trivial) hvs)
theorem am_iadd {Z : am_Z} {own : String} {cc : ByteArray} {n L mc ms : Nat} (hC : am_OK Z own cc n L mc ms) {kc ks pc : Nat} {ls st : List Value} {h : am_H} {x y : Int32} (hd : decode cc pc = .ok (.iadd, 1)) (k : am_W Z kc ks (pc + 1) ls (.int (x + y) :: st) h) : am_W Z kc ks pc ls (.int y :: .int x :: st) h := by
  obtain ⟨G, p, l, e, R, s, m, args, below, meth, c, h0, ad0, n', Q⟩ := Z
  obtain ⟨rfl, ⟨hx, hb, hml, hown, hts⟩, hlk, hE, htr, hR1, hR2, hR3, hR4⟩ := hC
  refine fun ad H locs lc hA hS hX hl hvl hvs => ?_
  exact lv_iadd hx hb hd (k ad H locs lc hA hS hX hl hvl (am_Vc trivial (am_Vt (am_Vt hvs))))
theorem am_isub {Z : am_Z} {own : String} {cc : ByteArray} {n L mc ms : Nat} (hC : am_OK Z own cc n L mc ms) {kc ks pc : Nat} {ls st : List Value} {h : am_H} {x y : Int32} (hd : decode cc pc = .ok (.isub, 1)) (k : am_W Z kc ks (pc + 1) ls (.int (x - y) :: st) h) : am_W Z kc ks pc ls (.int y :: .int x :: st) h := by
  obtain ⟨G, p, l, e, R, s, m, args, below, meth, c, h0, ad0, n', Q⟩ := Z
  obtain ⟨rfl, ⟨hx, hb, hml, hown, hts⟩, hlk, hE, htr, hR1, hR2, hR3, hR4⟩ := hC
  refine fun ad H locs lc hA hS hX hl hvl hvs => ?_
  exact lv_isub hx hb hd (k ad H locs lc hA hS hX hl hvl (am_Vc trivial (am_Vt (am_Vt hvs))))
theorem am_imul {Z : am_Z} {own : String} {cc : ByteArray} {n L mc ms : Nat} (hC : am_OK Z own cc n L mc ms) {kc ks pc : Nat} {ls st : List Value} {h : am_H} {x y : Int32} (hd : decode cc pc = .ok (.imul, 1)) (k : am_W Z kc ks (pc + 1) ls (.int (x * y) :: st) h) : am_W Z kc ks pc ls (.int y :: .int x :: st) h := by
  obtain ⟨G, p, l, e, R, s, m, args, below, meth, c, h0, ad0, n', Q⟩ := Z
  obtain ⟨rfl, ⟨hx, hb, hml, hown, hts⟩, hlk, hE, htr, hR1, hR2, hR3, hR4⟩ := hC
  refine fun ad H locs lc hA hS hX hl hvl hvs => ?_
  exact lv_imul hx hb hd (k ad H locs lc hA hS hX hl hvl (am_Vc trivial (am_Vt (am_Vt hvs))))
theorem am_iand {Z : am_Z} {own : String} {cc : ByteArray} {n L mc ms : Nat} (hC : am_OK Z own cc n L mc ms) {kc ks pc : Nat} {ls st : List Value} {h : am_H} {x y : Int32} (hd : decode cc pc = .ok (.iand, 1)) (k : am_W Z kc ks (pc + 1) ls (.int (x &&& y) :: st) h) : am_W Z kc ks pc ls (.int y :: .int x :: st) h := by
  obtain ⟨G, p, l, e, R, s, m, args, below, meth, c, h0, ad0, n', Q⟩ := Z
  obtain ⟨rfl, ⟨hx, hb, hml, hown, hts⟩, hlk, hE, htr, hR1, hR2, hR3, hR4⟩ := hC
  refine fun ad H locs lc hA hS hX hl hvl hvs => ?_
  exact lv_iand hx hb hd (k ad H locs lc hA hS hX hl hvl (am_Vc trivial (am_Vt (am_Vt hvs))))
theorem am_ior {Z : am_Z} {own : String} {cc : ByteArray} {n L mc ms : Nat} (hC : am_OK Z own cc n L mc ms) {kc ks pc : Nat} {ls st : List Value} {h : am_H} {x y : Int32} (hd : decode cc pc = .ok (.ior, 1)) (k : am_W Z kc ks (pc + 1) ls (.int (x ||| y) :: st) h) : am_W Z kc ks pc ls (.int y :: .int x :: st) h := by
  obtain ⟨G, p, l, e, R, s, m, args, below, meth, c, h0, ad0, n', Q⟩ := Z
  obtain ⟨rfl, ⟨hx, hb, hml, hown, hts⟩, hlk, hE, htr, hR1, hR2, hR3, hR4⟩ := hC
  refine fun ad H locs lc hA hS hX hl hvl hvs => ?_
  exact lv_ior hx hb hd (k ad H locs lc hA hS hX hl hvl (am_Vc trivial (am_Vt (am_Vt hvs))))
theorem am_ixor {Z : am_Z} {own : String} {cc : ByteArray} {n L mc ms : Nat} (hC : am_OK Z own cc n L mc ms) {kc ks pc : Nat} {ls st : List Value} {h : am_H} {x y : Int32} (hd : decode cc pc = .ok (.ixor, 1)) (k : am_W Z kc ks (pc + 1) ls (.int (x ^^^ y) :: st) h) : am_W Z kc ks pc ls (.int y :: .int x :: st) h := by
  obtain ⟨G, p, l, e, R, s, m, args, below, meth, c, h0, ad0, n', Q⟩ := Z
  obtain ⟨rfl, ⟨hx, hb, hml, hown, hts⟩, hlk, hE, htr, hR1, hR2, hR3, hR4⟩ := hC
  refine fun ad H locs lc hA hS hX hl hvl hvs => ?_
  exact lv_ixor hx hb hd (k ad H locs lc hA hS hX hl hvl (am_Vc trivial (am_Vt (am_Vt hvs))))
theorem am_ishl {Z : am_Z} {own : String} {cc : ByteArray} {n L mc ms : Nat} (hC : am_OK Z own cc n L mc ms) {kc ks pc : Nat} {ls st : List Value} {h : am_H} {x y : Int32} (hd : decode cc pc = .ok (.ishl, 1)) (k : am_W Z kc ks (pc + 1) ls (.int (x <<< (y &&& 31)) :: st) h) : am_W Z kc ks pc ls (.int y :: .int x :: st) h := by
  obtain ⟨G, p, l, e, R, s, m, args, below, meth, c, h0, ad0, n', Q⟩ := Z
  obtain ⟨rfl, ⟨hx, hb, hml, hown, hts⟩, hlk, hE, htr, hR1, hR2, hR3, hR4⟩ := hC
  refine fun ad H locs lc hA hS hX hl hvl hvs => ?_
  exact lv_ishl hx hb hd (k ad H locs lc hA hS hX hl hvl (am_Vc trivial (am_Vt (am_Vt hvs))))
theorem am_ishr {Z : am_Z} {own : String} {cc : ByteArray} {n L mc ms : Nat} (hC : am_OK Z own cc n L mc ms) {kc ks pc : Nat} {ls st : List Value} {h : am_H} {x y : Int32} (hd : decode cc pc = .ok (.ishr, 1)) (k : am_W Z kc ks (pc + 1) ls (.int (x >>> (y &&& 31)) :: st) h) : am_W Z kc ks pc ls (.int y :: .int x :: st) h := by
  obtain ⟨G, p, l, e, R, s, m, args, below, meth, c, h0, ad0, n', Q⟩ := Z
  obtain ⟨rfl, ⟨hx, hb, hml, hown, hts⟩, hlk, hE, htr, hR1, hR2, hR3, hR4⟩ := hC
  refine fun ad H locs lc hA hS hX hl hvl hvs => ?_
  exact lv_ishr hx hb hd (k ad H locs lc hA hS hX hl hvl (am_Vc trivial (am_Vt (am_Vt hvs))))
theorem am_idiv {Z : am_Z} {own : String} {cc : ByteArray} {n L mc ms : Nat} (hC : am_OK Z own cc n L mc ms) {kc ks pc : Nat} {ls st : List Value} {h : am_H} {x y : Int32} (hd : decode cc pc = .ok (.idiv, 1)) (hy : ¬ y = 0) (k : am_W Z kc ks (pc + 1) ls (.int (x / y) :: st) h) : am_W Z kc ks pc ls (.int y :: .int x :: st) h := by
  obtain ⟨G, p, l, e, R, s, m, args, below, meth, c, h0, ad0, n', Q⟩ := Z
  obtain ⟨rfl, ⟨hx, hb, hml, hown, hts⟩, hlk, hE, htr, hR1, hR2, hR3, hR4⟩ := hC
  refine fun ad H locs lc hA hS hX hl hvl hvs => ?_
  exact lv_idiv hx hb hd hy (k ad H locs lc hA hS hX hl hvl (am_Vc trivial (am_Vt (am_Vt hvs))))
theorem am_irem {Z : am_Z} {own : String} {cc : ByteArray} {n L mc ms : Nat} (hC : am_OK Z own cc n L mc ms) {kc ks pc : Nat} {ls st : List Value} {h : am_H} {x y : Int32} (hd : decode cc pc = .ok (.irem, 1)) (hy : ¬ y = 0) (k : am_W Z kc ks (pc + 1) ls (.int (x - x / y * y) :: st) h) : am_W Z kc ks pc ls (.int y :: .int x :: st) h := by
  obtain ⟨G, p, l, e, R, s, m, args, below, meth, c, h0, ad0, n', Q⟩ := Z
  obtain ⟨rfl, ⟨hx, hb, hml, hown, hts⟩, hlk, hE, htr, hR1, hR2, hR3, hR4⟩ := hC
  refine fun ad H locs lc hA hS hX hl hvl hvs => ?_
  exact lv_irem hx hb hd hy (k ad H locs lc hA hS hX hl hvl (am_Vc trivial (am_Vt (am_Vt hvs))))
theorem am_i2l {Z : am_Z} {own : String} {cc : ByteArray} {n L mc ms : Nat} (hC : am_OK Z own cc n L mc ms) {kc ks pc : Nat} {ls st : List Value} {h : am_H} {x : Int32} (hd : decode cc pc = .ok (.i2l, 1)) (k : am_W Z kc ks (pc + 1) ls (.long x.toInt64 :: st) h) : am_W Z kc ks pc ls (.int x :: st) h := by
  obtain ⟨G, p, l, e, R, s, m, args, below, meth, c, h0, ad0, n', Q⟩ := Z
  obtain ⟨rfl, ⟨hx, hb, hml, hown, hts⟩, hlk, hE, htr, hR1, hR2, hR3, hR4⟩ := hC
  refine fun ad H locs lc hA hS hX hl hvl hvs => ?_
  exact lv_i2l hx hb hd rfl (k ad H locs lc hA hS hX hl hvl (am_Vc trivial (am_Vt hvs)))
theorem am_lcmp {Z : am_Z} {own : String} {cc : ByteArray} {n L mc ms : Nat} (hC : am_OK Z own cc n L mc ms) {kc ks pc : Nat} {ls st : List Value} {h : am_H} {x y : Int64} (hd : decode cc pc = .ok (.lcmp, 1)) (k : am_W Z kc ks (pc + 1) ls (.int (lg_cmp x y) :: st) h) : am_W Z kc ks pc ls (.long y :: .long x :: st) h := by
  obtain ⟨G, p, l, e, R, s, m, args, below, meth, c, h0, ad0, n', Q⟩ := Z
  obtain ⟨rfl, ⟨hx, hb, hml, hown, hts⟩, hlk, hE, htr, hR1, hR2, hR3, hR4⟩ := hC
  refine fun ad H locs lc hA hS hX hl hvl hvs => ?_
  exact W.lcmp hx hb hd (k ad H locs lc hA hS hX hl hvl (am_Vc trivial (am_Vt (am_Vt hvs))))
theorem am_dup {Z : am_Z} {own : String} {cc : ByteArray} {n L mc ms : Nat} (hC : am_OK Z own cc n L mc ms) {kc ks pc : Nat} {ls st : List Value} {h : am_H} {v : Value} (hd : decode cc pc = .ok (.dup, 1)) (hv : am_s1 v = true) (k : am_W Z kc ks (pc + 1) ls (v :: v :: st) h) : am_W Z kc ks pc ls (v :: st) h := by
  obtain ⟨G, p, l, e, R, s, m, args, below, meth, c, h0, ad0, n', Q⟩ := Z
  obtain ⟨rfl, ⟨hx, hb, hml, hown, hts⟩, hlk, hE, htr, hR1, hR2, hR3, hR4⟩ := hC
  refine fun ad H locs lc hA hS hX hl hvl hvs => ?_
  exact lv_dup hx hb hd (am_cat ad hv) (k ad H locs lc hA hS hX hl hvl (am_Vc (am_Vh hvs) hvs))
theorem am_pop {Z : am_Z} {own : String} {cc : ByteArray} {n L mc ms : Nat} (hC : am_OK Z own cc n L mc ms) {kc ks pc : Nat} {ls st : List Value} {h : am_H} {v : Value} (hd : decode cc pc = .ok (.pop, 1)) (hv : am_s1 v = true) (k : am_W Z kc ks (pc + 1) ls st h) : am_W Z kc ks pc ls (v :: st) h := by
  obtain ⟨G, p, l, e, R, s, m, args, below, meth, c, h0, ad0, n', Q⟩ := Z
  obtain ⟨rfl, ⟨hx, hb, hml, hown, hts⟩, hlk, hE, htr, hR1, hR2, hR3, hR4⟩ := hC
  refine fun ad H locs lc hA hS hX hl hvl hvs => ?_
  exact lv_pop hx hb hd (am_cat ad hv) (k ad H locs lc hA hS hX hl hvl (am_Vt hvs))
theorem am_dup_x1 {Z : am_Z} {own : String} {cc : ByteArray} {n L mc ms : Nat} (hC : am_OK Z own cc n L mc ms) {kc ks pc : Nat} {ls st : List Value} {h : am_H} {v w : Value} (hd : decode cc pc = .ok (.dup_x1, 1)) (hv : am_s1 v = true) (hw : am_s1 w = true) (k : am_W Z kc ks (pc + 1) ls (v :: w :: v :: st) h) : am_W Z kc ks pc ls (v :: w :: st) h := by
  obtain ⟨G, p, l, e, R, s, m, args, below, meth, c, h0, ad0, n', Q⟩ := Z
  obtain ⟨rfl, ⟨hx, hb, hml, hown, hts⟩, hlk, hE, htr, hR1, hR2, hR3, hR4⟩ := hC
  refine fun ad H locs lc hA hS hX hl hvl hvs => ?_
  exact lv_dup_x1 hx hb hd (am_cat ad hv) (am_cat ad hw) (k ad H locs lc hA hS hX hl hvl (am_Vc (am_Vh hvs) (am_Vc (am_Vh (am_Vt hvs)) (am_Vc (am_Vh hvs) (am_Vt (am_Vt hvs))))))
theorem am_dup2 {Z : am_Z} {own : String} {cc : ByteArray} {n L mc ms : Nat} (hC : am_OK Z own cc n L mc ms) {kc ks pc : Nat} {ls st : List Value} {h : am_H} {v w : Value} (hd : decode cc pc = .ok (.dup2, 1)) (hv : am_s1 v = true) (hw : am_s1 w = true) (k : am_W Z kc ks (pc + 1) ls (v :: w :: v :: w :: st) h) : am_W Z kc ks pc ls (v :: w :: st) h := by
  obtain ⟨G, p, l, e, R, s, m, args, below, meth, c, h0, ad0, n', Q⟩ := Z
  obtain ⟨rfl, ⟨hx, hb, hml, hown, hts⟩, hlk, hE, htr, hR1, hR2, hR3, hR4⟩ := hC
  refine fun ad H locs lc hA hS hX hl hvl hvs => ?_
  exact lv_dup2_11 hx hb hd (am_cat ad hv) (am_cat ad hw) (k ad H locs lc hA hS hX hl hvl (am_Vc (am_Vh hvs) (am_Vc (am_Vh (am_Vt hvs)) hvs)))
theorem am_if_eq {Z : am_Z} {own : String} {cc : ByteArray} {n L mc ms : Nat} (hC : am_OK Z own cc n L mc ms) {kc ks pc : Nat} {ls st : List Value} {h : am_H} {x : Int32} {off : Int} {tgt : Nat} (hd : decode cc pc = .ok (.ifCond .eq off, 3)) (ht : (pc : Int) + off = (tgt : Int)) (kt : x = 0 → am_W Z kc ks tgt ls st h) (kf : ¬ x = 0 → am_W Z kc ks (pc + 3) ls st h) : am_W Z kc ks pc ls (.int x :: st) h := by
  obtain ⟨G, p, l, e, R, s, m, args, below, meth, c, h0, ad0, n', Q⟩ := Z
  obtain ⟨rfl, ⟨hx, hb, hml, hown, hts⟩, hlk, hE, htr, hR1, hR2, hR3, hR4⟩ := hC
  refine fun ad H locs lc hA hS hX hl hvl hvs => ?_
  exact lv_if_eq hx hb hd ht (fun q => kt q ad H locs lc hA hS hX hl hvl (am_Vt hvs)) (fun q => kf q ad H locs lc hA hS hX hl hvl (am_Vt hvs))
theorem am_icmp_eq {Z : am_Z} {own : String} {cc : ByteArray} {n L mc ms : Nat} (hC : am_OK Z own cc n L mc ms) {kc ks pc : Nat} {ls st : List Value} {h : am_H} {x y : Int32} {off : Int} {tgt : Nat} (hd : decode cc pc = .ok (.if_icmp .eq off, 3)) (ht : (pc : Int) + off = (tgt : Int)) (kt : x = y → am_W Z kc ks tgt ls st h) (kf : ¬ x = y → am_W Z kc ks (pc + 3) ls st h) : am_W Z kc ks pc ls (.int y :: .int x :: st) h := by
  obtain ⟨G, p, l, e, R, s, m, args, below, meth, c, h0, ad0, n', Q⟩ := Z
  obtain ⟨rfl, ⟨hx, hb, hml, hown, hts⟩, hlk, hE, htr, hR1, hR2, hR3, hR4⟩ := hC
  refine fun ad H locs lc hA hS hX hl hvl hvs => ?_
  exact lv_icmp_eq hx hb hd ht (fun q => kt q ad H locs lc hA hS hX hl hvl (am_Vt (am_Vt hvs))) (fun q => kf q ad H locs lc hA hS hX hl hvl (am_Vt (am_Vt hvs)))
theorem am_if_ne {Z : am_Z} {own : String} {cc : ByteArray} {n L mc ms : Nat} (hC : am_OK Z own cc n L mc ms) {kc ks pc : Nat} {ls st : List Value} {h : am_H} {x : Int32} {off : Int} {tgt : Nat} (hd : decode cc pc = .ok (.ifCond .ne off, 3)) (ht : (pc : Int) + off = (tgt : Int)) (kt : ¬ x = 0 → am_W Z kc ks tgt ls st h) (kf : x = 0 → am_W Z kc ks (pc + 3) ls st h) : am_W Z kc ks pc ls (.int x :: st) h := by
  obtain ⟨G, p, l, e, R, s, m, args, below, meth, c, h0, ad0, n', Q⟩ := Z
  obtain ⟨rfl, ⟨hx, hb, hml, hown, hts⟩, hlk, hE, htr, hR1, hR2, hR3, hR4⟩ := hC
  refine fun ad H locs lc hA hS hX hl hvl hvs => ?_
  exact lv_if_ne hx hb hd ht (fun q => kt q ad H locs lc hA hS hX hl hvl (am_Vt hvs)) (fun q => kf q ad H locs lc hA hS hX hl hvl (am_Vt hvs))
theorem am_icmp_ne {Z : am_Z} {own : String} {cc : ByteArray} {n L mc ms : Nat} (hC : am_OK Z own cc n L mc ms) {kc ks pc : Nat} {ls st : List Value} {h : am_H} {x y : Int32} {off : Int} {tgt : Nat} (hd : decode cc pc = .ok (.if_icmp .ne off, 3)) (ht : (pc : Int) + off = (tgt : Int)) (kt : ¬ x = y → am_W Z kc ks tgt ls st h) (kf : x = y → am_W Z kc ks (pc + 3) ls st h) : am_W Z kc ks pc ls (.int y :: .int x :: st) h := by
  obtain ⟨G, p, l, e, R, s, m, args, below, meth, c, h0, ad0, n', Q⟩ := Z
  obtain ⟨rfl, ⟨hx, hb, hml, hown, hts⟩, hlk, hE, htr, hR1, hR2, hR3, hR4⟩ := hC
  refine fun ad H locs lc hA hS hX hl hvl hvs => ?_
  exact lv_icmp_ne hx hb hd ht (fun q => kt q ad H locs lc hA hS hX hl hvl (am_Vt (am_Vt hvs))) (fun q => kf q ad H locs lc hA hS hX hl hvl (am_Vt (am_Vt hvs)))
theorem am_if_lt {Z : am_Z} {own : String} {cc : ByteArray} {n L mc ms : Nat} (hC : am_OK Z own cc n L mc ms) {kc ks pc : Nat} {ls st : List Value} {h : am_H} {x : Int32} {off : Int} {tgt : Nat} (hd : decode cc pc = .ok (.ifCond .lt off, 3)) (ht : (pc : Int) + off = (tgt : Int)) (kt : x < 0 → am_W Z kc ks tgt ls st h) (kf : ¬ x < 0 → am_W Z kc ks (pc + 3) ls st h) : am_W Z kc ks pc ls (.int x :: st) h := by
  obtain ⟨G, p, l, e, R, s, m, args, below, meth, c, h0, ad0, n', Q⟩ := Z
  obtain ⟨rfl, ⟨hx, hb, hml, hown, hts⟩, hlk, hE, htr, hR1, hR2, hR3, hR4⟩ := hC
  refine fun ad H locs lc hA hS hX hl hvl hvs => ?_
  exact lv_if_lt hx hb hd ht (fun q => kt q ad H locs lc hA hS hX hl hvl (am_Vt hvs)) (fun q => kf q ad H locs lc hA hS hX hl hvl (am_Vt hvs))
theorem am_icmp_lt {Z : am_Z} {own : String} {cc : ByteArray} {n L mc ms : Nat} (hC : am_OK Z own cc n L mc ms) {kc ks pc : Nat} {ls st : List Value} {h : am_H} {x y : Int32} {off : Int} {tgt : Nat} (hd : decode cc pc = .ok (.if_icmp .lt off, 3)) (ht : (pc : Int) + off = (tgt : Int)) (kt : x < y → am_W Z kc ks tgt ls st h) (kf : ¬ x < y → am_W Z kc ks (pc + 3) ls st h) : am_W Z kc ks pc ls (.int y :: .int x :: st) h := by
  obtain ⟨G, p, l, e, R, s, m, args, below, meth, c, h0, ad0, n', Q⟩ := Z
  obtain ⟨rfl, ⟨hx, hb, hml, hown, hts⟩, hlk, hE, htr, hR1, hR2, hR3, hR4⟩ := hC
  refine fun ad H locs lc hA hS hX hl hvl hvs => ?_
  exact lv_icmp_lt hx hb hd ht (fun q => kt q ad H locs lc hA hS hX hl hvl (am_Vt (am_Vt hvs))) (fun q => kf q ad H locs lc hA hS hX hl hvl (am_Vt (am_Vt hvs)))
theorem am_if_ge {Z : am_Z} {own : String} {cc : ByteArray} {n L mc ms : Nat} (hC : am_OK Z own cc n L mc ms) {kc ks pc : Nat} {ls st : List Value} {h : am_H} {x : Int32} {off : Int} {tgt : Nat} (hd : decode cc pc = .ok (.ifCond .ge off, 3)) (ht : (pc : Int) + off = (tgt : Int)) (kt : 0 ≤ x → am_W Z kc ks tgt ls st h) (kf : ¬ 0 ≤ x → am_W Z kc ks (pc + 3) ls st h) : am_W Z kc ks pc ls (.int x :: st) h := by
  obtain ⟨G, p, l, e, R, s, m, args, below, meth, c, h0, ad0, n', Q⟩ := Z
  obtain ⟨rfl, ⟨hx, hb, hml, hown, hts⟩, hlk, hE, htr, hR1, hR2, hR3, hR4⟩ := hC
  refine fun ad H locs lc hA hS hX hl hvl hvs => ?_
  exact lv_if_ge hx hb hd ht (fun q => kt q ad H locs lc hA hS hX hl hvl (am_Vt hvs)) (fun q => kf q ad H locs lc hA hS hX hl hvl (am_Vt hvs))
theorem am_icmp_ge {Z : am_Z} {own : String} {cc : ByteArray} {n L mc ms : Nat} (hC : am_OK Z own cc n L mc ms) {kc ks pc : Nat} {ls st : List Value} {h : am_H} {x y : Int32} {off : Int} {tgt : Nat} (hd : decode cc pc = .ok (.if_icmp .ge off, 3)) (ht : (pc : Int) + off = (tgt : Int)) (kt : y ≤ x → am_W Z kc ks tgt ls st h) (kf : ¬ y ≤ x → am_W Z kc ks (pc + 3) ls st h) : am_W Z kc ks pc ls (.int y :: .int x :: st) h := by
  obtain ⟨G, p, l, e, R, s, m, args, below, meth, c, h0, ad0, n', Q⟩ := Z
  obtain ⟨rfl, ⟨hx, hb, hml, hown, hts⟩, hlk, hE, htr, hR1, hR2, hR3, hR4⟩ := hC
  refine fun ad H locs lc hA hS hX hl hvl hvs => ?_
  exact lv_icmp_ge hx hb hd ht (fun q => kt q ad H locs lc hA hS hX hl hvl (am_Vt (am_Vt hvs))) (fun q => kf q ad H locs lc hA hS hX hl hvl (am_Vt (am_Vt hvs)))
theorem am_if_gt {Z : am_Z} {own : String} {cc : ByteArray} {n L mc ms : Nat} (hC : am_OK Z own cc n L mc ms) {kc ks pc : Nat} {ls st : List Value} {h : am_H} {x : Int32} {off : Int} {tgt : Nat} (hd : decode cc pc = .ok (.ifCond .gt off, 3)) (ht : (pc : Int) + off = (tgt : Int)) (kt : 0 < x → am_W Z kc ks tgt ls st h) (kf : ¬ 0 < x → am_W Z kc ks (pc + 3) ls st h) : am_W Z kc ks pc ls (.int x :: st) h := by
  obtain ⟨G, p, l, e, R, s, m, args, below, meth, c, h0, ad0, n', Q⟩ := Z
  obtain ⟨rfl, ⟨hx, hb, hml, hown, hts⟩, hlk, hE, htr, hR1, hR2, hR3, hR4⟩ := hC
  refine fun ad H locs lc hA hS hX hl hvl hvs => ?_
  exact lv_if_gt hx hb hd ht (fun q => kt q ad H locs lc hA hS hX hl hvl (am_Vt hvs)) (fun q => kf q ad H locs lc hA hS hX hl hvl (am_Vt hvs))
theorem am_icmp_gt {Z : am_Z} {own : String} {cc : ByteArray} {n L mc ms : Nat} (hC : am_OK Z own cc n L mc ms) {kc ks pc : Nat} {ls st : List Value} {h : am_H} {x y : Int32} {off : Int} {tgt : Nat} (hd : decode cc pc = .ok (.if_icmp .gt off, 3)) (ht : (pc : Int) + off = (tgt : Int)) (kt : y < x → am_W Z kc ks tgt ls st h) (kf : ¬ y < x → am_W Z kc ks (pc + 3) ls st h) : am_W Z kc ks pc ls (.int y :: .int x :: st) h := by
  obtain ⟨G, p, l, e, R, s, m, args, below, meth, c, h0, ad0, n', Q⟩ := Z
  obtain ⟨rfl, ⟨hx, hb, hml, hown, hts⟩, hlk, hE, htr, hR1, hR2, hR3, hR4⟩ := hC
  refine fun ad H locs lc hA hS hX hl hvl hvs => ?_
  exact lv_icmp_gt hx hb hd ht (fun q => kt q ad H locs lc hA hS hX hl hvl (am_Vt (am_Vt hvs))) (fun q => kf q ad H locs lc hA hS hX hl hvl (am_Vt (am_Vt hvs)))
theorem am_if_le {Z : am_Z} {own : String} {cc : ByteArray} {n L mc ms : Nat} (hC : am_OK Z own cc n L mc ms) {kc ks pc : Nat} {ls st : List Value} {h : am_H} {x : Int32} {off : Int} {tgt : Nat} (hd : decode cc pc = .ok (.ifCond .le off, 3)) (ht : (pc : Int) + off = (tgt : Int)) (kt : x ≤ 0 → am_W Z kc ks tgt ls st h) (kf : ¬ x ≤ 0 → am_W Z kc ks (pc + 3) ls st h) : am_W Z kc ks pc ls (.int x :: st) h := by
  obtain ⟨G, p, l, e, R, s, m, args, below, meth, c, h0, ad0, n', Q⟩ := Z
  obtain ⟨rfl, ⟨hx, hb, hml, hown, hts⟩, hlk, hE, htr, hR1, hR2, hR3, hR4⟩ := hC
  refine fun ad H locs lc hA hS hX hl hvl hvs => ?_
  exact lv_if_le hx hb hd ht (fun q => kt q ad H locs lc hA hS hX hl hvl (am_Vt hvs)) (fun q => kf q ad H locs lc hA hS hX hl hvl (am_Vt hvs))
theorem am_icmp_le {Z : am_Z} {own : String} {cc : ByteArray} {n L mc ms : Nat} (hC : am_OK Z own cc n L mc ms) {kc ks pc : Nat} {ls st : List Value} {h : am_H} {x y : Int32} {off : Int} {tgt : Nat} (hd : decode cc pc = .ok (.if_icmp .le off, 3)) (ht : (pc : Int) + off = (tgt : Int)) (kt : x ≤ y → am_W Z kc ks tgt ls st h) (kf : ¬ x ≤ y → am_W Z kc ks (pc + 3) ls st h) : am_W Z kc ks pc ls (.int y :: .int x :: st) h := by
  obtain ⟨G, p, l, e, R, s, m, args, below, meth, c, h0, ad0, n', Q⟩ := Z
  obtain ⟨rfl, ⟨hx, hb, hml, hown, hts⟩, hlk, hE, htr, hR1, hR2, hR3, hR4⟩ := hC
  refine fun ad H locs lc hA hS hX hl hvl hvs => ?_
  exact lv_icmp_le hx hb hd ht (fun q => kt q ad H locs lc hA hS hX hl hvl (am_Vt (am_Vt hvs))) (fun q => kf q ad H locs lc hA hS hX hl hvl (am_Vt (am_Vt hvs)))
theorem am_goto {Z : am_Z} {own : String} {cc : ByteArray} {n L mc ms : Nat} (hC : am_OK Z own cc n L mc ms) {kc ks pc : Nat} {ls st : List Value} {h : am_H} {off : Int} {tgt : Nat} (hd : decode cc pc = .ok (.goto off, 3)) (ht : (pc : Int) + off = (tgt : Int)) (k : am_W Z kc ks tgt ls st h) : am_W Z kc ks pc ls st h := by
  obtain ⟨G, p, l, e, R, s, m, args, below, meth, c, h0, ad0, n', Q⟩ := Z
  obtain ⟨rfl, ⟨hx, hb, hml, hown, hts⟩, hlk, hE, htr, hR1, hR2, hR3, hR4⟩ := hC
  refine fun ad H locs lc hA hS hX hl hvl hvs => ?_
  exact lv_goto hx hb hd ht (k ad H locs lc hA hS hX hl hvl hvs)
theorem am_ifnull {Z : am_Z} {own : String} {cc : ByteArray} {n L mc ms : Nat} (hC : am_OK Z own cc n L mc ms) {kc ks pc : Nat} {ls st : List Value} {h : am_H} {x : Nat} {off : Int} {tgt : Nat} (hd : decode cc pc = .ok (.ifnull off, 3)) (ht : (pc : Int) + off = (tgt : Int)) (kt : x = 0 → am_W Z kc ks tgt ls st h) (kf : ¬ x = 0 → am_W Z kc ks (pc + 3) ls st h) : am_W Z kc ks pc ls (.ref x :: st) h := by
  obtain ⟨G, p, l, e, R, s, m, args, below, meth, c, h0, ad0, n', Q⟩ := Z
  obtain ⟨rfl, ⟨hx, hb, hml, hown, hts⟩, hlk, hE, htr, hR1, hR2, hR3, hR4⟩ := hC
  refine fun ad H locs lc hA hS hX hl hvl hvs => ?_
  have k1 := fun q => kt q ad H locs lc hA hS hX hl hvl (am_Vt hvs)
  have k2 := fun q => kf q ad H locs lc hA hS hX hl hvl (am_Vt hvs)
  change W p l e R s m args below meth c H locs kc ks Q (F0 m _ lc (am_rv ad x :: _))
  unfold am_rv
  by_cases hz : x = 0
  · rw [if_pos hz]
    exact lv_ifnullN hx hb hd ht (k1 hz)
  · rw [if_neg hz]
    exact lv_ifnull hx hb hd (k2 hz)
theorem am_ifnonnull {Z : am_Z} {own : String} {cc : ByteArray} {n L mc ms : Nat} (hC : am_OK Z own cc n L mc ms) {kc ks pc : Nat} {ls st : List Value} {h : am_H} {x : Nat} {off : Int} {tgt : Nat} (hd : decode cc pc = .ok (.ifnonnull off, 3)) (ht : (pc : Int) + off = (tgt : Int)) (kt : ¬ x = 0 → am_W Z kc ks tgt ls st h) (kf : x = 0 → am_W Z kc ks (pc + 3) ls st h) : am_W Z kc ks pc ls (.ref x :: st) h := by
  obtain ⟨G, p, l, e, R, s, m, args, below, meth, c, h0, ad0, n', Q⟩ := Z
  obtain ⟨rfl, ⟨hx, hb, hml, hown, hts⟩, hlk, hE, htr, hR1, hR2, hR3, hR4⟩ := hC
  refine fun ad H locs lc hA hS hX hl hvl hvs => ?_
  have k1 := fun q => kt q ad H locs lc hA hS hX hl hvl (am_Vt hvs)
  have k2 := fun q => kf q ad H locs lc hA hS hX hl hvl (am_Vt hvs)
  change W p l e R s m args below meth c H locs kc ks Q (F0 m _ lc (am_rv ad x :: _))
  unfold am_rv
  by_cases hz : x = 0
  · rw [if_pos hz]
    exact lv_ifnonnullN hx hb hd (k2 hz)
  · rw [if_neg hz]
    exact lv_ifnonnull hx hb hd ht (k1 hz)
theorem am_acmp_eq {Z : am_Z} {own : String} {cc : ByteArray} {n L mc ms : Nat} (hC : am_OK Z own cc n L mc ms) {kc ks pc : Nat} {ls st : List Value} {h : am_H} {x y : Nat} {off : Int} {tgt : Nat} (hne : x = y ∨ (x ≠ 2 ∧ y ≠ 2)) (hd : decode cc pc = .ok (.if_acmp .eq off, 3)) (ht : (pc : Int) + off = (tgt : Int)) (kt : x = y → am_W Z kc ks tgt ls st h) (kf : ¬ x = y → am_W Z kc ks (pc + 3) ls st h) : am_W Z kc ks pc ls (.ref y :: .ref x :: st) h := by
  obtain ⟨G, p, l, e, R, s, m, args, below, meth, c, h0, ad0, n', Q⟩ := Z
  obtain ⟨rfl, ⟨hx, hb, hml, hown, hts⟩, hlk, hE, htr, hR1, hR2, hR3, hR4⟩ := hC
  refine fun ad H locs lc hA hS hX hl hvl hvs => ?_
  have k1 := fun q => kt q ad H locs lc hA hS hX hl hvl (am_Vt (am_Vt hvs))
  have k2 := fun q => kf q ad H locs lc hA hS hX hl hvl (am_Vt (am_Vt hvs))
  have hvy := am_Vh hvs
  have hvx := am_Vh (am_Vt hvs)
  have hrf : ∀ r : Nat, am_rv ad r = va_rf (if r = 0 then none else some (ad r)) := fun r => by
    unfold am_rv
    split <;> rfl
  have hq : ((if x = 0 then none else some (ad x)) = (if y = 0 then (none : Option Nat) else some (ad y))) ↔ x = y := by
    constructor
    · intro q
      by_cases hx0 : x = 0
      · by_cases hy0 : y = 0
        · rw [hx0, hy0]
        · rw [if_pos hx0, if_neg hy0] at q
          cases q
      · by_cases hy0 : y = 0
        · rw [if_neg hx0, if_pos hy0] at q
          cases q
        · rw [if_neg hx0, if_neg hy0] at q
          rcases hne with h9 | ⟨h9, h8⟩
          · exact h9
          · exact hA.2.2.2.1 x y (hvx.resolve_left hx0) (hvy.resolve_left hy0) h9 h8 (Option.some.inj q)
    · intro q
      rw [q]
  change W p l e R s m args below meth c H locs kc ks Q (F0 m _ lc (am_rv ad y :: am_rv ad x :: _))
  rw [hrf, hrf]
  exact lv_acmp_eq hx hb hd ht (fun q => k1 (hq.mp q)) (fun q => k2 (fun z => q (hq.mpr z)))
theorem am_acmp_ne {Z : am_Z} {own : String} {cc : ByteArray} {n L mc ms : Nat} (hC : am_OK Z own cc n L mc ms) {kc ks pc : Nat} {ls st : List Value} {h : am_H} {x y : Nat} {off : Int} {tgt : Nat} (hne : x = y ∨ (x ≠ 2 ∧ y ≠ 2)) (hd : decode cc pc = .ok (.if_acmp .ne off, 3)) (ht : (pc : Int) + off = (tgt : Int)) (kt : ¬ x = y → am_W Z kc ks tgt ls st h) (kf : x = y → am_W Z kc ks (pc + 3) ls st h) : am_W Z kc ks pc ls (.ref y :: .ref x :: st) h := by
  obtain ⟨G, p, l, e, R, s, m, args, below, meth, c, h0, ad0, n', Q⟩ := Z
  obtain ⟨rfl, ⟨hx, hb, hml, hown, hts⟩, hlk, hE, htr, hR1, hR2, hR3, hR4⟩ := hC
  refine fun ad H locs lc hA hS hX hl hvl hvs => ?_
  have k1 := fun q => kt q ad H locs lc hA hS hX hl hvl (am_Vt (am_Vt hvs))
  have k2 := fun q => kf q ad H locs lc hA hS hX hl hvl (am_Vt (am_Vt hvs))
  have hvy := am_Vh hvs
  have hvx := am_Vh (am_Vt hvs)
  have hrf : ∀ r : Nat, am_rv ad r = va_rf (if r = 0 then none else some (ad r)) := fun r => by
    unfold am_rv
    split <;> rfl
  have hq : ((if x = 0 then none else some (ad x)) = (if y = 0 then (none : Option Nat) else some (ad y))) ↔ x = y := by
    constructor
    · intro q
      by_cases hx0 : x = 0
      · by_cases hy0 : y = 0
        · rw [hx0, hy0]
        · rw [if_pos hx0, if_neg hy0] at q
          cases q
      · by_cases hy0 : y = 0
        · rw [if_neg hx0, if_pos hy0] at q
          cases q
        · rw [if_neg hx0, if_neg hy0] at q
          rcases hne with h9 | ⟨h9, h8⟩
          · exact h9
          · exact hA.2.2.2.1 x y (hvx.resolve_left hx0) (hvy.resolve_left hy0) h9 h8 (Option.some.inj q)
    · intro q
      rw [q]
  change W p l e R s m args below meth c H locs kc ks Q (F0 m _ lc (am_rv ad y :: am_rv ad x :: _))
  rw [hrf, hrf]
  exact lv_acmp_ne hx hb hd ht (fun q => k1 (fun z => q (hq.mpr z))) (fun q => k2 (hq.mp q))
theorem am_tabIn {Z : am_Z} {own : String} {cc : ByteArray} {n L mc ms : Nat} (hC : am_OK Z own cc n L mc ms) {kc ks pc : Nat} {ls st : List Value} {h : am_H} {dflt lo hi : Int} {offs : Array Int} {len : Nat} {x : Int32} {off : Int} {tgt : Nat} (hd : decode cc pc = .ok (.tableswitch dflt lo hi offs, len)) (h1 : ¬ x.toInt < lo) (h2 : ¬ hi < x.toInt) (ho : offs[(x.toInt - lo).toNat]? = some off) (ht : (pc : Int) + off = (tgt : Int)) (k : am_W Z kc ks tgt ls st h) : am_W Z kc ks pc ls (.int x :: st) h := by
  obtain ⟨G, p, l, e, R, s, m, args, below, meth, c, h0, ad0, n', Q⟩ := Z
  obtain ⟨rfl, ⟨hx, hb, hml, hown, hts⟩, hlk, hE, htr, hR1, hR2, hR3, hR4⟩ := hC
  refine fun ad H locs lc hA hS hX hl hvl hvs => ?_
  exact lv_tableIn hx hb hd h1 h2 ho ht (k ad H locs lc hA hS hX hl hvl (am_Vt hvs))
theorem am_tabOut {Z : am_Z} {own : String} {cc : ByteArray} {n L mc ms : Nat} (hC : am_OK Z own cc n L mc ms) {kc ks pc : Nat} {ls st : List Value} {h : am_H} {dflt lo hi : Int} {offs : Array Int} {len : Nat} {x : Int32} {tgt : Nat} (hd : decode cc pc = .ok (.tableswitch dflt lo hi offs, len)) (h1 : x.toInt < lo ∨ hi < x.toInt) (ht : (pc : Int) + dflt = (tgt : Int)) (k : am_W Z kc ks tgt ls st h) : am_W Z kc ks pc ls (.int x :: st) h := by
  obtain ⟨G, p, l, e, R, s, m, args, below, meth, c, h0, ad0, n', Q⟩ := Z
  obtain ⟨rfl, ⟨hx, hb, hml, hown, hts⟩, hlk, hE, htr, hR1, hR2, hR3, hR4⟩ := hC
  refine fun ad H locs lc hA hS hX hl hvl hvs => ?_
  exact lv_tableOut hx hb hd h1 ht (k ad H locs lc hA hS hX hl hvl (am_Vt hvs))
/-- what is known of the locals may be forgotten: a place holds the same, or nothing is said of it -/
def am_fg : List Value → List Value → Prop
  | [], [] => True
  | a :: as, b :: bs => (b = a ∨ am_s1 b = false) ∧ am_fg as bs
  | _, _ => False
theorem am_fg_at : ∀ {as bs : List Value}, am_fg as bs → ∀ (i : Nat) (v : Value), bs[i]? = some v → am_s1 v = true → as[i]? = some v
  | [], [], _, i, v, h, _ => by simp at h
  | a :: as, b :: bs, ⟨h1, h2⟩, i, v, h, hv => by
    cases i with
    | zero =>
      simp at h
      subst h
      rcases h1 with h1 | h1
      · rw [h1]; rfl
      · rw [h1] at hv; cases hv
    | succ i => exact am_fg_at h2 i v (by simpa using h) hv
theorem am_fgt {Z : am_Z} {kc ks pc : Nat} {ls ls' st : List Value} {h : am_H} (hf : am_fg ls ls') (k : am_W Z kc ks pc ls' st h) : am_W Z kc ks pc ls st h := by
  obtain ⟨G, p, l, e, R, s, m, args, below, meth, c, h0, ad0, n', Q⟩ := Z
  refine fun ad H locs lc hA hS hX hl hvl hvs => k ad H locs lc hA hS hX (am_L_to hl (fun i v h1 h2 => (am_ll_mem ad ls 0 _).mpr ⟨i, v, am_fg_at hf i v h1 h2, h2, by rw [Nat.zero_add]⟩)) (fun v hv => ?_) hvs
  obtain ⟨i, hi⟩ := List.getElem?_of_mem hv
  by_cases h1 : am_s1 v = true
  · exact hvl v (List.mem_of_getElem? (am_fg_at hf i v hi h1))
  · cases v with
    | ref r => exact absurd rfl h1
    | _ => trivial
theorem am_more {Z : am_Z} {kc ks pc kc' ks' : Nat} {ls st : List Value} {h : am_H} (h1 : kc ≤ kc') (h2 : ks ≤ ks') (k : am_W Z kc' ks' pc ls st h) : am_W Z kc ks pc ls st h := by
  obtain ⟨G, p, l, e, R, s, m, args, below, meth, c, h0, ad0, n', Q⟩ := Z
  exact fun ad H locs lc hA hS hX hl hvl hvs => W.widen h1 h2 (k ad H locs lc hA hS hX hl hvl hvs)
