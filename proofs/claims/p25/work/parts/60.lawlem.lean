/-! ===== the law's drawn part: what is said of it ===== -/
/-- the script lies below the line -/
def SCR (Z : am_Z) (L : Nat) (xs : Nat → Int32) : Prop := match Z with
  | (G, _, _, _, _, s, _, _, _, _, _, h0, ad0, _, _) => hk_ h0 41 ≠ 0 ∧ ad0 41 < G.2.2.1 ∧ va_X (ad0 41) L xs s s.heap
def am_H0 (Z : am_Z) : Prop := match Z with
  | (_, _, _, _, _, _, _, _, _, _, _, h0, _, _, _) => h0 = h00
section SCRR
variable {Z : am_Z} {own : String} {cc : ByteArray} {n L mc ms : Nat} {kc ks pc : Nat} {ls st : List Value} {h : am_H}
theorem am_sld (hC : am_OK Z own cc n L mc ms) {N : Nat} {xs : Nat → Int32} (hS : SCR Z N xs) {j : Nat} {i : Int32} (hi : i = nI j) (hj : j < N ∧ N ≤ 260) (hd : decode cc pc = .ok (.iaload, 1)) (k : am_W Z kc ks (pc + 1) ls (.int (xs j) :: st) h) : am_W Z kc ks pc ls (.int i :: .ref 41 :: st) h := by
  obtain ⟨G, p, l, e, R, s, m, args, below, meth, c, h0, ad0, n', Q⟩ := Z
  obtain ⟨rfl, ⟨hx, hb, hml, hown, hts⟩, hlk, hE, htr, hR1, hR2, hR3, hR4⟩ := hC
  obtain ⟨s1, s2, s3⟩ := hS
  refine fun ad H locs lc hA hSv hX hl hvl hvs => ?_
  obtain ⟨i1, i2⟩ := am_ix hi hj.1 (by omega)
  have k9 := k ad H locs lc hA hSv hX hl hvl (am_Vc trivial (am_Vt (am_Vt hvs)))
  change W p l e R s m args below meth c H locs kc ks Q (F0 m pc lc (.int i :: am_rv ad 41 :: _))
  rw [am_rv_ref (by decide), hX.2 41 s1]
  refine va_sld hx hb s3 (Nat.lt_of_lt_of_le s2 hE.2.2.2.2.2.2.2.2) (fun q => by have : G.2.2.1 ≤ ad0 41 := q; omega) hSv i1 hd ?_
  rw [i2]
  exact k9
theorem am_slen (hC : am_OK Z own cc n L mc ms) {N : Nat} {xs : Nat → Int32} (hS : SCR Z N xs) (hd : decode cc pc = .ok (.arraylength, 1)) (k : am_W Z kc ks (pc + 1) ls (.int (nI N) :: st) h) : am_W Z kc ks pc ls (.ref 41 :: st) h := by
  obtain ⟨G, p, l, e, R, s, m, args, below, meth, c, h0, ad0, n', Q⟩ := Z
  obtain ⟨rfl, ⟨hx, hb, hml, hown, hts⟩, hlk, hE, htr, hR1, hR2, hR3, hR4⟩ := hC
  obtain ⟨s1, s2, s3⟩ := hS
  refine fun ad H locs lc hA hSv hX hl hvl hvs => ?_
  have k9 := k ad H locs lc hA hSv hX hl hvl (am_Vc trivial (am_Vt hvs))
  change W p l e R s m args below meth c H locs kc ks Q (F0 m pc lc (am_rv ad 41 :: _))
  rw [am_rv_ref (by decide), hX.2 41 s1]
  exact va_slen hx hb s3 (Nat.lt_of_lt_of_le s2 hE.2.2.2.2.2.2.2.2) (fun q => by have : G.2.2.1 ≤ ad0 41 := q; omega) hSv hd k9
theorem am_iushr (hC : am_OK Z own cc n L mc ms) {x y v : Int32} (hd : decode cc pc = .ok (.iushr, 1)) (hv : (x.toUInt32 >>> (y.toUInt32 &&& Int32.toUInt32 31)).toInt32 = v) (k : am_W Z kc ks (pc + 1) ls (.int v :: st) h) : am_W Z kc ks pc ls (.int y :: .int x :: st) h := by
  obtain ⟨G, p, l, e, R, s, m, args, below, meth, c, h0, ad0, n', Q⟩ := Z
  obtain ⟨rfl, ⟨hx, hb, hml, hown, hts⟩, hlk, hE, htr, hR1, hR2, hR3, hR4⟩ := hC
  refine fun ad H locs lc hA hS hX hl hvl hvs => ?_
  exact lv_iushr hx hb hd hv (k ad H locs lc hA hS hX hl hvl (am_Vc trivial (am_Vt (am_Vt hvs))))
theorem am_dropZ (hZ : am_H0 Z) (hle : am_le h00 h) (hl0 : am_Vs h00 ls) (hs0 : am_Vs h00 st) (k : am_W Z kc ks pc ls st h00) : am_W Z kc ks pc ls st h := by
  obtain ⟨G, p, l, e, R, s, m, args, below, meth, c, h0, ad0, n', Q⟩ := Z
  have hZ : h0 = h00 := hZ
  subst hZ
  exact am_drop hle hl0 hs0 k
end SCRR
theorem z_ush (x : Int32) : ∃ y, y < 2 ^ 24 ∧ (x.toUInt32 >>> ((nI 8).toUInt32 &&& Int32.toUInt32 31)).toInt32 = nI y := by
  have e8 : ((nI 8).toUInt32 &&& Int32.toUInt32 31) = (8 : UInt32) := by decide
  rw [e8]
  refine ⟨(x.toUInt32 >>> (8 : UInt32)).toNat, ?_, ?_⟩
  · rw [UInt32.toNat_shiftRight, Nat.shiftRight_eq_div_pow]
    have := x.toUInt32.toNat_lt
    have e : (8 : UInt32).toNat % 32 = 8 := by decide
    rw [e]
    omega
  · apply Int32.toBitVec_inj.mp
    show (x.toUInt32 >>> (8 : UInt32)).toBitVec = (Int32.ofNat (x.toUInt32 >>> (8 : UInt32)).toBitVec.toNat).toBitVec
    rw [Int32.toBitVec_ofNat', BitVec.ofNat_toNat, BitVec.setWidth_eq]
theorem z_iw {q : Nat} (h : q < 4) : IW (nI q - nI 1) = true := by
  rcases (by omega : q = 0 ∨ q = 1 ∨ q = 2 ∨ q = 3) with rfl | rfl | rfl | rfl <;> decide
theorem z_fst_0 {g : Nat → Nat} : ∀ (m i : Nat), (∀ k, i ≤ k → k < i + m → g k = 0) → z_fst g i m = 0
  | 0, _, _ => rfl
  | m + 1, i, h => by
    show (if g i = 0 then z_fst g (i + 1) m else g i) = 0
    rw [if_pos (h i (Nat.le_refl _) (by omega))]
    exact z_fst_0 m (i + 1) (fun k h1 h2 => h k (by omega) (by omega))
/-- one drawing, which refers to none, is locked by 5 and has an exit at 12; twenty permits, thirty prints -/
def z_J (σ : z_Sg) : Prop := z_n σ = 1 ∧ z_np σ = 20 ∧ z_nq σ = 30 ∧ z_ch σ 0 = nI 5 ∧ z_X σ 0 12 = true ∧ (∀ k, k < 6 → z_R σ 0 k = false) ∧ (z_gD σ 0).1.1.length = 40
theorem z_J_sd {σ : z_Sg} (hJ : z_J σ) (s : Nat) : z_sdS σ 0 s = z_cd (z_T σ 0 s) := by
  unfold z_sdS
  show z_cd (if z_T σ 0 s = 0 then z_fst (fun k => if z_R σ 0 k = true then z_sdF (z_T σ) (z_R σ) 5 k s else 0) 0 6 else z_T σ 0 s) = _
  by_cases z : z_T σ 0 s = 0
  · rw [if_pos z, z_fst_0 6 0 (fun k _ hk => by rw [hJ.2.2.2.2.2.1 k (by omega)]; rfl), z]
  · rw [if_neg z]
theorem z_J_uT {σ : z_Sg} (hJ : z_J σ) {s w : Nat} (hs : s < 40) : z_J (z_uT σ 0 s w) ∧ z_T (z_uT σ 0 s w) 0 s = w := by
  obtain ⟨j1, j2, j3, j4, j5, j6, j7⟩ := hJ
  have e : z_gD (z_uT σ 0 s w) 0 = (((z_gD σ 0).1.1.set s w, (z_gD σ 0).1.2), (z_gD σ 0).2) := by
    unfold z_uT
    rw [z_gD_uD _ (by omega), if_pos rfl]
  refine ⟨⟨by unfold z_uT; rw [z_n_uD]; exact j1, j2, j3, ?_, ?_, fun k hk => ?_, ?_⟩, ?_⟩
  · unfold z_ch z_B z_L
    rw [e]
    exact j4
  · unfold z_X
    rw [e]
    exact j5
  · unfold z_R
    rw [e]
    exact j6 k hk
  · rw [e]
    show ((z_gD σ 0).1.1.set s w).length = 40
    rw [List.length_set]
    exact j7
  · unfold z_T
    rw [e]
    show ((z_gD σ 0).1.1.set s w).getD s 0 = w
    rw [z_gset _ _ _ _ _ (by omega), if_pos rfl]
/-- a room and the number of rooms -/
theorem z_cnt_ge {p : Nat → Bool} {c : Nat} (h : p c = true) : ∀ i, c < i → 1 ≤ cnt p i
  | 0, hc => absurd hc (Nat.not_lt_zero c)
  | i + 1, hc => by
    by_cases z : c = i
    · rw [← z, cnt_y h]
      omega
    · have := z_cnt_ge h i (by omega)
      show 1 ≤ cnt p i + (if p i = true then 1 else 0)
      omega
theorem z_cnt_2 {ro : Nat → Nat} {q : Nat} : ∀ i, cnt (fun y => decide (ro y = q)) i + cnt (fun y => decide (ro y = y)) i ≤ i + if q < i then 1 else 0
  | 0 => Nat.zero_le _
  | i + 1 => by
    have ih := z_cnt_2 (ro := ro) (q := q) i
    show cnt (fun y => decide (ro y = q)) i + (if decide (ro i = q) = true then 1 else 0) + (cnt (fun y => decide (ro y = y)) i + (if decide (ro i = i) = true then 1 else 0)) ≤ _
    by_cases a : ro i = q
    · by_cases b : ro i = i
      · rw [if_pos (decide_eq_true a), if_pos (decide_eq_true b), if_pos (by omega)]
        rw [if_neg (by omega)] at ih
        omega
      · rw [if_pos (decide_eq_true a), if_neg (fun z => b (of_decide_eq_true z))]
        split at ih <;> split <;> omega
    · rw [if_neg (fun z => a (of_decide_eq_true z))]
      split at ih <;> split <;> split <;> omega
theorem z_size {sd : Nat → Int32} {c : Nat} {x : Int32} (hc : c < 25) (h : VS sd c x) : ∃ a, x = nI a ∧ 1 ≤ a ∧ a ≤ 25 := by
  obtain ⟨ro, hr, rfl⟩ := h
  exact ⟨_, rfl, z_cnt_ge (c := c) (decide_eq_true rfl) 25 hc, cnt_le _ 25⟩
theorem z_ineq {sd : Nat → Int32} {c : Nat} {x r : Int32} (hc : c < 25) (h : VS sd c x) (h' : VR sd r) : ∃ a b, x = nI a ∧ r = nI b ∧ a + b ≤ 26 := by
  obtain ⟨ro, hr, rfl⟩ := h
  obtain ⟨ro', hr', rfl⟩ := h'
  refine ⟨_, _, rfl, rfl, ?_⟩
  rw [cnt_cg (p := fun c => decide (ro' c = c)) (q := fun c => decide (ro c = c)) (fun i hi => by rw [Room_uniq hr hr' hi])]
  have := z_cnt_2 (ro := ro) (q := ro c) 25
  rw [if_pos (Room_lt hr hc)] at this
  exact this
theorem z_out {σ : z_Sg} (hJ : z_J σ) {v : Int32} (h : VD (z_sdS σ 0) (z_exS σ 0) 12 v) : v = nI 0 := by
  obtain ⟨ro, D, hr, hD, rfl⟩ := h
  have hx : z_exS σ 0 12 = true := by
    show (z_X σ 0 12 || _) = true
    rw [hJ.2.2.2.2.1]
    rfl
  rw [hD.1 (ro 12) (Room_lt hr (by decide)) ⟨12, by decide, rfl, hx⟩]
  rfl
