/-! ===== the abstract machine's heap ===== -/
theorem am_u0 : ∀ w ∈ u_ws RJx4a65c TJx4a65c 3, w ∈ lw_tbl := by decide +kernel
theorem am_u1' : ∀ w ∈ u_ws RX0 TX0 5, w ∈ lw_tbl := by decide +kernel
theorem am_u2' : ∀ w ∈ u_ws RX1 TX1 4, w ∈ lw_tbl := by decide +kernel
theorem am_u3 : ∀ w ∈ u_ws RX2 TX2 2, w ∈ lw_tbl := by decide +kernel
theorem am_u4 : ∀ w ∈ u_ws RX3 TX3 3, w ∈ lw_tbl := by decide +kernel
theorem am_u5 : ∀ w ∈ u_ws RX4 TX4 2, w ∈ lw_tbl := by decide +kernel
theorem am_u6 : ∀ w ∈ u_ws RX5 TX5 4, w ∈ lw_tbl := by decide +kernel
theorem am_ulay (C : String) (T : u_T) (N : Nat) : ∀ w ∈ u_ws C T N, goodWord w = true := by
  intro w hw
  obtain ⟨k, -, rfl⟩ := List.mem_map.mp hw
  unfold u_lay
  split <;> rfl
theorem am_cf {ci : Nat} {C : String} {T : u_T} {N : Nat} (hc : am_cl[ci]? = some (C, T, N)) : (∀ w ∈ u_ws C T N, w ∈ am_TG) ∧ (∀ k, k < N → parseFieldDescriptor (T k).2.2.1 = some (am_ty ci k)) ∧ (∀ a, a < N → ∀ b, b < N → a ≠ b → (T a).2.1 ≠ (T b).2.1) ∧ ci < 8 := by
  match ci, hc with
  | 0, hc => cases hc; exact ⟨fun w hw => am_inTG (am_u0 w hw) (am_ulay _ _ _ w hw), tyJx4a65c_ok, nmJx4a65c, by decide⟩
  | 1, hc => cases hc; exact ⟨fun w hw => am_inTG (am_u1' w hw) (am_ulay _ _ _ w hw), tyX0_ok, nmX0, by decide⟩
  | 2, hc => cases hc; exact ⟨fun w hw => am_inTG (am_u2' w hw) (am_ulay _ _ _ w hw), tyX1_ok, nmX1, by decide⟩
  | 3, hc => cases hc; exact ⟨fun w hw => am_inTG (am_u3 w hw) (am_ulay _ _ _ w hw), tyX2_ok, nmX2, by decide⟩
  | 4, hc => cases hc; exact ⟨fun w hw => am_inTG (am_u4 w hw) (am_ulay _ _ _ w hw), tyX3_ok, nmX3, by decide⟩
  | 5, hc => cases hc; exact ⟨fun w hw => am_inTG (am_u5 w hw) (am_ulay _ _ _ w hw), tyX4_ok, nmX4, by decide⟩
  | 6, hc => cases hc; exact ⟨fun w hw => am_inTG (am_u6 w hw) (am_ulay _ _ _ w hw), tyX5_ok, nmX5, by decide⟩
  | k + 7, hc => simp [am_cl] at hc
theorem am_live {h : am_H} {r k : Nat} (hk : hk_ h r = k) (h0 : 0 < k) : hk_ h r ≠ 0 := by omega
/-- a live role that isn't one of the two given ones lies above the line -/
theorem am_own {G : am_G} {h : am_H} {ad : Nat → Nat} {H : Heap} (hA : am_A G h ad H) {r k : Nat} (hk : hk_ h r = k) (h0 : 0 < k) (h1 : k < 14) : r ≠ 0 ∧ r ≠ 1 ∧ r ≠ 2 ∧ G.2.2.1 ≤ ad r ∧ ad r < H.size := by
  obtain ⟨⟨z0, z1, z2, -⟩, -, h3, -⟩ := hA
  have hr0 : r ≠ 0 := fun e => by rw [e, z0] at hk; omega
  have hr1 : r ≠ 1 := fun e => by rw [e, z1] at hk; omega
  have hr2 : r ≠ 2 := fun e => by rw [e, z2] at hk; omega
  rcases h3 r (by omega) with e | e | ⟨e, f, -⟩ | ⟨e, -⟩
  · exact absurd e hr1
  · exact absurd e hr2
  · exact ⟨hr0, hr1, hr2, e, f⟩
  · omega
theorem am_obj {G : am_G} {h : am_H} {ad : Nat → Nat} {H : Heap} (hA : am_A G h ad H) {r ci : Nat} {C : String} {T : u_T} {N : Nat} (hk : hk_ h r = ci + 1) (hc : am_cl[ci]? = some (C, T, N)) : t_OB (ad r) (G.1.1 ci) N (G.1.2 ci) H (am_F h ad r) := by
  have h8 := (am_cf hc).2.2.2
  have h1 := hA.2.1 r (by omega)
  unfold am_at at h1
  rw [hk] at h1
  rcases h1 with h | ⟨h1, -⟩ | ⟨-, q, h2, h3⟩
  · omega
  · omega
  · rw [Nat.add_sub_cancel] at h2 h3
    rw [hc] at h2
    cases h2
    exact h3
theorem am_arr {G : am_G} {h : am_H} {ad : Nat → Nat} {H : Heap} (hA : am_A G h ad H) {r k : Nat} (hk : hk_ h r = k + 9) (h4 : k ≤ 4) : H[ad r]? = some (arrV (G.2.1 k) (hn_ h r) (am_F h ad r)) := by
  have h1 := hA.2.1 r (by omega)
  unfold am_at at h1
  rw [hk] at h1
  rcases h1 with h | ⟨-, -, h1⟩ | ⟨h1, -⟩
  · omega
  · rw [Nat.add_sub_cancel] at h1
    exact h1
  · omega
theorem am_at_kept {G : am_G} {h h' : am_H} {ad ad' : Nat → Nat} {q : Nat} {H H' : Heap} (h1 : hk_ h' q = hk_ h q) (h2 : hn_ h' q = hn_ h q) (h3 : ∀ j, am_F h' ad' q j = am_F h ad q j) (ha : ad' q = ad q) (oq : H'[ad q]? = H[ad q]?) (ht : am_at G h ad q H) : am_at G h' ad' q H' := by
  unfold am_at at ht ⊢
  rw [h1, h2, ha, funext h3]
  exact am_atk_kept ht oq
/-- one live role's content changes -/
theorem am_A_upd {G : am_G} {h h' : am_H} {ad : Nat → Nat} {H H' : Heap} {r k : Nat} (hA : am_A G h ad H) (hkr : hk_ h r = k) (hk0 : 0 < k) (hk14 : k < 14) (hkk : ∀ q, hk_ h' q = hk_ h q) (hnn : ∀ q, hn_ h' q = hn_ h q)
    (hF : ∀ q, q ≠ r → ∀ j, am_F h' ad q j = am_F h ad q j) (hlv : ∀ q j, hk_ h q ≠ 0 → hr_ h' q j = 0 ∨ hk_ h (hr_ h' q j) ≠ 0) (z : H'.size = H.size) (oq : ∀ q : Nat, q ≠ ad r → H'[q]? = H[q]?) (hat : am_at G h' ad r H') : am_A G h' ad H' := by
  obtain ⟨r0, r1, r2, -, -⟩ := am_own hA hkr hk0 hk14
  obtain ⟨⟨z0, z1, z2, z3, z4, z5⟩, a1, a2, a3, a4⟩ := hA
  refine ⟨⟨(hkk 0).trans z0, (hkk 1).trans z1, (hkk 2).trans z2, (hnn 1).trans z3, z4, z5⟩, fun q hq => ?_, fun q hq => ?_, fun q p hq hp => ?_, fun q j hq => ?_⟩
  · rw [hkk] at hq
    by_cases e : q = r
    · rw [e]; exact hat
    · by_cases e2 : q = 2
      · have hk15 : hk_ h' q = 15 := by rw [hkk, e2]; exact z2
        exact Or.inl (Or.inr hk15)
      · exact am_at_kept (hkk q) (hnn q) (hF q e) rfl (oq _ (fun c => e (a3 q r hq (by omega) e2 r2 c))) (a1 q hq)
  · rw [hkk] at hq
    rw [z, hkk]
    exact a2 q hq
  · rw [hkk] at hq hp
    exact a3 q p hq hp
  · rw [hkk] at hq
    rw [hkk]
    exact hlv q j hq
theorem am_F_sI {h : am_H} {ad : Nat → Nat} {r j : Nat} {x : Int32} {q : Nat} (hq : q ≠ r) (i : Nat) : am_F (am_sI h r j x) ad q i = am_F h ad q i := by
  unfold am_F
  rw [hk_sI, hl_sI, hi_sI, hr_sI, if_neg (fun e : q = r ∧ i = j => hq e.1)]
theorem am_F_sR {h : am_H} {ad : Nat → Nat} {r j : Nat} {x : Nat} {q : Nat} (hq : q ≠ r) (i : Nat) : am_F (am_sR h r j x) ad q i = am_F h ad q i := by
  unfold am_F
  rw [hk_sR, hl_sR, hi_sR, hr_sR, if_neg (fun e : q = r ∧ i = j => hq e.1)]
theorem am_F_sL {h : am_H} {ad : Nat → Nat} {r j : Nat} {x : Int64} {q : Nat} (hq : q ≠ r) (i : Nat) : am_F (am_sL h r j x) ad q i = am_F h ad q i := by
  unfold am_F
  rw [hk_sL, hl_sL, hi_sL, hr_sL, if_neg (fun e : q = r ∧ i = j => hq e.1)]
theorem am_F_sI' {h : am_H} {ad : Nat → Nat} {r j : Nat} {x : Int32} (h13 : hk_ h r ≠ 13) (hf : am_fi (hk_ h r) j = true) (i : Nat) : am_F (am_sI h r j x) ad r i = updV (am_F h ad r) j (.int x) i := by
  unfold am_F updV
  dsimp only
  rw [hk_sI, hl_sI, hi_sI, hr_sI, if_neg h13, if_neg h13]
  by_cases e : i = j
  · subst e
    rw [if_pos hf, if_pos rfl, if_pos (And.intro rfl rfl)]
  · rw [if_neg (fun z : r = r ∧ i = j => e z.2), if_neg e]
theorem am_F_sR' {h : am_H} {ad : Nat → Nat} {r j : Nat} {x : Nat} (h13 : hk_ h r ≠ 13) (hf : am_fi (hk_ h r) j = false) (i : Nat) : am_F (am_sR h r j x) ad r i = updV (am_F h ad r) j (am_rv ad x) i := by
  unfold am_F updV
  dsimp only
  rw [hk_sR, hl_sR, hi_sR, hr_sR, if_neg h13, if_neg h13]
  by_cases e : i = j
  · subst e
    rw [if_neg (by rw [hf]; decide), if_pos rfl, if_pos (And.intro rfl rfl)]
  · rw [if_neg (fun z : r = r ∧ i = j => e z.2), if_neg e]
theorem am_F_sL' {h : am_H} {ad : Nat → Nat} {r j : Nat} {x : Int64} (h13 : hk_ h r = 13) (i : Nat) : am_F (am_sL h r j x) ad r i = updV (am_F h ad r) j (.long x) i := by
  unfold am_F updV
  dsimp only
  rw [hk_sL, hl_sL, if_pos h13, if_pos h13]
  by_cases e : i = j
  · rw [if_pos ⟨rfl, e⟩, if_pos e]
  · rw [if_neg (fun z : r = r ∧ i = j => e z.2), if_neg e]
theorem am_lv_sR {G : am_G} {h : am_H} {ad : Nat → Nat} {H : Heap} (hA : am_A G h ad H) {r j x : Nat} (hx : x = 0 ∨ hk_ h x ≠ 0) : ∀ q i, hk_ h q ≠ 0 → hr_ (am_sR h r j x) q i = 0 ∨ hk_ h (hr_ (am_sR h r j x) q i) ≠ 0 := by
  intro q i hq
  rw [hr_sR]
  by_cases e : q = r ∧ i = j
  · rw [if_pos e]; exact hx
  · rw [if_neg e]; exact hA.2.2.2.2 q i hq
theorem am_X_sI {h0 h : am_H} {ad0 ad : Nat → Nat} {r j : Nat} {x : Int32} (hX : am_X h0 ad0 h ad) : am_X h0 ad0 (am_sI h r j x) ad := ⟨fun q hq => hX.1 q hq, hX.2⟩
theorem am_X_sR {h0 h : am_H} {ad0 ad : Nat → Nat} {r j : Nat} {x : Nat} (hX : am_X h0 ad0 h ad) : am_X h0 ad0 (am_sR h r j x) ad := ⟨fun q hq => hX.1 q hq, hX.2⟩
theorem am_X_sL {h0 h : am_H} {ad0 ad : Nat → Nat} {r j : Nat} {x : Int64} (hX : am_X h0 ad0 h ad) : am_X h0 ad0 (am_sL h r j x) ad := ⟨fun q hq => hX.1 q hq, hX.2⟩
theorem am_Vs_k {h h' : am_H} (e : ∀ r, hk_ h' r = hk_ h r) {vs : List Value} (hv : am_Vs h vs) : am_Vs h' vs := am_Vs_le (fun r _ => e r) hv
theorem am_rv_ref {ad : Nat → Nat} {r : Nat} (h : r ≠ 0) : am_rv ad r = .ref (ad r) := if_neg h
theorem am_cv_F {h : am_H} {ad : Nat → Nat} {r j : Nat} (h13 : hk_ h r ≠ 13) : am_F h ad r j = am_cv ad (if am_fi (hk_ h r) j = true then Value.int (hi_ h r j) else .ref (hr_ h r j)) := by
  unfold am_F
  rw [if_neg h13]
  split <;> rfl
theorem am_VF {G : am_G} {h : am_H} {ad : Nat → Nat} {H : Heap} (hA : am_A G h ad H) {r j : Nat} (h0 : hk_ h r ≠ 0) : am_V h (if am_fi (hk_ h r) j = true then Value.int (hi_ h r j) else .ref (hr_ h r j)) := by
  split
  · trivial
  · exact hA.2.2.2.2 r j h0
theorem am_rfit {ad : Nat → Nat} {r : Nat} {ty : FieldType} (h : (∃ c, ty = .object c) ∨ ∃ t, ty = .array t) : narrow ty (am_rv ad r) = am_rv ad r ∧ fits ty (am_rv ad r) = true := by
  unfold am_rv
  rcases h with ⟨c, rfl⟩ | ⟨t, rfl⟩ <;> split <;> exact ⟨rfl, rfl⟩
theorem am_same {s : State} {args : Array Value} {T : u_T} {j : Nat} {ref : String} (hts : ∀ w ∈ am_TG, w.before args s = true) (hs : ref = (T j).1 ∨ Cond.sameField ref (T j).1 (T j).2.1 (T j).2.2.1 ∈ am_TG) : ∀ x, s.fieldFound? (T j).1 (T j).2.1 (T j).2.2.1 = some x → s.fieldFound? ref (T j).2.1 (T j).2.2.1 = some x := by
  intro x hx
  rcases hs with e | e
  · rw [e]; exact hx
  · exact u_same (hts _ e) x hx
section AMH
variable {Z : am_Z} {own : String} {cc : ByteArray} {n L mc ms : Nat} {kc ks pc : Nat} {ls st : List Value} {h : am_H}
theorem am_get (hC : am_OK Z own cc n L mc ms) {C : String} {T : u_T} {N ci idx j r : Nat} {ref : String} {v : Value} (hc : am_cl[ci]? = some (C, T, N)) (hkr : hk_ h r = ci + 1) (hj : j < N) (hw : Cond.fieldLink own idx ref (T j).2.1 (T j).2.2.1 ∈ am_TG) (hs : ref = (T j).1 ∨ Cond.sameField ref (T j).1 (T j).2.1 (T j).2.2.1 ∈ am_TG)
    (hd : decode cc pc = .ok (.getfield idx, 3)) (hv : (if am_fi (ci + 1) j = true then Value.int (hi_ h r j) else .ref (hr_ h r j)) = v) (k : am_W Z kc ks (pc + 3) ls (v :: st) h) : am_W Z kc ks pc ls (.ref r :: st) h := by
  obtain ⟨G, p, l, e, R, s, m, args, below, meth, c, h0, ad0, n', Q⟩ := Z
  obtain ⟨rfl, ⟨hx, hb, hml, hown, hts⟩, hlk, hE, htr, hR1, hR2, hR3, hR4⟩ := hC
  refine fun ad H locs lc hA hS hX hl hvl hvs => ?_
  obtain ⟨hin, hty, hnm, h8⟩ := am_cf hc
  obtain ⟨r0, -⟩ := am_own hA hkr (by omega) (by omega)
  obtain ⟨cell, q1, q2, q3, q4⟩ := am_obj hA hkr hc
  obtain ⟨hSl, hfc, kC, hkC, hkind⟩ := hE.2.2.1.1 ci _ hc
  obtain ⟨cf, kf, fi, f, hi, hsl⟩ := hSl j hj
  have hv1 : am_V h v := by rw [← hv, ← hkr]; exact am_VF hA (by omega)
  have k9 := k ad H locs lc hA hS hX hl hvl (am_Vc hv1 (am_Vt hvs))
  change W p l e R s m args below meth c H locs kc ks Q (F0 m pc lc (am_rv ad r :: _))
  rw [am_rv_ref r0]
  refine W.getf hx hb hown (hts _ hw) (am_same hts hs _ hi) (u_facts hfc hkC (u_lays hts hin hj) hi).1 q1 (by rw [q3]; exact fun h => by cases h) (v := am_cv ad v) ?_ rfl rfl hd k9
  rw [hsl, q4 j hj, am_cv_F (by omega), hkr, hv]
theorem am_getN (hC : am_OK Z own cc n L mc ms) {C host : String} {T : u_T} {N ci idx j r : Nat} {v : Value} (hc : am_cl[ci]? = some (C, T, N)) (hkr : hk_ h r = ci + 1) (hj : j < N) (hw : Cond.fieldLinkNest own idx (T j).1 (T j).2.1 (T j).2.2.1 host ∈ am_bw)
    (hd : decode cc pc = .ok (.getfield idx, 3)) (hv : (if am_fi (ci + 1) j = true then Value.int (hi_ h r j) else .ref (hr_ h r j)) = v) (k : am_W Z kc ks (pc + 3) ls (v :: st) h) : am_W Z kc ks pc ls (.ref r :: st) h := by
  obtain ⟨G, p, l, e, R, s, m, args, below, meth, c, h0, ad0, n', Q⟩ := Z
  obtain ⟨rfl, ⟨hx, hb, hml, hown, hts⟩, hlk, hE, htr, hR1, hR2, hR3, hR4⟩ := hC
  refine fun ad H locs lc hA hS hX hl hvl hvs => ?_
  obtain ⟨hin, hty, hnm, h8⟩ := am_cf hc
  obtain ⟨r0, -⟩ := am_own hA hkr (by omega) (by omega)
  obtain ⟨cell, q1, q2, q3, q4⟩ := am_obj hA hkr hc
  obtain ⟨hSl, hfc, kC, hkC, hkind⟩ := hE.2.2.1.1 ci _ hc
  obtain ⟨cf, kf, fi, f, hi, hsl⟩ := hSl j hj
  have hv1 : am_V h v := by rw [← hv, ← hkr]; exact am_VF hA (by omega)
  have k9 := k ad H locs lc hA hS hX hl hvl (am_Vc hv1 (am_Vt hvs))
  change W p l e R s m args below meth c H locs kc ks Q (F0 m pc lc (am_rv ad r :: _))
  rw [am_rv_ref r0]
  refine va_Wgetf hx hb hown (va_Nw.use rfl (hE.1 _ hw)) hi (u_facts hfc hkC (u_lays hts hin hj) hi).1 q1 (by rw [q3]; exact fun h => by cases h) (v := am_cv ad v) ?_ rfl rfl hd k9
  rw [hsl, q4 j hj, am_cv_F (by omega), hkr, hv]
/-- what a written object is -/
theorem am_objI {G : am_G} {ad : Nat → Nat} {H H' : Heap} (hA : am_A G h ad H) {s : State} {args : Array Value} (hts : ∀ w ∈ am_TG, w.before args s = true) (hK : va_K G.1 am_cl (am_tys G) s) {own' C : String} {T : u_T} {N ci j r : Nat} {x : Int32} {cell : Cell} (hc : am_cl[ci]? = some (C, T, N)) (hkr : hk_ h r = ci + 1) (hj : j < N) (hf : am_fi (ci + 1) j = true) (q2 : cell.cls = G.1.1 ci) (q3 : cell.vm = .none) (q4 : ∀ k, k < N → cell.slots[G.1.2 ci k]? = some (am_F h ad r k))
    (e1 : H'[ad r]? = some (cell.setSlot (G.1.2 ci j) (.int x))) (z : H'.size = H.size) (oq : ∀ q : Nat, q ≠ ad r → H'[q]? = H[q]?) : am_A G (am_sI h r j x) ad H' := by
  obtain ⟨hin, hty, hnm, h8⟩ := am_cf hc
  have hap := va_apart (own := own') hts hin (am_ty ci) hty hnm hK hc
  refine am_A_upd hA hkr (by omega) (by omega) (fun q => rfl) (fun q => rfl) (fun q hq i => am_F_sI hq i) (fun q i hq => hA.2.2.2.2 q i hq) z oq ?_
  unfold am_at
  rw [hk_sI, hkr]
  refine Or.inr (Or.inr ⟨by omega, _, by rw [Nat.add_sub_cancel]; exact hc, ?_⟩)
  rw [Nat.add_sub_cancel]
  refine t_OB.to (V := updV (am_F h ad r) j (.int x)) ⟨_, e1, q2, q3, t_set q4 hap hj _⟩ (fun i _ => ?_)
  rw [am_F_sI' (by omega) (by rw [hkr]; exact hf)]
theorem am_objR {G : am_G} {ad : Nat → Nat} {H H' : Heap} (hA : am_A G h ad H) {s : State} {args : Array Value} (hts : ∀ w ∈ am_TG, w.before args s = true) (hK : va_K G.1 am_cl (am_tys G) s) {own' C : String} {T : u_T} {N ci j r x : Nat} {cell : Cell} (hc : am_cl[ci]? = some (C, T, N)) (hkr : hk_ h r = ci + 1) (hj : j < N) (hf : am_fi (ci + 1) j = false) (q2 : cell.cls = G.1.1 ci) (q3 : cell.vm = .none) (q4 : ∀ k, k < N → cell.slots[G.1.2 ci k]? = some (am_F h ad r k)) (hx : x = 0 ∨ hk_ h x ≠ 0)
    (e1 : H'[ad r]? = some (cell.setSlot (G.1.2 ci j) (am_rv ad x))) (z : H'.size = H.size) (oq : ∀ q : Nat, q ≠ ad r → H'[q]? = H[q]?) : am_A G (am_sR h r j x) ad H' := by
  obtain ⟨hin, hty, hnm, h8⟩ := am_cf hc
  have hap := va_apart (own := own') hts hin (am_ty ci) hty hnm hK hc
  refine am_A_upd hA hkr (by omega) (by omega) (fun q => rfl) (fun q => rfl) (fun q hq i => am_F_sR hq i) (am_lv_sR hA hx) z oq ?_
  unfold am_at
  rw [hk_sR, hkr]
  refine Or.inr (Or.inr ⟨by omega, _, by rw [Nat.add_sub_cancel]; exact hc, ?_⟩)
  rw [Nat.add_sub_cancel]
  refine t_OB.to (V := updV (am_F h ad r) j (am_rv ad x)) ⟨_, e1, q2, q3, t_set q4 hap hj _⟩ (fun i _ => ?_)
  rw [am_F_sR' (by omega) (by rw [hkr]; exact hf)]
theorem am_lay {C : String} {T : u_T} {N j : Nat} (hin : ∀ w ∈ u_ws C T N, w ∈ am_TG) (hj : j < N) {s : State} {args : Array Value} (hts : ∀ w ∈ am_TG, w.before args s = true) : (u_lay C T j).before args s = true := hts _ (hin _ (u_in_lay hj))
theorem am_putI (hC : am_OK Z own cc n L mc ms) {C : String} {T : u_T} {N ci idx j r : Nat} {ref : String} {x : Int32} (hc : am_cl[ci]? = some (C, T, N)) (hkr : hk_ h r = ci + 1) (hj : j < N) (hf : am_fi (ci + 1) j = true) (hfin : (T j).2.2.2 = false) (hty : am_ty ci j = .int) (hw : Cond.fieldLink own idx ref (T j).2.1 (T j).2.2.1 ∈ am_TG) (hs : ref = (T j).1 ∨ Cond.sameField ref (T j).1 (T j).2.1 (T j).2.2.1 ∈ am_TG)
    (hd : decode cc pc = .ok (.putfield idx, 3)) (k : am_W Z kc ks (pc + 3) ls st (am_sI h r j x)) : am_W Z kc ks pc ls (.int x :: .ref r :: st) h := by
  obtain ⟨G, p, l, e, R, s, m, args, below, meth, c, h0, ad0, n', Q⟩ := Z
  obtain ⟨rfl, ⟨hx, hb, hml, hown, hts⟩, hlk, hE, htr, hR1, hR2, hR3, hR4⟩ := hC
  refine fun ad H locs lc hA hS hX hl hvl hvs => ?_
  obtain ⟨hin, hty2, hnm, h8⟩ := am_cf hc
  obtain ⟨r0, -, -, hlo, -⟩ := am_own hA hkr (by omega) (by omega)
  obtain ⟨cell, q1, q2, q3, q4⟩ := am_obj hA hkr hc
  obtain ⟨hSl, hfc, kC, hkC, hkind⟩ := hE.2.2.1.1 ci _ hc
  obtain ⟨cf, kf, fi, f, hi, hsl⟩ := hSl j hj
  have hlay := am_lay hin hj hts
  unfold u_lay at hlay
  rw [if_neg (by rw [hfin]; decide)] at hlay
  have hst := (u_facts hfc hkC (u_lays hts hin hj) hi).1
  have h6 := u_store (v := .int x) hfc hkC hkind hlay hi (hty ▸ hty2 j hj) rfl rfl
  change W p l e R s m args below meth c H locs kc ks Q (F0 m pc lc (.int x :: am_rv ad r :: _))
  rw [am_rv_ref r0]
  refine W.putK hx hb (f := f) ⟨hown, hts _ hw, ⟨_, _, _, am_same hts hs _ hi⟩, hst⟩ (by rw [q2]; exact h6) q1 q3 (by rw [hsl]; exact k2_hasslot (q4 j hj)) rfl rfl hd fun H' e1 e2 e3 => ?_
  rw [hsl] at e1 ⊢
  exact k ad H' _ lc (am_objI (own' := own) hA hts hE.2.2.1 hc hkr hj hf q2 q3 q4 e1 e2 e3) (hS.put e2 e3 hlo) (am_X_sI hX) hl (am_Vs_k (fun _ => rfl) hvl) (am_Vs_k (fun _ => rfl) (am_Vt (am_Vt hvs)))
theorem am_putNI (hC : am_OK Z own cc n L mc ms) {C host : String} {T : u_T} {N ci idx j r : Nat} {x : Int32} (hc : am_cl[ci]? = some (C, T, N)) (hkr : hk_ h r = ci + 1) (hj : j < N) (hf : am_fi (ci + 1) j = true) (hfin : (T j).2.2.2 = false) (hty : am_ty ci j = .int) (hw : Cond.fieldLinkNest own idx (T j).1 (T j).2.1 (T j).2.2.1 host ∈ am_bw)
    (hd : decode cc pc = .ok (.putfield idx, 3)) (k : am_W Z kc ks (pc + 3) ls st (am_sI h r j x)) : am_W Z kc ks pc ls (.int x :: .ref r :: st) h := by
  obtain ⟨G, p, l, e, R, s, m, args, below, meth, c, h0, ad0, n', Q⟩ := Z
  obtain ⟨rfl, ⟨hx, hb, hml, hown, hts⟩, hlk, hE, htr, hR1, hR2, hR3, hR4⟩ := hC
  refine fun ad H locs lc hA hS hX hl hvl hvs => ?_
  obtain ⟨hin, hty2, hnm, h8⟩ := am_cf hc
  obtain ⟨r0, -, -, hlo, -⟩ := am_own hA hkr (by omega) (by omega)
  obtain ⟨cell, q1, q2, q3, q4⟩ := am_obj hA hkr hc
  obtain ⟨hSl, hfc, kC, hkC, hkind⟩ := hE.2.2.1.1 ci _ hc
  obtain ⟨cf, kf, fi, f, hi, hsl⟩ := hSl j hj
  have hlay := am_lay hin hj hts
  unfold u_lay at hlay
  rw [if_neg (by rw [hfin]; decide)] at hlay
  have hst := (u_facts hfc hkC (u_lays hts hin hj) hi).1
  have h6 := u_store (v := .int x) hfc hkC hkind hlay hi (hty ▸ hty2 j hj) rfl rfl
  change W p l e R s m args below meth c H locs kc ks Q (F0 m pc lc (.int x :: am_rv ad r :: _))
  rw [am_rv_ref r0]
  refine va_WputK hx hb (f := f) hown (va_Nw.use rfl (hE.1 _ hw)) hi hst (by rw [q2]; exact h6) q1 q3 (by rw [hsl]; exact k2_hasslot (q4 j hj)) rfl rfl hd fun H' e1 e2 e3 => ?_
  rw [hsl] at e1 ⊢
  exact k ad H' _ lc (am_objI (own' := own) hA hts hE.2.2.1 hc hkr hj hf q2 q3 q4 e1 e2 e3) (hS.put e2 e3 hlo) (am_X_sI hX) hl (am_Vs_k (fun _ => rfl) hvl) (am_Vs_k (fun _ => rfl) (am_Vt (am_Vt hvs)))
theorem am_putR (hC : am_OK Z own cc n L mc ms) {C : String} {T : u_T} {N ci idx j r x : Nat} {ref : String} {ty : FieldType} (hc : am_cl[ci]? = some (C, T, N)) (hkr : hk_ h r = ci + 1) (hj : j < N) (hf : am_fi (ci + 1) j = false) (hfin : (T j).2.2.2 = false) (hty : am_ty ci j = ty) (hr : (∃ c, ty = .object c) ∨ ∃ t, ty = .array t) (hw : Cond.fieldLink own idx ref (T j).2.1 (T j).2.2.1 ∈ am_TG) (hs : ref = (T j).1 ∨ Cond.sameField ref (T j).1 (T j).2.1 (T j).2.2.1 ∈ am_TG)
    (hd : decode cc pc = .ok (.putfield idx, 3)) (k : am_W Z kc ks (pc + 3) ls st (am_sR h r j x)) : am_W Z kc ks pc ls (.ref x :: .ref r :: st) h := by
  obtain ⟨G, p, l, e, R, s, m, args, below, meth, c, h0, ad0, n', Q⟩ := Z
  obtain ⟨rfl, ⟨hx, hb, hml, hown, hts⟩, hlk, hE, htr, hR1, hR2, hR3, hR4⟩ := hC
  refine fun ad H locs lc hA hS hX hl hvl hvs => ?_
  obtain ⟨hin, hty2, hnm, h8⟩ := am_cf hc
  obtain ⟨r0, -, -, hlo, -⟩ := am_own hA hkr (by omega) (by omega)
  obtain ⟨cell, q1, q2, q3, q4⟩ := am_obj hA hkr hc
  obtain ⟨hSl, hfc, kC, hkC, hkind⟩ := hE.2.2.1.1 ci _ hc
  obtain ⟨cf, kf, fi, f, hi, hsl⟩ := hSl j hj
  have hlay := am_lay hin hj hts
  unfold u_lay at hlay
  rw [if_neg (by rw [hfin]; decide)] at hlay
  have hst := (u_facts hfc hkC (u_lays hts hin hj) hi).1
  have h6 := u_store (v := am_rv ad x) hfc hkC hkind hlay hi (hty ▸ hty2 j hj) (am_rfit hr).1 (am_rfit hr).2
  have hvx : x = 0 ∨ hk_ h x ≠ 0 := am_Vh hvs
  change W p l e R s m args below meth c H locs kc ks Q (F0 m pc lc (am_rv ad x :: am_rv ad r :: _))
  rw [am_rv_ref r0]
  refine W.putK hx hb (f := f) ⟨hown, hts _ hw, ⟨_, _, _, am_same hts hs _ hi⟩, hst⟩ (by rw [q2]; exact h6) q1 q3 (by rw [hsl]; exact k2_hasslot (q4 j hj)) rfl rfl hd fun H' e1 e2 e3 => ?_
  rw [hsl] at e1 ⊢
  exact k ad H' _ lc (am_objR (own' := own) hA hts hE.2.2.1 hc hkr hj hf q2 q3 q4 hvx e1 e2 e3) (hS.put e2 e3 hlo) (am_X_sR hX) hl (am_Vs_k (fun _ => rfl) hvl) (am_Vs_k (fun _ => rfl) (am_Vt (am_Vt hvs)))
/-- a constructor's own final fields -/
def am_In (Z : am_Z) : Prop := Z.2.2.2.2.2.2.2.2.2.1.name = "<init>"
theorem am_fcls {s : State} {args : Array Value} {m : MethodId} {own' C : String} {T : u_T} {j : Nat} {cf fi : Nat} {kf : Class} {f : Field} (hown : s.vm.findClass own' = some m.cls) (hlay : (Cond.laysFinal C (T j).1 (T j).2.1 (T j).2.2.1).before args s = true) (hi : s.fieldFound? (T j).1 (T j).2.1 (T j).2.2.1 = some (cf, kf, fi, f)) (hdecl : (T j).1 = own') : m.cls = cf := by
  obtain ⟨_, _, c', _, _, _, -, -, hf', -, -, -, hown2, -⟩ := Cond.laysFinal_spec hlay
  have e1 : c' = cf := by have := hi.symm.trans hf'; simp at this; exact this.1.symm
  rw [hdecl] at hown2
  rw [← e1]
  exact Option.some.inj (hown.symm.trans hown2)
theorem am_putFI (hC : am_OK Z own cc n L mc ms) (hI : am_In Z) {C : String} {T : u_T} {N ci idx j r : Nat} {x : Int32} (hc : am_cl[ci]? = some (C, T, N)) (hkr : hk_ h r = ci + 1) (hj : j < N) (hf : am_fi (ci + 1) j = true) (hfin : (T j).2.2.2 = true) (hty : am_ty ci j = .int) (hdecl : (T j).1 = own) (hw : Cond.fieldLink own idx (T j).1 (T j).2.1 (T j).2.2.1 ∈ am_TG)
    (hd : decode cc pc = .ok (.putfield idx, 3)) (k : am_W Z kc ks (pc + 3) ls st (am_sI h r j x)) : am_W Z kc ks pc ls (.int x :: .ref r :: st) h := by
  obtain ⟨G, p, l, e, R, s, m, args, below, meth, c, h0, ad0, n', Q⟩ := Z
  obtain ⟨rfl, ⟨hx, hb, hml, hown, hts⟩, hlk, hE, htr, hR1, hR2, hR3, hR4⟩ := hC
  refine fun ad H locs lc hA hS hX hl hvl hvs => ?_
  obtain ⟨hin, hty2, hnm, h8⟩ := am_cf hc
  obtain ⟨r0, -, -, hlo, -⟩ := am_own hA hkr (by omega) (by omega)
  obtain ⟨cell, q1, q2, q3, q4⟩ := am_obj hA hkr hc
  obtain ⟨hSl, hfc, kC, hkC, hkind⟩ := hE.2.2.1.1 ci _ hc
  obtain ⟨cf, kf, fi, f, hi, hsl⟩ := hSl j hj
  have hlay := am_lay hin hj hts
  unfold u_lay at hlay
  rw [if_pos hfin] at hlay
  have hst := (u_facts hfc hkC (u_lays hts hin hj) hi).1
  have h6 := u_fits (v := .int x) hfc hkC hkind (Or.inr hlay) hi (hty ▸ hty2 j hj) rfl rfl
  change W p l e R s m args below meth c H locs kc ks Q (F0 m pc lc (.int x :: am_rv ad r :: _))
  rw [am_rv_ref r0]
  refine W.putFinK hx hb hown (hts _ hw) hi hst (am_fcls hown hlay hi hdecl) hI (by rw [q2]; exact h6) q1 q3 (by rw [hsl]; exact k2_hasslot (q4 j hj)) rfl rfl hd fun H' e1 e2 e3 => ?_
  rw [hsl] at e1 ⊢
  exact k ad H' _ lc (am_objI (own' := own) hA hts hE.2.2.1 hc hkr hj hf q2 q3 q4 e1 e2 e3) (hS.put e2 e3 hlo) (am_X_sI hX) hl (am_Vs_k (fun _ => rfl) hvl) (am_Vs_k (fun _ => rfl) (am_Vt (am_Vt hvs)))
theorem am_putFR (hC : am_OK Z own cc n L mc ms) (hI : am_In Z) {C : String} {T : u_T} {N ci idx j r x : Nat} {ty : FieldType} (hc : am_cl[ci]? = some (C, T, N)) (hkr : hk_ h r = ci + 1) (hj : j < N) (hf : am_fi (ci + 1) j = false) (hfin : (T j).2.2.2 = true) (hty : am_ty ci j = ty) (hr : (∃ c, ty = .object c) ∨ ∃ t, ty = .array t) (hdecl : (T j).1 = own) (hw : Cond.fieldLink own idx (T j).1 (T j).2.1 (T j).2.2.1 ∈ am_TG)
    (hd : decode cc pc = .ok (.putfield idx, 3)) (k : am_W Z kc ks (pc + 3) ls st (am_sR h r j x)) : am_W Z kc ks pc ls (.ref x :: .ref r :: st) h := by
  obtain ⟨G, p, l, e, R, s, m, args, below, meth, c, h0, ad0, n', Q⟩ := Z
  obtain ⟨rfl, ⟨hx, hb, hml, hown, hts⟩, hlk, hE, htr, hR1, hR2, hR3, hR4⟩ := hC
  refine fun ad H locs lc hA hS hX hl hvl hvs => ?_
  obtain ⟨hin, hty2, hnm, h8⟩ := am_cf hc
  obtain ⟨r0, -, -, hlo, -⟩ := am_own hA hkr (by omega) (by omega)
  obtain ⟨cell, q1, q2, q3, q4⟩ := am_obj hA hkr hc
  obtain ⟨hSl, hfc, kC, hkC, hkind⟩ := hE.2.2.1.1 ci _ hc
  obtain ⟨cf, kf, fi, f, hi, hsl⟩ := hSl j hj
  have hlay := am_lay hin hj hts
  unfold u_lay at hlay
  rw [if_pos hfin] at hlay
  have hst := (u_facts hfc hkC (u_lays hts hin hj) hi).1
  have h6 := u_fits (v := am_rv ad x) hfc hkC hkind (Or.inr hlay) hi (hty ▸ hty2 j hj) (am_rfit hr).1 (am_rfit hr).2
  have hvx : x = 0 ∨ hk_ h x ≠ 0 := am_Vh hvs
  change W p l e R s m args below meth c H locs kc ks Q (F0 m pc lc (am_rv ad x :: am_rv ad r :: _))
  rw [am_rv_ref r0]
  refine W.putFinK hx hb hown (hts _ hw) hi hst (am_fcls hown hlay hi hdecl) hI (by rw [q2]; exact h6) q1 q3 (by rw [hsl]; exact k2_hasslot (q4 j hj)) rfl rfl hd fun H' e1 e2 e3 => ?_
  rw [hsl] at e1 ⊢
  exact k ad H' _ lc (am_objR (own' := own) hA hts hE.2.2.1 hc hkr hj hf q2 q3 q4 hvx e1 e2 e3) (hS.put e2 e3 hlo) (am_X_sR hX) hl (am_Vs_k (fun _ => rfl) hvl) (am_Vs_k (fun _ => rfl) (am_Vt (am_Vt hvs)))
end AMH
