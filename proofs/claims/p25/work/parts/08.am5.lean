/-! ===== new things, statics, class objects ===== -/
theorem am_df {ci : Nat} {C : String} {T : u_T} {N : Nat} (hc : am_cl[ci]? = some (C, T, N)) : ∀ j, j < N → defaultValue (am_ty ci j) = if am_fi (ci + 1) j = true then Value.int 0 else .null := by
  match ci, hc with
  | 0, hc => cases hc; intro j hj; rcases (by omega : j = 0 ∨ j = 1 ∨ j = 2) with rfl | rfl | rfl <;> rfl
  | 1, hc => cases hc; intro j hj; rcases (by omega : j = 0 ∨ j = 1 ∨ j = 2 ∨ j = 3 ∨ j = 4) with rfl | rfl | rfl | rfl | rfl <;> rfl
  | 2, hc => cases hc; intro j hj; rcases (by omega : j = 0 ∨ j = 1 ∨ j = 2 ∨ j = 3) with rfl | rfl | rfl | rfl <;> rfl
  | 3, hc => cases hc; intro j hj; rcases (by omega : j = 0 ∨ j = 1) with rfl | rfl <;> rfl
  | 4, hc => cases hc; intro j hj; rcases (by omega : j = 0 ∨ j = 1 ∨ j = 2) with rfl | rfl | rfl <;> rfl
  | 5, hc => cases hc; intro j hj; rcases (by omega : j = 0 ∨ j = 1) with rfl | rfl <;> rfl
  | 6, hc => cases hc; intro j hj; rcases (by omega : j = 0 ∨ j = 1 ∨ j = 2 ∨ j = 3) with rfl | rfl | rfl | rfl <;> rfl
  | k + 7, hc => simp [am_cl] at hc
theorem am_le_new {h : am_H} {r k n : Nat} (h0 : hk_ h r = 0) : am_le h (am_new h r k n) := fun q hq => by
  have e : q ≠ r := fun e => hq (by rw [e]; exact h0)
  rw [hk_new, hn_new, if_neg e, if_neg e]
  exact ⟨rfl, rfl⟩
theorem am_F_new {G : am_G} {h : am_H} {ad : Nat → Nat} {H : Heap} (hA : am_A G h ad H) {r k n a q : Nat} (h0 : hk_ h r = 0) (r0 : r ≠ 0) (hq : hk_ h q ≠ 0) (j : Nat) : am_F (am_new h r k n) (am_u1 ad r a) q j = am_F h ad q j := by
  have e : q ≠ r := fun e => hq (by rw [e]; exact h0)
  unfold am_F
  rw [hk_new, hl_new, hi_new, hr_new, if_neg e, if_neg e, if_neg e, if_neg e]
  have e2 : am_rv (am_u1 ad r a) (hr_ h q j) = am_rv ad (hr_ h q j) := by
    unfold am_rv
    rcases hA.2.2.2.2 q j hq with e3 | e3
    · rw [if_pos e3, if_pos e3]
    · have e4 : hr_ h q j ≠ r := fun e => e3 (by rw [e]; exact h0)
      unfold am_u1
      rw [if_neg e4]
  rw [e2]
theorem am_F_new' {h : am_H} {ad : Nat → Nat} {r k n : Nat} (j : Nat) : am_F (am_new h r k n) ad r j = if k = 13 then .long 0 else if am_fi k j = true then .int 0 else .null := by
  unfold am_F
  rw [hk_new, hl_new, hi_new, hr_new, if_pos rfl, if_pos rfl, if_pos rfl, if_pos rfl]
  rfl
theorem am_A_new {G : am_G} {h : am_H} {ad : Nat → Nat} {H H' : Heap} {r k n : Nat} (hA : am_A G h ad H) (hlo : G.2.2.1 ≤ H.size) (he0 : G.2.2.2.1 < G.2.2.1) (h0 : hk_ h r = 0) (r0 : r ≠ 0) (hk0 : 0 < k) (hk14 : k < 14) (z : H'.size = H.size + 1) (oq : ∀ q : Nat, q < H.size → H'[q]? = H[q]?)
    (hat : am_atk G k n (fun j => if k = 13 then .long 0 else if am_fi k j = true then .int 0 else .null) H.size H') : am_A G (am_new h r k n) (am_u1 ad r H.size) H' := by
  have hA' := hA
  obtain ⟨⟨z0, z1, z2, z3, z4, z5⟩, a1, a2, a3, a4⟩ := hA
  have r1 : r ≠ 1 := fun e => by rw [e, z1] at h0; omega
  have r2 : r ≠ 2 := fun e => by rw [e, z2] at h0; omega
  have up : ∀ q, q ≠ r → am_u1 ad r H.size q = ad q := fun q e => if_neg e
  have us : am_u1 ad r H.size r = H.size := if_pos rfl
  have ne : ∀ q, hk_ h q ≠ 0 → q ≠ r := fun q hq e => hq (by rw [e]; exact h0)
  have hlt : ∀ q, hk_ h q ≠ 0 → q ≠ 2 → ad q < H.size := fun q hq e2 => by
    rcases a2 q hq with e | e | ⟨-, e, -⟩ | ⟨-, e⟩
    · rw [e, z4]; omega
    · exact absurd e e2
    · exact e
    · omega
  refine ⟨⟨?_, ?_, ?_, ?_, ?_, ?_⟩, fun q hq => ?_, fun q hq => ?_, fun q p hq hp => ?_, fun q j hq => ?_⟩
  · rw [hk_new, if_neg (Ne.symm r0)]; exact z0
  · rw [hk_new, if_neg (Ne.symm r1)]; exact z1
  · rw [hk_new, if_neg (Ne.symm r2)]; exact z2
  · rw [hn_new, if_neg (Ne.symm r1)]; exact z3
  · rw [up 1 (Ne.symm r1)]; exact z4
  · rw [up 2 (Ne.symm r2)]; exact z5
  · by_cases e : q = r
    · rw [e]
      unfold am_at
      rw [us, hk_new, hn_new, if_pos rfl, if_pos rfl]
      rw [funext (am_F_new' (h := h) (ad := am_u1 ad r H.size) (r := r) (k := k) (n := n))]
      exact hat
    · rw [hk_new, if_neg e] at hq
      by_cases e2 : q = 2
      · exact Or.inl (Or.inr (by rw [hk_new, if_neg e, e2]; exact z2))
      · exact am_at_kept (by rw [hk_new, if_neg e]) (by rw [hn_new, if_neg e]) (am_F_new hA' h0 r0 hq) (up q e) (oq _ (hlt q hq e2)) (a1 q hq)
  · by_cases e : q = r
    · refine Or.inr (Or.inr (Or.inl ?_))
      rw [e, us, hk_new, if_pos rfl, z]
      exact ⟨hlo, by omega, hk14⟩
    · rw [hk_new, if_neg e] at hq ⊢
      rw [up q e, z]
      rcases a2 q hq with h | h | ⟨h1, h2, h3⟩ | h
      · exact Or.inl h
      · exact Or.inr (Or.inl h)
      · exact Or.inr (Or.inr (Or.inl ⟨h1, by omega, h3⟩))
      · exact Or.inr (Or.inr (Or.inr h))
  · rw [hk_new] at hq hp
    intro q2 p2 e
    by_cases e1 : q = r
    · by_cases e3 : p = r
      · rw [e1, e3]
      · rw [if_neg e3] at hp
        rw [e1, us, up p e3] at e
        have := hlt p hp p2
        omega
    · rw [if_neg e1] at hq
      by_cases e3 : p = r
      · rw [e3, us, up q e1] at e
        have := hlt q hq q2
        omega
      · rw [if_neg e3] at hp
        rw [up q e1, up p e3] at e
        exact a3 q p hq hp q2 p2 e
  · rw [hr_new]
    by_cases e : q = r
    · rw [if_pos e]; exact Or.inl rfl
    · rw [hk_new, if_neg e] at hq
      rw [if_neg e]
      rcases a4 q j hq with h | h
      · exact Or.inl h
      · refine Or.inr ?_
        rw [hk_new, if_neg (ne _ h)]
        exact h
theorem am_X_new {G : am_G} {h0 h : am_H} {ad0 ad : Nat → Nat} {r k n a : Nat} (hX : am_X h0 ad0 h ad) (h0' : hk_ h r = 0) : am_X h0 ad0 (am_new h r k n) (am_u1 ad r a) := am_X_tr hX ⟨am_le_new h0', fun q hq => if_neg (fun e => hq (by rw [e]; exact h0'))⟩
theorem am_e0 {G : am_G} {s : State} (hE : am_E G s) : G.2.2.2.1 < G.2.2.1 := by
  obtain ⟨f, hT⟩ := hE.2.2.2.2.2.2.1
  exact Nat.not_le.mp hT.out
section AMN
variable {Z : am_Z} {own : String} {cc : ByteArray} {n L mc ms : Nat} {kc ks pc : Nat} {ls st : List Value} {h : am_H}
theorem am_newO (hC : am_OK Z own cc n L mc ms) {C : String} {T : u_T} {N ci idx : Nat} (r : Nat) (hc : am_cl[ci]? = some (C, T, N)) (h0' : hk_ h r = 0) (r0 : r ≠ 0) (hw1 : Cond.classLink own idx C ∈ am_TG) (hw2 : Cond.instantiable C N ∈ am_TG) (hw3 : Cond.initialized C ∈ am_TG) (hcells : kc + 1 ≤ mc) (hslots : ks + N ≤ ms)
    (hd : decode cc pc = .ok (.new idx, 3)) (k : am_W Z (kc + 1) (ks + N) (pc + 3) ls (.ref r :: st) (am_new h r (ci + 1) 0)) : am_W Z kc ks pc ls st h := by
  obtain ⟨G, p, l, e, R, s, m, args, below, meth, c, h0, ad0, n', Q⟩ := Z
  obtain ⟨rfl, ⟨hx, hb, hml, hown, hts⟩, hlk, hE, htr, hR1, hR2, hR3, hR4⟩ := hC
  refine fun ad H locs lc hA hS hX hl hvl hvs => ?_
  obtain ⟨hin, hty, hnm, h8⟩ := am_cf hc
  have hKn := hE.2.2.1.1 ci _ hc
  have hlo : G.2.2.1 ≤ H.size := Nat.le_trans hE.2.2.2.2.2.2.2.2 hS.1
  refine W.newcK hx hb hown (hts _ hw1) (hts _ hw2) (hts _ hw3) rfl hd (by omega) (by omega) hKn.2.1 rfl fun H1 kC hkC e1 z1 o1 => ?_
  have hA1 : am_A G (am_new h r (ci + 1) 0) (am_u1 ad r H.size) H1 := by
    refine am_A_new hA hlo (am_e0 hE) h0' r0 (by omega) (by omega) z1 o1 (Or.inr (Or.inr ⟨by omega, _, by rw [Nat.add_sub_cancel]; exact hc, ?_⟩))
    rw [Nat.add_sub_cancel]
    refine (u_born (am_ty ci) hts hin hKn hkC e1 hty).to (fun j hj => ?_)
    rw [am_df hc j hj, if_neg (by omega : ¬ ci + 1 = 13)]
  have hle := am_le_new (k := ci + 1) (n := 0) h0'
  have he : ∀ q, hk_ h q ≠ 0 → am_u1 ad r H.size q = ad q := fun q hq => if_neg (fun e => hq (by rw [e]; exact h0'))
  have k9 := k _ H1 locs lc hA1 ⟨Nat.le_trans hS.1 (by omega), fun q g1 g2 => (o1 q (Nat.lt_of_lt_of_le g1 hS.1)).trans (hS.2.1 q g1 g2), hS.2.2⟩ (am_X_new (G := G) hX h0') (am_L_ad he hl hvl) (am_Vs_le (fun q hq => (hle q hq).1) hvl)
    (am_Vc (Or.inr (by rw [hk_new, if_pos rfl]; omega)) (am_Vs_le (fun q hq => (hle q hq).1) hvs))
  rw [List.map_cons, am_map_ad he hvs] at k9
  change W p l e R s m args below meth c H1 locs _ _ Q (F0 m _ lc (am_rv (am_u1 ad r H.size) r :: _)) at k9
  rw [am_rv_ref r0, show am_u1 ad r H.size r = H.size from if_pos rfl] at k9
  exact k9
theorem am_newarr {G : am_G} {p : Program} {l : Launch} {e : Env} {R : Room} {s : State} {m : MethodId} {args : Array Value} {below : List Frame} {meth : Method} {c : Code} {h0 : am_H} {ad0 : Nat → Nat} {n' : Nat} {Q : State → Prop} (hE : am_E G s) {r kk N len : Nat} (h0' : hk_ h r = 0) (r0 : r ≠ 0) (hkk : 9 ≤ kk ∧ kk ≤ 13) {v0 : Value} (hv0 : ∀ j, (if kk = 13 then Value.long 0 else if am_fi kk j = true then .int 0 else .null) = v0)
    (k : am_W (G, p, l, e, R, s, m, args, below, meth, c, h0, ad0, n', Q) (kc + 1) (ks + N) (pc + len) ls (.ref r :: st) (am_new h r kk N)) {ad : Nat → Nat} {H H1 : Heap} {locs : List Loc} {lc : Array Slot} (hA : am_A G h ad H) (hS : va_S (am_lo G) s.heap H locs) (hX : am_X h0 ad0 h ad) (hl : am_L ad n' ls lc) (hvl : am_Vs h ls) (hvs : am_Vs h st)
    (z1 : H1.size = H.size + 1) (o1 : ∀ q : Nat, q < H.size → H1[q]? = H[q]?) (e1 : H1[H.size]? = some (arrV (G.2.1 (kk - 9)) N (fun _ => v0))) : W p l e R s m args below meth c H1 locs (kc + 1) (ks + N) Q (F0 m (pc + len) lc (.ref H.size :: st.map (am_cv ad))) := by
  have hlo : G.2.2.1 ≤ H.size := Nat.le_trans hE.2.2.2.2.2.2.2.2 hS.1
  have hA1 : am_A G (am_new h r kk N) (am_u1 ad r H.size) H1 := by
    refine am_A_new hA hlo (am_e0 hE) h0' r0 (by omega) (by omega) z1 o1 (Or.inr (Or.inl ⟨by omega, by omega, ?_⟩))
    rw [e1, funext hv0]
  have hle := am_le_new (k := kk) (n := N) h0'
  have he : ∀ q, hk_ h q ≠ 0 → am_u1 ad r H.size q = ad q := fun q hq => if_neg (fun e => hq (by rw [e]; exact h0'))
  have k9 := k _ H1 locs lc hA1 ⟨Nat.le_trans hS.1 (by omega), fun q g1 g2 => (o1 q (Nat.lt_of_lt_of_le g1 hS.1)).trans (hS.2.1 q g1 g2), hS.2.2⟩ (am_X_new (G := G) hX h0') (am_L_ad he hl hvl) (am_Vs_le (fun q hq => (hle q hq).1) hvl)
    (am_Vc (Or.inr (by rw [hk_new, if_pos rfl]; omega)) (am_Vs_le (fun q hq => (hle q hq).1) hvs))
  rw [List.map_cons, am_map_ad he hvs] at k9
  change W p l e R s m args below meth c H1 locs _ _ Q (F0 m _ lc (am_rv (am_u1 ad r H.size) r :: _)) at k9
  rw [am_rv_ref r0, show am_u1 ad r H.size r = H.size from if_pos rfl] at k9
  exact k9
theorem am_newA (hC : am_OK Z own cc n L mc ms) {at_ : ArrayType} {kk N : Nat} {i : Int32} (r : Nat) (hk' : (at_ = .int ∧ kk = 9) ∨ (at_ = .boolean ∧ kk = 10)) (h0' : hk_ h r = 0) (r0 : r ≠ 0) (hi : i = nI N) (hN : N ≤ 4096) (hw : Cond.arrayClass (newarray.typeOf at_) ∈ am_TG) (hcells : kc + 1 ≤ mc) (hslots : ks + N ≤ ms)
    (hd : decode cc pc = .ok (.newarray at_, 2)) (k : am_W Z (kc + 1) (ks + N) (pc + 2) ls (.ref r :: st) (am_new h r kk N)) : am_W Z kc ks pc ls (.int i :: st) h := by
  obtain ⟨G, p, l, e, R, s, m, args, below, meth, c, h0, ad0, n', Q⟩ := Z
  obtain ⟨rfl, ⟨hx, hb, hml, hown, hts⟩, hlk, hE, htr, hR1, hR2, hR3, hR4⟩ := hC
  refine fun ad H locs lc hA hS hX hl hvl hvs => ?_
  subst hi
  have hi2 : (nI N).toNatClampNeg = N := nI_clamp (by omega)
  change W p l e R s m args below meth c H locs kc ks Q (F0 m pc lc (.int (nI N) :: _))
  refine va_newaK hx hb (hts _ hw) rfl hd rfl (nI_pos (by omega)) hi2 (by rcases hk' with ⟨rfl, -⟩ | ⟨rfl, -⟩ <;> simp [newarray.typeOf, componentBytes] <;> omega) (by omega) (by omega) rfl fun H1 cA e1 z1 o1 hAr hNm => ?_
  rcases hk' with ⟨rfl, rfl⟩ | ⟨rfl, rfl⟩
  · have ec : cA = G.2.1 0 := Option.some.inj (hNm.symm.trans (hE.2.2.1.2 0 _ rfl).2)
    subst ec
    exact am_newarr hE h0' r0 (by omega) (fun _ => rfl) k hA hS hX hl hvl (am_Vt hvs) z1 o1 e1
  · have ec : cA = G.2.1 1 := Option.some.inj (hNm.symm.trans (hE.2.2.1.2 1 _ rfl).2)
    subst ec
    exact am_newarr hE h0' r0 (by omega) (fun _ => rfl) k hA hS hX hl hvl (am_Vt hvs) z1 o1 e1
theorem am_newQ (hC : am_OK Z own cc n L mc ms) {C : String} {idx kk N : Nat} {i : Int32} (r : Nat) (hk' : (C = "HousePlans$Drawing" ∧ kk = 11) ∨ (C = "java/lang/Object" ∧ kk = 12)) (h0' : hk_ h r = 0) (r0 : r ≠ 0) (hi : i = nI N) (hN : N ≤ 4096) (hw1 : Cond.classLink own idx C ∈ am_TG) (hw2 : Cond.arrayOver (.object C) ∈ am_bw) (hcells : kc + 1 ≤ mc) (hslots : ks + N ≤ ms)
    (hd : decode cc pc = .ok (.anewarray idx, 3)) (k : am_W Z (kc + 1) (ks + N) (pc + 3) ls (.ref r :: st) (am_new h r kk N)) : am_W Z kc ks pc ls (.int i :: st) h := by
  obtain ⟨G, p, l, e, R, s, m, args, below, meth, c, h0, ad0, n', Q⟩ := Z
  obtain ⟨rfl, ⟨hx, hb, hml, hown, hts⟩, hlk, hE, htr, hR1, hR2, hR3, hR4⟩ := hC
  refine fun ad H locs lc hA hS hX hl hvl hvs => ?_
  subst hi
  have hi2 : (nI N).toNatClampNeg = N := nI_clamp (by omega)
  change W p l e R s m args below meth c H locs kc ks Q (F0 m pc lc (.int (nI N) :: _))
  refine W.anew hx hb hown (hts _ hw1) (va_AO.use (hE.1 _ hw2)) rfl hd rfl (nI_pos (by omega)) (by rw [hi2]; omega) (by omega) (by rw [hi2]; omega) fun cA kA comp f1 f2 f3 f4 => ?_
  rw [hi2]
  generalize hH1 : H.push ({ cls := cA, slots := Array.replicate N .null, vm := .none } : Cell) = H1
  have z1 : H1.size = H.size + 1 := by rw [← hH1, Array.size_push]
  have e1 : H1[H.size]? = some (arrV cA N (fun _ => .null)) := by rw [← hH1, Array.getElem?_push_size, ← arrV_new]
  have o1 : ∀ q : Nat, q < H.size → H1[q]? = H[q]? := fun q hq => by rw [← hH1, Array.getElem?_push, if_neg (Nat.ne_of_lt hq)]
  rcases hk' with ⟨rfl, rfl⟩ | ⟨rfl, rfl⟩
  · obtain ⟨_, _, -, -, -, g4⟩ := (hE.2.2.1.2 2 _ rfl).2
    have ec : cA = G.2.1 2 := Option.some.inj (f1.symm.trans g4)
    subst ec
    exact am_newarr hE h0' r0 (by omega) (fun _ => rfl) k hA hS hX hl hvl (am_Vt hvs) z1 o1 e1
  · obtain ⟨_, _, -, -, -, g4⟩ := (hE.2.2.1.2 3 _ rfl).2
    have ec : cA = G.2.1 3 := Option.some.inj (f1.symm.trans g4)
    subst ec
    exact am_newarr hE h0' r0 (by omega) (fun _ => rfl) k hA hS hX hl hvl (am_Vt hvs) z1 o1 e1
/-- the empty table of lists -/
theorem am_gets (hC : am_OK Z own cc n L mc ms) {idx : Nat} (hw : Cond.fieldLink own idx "java/util/ArrayList" "DEFAULTCAPACITY_EMPTY_ELEMENTDATA" "[Ljava/lang/Object;" ∈ am_TG) (hd : decode cc pc = .ok (.getstatic idx, 3)) (k : am_W Z kc ks (pc + 3) ls (.ref 1 :: st) h) : am_W Z kc ks pc ls st h := by
  obtain ⟨G, p, l, e, R, s, m, args, below, meth, c, h0, ad0, n', Q⟩ := Z
  obtain ⟨rfl, ⟨hx, hb, hml, hown, hts⟩, hlk, hE, htr, hR1, hR2, hR3, hR4⟩ := hC
  refine fun ad H locs lc hA hS hX hl hvl hvs => ?_
  have k9 := k ad H locs lc hA hS hX hl hvl (am_Vc (Or.inr (by rw [hA.1.2.1]; decide)) hvs)
  rw [List.map_cons] at k9
  change W p l e R s m args below meth c H locs kc ks Q (F0 m _ lc (am_rv ad 1 :: _)) at k9
  rw [am_rv_ref (by decide), hA.1.2.2.2.2.1] at k9
  exact va_gets hx hb hE.2.2.2.2.2.1 hS hown (hts _ hw) (fun _ q => q) hd k9
/-- the class object of Object[] -/
theorem am_ldcM (hC : am_OK Z own cc n L mc ms) {idx : Nat} (hw : Cond.classLink own idx "[Ljava/lang/Object;" ∈ am_TG) (hd : decode cc pc = .ok (.ldc idx, 2)) (k : am_W Z kc ks (pc + 2) ls (.ref 2 :: st) h) : am_W Z kc ks pc ls st h := by
  obtain ⟨G, p, l, e, R, s, m, args, below, meth, c, h0, ad0, n', Q⟩ := Z
  obtain ⟨rfl, ⟨hx, hb, hml, hown, hts⟩, hlk, hE, htr, hR1, hR2, hR3, hR4⟩ := hC
  refine fun ad H locs lc hA hS hX hl hvl hvs => ?_
  have k9 := k ad H locs lc hA hS hX hl hvl (am_Vc (Or.inr (by rw [hA.1.2.2.1]; decide)) hvs)
  rw [List.map_cons] at k9
  change W p l e R s m args below meth c H locs kc ks Q (F0 m _ lc (am_rv ad 2 :: _)) at k9
  rw [am_rv_ref (by decide), hA.1.2.2.2.2.2] at k9
  exact va_ldcM hx hb hown (hts _ hw) hE.2.2.2.2.2.2.2.1 hd k9
theorem am_getC (hC : am_OK Z own cc n L mc ms) {idx r : Nat} (hkr : hk_ h r = 12) (hw : Cond.methodLink own idx ⟨"java/lang/Object", "getClass", "()Ljava/lang/Class;"⟩ ∈ am_TG) (hw2 : Cond.declares ⟨"java/lang/Object", "getClass", "()Ljava/lang/Class;"⟩ ∈ am_bw) (hw3 : Cond.selects "[Ljava/lang/Object;" ⟨"java/lang/Object", "getClass", "()Ljava/lang/Class;"⟩ ⟨"java/lang/Object", "getClass", "()Ljava/lang/Class;"⟩ ∈ am_TG) (hw4 : Cond.instanceMethod ⟨"java/lang/Object", "getClass", "()Ljava/lang/Class;"⟩ ∈ am_TG) (hw5 : Cond.native ⟨"java/lang/Object", "getClass", "()Ljava/lang/Class;"⟩ ∈ am_TG) (hL : 1 ≤ L) (hst : st.all am_s1 = true ∧ st.length ≤ 8)
    (hd : decode cc pc = .ok (.invokevirtual idx, 3)) (k : am_W Z kc ks (pc + 3) ls (.ref 2 :: st) h) : am_W Z kc ks pc ls (.ref r :: st) h := by
  obtain ⟨G, p, l, e, R, s, m, args, below, meth, c, h0, ad0, n', Q⟩ := Z
  obtain ⟨rfl, ⟨hx, hb, hml, hown, hts⟩, hlk, hE, htr, hR1, hR2, hR3, hR4⟩ := hC
  refine fun ad H locs lc hA hS hX hl hvl hvs => ?_
  have k9 := k ad H locs lc hA hS hX hl hvl (am_Vc (Or.inr (by rw [hA.1.2.2.1]; decide)) (am_Vt hvs))
  rw [List.map_cons] at k9
  change W p l e R s m args below meth c H locs kc ks Q (F0 m _ lc (am_rv ad 2 :: _)) at k9
  rw [am_rv_ref (by decide), hA.1.2.2.2.2.2] at k9
  obtain ⟨r0, -⟩ := am_own hA hkr (by omega) (by omega)
  have hcat : ((st.map (am_cv ad)).map fun v => v.category).sum ≤ 8 := by
    obtain ⟨g1, g2⟩ := hst
    have : ∀ vs : List Value, vs.all am_s1 = true → ((vs.map (am_cv ad)).map fun v => v.category).sum = vs.length := by
      intro vs
      induction vs with
      | nil => intro _; rfl
      | cons v vs ih =>
        intro hv
        rw [List.all_cons, Bool.and_eq_true] at hv
        rw [List.map_cons, List.map_cons, List.sum_cons, ih hv.2, am_cat ad hv.1, List.length_cons]
        omega
    rw [this st g1]
    exact g2
  change W p l e R s m args below meth c H locs kc ks Q (F0 m pc lc (am_rv ad r :: _))
  rw [am_rv_ref r0]
  exact va_getC hx hb (hml.trans hl.1.symm) hown (hts _ hw) (va_Nw.use rfl (hE.1 _ hw2)) (hts _ hw3) (hts _ hw4) (hts _ hw5) hE.2.2.2.2.2.2.2.1 ⟨_, am_arr (k := 3) hA hkr (by omega), rfl, va_nmO (hE.2.2.1.2 3 _ rfl).2 rfl⟩ (by omega) (by omega) hd k9
end AMN
