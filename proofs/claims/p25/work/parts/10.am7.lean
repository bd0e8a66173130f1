/-! ===== ends and calls ===== -/
theorem am_catS {ad : Nat → Nat} : ∀ {vs : List Value}, vs.all am_s1 = true → ((vs.map (am_cv ad)).map fun v => v.category).sum = vs.length
  | [], _ => rfl
  | v :: vs, hv => by
    rw [List.all_cons, Bool.and_eq_true] at hv
    rw [List.map_cons, List.map_cons, List.sum_cons, am_catS hv.2, am_cat ad hv.1, List.length_cons]
    omega
theorem am_gi {ws : List Cond} (h : ∀ w ∈ ws, w ∈ am_TG) : GoodIn am_TG ws := fun w hw => ⟨h w hw, good_of_word (am_good w (h w hw))⟩
theorem am_gi' {w0 : Cond} (h : w0 ∈ am_TG) : GoodIn am_TG (w0 :: am_TG) := am_gi (fun w hw => (List.mem_cons.mp hw).elim (fun e => by rw [e]; exact h) id)
/-- what the tables say of a method that is called on an object, by its name -/
def am_mV (y : MethodName) (cc : ByteArray) (n : Nat) (ret : Option FieldType) (na : Nat) : Prop :=
  Cond.instanceMethod y ∈ am_TG ∧ Cond.selects y.cls y y ∈ am_TG ∧ Cond.initialized y.cls ∈ am_TG ∧ Cond.code y cc n ret ∈ am_TG ∧ (y.cls ≠ "java/lang/invoke/MethodHandle" ∧ y.cls ≠ "java/lang/invoke/VarHandle" ∧ (parseMethodDescriptor y.desc).map (fun d => d.parameters.length) = some na)
def am_mS (y : MethodName) (cc : ByteArray) (n : Nat) (ret : Option FieldType) (na : Nat) : Prop :=
  Cond.static y ∈ am_TG ∧ Cond.initialized y.cls ∈ am_TG ∧ Cond.code y cc n ret ∈ am_TG ∧ (y.cls ≠ "java/lang/invoke/MethodHandle" ∧ y.cls ≠ "java/lang/invoke/VarHandle" ∧ (parseMethodDescriptor y.desc).map (fun d => d.parameters.length) = some na)
def am_mI (y : MethodName) (cc : ByteArray) (n : Nat) (na : Nat) : Prop :=
  y.name = "<init>" ∧ Cond.instanceMethod y ∈ am_TG ∧ Cond.initialized y.cls ∈ am_TG ∧ Cond.code y cc n none ∈ am_TG ∧ (y.cls ≠ "java/lang/invoke/MethodHandle" ∧ y.cls ≠ "java/lang/invoke/VarHandle" ∧ (parseMethodDescriptor y.desc).map (fun d => d.parameters.length) = some na)
def am_mW (y : MethodName) (cc : ByteArray) (n : Nat) (ret : Option FieldType) (hh : List (Nat × Nat × Nat × Nat)) (na : Nat) : Prop :=
  Cond.static y ∈ am_TG ∧ Cond.initialized y.cls ∈ am_TG ∧ Cond.codeWith y cc n ret hh ∈ am_TG ∧ (y.cls ≠ "java/lang/invoke/MethodHandle" ∧ y.cls ≠ "java/lang/invoke/VarHandle" ∧ (parseMethodDescriptor y.desc).map (fun d => d.parameters.length) = some na)
section AMR
variable {Z : am_Z} {own : String} {cc : ByteArray} {n L mc ms : Nat} {kc ks pc : Nat} {ls st : List Value} {h : am_H} {hh : List (Nat × Nat × Nat × Nat)} {P : Option Value → am_H → Prop} {E : String → am_H → Prop}
theorem am_iret (hC : am_OK Z own cc n L mc ms) {ty : FieldType} {x : Int32} (hR : am_Rt Z (some ty) hh P E mc ms) (hx1 : narrow ty (.int x) = .int x) (hkc : kc ≤ mc) (hks : ks ≤ ms) (hd : decode cc pc = .ok (.ireturn, 1)) (hP : P (some (.int x)) h) : am_W Z kc ks pc ls [.int x] h := by
  obtain ⟨G, p, l, e, R, s, m, args, below, meth, c, h0, ad0, n', Q⟩ := Z
  obtain ⟨rfl, ⟨hx, hb, hml, hown, hts⟩, hlk, hE, htr, hR1, hR2, hR3, hR4⟩ := hC
  obtain ⟨hr, rfl, htb⟩ := hR
  refine fun ad H locs lc hA hS hX hl hvl hvs => ?_
  refine W.widen hkc hks (vx_ret ?_)
  exact W.zret hx hb hr hx1 (fun t ht hW => ⟨some (.int x), h, ad, rfl, hP, hvs, hX, by rw [ht]; exact hA, hS.F ht⟩) hS.2.2 hd
theorem am_aret (hC : am_OK Z own cc n L mc ms) {ty : FieldType} {x : Nat} (hR : am_Rt Z (some ty) hh P E mc ms) (hty : (∃ n, ty = .object n) ∨ ∃ t, ty = .array t) (hkc : kc ≤ mc) (hks : ks ≤ ms) (hd : decode cc pc = .ok (.areturn, 1)) (hP : P (some (.ref x)) h) : am_W Z kc ks pc ls [.ref x] h := by
  obtain ⟨G, p, l, e, R, s, m, args, below, meth, c, h0, ad0, n', Q⟩ := Z
  obtain ⟨rfl, ⟨hx, hb, hml, hown, hts⟩, hlk, hE, htr, hR1, hR2, hR3, hR4⟩ := hC
  obtain ⟨hr, rfl, htb⟩ := hR
  refine fun ad H locs lc hA hS hX hl hvl hvs => ?_
  refine W.widen hkc hks (vx_ret ?_)
  exact W.aret (v := am_rv ad x) hx hb hr hty (by unfold am_rv; split; exact Or.inl rfl; exact Or.inr ⟨_, rfl⟩) (fun t ht hW => ⟨some (.ref x), h, ad, rfl, hP, hvs, hX, by rw [ht]; exact hA, hS.F ht⟩) hS.2.2 hd
theorem am_vret (hC : am_OK Z own cc n L mc ms) (hR : am_Rt Z none hh P E mc ms) (hkc : kc ≤ mc) (hks : ks ≤ ms) (hd : decode cc pc = .ok (.return_, 1)) (hP : P none h) : am_W Z kc ks pc ls [] h := by
  obtain ⟨G, p, l, e, R, s, m, args, below, meth, c, h0, ad0, n', Q⟩ := Z
  obtain ⟨rfl, ⟨hx, hb, hml, hown, hts⟩, hlk, hE, htr, hR1, hR2, hR3, hR4⟩ := hC
  obtain ⟨hr, rfl, htb⟩ := hR
  refine fun ad H locs lc hA hS hX hl hvl hvs => ?_
  refine W.widen hkc hks (vx_ret ?_)
  exact W.vret hx hb hr (fun t ht hW => ⟨none, h, ad, rfl, hP, (fun _ h => nomatch h), hX, by rw [ht]; exact hA, hS.F ht⟩) hS.2.2 hd
theorem am_blind {G : am_G} {h0 : am_H} {ad0 : Nat → Nat} {As : List Value} : FrameBlind (am_Pc G h0 ad0 As) := fun a U g mk q => by
  obtain ⟨q1, q2, q3, q4⟩ := q
  exact ⟨q1, am_E_moved (s := U) (U := U.calling g mk a) (State.WarmedH.refl U) (Nat.le_refl _) (fun _ _ _ => rfl) q2, q3, q4⟩
theorem am_pre {G : am_G} {s : State} {H : Heap} {locs : List Loc} {ad : Nat → Nat} {As : List Value} (hE : am_E G s) (hS : va_S (am_lo G) s.heap H locs) (hA : am_A G h ad H) (hV : am_Vs h As) : ∀ U : State, U.heap = H → s.WarmedH U.vm → am_Pc G h ad As (As.map (am_cv ad)).toArray U := fun U hU hW =>
  ⟨rfl, am_E_moved hW (by rw [hU]; exact hS.1) (by rw [hU]; exact hS.2.1) hE, by rw [hU]; exact hA, hV⟩
/-- behind a call -/
theorem am_ofRun {G : am_G} {p : Program} {l : Launch} {e : Env} {R : Room} {s : State} {m : MethodId} {args : Array Value} {below : List Frame} {meth : Method} {c : Code} {h0 : am_H} {ad0 : Nat → Nat} {n' : Nat} {Q : State → Prop} {ad : Nat → Nat} {H : Heap} {locs : List Loc} {lc : Array Slot} {mc' ms' : Nat} {a : Array Value} {st0 : List Value}
    (hr : vx_Run p l e R s m args below meth c H locs kc ks mc' ms' (F0 m pc lc st0) (st.map (am_cv ad)) (am_Qc G h ad P a) (am_XC G h ad E) (am_lo G)) (hA : am_A G h ad H) (hS : va_S (am_lo G) s.heap H locs) (hX : am_X h0 ad0 h ad) (hl : am_L ad n' ls lc) (hvl : am_Vs h ls) (hvs : am_Vs h st)
    (kx : ∀ (x : String) (h' : am_H), E x h' → am_le h h' → am_WX (G, p, l, e, R, s, m, args, below, meth, c, h0, ad0, n', Q) (kc + mc') (ks + ms') pc ls st h' x)
    (kk : ∀ (v : Option Value) (h' : am_H), P v h' → am_le h h' → am_W (G, p, l, e, R, s, m, args, below, meth, c, h0, ad0, n', Q) (kc + mc') (ks + ms') (pc + 3) ls (v.toList ++ st) h') : W p l e R s m args below meth c H locs kc ks Q (F0 m pc lc st0) := by
  intro T hT X
  rcases hr T hT X with ⟨v, st₀, t, T', Lc, q0, X', hL, e1, e2, ⟨v', h', ad', hv, hp, hvv, hX', hA', hF⟩, stp⟩ | ⟨q, st₀, t, T', Lc, x, ce, q0, X', hL, e1, e2, ⟨h', ad', hp, hX', hA', hF⟩, hce, hcv, hcl, stp⟩
  · cases hv
    obtain ⟨k1, k2, k3⟩ := vx_keep q0 e1 hS (fun q _ z => z) (fun q z => z) hL hF
    have hle := hX'.1
    have w := kk v' h' hp hle ad' T'.heap (locs ++ Lc) lc (by rw [e1]; exact hA') k3 (am_X_tr hX hX') (am_L_ad hX'.2 hl hvl) (am_Vs_le (fun q hq => (hle q hq).1) hvl) (fun w hw => by
      rcases List.mem_append.mp hw with z | z
      · exact hvv w z
      · exact am_V_le (fun q hq => (hle q hq).1) (hvs w z))
    rw [List.map_append, am_map_ad hX'.2 hvs] at w
    obtain ⟨t2, a1, b1⟩ := w T' rfl X'
    refine ⟨t2, stp t2 ?_, b1⟩
    have ev : (v'.map (am_cv ad')).toList = v'.toList.map (am_cv ad') := by cases v' <;> rfl
    rw [ev]
    exact a1
  · obtain ⟨k1, k2, k3⟩ := vx_keep q0 e1 hS (fun q _ z => z) (fun q z => z) hL hF
    have hle := hX'.1
    have w := kx x h' hp hle ad' T'.heap (locs ++ Lc) lc q ce (by rw [e1]; exact hA') k3 (am_X_tr hX hX') (am_L_ad hX'.2 hl hvl) (am_Vs_le (fun q hq => (hle q hq).1) hvl) (am_Vs_le (fun q hq => (hle q hq).1) hvs) (by rw [e1]; exact hce) hcv hcl
    rw [am_map_ad hX'.2 hvs] at w
    obtain ⟨t2, a1, b1⟩ := w T' rfl X'
    exact ⟨t2, stp.trans a1, b1⟩
theorem am_mapr {ad : Nat → Nat} (As st : List Value) (v : Value) : (As.reverse ++ v :: st).map (am_cv ad) = (As.map (am_cv ad)).reverse ++ am_cv ad v :: st.map (am_cv ad) := by
  rw [List.map_append, List.map_cons, List.map_reverse]
theorem am_mapr' {ad : Nat → Nat} (As st : List Value) : (As.reverse ++ st).map (am_cv ad) = (As.map (am_cv ad)).reverse ++ st.map (am_cv ad) := by
  rw [List.map_append, List.map_reverse]
theorem am_Vsr {As st : List Value} {v : Value} (hv : am_Vs h (As.reverse ++ v :: st)) : am_Vs h (v :: As) ∧ am_Vs h st :=
  ⟨fun w hw => hv w ((List.mem_cons.mp hw).elim (fun e => by rw [e]; exact List.mem_append_right _ List.mem_cons_self) (fun e => List.mem_append_left _ (List.mem_reverse.mpr e))), fun w hw => hv w (List.mem_append_right _ (List.mem_cons_of_mem _ hw))⟩
theorem am_Vsr' {As st : List Value} (hv : am_Vs h (As.reverse ++ st)) : am_Vs h As ∧ am_Vs h st :=
  ⟨fun w hw => hv w (List.mem_append_left _ (List.mem_reverse.mpr hw)), fun w hw => hv w (List.mem_append_right _ hw)⟩
theorem am_lrm (L' : Nat) {Lx Rf : Nat} {maxL : Nat} (hL : L' + 1 ≤ Lx) (hR : 100 * Lx ≤ Rf) (hm : maxL ≤ 80) : 8 + (maxL + 11) + 100 * L' ≤ Rf := by omega
variable {y : MethodName} {cy : ByteArray} {ny L' mc' ms' na idx : Nat} {ret : Option FieldType}
theorem am_callV (hC : am_OK Z own cc n L mc ms) {C : String} {T : u_T} {N ci r : Nat} (As : List Value) (hc : am_cl[ci]? = some (C, T, N)) (hkr : hk_ h r = ci + 1) (hyC : y.cls = C) (hm : am_mV y cy ny ret na) (hw : Cond.methodLink own idx y ∈ am_TG)
    (hM : am_Met Z.1 Z.2.2.1 y (.code y cy ny ret) L' mc' ms' (.ref r :: As) h P E) (hna : As.length = na) (hst : st.all am_s1 = true ∧ st.length ≤ 8) (hL : L' + 1 ≤ L ∧ ny ≤ 80) (hkc : kc + mc' ≤ mc) (hks : ks + ms' ≤ ms) (hd : decode cc pc = .ok (.invokevirtual idx, 3)) {stk : List Value} (hsk : stk = As.reverse ++ .ref r :: st)
    (kx : ∀ (x : String) (h' : am_H), E x h' → am_le h h' → am_WX Z (kc + mc') (ks + ms') pc ls st h' x) (kk : ∀ (v : Option Value) (h' : am_H), P v h' → am_le h h' → am_W Z (kc + mc') (ks + ms') (pc + 3) ls (v.toList ++ st) h') : am_W Z kc ks pc ls stk h := by
  obtain ⟨G, p, l, e, R, s, m, args, below, meth, c, h0, ad0, n', Q⟩ := Z
  obtain ⟨rfl, ⟨hx, hb, hml, hown, hts⟩, hlk, hE, htr, hR1, hR2, hR3, hR4⟩ := hC
  subst hsk
  refine fun ad H locs lc hA hS hX hl hvl hvs => ?_
  obtain ⟨r0, -⟩ := am_own hA hkr (by omega) (by have := (am_cf hc).2.2.2; omega)
  obtain ⟨cell, q1, q2, q3, q4⟩ := am_obj hA hkr hc
  obtain ⟨v1, v2⟩ := am_Vsr hvs
  obtain ⟨m1, m2, m3, m4, m5⟩ := hm
  have er : am_cv ad (.ref r) = .ref (ad r) := am_rv_ref r0
  have hp := am_pre hE hS hA v1
  rw [List.map_cons, er] at hp
  have hcat : ((st.map (am_cv ad)).map fun v => v.category).sum ≤ 8 := by rw [am_catS hst.1]; exact hst.2
  have hgi : GoodIn am_TG (wsV own idx C y (.code y cy ny ret :: am_TG)) := by
    subst hyC
    refine am_gi (fun w hw9 => ?_)
    simp only [wsV, List.mem_append, List.mem_cons, List.not_mem_nil, or_false] at hw9
    rcases hw9 with (a | a | a | a) | a | a
    · rw [a]; exact hw
    · rw [a]; exact m1
    · rw [a]; exact m2
    · rw [a]; exact m3
    · rw [a]; exact m4
    · exact a
  have w := am_ofRun (st0 := (As.map (am_cv ad)).reverse ++ .ref (ad r) :: st.map (am_cv ad)) (vx_runV (C := C) (As := As.map (am_cv ad)) (b := ad r) ⟨hx, hb, hml, hown, hts⟩ (hM ad) (cwV na hts hgi rfl rfl rfl ⟨hyC, m5⟩ ⟨by show L' + 1 ≤ _; omega, am_lrm L' hL.1 hR2 hL.2⟩) ⟨am_blind, ⟨cell, q1, by rw [q3]; rfl, by rw [q2]; exact (hE.2.2.1.1 ci _ hc).2.1⟩, hp⟩ rfl (by rw [List.length_map]; exact hna) hl.1 rfl (lv_room hcat) hd ⟨by omega, by omega⟩) hA hS hX hl hvl v2 kx kk
  rw [am_mapr, er]
  exact w
theorem am_callVN (hC : am_OK Z own cc n L mc ms) {C host : String} {T : u_T} {N ci r : Nat} (As : List Value) (hc : am_cl[ci]? = some (C, T, N)) (hkr : hk_ h r = ci + 1) (hyC : y.cls = C) (hm : am_mV y cy ny ret na) (hw : Cond.methodLinkNest own idx y host ∈ am_bw)
    (hM : am_Met Z.1 Z.2.2.1 y (.code y cy ny ret) L' mc' ms' (.ref r :: As) h P E) (hna : As.length = na) (hst : st.all am_s1 = true ∧ st.length ≤ 8) (hL : L' + 1 ≤ L ∧ ny ≤ 80) (hkc : kc + mc' ≤ mc) (hks : ks + ms' ≤ ms) (hd : decode cc pc = .ok (.invokevirtual idx, 3)) {stk : List Value} (hsk : stk = As.reverse ++ .ref r :: st)
    (kx : ∀ (x : String) (h' : am_H), E x h' → am_le h h' → am_WX Z (kc + mc') (ks + ms') pc ls st h' x) (kk : ∀ (v : Option Value) (h' : am_H), P v h' → am_le h h' → am_W Z (kc + mc') (ks + ms') (pc + 3) ls (v.toList ++ st) h') : am_W Z kc ks pc ls stk h := by
  obtain ⟨G, p, l, e, R, s, m, args, below, meth, c, h0, ad0, n', Q⟩ := Z
  obtain ⟨rfl, ⟨hx, hb, hml, hown, hts⟩, hlk, hE, htr, hR1, hR2, hR3, hR4⟩ := hC
  subst hsk
  refine fun ad H locs lc hA hS hX hl hvl hvs => ?_
  obtain ⟨r0, -⟩ := am_own hA hkr (by omega) (by have := (am_cf hc).2.2.2; omega)
  obtain ⟨cell, q1, q2, q3, q4⟩ := am_obj hA hkr hc
  obtain ⟨v1, v2⟩ := am_Vsr hvs
  obtain ⟨m1, m2, m3, m4, m5⟩ := hm
  have er : am_cv ad (.ref r) = .ref (ad r) := am_rv_ref r0
  have hp := am_pre hE hS hA v1
  rw [List.map_cons, er] at hp
  have hcat : ((st.map (am_cv ad)).map fun v => v.category).sum ≤ 8 := by rw [am_catS hst.1]; exact hst.2
  have w := am_ofRun (st0 := (As.map (am_cv ad)).reverse ++ .ref (ad r) :: st.map (am_cv ad)) (vx_runVN (C := C) (As := As.map (am_cv ad)) (b := ad r) ⟨hx, hb, hml, hown, hts⟩ (hM ad) ⟨va_cnB na hts (am_gi' m4) rfl rfl rfl (hE.1 _ hw) (hts _ m3) m5 ⟨by show L' + 1 ≤ _; omega, am_lrm L' hL.1 hR2 hL.2⟩, hts _ m1, by subst hyC; exact hts _ m2⟩ ⟨am_blind, ⟨cell, q1, by rw [q3]; rfl, by rw [q2]; exact (hE.2.2.1.1 ci _ hc).2.1⟩, hp⟩ rfl (by rw [List.length_map]; exact hna) hl.1 rfl (lv_room hcat) hd ⟨by omega, by omega⟩) hA hS hX hl hvl v2 kx kk
  rw [am_mapr, er]
  exact w
theorem am_callS (hC : am_OK Z own cc n L mc ms) (As : List Value) (hm : am_mS y cy ny ret na) (hw : Cond.methodLink own idx y ∈ am_TG)
    (hM : am_Met Z.1 Z.2.2.1 y (.code y cy ny ret) L' mc' ms' As h P E) (hna : As.length = na) (hst : st.all am_s1 = true ∧ st.length ≤ 8) (hL : L' + 1 ≤ L ∧ ny ≤ 80) (hkc : kc + mc' ≤ mc) (hks : ks + ms' ≤ ms) (hd : decode cc pc = .ok (.invokestatic idx, 3)) {stk : List Value} (hsk : stk = As.reverse ++ st)
    (kx : ∀ (x : String) (h' : am_H), E x h' → am_le h h' → am_WX Z (kc + mc') (ks + ms') pc ls st h' x) (kk : ∀ (v : Option Value) (h' : am_H), P v h' → am_le h h' → am_W Z (kc + mc') (ks + ms') (pc + 3) ls (v.toList ++ st) h') : am_W Z kc ks pc ls stk h := by
  obtain ⟨G, p, l, e, R, s, m, args, below, meth, c, h0, ad0, n', Q⟩ := Z
  obtain ⟨rfl, ⟨hx, hb, hml, hown, hts⟩, hlk, hE, htr, hR1, hR2, hR3, hR4⟩ := hC
  subst hsk
  refine fun ad H locs lc hA hS hX hl hvl hvs => ?_
  obtain ⟨v1, v2⟩ := am_Vsr' hvs
  obtain ⟨m1, m3, m4, m5⟩ := hm
  have hp := am_pre hE hS hA v1
  have hcat : ((st.map (am_cv ad)).map fun v => v.category).sum ≤ 8 := by rw [am_catS hst.1]; exact hst.2
  have w := am_ofRun (st0 := (As.map (am_cv ad)).reverse ++ st.map (am_cv ad)) (vx_runS (As := As.map (am_cv ad)) ⟨hx, hb, hml, hown, hts⟩ (hM ad) ⟨callB_of na hts (am_gi' m4) rfl rfl rfl (hts _ m3) (hts _ hw) m5 ⟨by show L' + 1 ≤ _; omega, am_lrm L' hL.1 hR2 hL.2⟩, hts _ m1⟩ ⟨am_blind, hp⟩ rfl (by rw [List.length_map]; exact hna) hl.1 rfl (lv_room hcat) hd ⟨by omega, by omega⟩) hA hS hX hl hvl v2 kx kk
  rw [am_mapr']
  exact w
theorem am_callSN (hC : am_OK Z own cc n L mc ms) {host : String} (As : List Value) (hm : am_mS y cy ny ret na) (hw : Cond.methodLinkNest own idx y host ∈ am_bw)
    (hM : am_Met Z.1 Z.2.2.1 y (.code y cy ny ret) L' mc' ms' As h P E) (hna : As.length = na) (hst : st.all am_s1 = true ∧ st.length ≤ 8) (hL : L' + 1 ≤ L ∧ ny ≤ 80) (hkc : kc + mc' ≤ mc) (hks : ks + ms' ≤ ms) (hd : decode cc pc = .ok (.invokestatic idx, 3)) {stk : List Value} (hsk : stk = As.reverse ++ st)
    (kx : ∀ (x : String) (h' : am_H), E x h' → am_le h h' → am_WX Z (kc + mc') (ks + ms') pc ls st h' x) (kk : ∀ (v : Option Value) (h' : am_H), P v h' → am_le h h' → am_W Z (kc + mc') (ks + ms') (pc + 3) ls (v.toList ++ st) h') : am_W Z kc ks pc ls stk h := by
  obtain ⟨G, p, l, e, R, s, m, args, below, meth, c, h0, ad0, n', Q⟩ := Z
  obtain ⟨rfl, ⟨hx, hb, hml, hown, hts⟩, hlk, hE, htr, hR1, hR2, hR3, hR4⟩ := hC
  subst hsk
  refine fun ad H locs lc hA hS hX hl hvl hvs => ?_
  obtain ⟨v1, v2⟩ := am_Vsr' hvs
  obtain ⟨m1, m3, m4, m5⟩ := hm
  have hp := am_pre hE hS hA v1
  have hcat : ((st.map (am_cv ad)).map fun v => v.category).sum ≤ 8 := by rw [am_catS hst.1]; exact hst.2
  have w := am_ofRun (st0 := (As.map (am_cv ad)).reverse ++ st.map (am_cv ad)) (vx_runSN (As := As.map (am_cv ad)) ⟨hx, hb, hml, hown, hts⟩ (hM ad) ⟨va_cnB na hts (am_gi' m4) rfl rfl rfl (hE.1 _ hw) (hts _ m3) m5 ⟨by show L' + 1 ≤ _; omega, am_lrm L' hL.1 hR2 hL.2⟩, hts _ m1, trivial⟩ ⟨am_blind, hp⟩ rfl (by rw [List.length_map]; exact hna) hl.1 rfl (lv_room hcat) hd ⟨by omega, by omega⟩) hA hS hX hl hvl v2 kx kk
  rw [am_mapr']
  exact w
/-- a static method with handlers -/
theorem am_callSX (hC : am_OK Z own cc n L mc ms) {hy9 : List (Nat × Nat × Nat × Nat)} (As : List Value) (hm : am_mW y cy ny ret hy9 na) (hw : Cond.methodLink own idx y ∈ am_TG)
    (hM : am_Met Z.1 Z.2.2.1 y (.codeWith y cy ny ret hy9) L' mc' ms' As h P E) (hna : As.length = na) (hst : st.all am_s1 = true ∧ st.length ≤ 8) (hL : L' + 1 ≤ L ∧ ny ≤ 80) (hkc : kc + mc' ≤ mc) (hks : ks + ms' ≤ ms) (hd : decode cc pc = .ok (.invokestatic idx, 3)) {stk : List Value} (hsk : stk = As.reverse ++ st)
    (kx : ∀ (x : String) (h' : am_H), E x h' → am_le h h' → am_WX Z (kc + mc') (ks + ms') pc ls st h' x) (kk : ∀ (v : Option Value) (h' : am_H), P v h' → am_le h h' → am_W Z (kc + mc') (ks + ms') (pc + 3) ls (v.toList ++ st) h') : am_W Z kc ks pc ls stk h := by
  obtain ⟨G, p, l, e, R, s, m, args, below, meth, c, h0, ad0, n', Q⟩ := Z
  obtain ⟨rfl, ⟨hx, hb, hml, hown, hts⟩, hlk, hE, htr, hR1, hR2, hR3, hR4⟩ := hC
  subst hsk
  refine fun ad H locs lc hA hS hX hl hvl hvs => ?_
  obtain ⟨v1, v2⟩ := am_Vsr' hvs
  obtain ⟨m1, m3, m4, m5⟩ := hm
  have hp := am_pre hE hS hA v1
  have hcat : ((st.map (am_cv ad)).map fun v => v.category).sum ≤ 8 := by rw [am_catS hst.1]; exact hst.2
  have w := am_ofRun (st0 := (As.map (am_cv ad)).reverse ++ st.map (am_cv ad)) (vx_runSX (As := As.map (am_cv ad)) ⟨hx, hb, hml, hown, hts⟩ (hM ad) (vx_cwSW na hts (am_gi (fun w hw9 => by
      simp only [va_wsS, List.mem_append, List.mem_cons, List.not_mem_nil, or_false] at hw9
      rcases hw9 with (a | a | a) | a | a
      · rw [a]; exact hw
      · rw [a]; exact m1
      · rw [a]; exact m3
      · rw [a]; exact m4
      · exact a)) rfl rfl rfl m5 ⟨by show L' + 1 ≤ _; omega, am_lrm L' hL.1 hR2 hL.2⟩) ⟨am_blind, hp⟩ rfl (by rw [List.length_map]; exact hna) hl.1 rfl (lv_room hcat) hd ⟨by omega, by omega⟩) hA hS hX hl hvl v2 kx kk
  rw [am_mapr']
  exact w
/-- constructors -/
theorem am_callI (hC : am_OK Z own cc n L mc ms) {r : Nat} (As : List Value) (hr0 : r ≠ 0) (hm : am_mI y cy ny na) (hw : Cond.methodLink own idx y ∈ am_TG)
    (hM : am_Met Z.1 Z.2.2.1 y (.code y cy ny none) L' mc' ms' (.ref r :: As) h P E) (hna : As.length = na) (hst : st.all am_s1 = true ∧ st.length ≤ 8) (hL : L' + 1 ≤ L ∧ ny ≤ 80) (hkc : kc + mc' ≤ mc) (hks : ks + ms' ≤ ms) (hd : decode cc pc = .ok (.invokespecial idx, 3)) {stk : List Value} (hsk : stk = As.reverse ++ .ref r :: st)
    (kx : ∀ (x : String) (h' : am_H), E x h' → am_le h h' → am_WX Z (kc + mc') (ks + ms') pc ls st h' x) (kk : ∀ (v : Option Value) (h' : am_H), P v h' → am_le h h' → am_W Z (kc + mc') (ks + ms') (pc + 3) ls (v.toList ++ st) h') : am_W Z kc ks pc ls stk h := by
  obtain ⟨G, p, l, e, R, s, m, args, below, meth, c, h0, ad0, n', Q⟩ := Z
  obtain ⟨rfl, ⟨hx, hb, hml, hown, hts⟩, hlk, hE, htr, hR1, hR2, hR3, hR4⟩ := hC
  subst hsk
  refine fun ad H locs lc hA hS hX hl hvl hvs => ?_
  obtain ⟨v1, v2⟩ := am_Vsr hvs
  obtain ⟨m0, m1, m3, m4, m5⟩ := hm
  have er : am_cv ad (.ref r) = .ref (ad r) := am_rv_ref hr0
  have hp := am_pre hE hS hA v1
  rw [List.map_cons, er] at hp
  have hcat : ((st.map (am_cv ad)).map fun v => v.category).sum ≤ 8 := by rw [am_catS hst.1]; exact hst.2
  have w := am_ofRun (st0 := (As.map (am_cv ad)).reverse ++ .ref (ad r) :: st.map (am_cv ad)) (vx_runI (As := As.map (am_cv ad)) (b := ad r) ⟨hx, hb, hml, hown, hts⟩ (hM ad) ⟨callB_of na hts (am_gi' m4) rfl rfl rfl (hts _ m3) (hts _ hw) m5 ⟨by show L' + 1 ≤ _; omega, am_lrm L' hL.1 hR2 hL.2⟩, m0, hts _ m1⟩ ⟨am_blind, hp⟩ rfl (by rw [List.length_map]; exact hna) hl.1 rfl (lv_room hcat) hd ⟨by omega, by omega⟩) hA hS hX hl hvl v2 kx kk
  rw [am_mapr, er]
  exact w
theorem am_callIN (hC : am_OK Z own cc n L mc ms) {host : String} {r : Nat} (As : List Value) (hr0 : r ≠ 0) (hm : am_mI y cy ny na) (hw : Cond.methodLinkNest own idx y host ∈ am_bw)
    (hM : am_Met Z.1 Z.2.2.1 y (.code y cy ny none) L' mc' ms' (.ref r :: As) h P E) (hna : As.length = na) (hst : st.all am_s1 = true ∧ st.length ≤ 8) (hL : L' + 1 ≤ L ∧ ny ≤ 80) (hkc : kc + mc' ≤ mc) (hks : ks + ms' ≤ ms) (hd : decode cc pc = .ok (.invokespecial idx, 3)) {stk : List Value} (hsk : stk = As.reverse ++ .ref r :: st)
    (kx : ∀ (x : String) (h' : am_H), E x h' → am_le h h' → am_WX Z (kc + mc') (ks + ms') pc ls st h' x) (kk : ∀ (v : Option Value) (h' : am_H), P v h' → am_le h h' → am_W Z (kc + mc') (ks + ms') (pc + 3) ls (v.toList ++ st) h') : am_W Z kc ks pc ls stk h := by
  obtain ⟨G, p, l, e, R, s, m, args, below, meth, c, h0, ad0, n', Q⟩ := Z
  obtain ⟨rfl, ⟨hx, hb, hml, hown, hts⟩, hlk, hE, htr, hR1, hR2, hR3, hR4⟩ := hC
  subst hsk
  refine fun ad H locs lc hA hS hX hl hvl hvs => ?_
  obtain ⟨v1, v2⟩ := am_Vsr hvs
  obtain ⟨m0, m1, m3, m4, m5⟩ := hm
  have er : am_cv ad (.ref r) = .ref (ad r) := am_rv_ref hr0
  have hp := am_pre hE hS hA v1
  rw [List.map_cons, er] at hp
  have hcat : ((st.map (am_cv ad)).map fun v => v.category).sum ≤ 8 := by rw [am_catS hst.1]; exact hst.2
  have w := am_ofRun (st0 := (As.map (am_cv ad)).reverse ++ .ref (ad r) :: st.map (am_cv ad)) (vx_runIN (As := As.map (am_cv ad)) (b := ad r) ⟨hx, hb, hml, hown, hts⟩ (hM ad) ⟨va_cnB na hts (am_gi' m4) rfl rfl rfl (hE.1 _ hw) (hts _ m3) m5 ⟨by show L' + 1 ≤ _; omega, am_lrm L' hL.1 hR2 hL.2⟩, m0, hts _ m1⟩ ⟨am_blind, hp⟩ rfl (by rw [List.length_map]; exact hna) hl.1 rfl (lv_room hcat) hd ⟨by omega, by omega⟩) hA hS hX hl hvl v2 kx kk
  rw [am_mapr, er]
  exact w
end AMR
