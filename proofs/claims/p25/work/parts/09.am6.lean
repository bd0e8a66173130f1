/-! ===== methods of the abstract machine: contracts, entries, ends, calls, throws ===== -/
def am_rm (L mc ms : Nat) : Room := { frames := L, cells := mc, slots := ms, locals := 100 * L }
def am_Pc (G : am_G) (h0 : am_H) (ad0 : Nat → Nat) (As : List Value) : Array Value → State → Prop := fun v U => v = (As.map (am_cv ad0)).toArray ∧ am_E G U ∧ am_A G h0 ad0 U.heap ∧ am_Vs h0 As
def am_Qc (G : am_G) (h0 : am_H) (ad0 : Nat → Nat) (P : Option Value → am_H → Prop) : Array Value → State → Outcome → State → Prop := fun _ st o t =>
  ∃ (v : Option Value) (h : am_H) (ad : Nat → Nat), o = .returned (v.map (am_cv ad)) ∧ P v h ∧ am_Vs h v.toList ∧ am_X h0 ad0 h ad ∧ am_A G h ad t.heap ∧ va_F (am_lo G) st t
def am_XC (G : am_G) (h0 : am_H) (ad0 : Nat → Nat) (E : String → am_H → Prop) : String → State → State → Prop := fun x st t =>
  ∃ (h : am_H) (ad : Nat → Nat), E x h ∧ am_X h0 ad0 h ad ∧ am_A G h ad t.heap ∧ va_F (am_lo G) st t
/-- a method's contract: at launch l, over the heap h0, with the arguments As, it returns as P says, or throws as E says -/
def am_Met (G : am_G) (l : Launch) (y : MethodName) (hd : Cond) (L mc ms : Nat) (As : List Value) (h0 : am_H) (P : Option Value → am_H → Prop) (E : String → am_H → Prop) : Prop :=
  ∀ ad0 : Nat → Nat, vx_Met l y (hd :: am_TG) (am_rm L mc ms) (am_Pc G h0 ad0 As) (am_Qc G h0 ad0 P) (am_XC G h0 ad0 E) mc ms (am_lo G)
def am_no : String → am_H → Prop := fun _ _ => False
/-- what a body owes at its end -/
def am_Rt (Z : am_Z) (ret : Option FieldType) (hh : List (Nat × Nat × Nat × Nat)) (P : Option Value → am_H → Prop) (E : String → am_H → Prop) (mc ms : Nat) : Prop := match Z with
  | (G, _, _, _, _, s, _, args, below, meth, c, h0, ad0, _, Q) => meth.sig.returnType = ret ∧ Q = vx_MQ below (am_Qc G h0 ad0 P) (am_XC G h0 ad0 E) args s mc ms (am_lo G) ∧ c.exceptionTable.toList = tableOf hh
theorem am_lv_args : ∀ (vs : List Value) (i k : Nat) (v : Value), (∀ w ∈ vs, w.category = 1) → vs[k]? = some v → (i + k, v) ∈ lv_args i vs
  | [], _, _, _, _, h => by simp at h
  | w :: ws, i, k, v, hc, h => by
    have hw : w.category = 1 := hc w List.mem_cons_self
    unfold lv_args
    rw [if_neg (by omega)]
    cases k with
    | zero =>
      simp at h
      rw [h]
      exact List.mem_cons_self
    | succ k =>
      refine List.mem_cons_of_mem _ ?_
      have := am_lv_args ws (i + 1) k v (fun x hx => hc x (List.mem_cons_of_mem _ hx)) (by simpa using h)
      rw [show i + (k + 1) = i + 1 + k by omega]
      exact this
theorem am_lg_len : ∀ (vs : List Value), (∀ w ∈ vs, w.category = 1) → (lg_sl vs).length = vs.length
  | [], _ => rfl
  | w :: ws, hc => by
    have hw : w.category = 1 := hc w List.mem_cons_self
    show (List.flatMap _ (w :: ws)).length = _
    rw [List.flatMap_cons, if_neg (by omega), List.length_append, List.length_cons]
    have := am_lg_len ws (fun x hx => hc x (List.mem_cons_of_mem _ hx))
    unfold lg_sl at this
    rw [this]
    simp
    omega
theorem am_cat1 {ad : Nat → Nat} {As : List Value} (h : As.all am_s1 = true) : ∀ w ∈ As.map (am_cv ad), w.category = 1 := by
  intro w hw
  obtain ⟨v, hv, rfl⟩ := List.mem_map.mp hw
  exact am_cat ad (List.all_eq_true.mp h v hv)
theorem am_L_entry {ad : Nat → Nat} {As : List Value} {n : Nat} (h : As.all am_s1 = true) (hn : As.length ≤ n) : am_L ad n (As ++ List.replicate (n - As.length) .null) ((lg_sl (As.map (am_cv ad)) ++ List.replicate (n - (lg_sl (As.map (am_cv ad))).length) Slot.unset).toArray) := by
  have hc := am_cat1 (ad := ad) h
  have hl := am_lg_len _ hc
  refine am_L_to (lv_entry (As.map (am_cv ad)) (n := n) (by rw [hl, List.length_map]; exact hn)) (fun i v hi hv => ?_)
  have hlt : i < As.length := by
    rcases Nat.lt_or_ge i As.length with q | q
    · exact q
    · rw [List.getElem?_append_right q] at hi
      have := List.mem_of_getElem? hi
      rw [List.eq_of_mem_replicate this] at hv
      cases hv
  rw [List.getElem?_append_left hlt] at hi
  have := am_lv_args (As.map (am_cv ad)) 0 i (am_cv ad v) hc (by rw [List.getElem?_map, hi]; rfl)
  rw [Nat.zero_add] at this
  exact this
theorem am_Vs_entry {h : am_H} {As : List Value} {k : Nat} (hv : am_Vs h As) : am_Vs h (As ++ List.replicate k .null) := by
  intro v hm
  rcases List.mem_append.mp hm with q | q
  · exact hv v q
  · rw [List.eq_of_mem_replicate q]
    trivial
theorem am_body {G : am_G} {l : Launch} {y : MethodName} {ws : List Cond} {cc : ByteArray} {n L mc ms : Nat} {ret : Option FieldType} {hh : List (Nat × Nat × Nat × Nat)} {As : List Value} {h0 : am_H} {ad0 : Nat → Nat} {P : Option Value → am_H → Prop} {E : String → am_H → Prop} (htr : l.stackTraces = false) (hAs : As.all am_s1 = true) (hn : As.length ≤ n) (hws : ∀ w ∈ am_TG, w ∈ ws)
    (body : ∀ Z : am_Z, am_OK Z y.cls cc n L mc ms → am_Rt Z ret hh P E mc ms → (y.name = "<init>" → am_In Z) → am_W Z 0 0 0 (As ++ List.replicate (n - As.length) .null) [] h0)
    {p : Program} {e : Env} {s : State} {m : MethodId} {args : Array Value} {below : List Frame} {meth : Method} {c : Code} {s₁ : State} (B : BodyLoose p l y (headSpec ws (am_rm L mc ms)) cc n ret e s m args below meth c s₁) (hml : c.maxLocals = n) (htb : c.exceptionTable.toList = tableOf hh) (hP : am_Pc G h0 ad0 As args s) :
    W p l e (headSpec ws (am_rm L mc ms)).room s m args below meth c s.heap [] 0 0 (vx_MQ below (am_Qc G h0 ad0 P) (am_XC G h0 ad0 E) args s mc ms (am_lo G)) (entryFrame m args n) := by
  obtain ⟨rfl, hE, hA, hV⟩ := hP
  have hts : ∀ w ∈ am_TG, w.before (As.map (am_cv ad0)).toArray s = true := fun w hw => atoms_spec (ws := ws) B.pre w (hws w hw)
  rw [lg_entry_eq]
  exact body (G, p, l, e, am_rm L mc ms, s, m, (As.map (am_cv ad0)).toArray, below, meth, c, h0, ad0, n, vx_MQ below (am_Qc G h0 ad0 P) (am_XC G h0 ad0 E) (As.map (am_cv ad0)).toArray s mc ms (am_lo G))
    ⟨rfl, ⟨B.exec, B.bytes, hml, findClass_of_methodNamed B.named, hts⟩, B.notSynchronized, hE, htr, Nat.le_refl _, Nat.le_refl _, Nat.le_refl _, Nat.le_refl _⟩ ⟨B.returns, rfl, htb⟩ (fun e => ((name_of_methodNamed B.named B.method).1).trans e) ad0 s.heap [] _ hA va_S.rf (am_X_rf _ _) (am_L_entry hAs hn) (am_Vs_entry hV) (fun _ h => nomatch h)
theorem am_intro {G : am_G} {l : Launch} {y : MethodName} {cc : ByteArray} {n L mc ms : Nat} {ret : Option FieldType} {As : List Value} {h0 : am_H} {P : Option Value → am_H → Prop} {E : String → am_H → Prop} (hy : plainFor y = true) (htr : l.stackTraces = false) (hAs : As.all am_s1 = true) (hn : As.length ≤ n)
    (body : ∀ Z : am_Z, am_OK Z y.cls cc n L mc ms → am_Rt Z ret [] P E mc ms → (y.name = "<init>" → am_In Z) → am_W Z 0 0 0 (As ++ List.replicate (n - As.length) .null) [] h0) : am_Met G l y (.code y cc n ret) L mc ms As h0 P E := by
  intro ad0
  refine MetFree.of_bodySF (code := cc) (maxLocals := n) (ret := ret) hy ?_ ?_
  · intro args s m h hn
    obtain ⟨meth, c, h1, h2, h3, h4, h5, h6, -, -⟩ := Cond.code_spec hn (atoms_spec (ws := Cond.code y cc n ret :: am_TG) h _ List.mem_cons_self)
    exact ⟨meth, c, h1, h2, h3, h4, h5, h6⟩
  · intro p e s m args below meth c s₁ B hml hP _
    have hh0 : s₁.heap = s.heap := by rw [B.state]; rfl
    have ht : c.exceptionTable.toList = tableOf [] := by
      obtain ⟨meth9, c9, h1, h2, -, -, -, -, h7, -⟩ := Cond.code_spec B.named (atoms_spec (ws := Cond.code y cc n ret :: am_TG) B.pre _ List.mem_cons_self)
      cases Option.some.inj (h1.symm.trans B.method)
      cases Option.some.inj (h2.symm.trans (Stand.of_body B).code)
      rw [Array.isEmpty_iff.mp h7]
      rfl
    obtain ⟨t, a1, o, b1, b2, b3⟩ := am_body htr hAs hn (fun w hw => List.mem_cons_of_mem _ hw) body B hml ht hP s₁ hh0 (Stand.of_body B)
    exact ⟨t, o, a1, b1, b2, b3⟩
theorem am_introW {G : am_G} {l : Launch} {y : MethodName} {cc : ByteArray} {n L mc ms : Nat} {ret : Option FieldType} {hh : List (Nat × Nat × Nat × Nat)} {As : List Value} {h0 : am_H} {P : Option Value → am_H → Prop} {E : String → am_H → Prop} (hy : plainName y.cls = true) (htr : l.stackTraces = false) (hAs : As.all am_s1 = true) (hn : As.length ≤ n)
    (body : ∀ Z : am_Z, am_OK Z y.cls cc n L mc ms → am_Rt Z ret hh P E mc ms → (y.name = "<init>" → am_In Z) → am_W Z 0 0 0 (As ++ List.replicate (n - As.length) .null) [] h0) : am_Met G l y (.codeWith y cc n ret hh) L mc ms As h0 P E := by
  intro ad0
  refine vx_ofWH (hh := hh) (cc := cc) (maxL := n) (ret := ret) hy rfl ?_
  intro p e s m args below meth c s₁ B hml hP
  exact am_body htr hAs hn (fun w hw => List.mem_cons_of_mem _ hw) body B hml (vx_table (x := y) B (atoms_spec (ws := Cond.codeWith y cc n ret hh :: am_TG) B.pre _ List.mem_cons_self)) hP
