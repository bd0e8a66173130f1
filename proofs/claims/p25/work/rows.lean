section
-- ===== PART A: goes FIRST, ahead of the names: the tables' words, and 'selects' of the private methods out of them =====
/-- a private method of a class that the tables say can be made, by its rows of tables_1 -/
def lw_okq (q : MethodName × Nat) : Prop := (q.1.cls ≠ "java/lang/invoke/MethodHandle" ∧ q.1.cls ≠ "java/lang/invoke/VarHandle") ∧ Cond.instantiable q.1.cls q.2 ∈ tables_1 ∧ Cond.privateMethod q.1 ∈ tables_1 ∧ Cond.instanceMethod q.1 ∈ tables_1
theorem lw_p0 : lw_okq (⟨"java/lang/Throwable", "fillInStackTrace", "(I)Ljava/lang/Throwable;"⟩, 6) := ⟨⟨by decide +kernel, by decide +kernel⟩, List.mem_of_getElem? (i := 154) (by decide +kernel), List.mem_of_getElem? (i := 152) (by decide +kernel), List.mem_of_getElem? (i := 153) (by decide +kernel)⟩
theorem lw_p1 : lw_okq (⟨"java/util/ArrayList", "add", "(Ljava/lang/Object;[Ljava/lang/Object;I)V"⟩, 3) := ⟨⟨by decide +kernel, by decide +kernel⟩, List.mem_of_getElem? (i := 31) (by decide +kernel), List.mem_of_getElem? (i := 220) (by decide +kernel), List.mem_of_getElem? (i := 221) (by decide +kernel)⟩
theorem lw_p2 : lw_okq (⟨"java/util/ArrayList", "grow", "()[Ljava/lang/Object;"⟩, 3) := ⟨⟨by decide +kernel, by decide +kernel⟩, List.mem_of_getElem? (i := 31) (by decide +kernel), List.mem_of_getElem? (i := 224) (by decide +kernel), List.mem_of_getElem? (i := 225) (by decide +kernel)⟩
theorem lw_p3 : lw_okq (⟨"java/util/ArrayList", "grow", "(I)[Ljava/lang/Object;"⟩, 3) := ⟨⟨by decide +kernel, by decide +kernel⟩, List.mem_of_getElem? (i := 31) (by decide +kernel), List.mem_of_getElem? (i := 228) (by decide +kernel), List.mem_of_getElem? (i := 229) (by decide +kernel)⟩
theorem lw_p4 : lw_okq (⟨"HousePlans", "drawingAt", "(I)LHousePlans$Drawing;"⟩, 4) := ⟨⟨by decide +kernel, by decide +kernel⟩, List.mem_of_getElem? (i := 23) (by decide +kernel), List.mem_of_getElem? (i := 277) (by decide +kernel), List.mem_of_getElem? (i := 278) (by decide +kernel)⟩
theorem lw_p5 : lw_okq (⟨"HousePlans$Drawing", "changer", "()I"⟩, 5) := ⟨⟨by decide +kernel, by decide +kernel⟩, List.mem_of_getElem? (i := 184) (by decide +kernel), List.mem_of_getElem? (i := 338) (by decide +kernel), List.mem_of_getElem? (i := 339) (by decide +kernel)⟩
theorem lw_p6 : lw_okq (⟨"HousePlans$Drawing", "sideNow", "(I)I"⟩, 5) := ⟨⟨by decide +kernel, by decide +kernel⟩, List.mem_of_getElem? (i := 184) (by decide +kernel), List.mem_of_getElem? (i := 355) (by decide +kernel), List.mem_of_getElem? (i := 356) (by decide +kernel)⟩
theorem lw_p7 : lw_okq (⟨"HousePlans$Floor", "lookAt", "(LHousePlans$Drawing;)V"⟩, 4) := ⟨⟨by decide +kernel, by decide +kernel⟩, List.mem_of_getElem? (i := 57) (by decide +kernel), List.mem_of_getElem? (i := 366) (by decide +kernel), List.mem_of_getElem? (i := 367) (by decide +kernel)⟩
theorem lw_p8 : lw_okq (⟨"HousePlans$State", "takeFrom", "(LHousePlans$Drawing;)V"⟩, 2) := ⟨⟨by decide +kernel, by decide +kernel⟩, List.mem_of_getElem? (i := 63) (by decide +kernel), List.mem_of_getElem? (i := 370) (by decide +kernel), List.mem_of_getElem? (i := 371) (by decide +kernel)⟩
theorem lw_p9 : lw_okq (⟨"HousePlans$Drawing", "exitNow", "(I)Z"⟩, 5) := ⟨⟨by decide +kernel, by decide +kernel⟩, List.mem_of_getElem? (i := 184) (by decide +kernel), List.mem_of_getElem? (i := 375) (by decide +kernel), List.mem_of_getElem? (i := 376) (by decide +kernel)⟩
theorem lw_p10 : lw_okq (⟨"HousePlans$Floor", "findRooms", "()V"⟩, 4) := ⟨⟨by decide +kernel, by decide +kernel⟩, List.mem_of_getElem? (i := 57) (by decide +kernel), List.mem_of_getElem? (i := 382) (by decide +kernel), List.mem_of_getElem? (i := 383) (by decide +kernel)⟩
theorem lw_p11 : lw_okq (⟨"HousePlans$Floor", "join", "(II)V"⟩, 4) := ⟨⟨by decide +kernel, by decide +kernel⟩, List.mem_of_getElem? (i := 57) (by decide +kernel), List.mem_of_getElem? (i := 393) (by decide +kernel), List.mem_of_getElem? (i := 394) (by decide +kernel)⟩
theorem lw_p12 : lw_okq (⟨"HousePlans$Floor", "findWaysOut", "()V"⟩, 4) := ⟨⟨by decide +kernel, by decide +kernel⟩, List.mem_of_getElem? (i := 57) (by decide +kernel), List.mem_of_getElem? (i := 399) (by decide +kernel), List.mem_of_getElem? (i := 400) (by decide +kernel)⟩
theorem lw_p13 : lw_okq (⟨"HousePlans$Floor", "goThroughDoors", "([I)V"⟩, 4) := ⟨⟨by decide +kernel, by decide +kernel⟩, List.mem_of_getElem? (i := 57) (by decide +kernel), List.mem_of_getElem? (i := 404) (by decide +kernel), List.mem_of_getElem? (i := 405) (by decide +kernel)⟩
theorem lw_p14 : lw_okq (⟨"HousePlans$Floor", "countRooms", "()I"⟩, 4) := ⟨⟨by decide +kernel, by decide +kernel⟩, List.mem_of_getElem? (i := 57) (by decide +kernel), List.mem_of_getElem? (i := 411) (by decide +kernel), List.mem_of_getElem? (i := 412) (by decide +kernel)⟩
theorem lw_p15 : lw_okq (⟨"HousePlans$Floor", "countCells", "(I)I"⟩, 4) := ⟨⟨by decide +kernel, by decide +kernel⟩, List.mem_of_getElem? (i := 57) (by decide +kernel), List.mem_of_getElem? (i := 419) (by decide +kernel), List.mem_of_getElem? (i := 420) (by decide +kernel)⟩
def lw_privs_1 : List (MethodName × Nat) := [(⟨"java/lang/Throwable", "fillInStackTrace", "(I)Ljava/lang/Throwable;"⟩, 6), (⟨"java/util/ArrayList", "add", "(Ljava/lang/Object;[Ljava/lang/Object;I)V"⟩, 3), (⟨"java/util/ArrayList", "grow", "()[Ljava/lang/Object;"⟩, 3), (⟨"java/util/ArrayList", "grow", "(I)[Ljava/lang/Object;"⟩, 3), (⟨"HousePlans", "drawingAt", "(I)LHousePlans$Drawing;"⟩, 4), (⟨"HousePlans$Drawing", "changer", "()I"⟩, 5), (⟨"HousePlans$Drawing", "sideNow", "(I)I"⟩, 5), (⟨"HousePlans$Floor", "lookAt", "(LHousePlans$Drawing;)V"⟩, 4), (⟨"HousePlans$State", "takeFrom", "(LHousePlans$Drawing;)V"⟩, 2), (⟨"HousePlans$Drawing", "exitNow", "(I)Z"⟩, 5), (⟨"HousePlans$Floor", "findRooms", "()V"⟩, 4), (⟨"HousePlans$Floor", "join", "(II)V"⟩, 4), (⟨"HousePlans$Floor", "findWaysOut", "()V"⟩, 4), (⟨"HousePlans$Floor", "goThroughDoors", "([I)V"⟩, 4), (⟨"HousePlans$Floor", "countRooms", "()I"⟩, 4), (⟨"HousePlans$Floor", "countCells", "(I)I"⟩, 4)]
theorem lw_r1 : ∀ q ∈ lw_privs_1, lw_okq q := List.forall_mem_cons.mpr ⟨lw_p0, List.forall_mem_cons.mpr ⟨lw_p1, List.forall_mem_cons.mpr ⟨lw_p2, List.forall_mem_cons.mpr ⟨lw_p3, List.forall_mem_cons.mpr ⟨lw_p4, List.forall_mem_cons.mpr ⟨lw_p5, List.forall_mem_cons.mpr ⟨lw_p6, List.forall_mem_cons.mpr ⟨lw_p7, List.forall_mem_cons.mpr ⟨lw_p8, List.forall_mem_cons.mpr ⟨lw_p9, List.forall_mem_cons.mpr ⟨lw_p10, List.forall_mem_cons.mpr ⟨lw_p11, List.forall_mem_cons.mpr ⟨lw_p12, List.forall_mem_cons.mpr ⟨lw_p13, List.forall_mem_cons.mpr ⟨lw_p14, List.forall_mem_cons.mpr ⟨lw_p15, fun _ h => absurd h List.not_mem_nil⟩⟩⟩⟩⟩⟩⟩⟩⟩⟩⟩⟩⟩⟩⟩⟩
theorem lw_p16 : lw_okq (⟨"HousePlans", "printAt", "(I)LHousePlans$Print;"⟩, 4) := ⟨⟨by decide +kernel, by decide +kernel⟩, List.mem_of_getElem? (i := 23) (by decide +kernel), List.mem_of_getElem? (i := 431) (by decide +kernel), List.mem_of_getElem? (i := 432) (by decide +kernel)⟩
theorem lw_p17 : lw_okq (⟨"HousePlans$Drawing", "leadsTo", "(LHousePlans$Drawing;)Z"⟩, 5) := ⟨⟨by decide +kernel, by decide +kernel⟩, List.mem_of_getElem? (i := 184) (by decide +kernel), List.mem_of_getElem? (i := 455) (by decide +kernel), List.mem_of_getElem? (i := 456) (by decide +kernel)⟩
theorem lw_p18 : lw_okq (⟨"HousePlans$Floor", "wallThatHelps", "(I)I"⟩, 4) := ⟨⟨by decide +kernel, by decide +kernel⟩, List.mem_of_getElem? (i := 57) (by decide +kernel), List.mem_of_getElem? (i := 476) (by decide +kernel), List.mem_of_getElem? (i := 477) (by decide +kernel)⟩
theorem lw_p19 : lw_okq (⟨"HousePlans$Floor", "leadsOut", "(II)Z"⟩, 4) := ⟨⟨by decide +kernel, by decide +kernel⟩, List.mem_of_getElem? (i := 57) (by decide +kernel), List.mem_of_getElem? (i := 480) (by decide +kernel), List.mem_of_getElem? (i := 481) (by decide +kernel)⟩
theorem lw_p20 : lw_okq (⟨"HousePlans$Floor", "everyRoomHasWayOut", "()Z"⟩, 4) := ⟨⟨by decide +kernel, by decide +kernel⟩, List.mem_of_getElem? (i := 57) (by decide +kernel), List.mem_of_getElem? (i := 502) (by decide +kernel), List.mem_of_getElem? (i := 503) (by decide +kernel)⟩
theorem lw_p21 : lw_okq (⟨"HousePlans$Permit", "isValid", "()Z"⟩, 2) := ⟨⟨by decide +kernel, by decide +kernel⟩, List.mem_of_getElem? (i := 507) (by decide +kernel), List.mem_of_getElem? (i := 529) (by decide +kernel), List.mem_of_getElem? (i := 530) (by decide +kernel)⟩
theorem lw_p22 : lw_okq (⟨"HousePlans$State", "isThatOf", "(LHousePlans$Drawing;)Z"⟩, 2) := ⟨⟨by decide +kernel, by decide +kernel⟩, List.mem_of_getElem? (i := 63) (by decide +kernel), List.mem_of_getElem? (i := 533) (by decide +kernel), List.mem_of_getElem? (i := 534) (by decide +kernel)⟩
theorem lw_p23 : lw_okq (⟨"HousePlans", "highestPermit", "(LHousePlans$Drawing;)I"⟩, 4) := ⟨⟨by decide +kernel, by decide +kernel⟩, List.mem_of_getElem? (i := 23) (by decide +kernel), List.mem_of_getElem? (i := 543) (by decide +kernel), List.mem_of_getElem? (i := 544) (by decide +kernel)⟩
theorem lw_p24 : lw_okq (⟨"HousePlans$Print", "isOld", "()Z"⟩, 3) := ⟨⟨by decide +kernel, by decide +kernel⟩, List.mem_of_getElem? (i := 541) (by decide +kernel), List.mem_of_getElem? (i := 569) (by decide +kernel), List.mem_of_getElem? (i := 570) (by decide +kernel)⟩
def lw_privs_2 : List (MethodName × Nat) := [(⟨"HousePlans", "printAt", "(I)LHousePlans$Print;"⟩, 4), (⟨"HousePlans$Drawing", "leadsTo", "(LHousePlans$Drawing;)Z"⟩, 5), (⟨"HousePlans$Floor", "wallThatHelps", "(I)I"⟩, 4), (⟨"HousePlans$Floor", "leadsOut", "(II)Z"⟩, 4), (⟨"HousePlans$Floor", "everyRoomHasWayOut", "()Z"⟩, 4), (⟨"HousePlans$Permit", "isValid", "()Z"⟩, 2), (⟨"HousePlans$State", "isThatOf", "(LHousePlans$Drawing;)Z"⟩, 2), (⟨"HousePlans", "highestPermit", "(LHousePlans$Drawing;)I"⟩, 4), (⟨"HousePlans$Print", "isOld", "()Z"⟩, 3)]
theorem lw_r2 : ∀ q ∈ lw_privs_2, lw_okq q := List.forall_mem_cons.mpr ⟨lw_p16, List.forall_mem_cons.mpr ⟨lw_p17, List.forall_mem_cons.mpr ⟨lw_p18, List.forall_mem_cons.mpr ⟨lw_p19, List.forall_mem_cons.mpr ⟨lw_p20, List.forall_mem_cons.mpr ⟨lw_p21, List.forall_mem_cons.mpr ⟨lw_p22, List.forall_mem_cons.mpr ⟨lw_p23, List.forall_mem_cons.mpr ⟨lw_p24, fun _ h => absurd h List.not_mem_nil⟩⟩⟩⟩⟩⟩⟩⟩⟩
def lw_privs : List (MethodName × Nat) := lw_privs_1 ++ (lw_privs_2)
def lw_tbl : List Cond := k2_sels lw_privs ++ tables_1
theorem lw_privs_ok : ∀ q ∈ lw_privs, lw_okq q := by
  show ∀ q ∈ lw_privs_1 ++ (lw_privs_2), lw_okq q
  exact List.forall_mem_append.mpr ⟨lw_r1, lw_r2⟩
end
section
/-! ===== BEGIN words of one list among another's, by their places ===== -/
theorem goodIn_r {big : List Cond} (ws : List Cond) (ps : List Nat) (hp : ws = ps.filterMap (fun i => big[i]?)) (h : ws.all goodWord = true) : GoodIn big ws := by
  intro w hw
  have h1 := List.all_eq_true.mp h w hw
  rw [hp] at hw
  obtain ⟨i, -, hi⟩ := List.mem_filterMap.mp hw
  have hm : w ∈ big := by first | exact List.mem_of_getElem? hi | exact List.getElem?_mem hi
  exact ⟨hm, good_of_word h1⟩
theorem goodIn_app {big a b : List Cond} (ha : GoodIn big a) (hb : GoodIn big b) : GoodIn big (a ++ b) := fun w h => (List.mem_append.mp h).elim (ha w) (hb w)
theorem goodIn_ca {big a b : List Cond} {c : Cond} (ha : GoodIn big (c :: a)) (hb : GoodIn big b) : GoodIn big (c :: (a ++ b)) := fun w h => (List.mem_cons.mp h).elim (fun e => ha w (List.mem_cons.mpr (Or.inl e))) (fun h => (List.mem_append.mp h).elim (fun h => ha w (List.mem_cons.mpr (Or.inr h))) (hb w))
theorem goodIn_sub {big ws : List Cond} (hm : ∀ w ∈ ws, w ∈ big) (h : ws.all goodWord = true) : GoodIn big ws := fun w hw => ⟨hm w hw, good_of_word (List.all_eq_true.mp h w hw)⟩
/-! ===== END ===== -/

/-! ===== BEGIN exceptions that leave a method, and their catching by the caller (launches without stack traces) ===== -/
section VXA
/-! The laws vx_back, vx_callV, vx_callS, vx_callSW, vx_throw0, vx_throwS follow proofs of the library, with one case more: JvmDerived/Free/Laws.lean (Back.of_free), Shelf42/LK1.lean (callV, callS), Shelf/KitTraced.lean (throwNew0V, throwNewS). -/
/-- where a method has thrown q: the class by its name, the cell, what was written, the world -/
def vx_T (XC : String → State → State → Prop) (st : State) (q : Addr) (t : State) (mc ms : Nat) (free : Addr → Prop) : Prop :=
  ∃ (E : String) (ce : Cell) (L : List Loc), XC E st t ∧ t.heap[q]? = some ce ∧ ce.vm = .none ∧ st.vm.findClass E = some ce.cls ∧ st.WarmedH t.vm ∧ st.sameButNew ({ t with vm := st.vm } : State) L mc ms ∧ ∀ z ∈ L, free z.base
def vx_Q (Qc : Array Value → State → Outcome → State → Prop) (XC : String → State → State → Prop) (mc ms : Nat) (free : Addr → Prop) : Array Value → State → Outcome → State → Prop := fun a st o t =>
  (Qc a st o t ∧ ∃ L, FrameEnd st o t L mc ms ∧ ∀ q ∈ L, free q.base) ∨ ∃ q, o = .threw q ∧ vx_T XC st q t mc ms free
/-- a callee that returns or throws -/
def vx_Met (l : Launch) (y : MethodName) (ws : List Cond) (rm : Room) (Pc : Array Value → State → Prop) (Qc : Array Value → State → Outcome → State → Prop) (XC : String → State → State → Prop) (mc ms : Nat) (free : Addr → Prop) : Prop :=
  MetFree l y (headSpec ws rm) Pc (fun _ _ _ _ _ => True) (vx_Q Qc XC mc ms free)
def vx_Post (XC : String → State → State → Prop) (mc ms : Nat) (free : Addr → Prop) : Pt → Array Value → Addr → Pt → Prop := fun A a q B =>
  ∃ (g : JFrame) (mk : MethodId) (t : State) (L : List Loc) (E : String) (ce : Cell), B.U.heap = t.heap ∧ B.U.vm = t.vm ∧ XC E (A.U.calling g mk a) t ∧ t.heap[q]? = some ce ∧ ce.vm = .none ∧ A.U.vm.findClass E = some ce.cls ∧ B.locs = A.locs ++ L ∧ (∀ z ∈ L, free z.base) ∧ B.cells = A.cells + mc ∧ B.slots = A.slots + ms
def vx_Back (l : Launch) (R : Room) (p : Program) (e : Env) (below : List Frame) (s : State) (sargs : Array Value) (y : MethodName) (len W9 : Nat)
    (Pre : Pt → Array Value → Prop) (Post : Pt → Array Value → Option Value → Pt → Prop) (PostX : Pt → Array Value → Addr → Pt → Prop) : Prop :=
  ∀ (m : MethodId) (meth : Method) (c : Code) (A : Pt) (g : JFrame) (ig : Instr) (mk : MethodId) (a : Array Value),
    Stand p l e R s m sargs below meth c A.U A.locs A.cells A.slots → g.method = m → g.locals.size = c.maxLocals → decode c.code g.pc = .ok (ig, len) →
    2 * g.monitorRoom + (g.stack.map fun v => v.category).sum ≤ W9 → A.U.methodNamed? y = some mk → Pre A a →
    (∃ (v : Option Value) (B : Pt), Stand p l e R s m sargs below meth c B.U B.locs B.cells B.slots ∧ Post A a v B ∧
      Steps p.tables e below (doInvoke e (A.U.setTop g) [] mk a).1 (B.U.setTop { g with pc := g.pc + len, stack := v.toList ++ g.stack })) ∨
    (∃ (q : Addr) (B : Pt), Stand p l e R s m sargs below meth c B.U B.locs B.cells B.slots ∧ PostX A a q B ∧
      Steps p.tables e below (doInvoke e (A.U.setTop g) [] mk a).1 ((B.U.setTop g).pushFrame (.throwing q)))
section Payer
variable {l : Launch} {R : Room} {p : Program} {e : Env} {below : List Frame} {s : State} {sargs : Array Value} {y : MethodName} {len W9 : Nat}
theorem vx_back {ws : List Cond} {rm : Room} {Pc : Array Value → State → Prop} {Qc : Array Value → State → Outcome → State → Prop} {XC : String → State → State → Prop} {mc ms : Nat} {free : Addr → Prop} {bytes : ByteArray} {maxL : Nat} {ret : Option FieldType}
    (hM : vx_Met l y ws rm Pc Qc XC mc ms free) (hblind : FrameBlind Pc) (hrc : rm.cells = mc) (hrs : rm.slots = ms)
    (hframes : rm.frames + 1 ≤ R.frames) (hlocals : W9 + (maxL + 11) + rm.locals ≤ R.locals)
    (hws : ∀ w ∈ ws, ∀ a' U, s.WarmedH U.vm → w.before a' U = true) (hcode : Cond.code y bytes maxL ret ∈ ws) (hinit : ∀ a' U, s.WarmedH U.vm → (Cond.initialized y.cls).before a' U = true) :
    vx_Back l R p e below s sargs y len W9 (PreOf R mc ms Pc) (PostOf Qc mc ms free) (vx_Post XC mc ms free) := by
  intro m meth c A g ig mk a X hg hsize hdg hW hn hp
  have h1 : (headSpec ws rm).pre.before a A.U = true := atoms_intro fun w hw => hws w hw _ _ X.warmed
  have h2 : (Cond.code y bytes maxL ret).before a A.U = true := hws _ hcode _ _ X.warmed
  have h3 : (Cond.initialized y.cls).before a A.U = true := hinit _ _ X.warmed
  have h4 : A.cells + (headSpec ws rm).room.cells ≤ R.cells := by rw [show (headSpec ws rm).room.cells = mc from hrc]; exact hp.1
  have h5 : A.slots + (headSpec ws rm).room.slots ≤ R.slots := by rw [show (headSpec ws rm).room.slots = ms from hrs]; exact hp.2.1
  have hPc : Pc a (A.U.calling g mk a) := hblind _ _ _ _ hp.2.2
  obtain ⟨U, Ls, c0, s0⟩ := A
  dsimp only [Pt.U, Pt.locs, Pt.cells, Pt.slots] at h1 h2 h3 h4 h5 X hn hPc ⊢
  obtain ⟨methY, cY, hmY, hcY, -, hlY, -, -, -, -⟩ := Cond.code_spec hn h2
  obtain ⟨kY, hkY, -⟩ := className_of_methodNamed hn
  have hinitY : kY.init = .initialized := Cond.initialized_spec (findClass_of_methodNamed hn) hkY h3
  have h : At U g.method c below := by rw [hg]; exact X.here
  have hlocals9 : W9 + (maxL + 11) + (headSpec ws rm).room.locals ≤ R.locals := hlocals
  have happ : (headSpec ws rm).appliesLoose y e.platform (U.calling g mk a) = true :=
    Spec.appliesLoose_calling (g := g) h hdg hn hkY hinitY
      (X.room_calling (g := g) (R' := (headSpec ws rm).room) hsize hmY hcY hframes (by rw [hlY]; omega) h4 h5) h1
  obtain ⟨mid, hmid⟩ := h.above
  have hfr : (U.setTop g).frames = (.java g :: mid) ++ below := by rw [State.frames_setTop' g h.top, hmid]; rfl
  obtain ⟨o, s₂, hsteps, -, hend, hq⟩ := Steps.callFree hM p X.admits X.cas X.clock (acts := []) hfr happ hPc trivial
  have hq' : vx_Q Qc XC mc ms free a (U.calling g mk a) o s₂ := hq
  rw [State.frames_setTop' g h.top] at hend
  obtain ⟨g₀, hg0⟩ := Option.isSome_iff_exists.mp h.top
  obtain ⟨r, hr⟩ := State.topJava?_eq_some.mp hg0
  have hr' : (({ U with heap := s₂.heap, slotsUsed := s₂.slotsUsed } : State).setVm s₂.vm).frames = .java g₀ :: r := hr
  rcases hq' with ⟨hqc, L, hfe, hL⟩ | ⟨q, rfl, E, ce, L, hx, hce, hcv, hcl, hW₂, hsm, hL⟩
  · obtain ⟨⟨v, rfl⟩, hW₂, e2, q2, q3, q4, q5, q6⟩ := id hfe
    have e3 : s₂ = ({ (U.calling g mk a).setFrames s₂.frames with heap := s₂.heap, slotsUsed := s₂.slotsUsed } : State).setVm s₂.vm := by
      have : s₂ = ({ s₂ with vm := (U.calling g mk a).vm } : State).setVm s₂.vm := rfl
      rw [e2] at this
      exact this
    obtain ⟨c₂, i₂, len₂, hc₂, hd₂, hf₂⟩ := hend
    have hW' : U.WarmedH s₂.vm := hW₂
    have hcc : c₂ = c := by
      have h1 : s₂.code? g.method = U.code? g.method := by
        rw [State.code?_eq, State.code?_eq, hW'.alike.method?]
      exact Option.some.inj (hc₂.symm.trans (h1.trans h.code))
    subst hcc
    have hlen : len₂ = len := by rw [hdg] at hd₂; cases hd₂; rfl
    subst hlen
    have hs₂ : s₂ = (({ U with heap := s₂.heap, slotsUsed := s₂.slotsUsed } : State).setVm s₂.vm).setTop { g with pc := g.pc + len₂, stack := v.toList ++ g.stack } := by
      refine e3.trans ?_
      rw [hf₂, State.calling_eq h.top, State.setFrames_setFrames, State.setTop_of_frames _ hr', hr]
      rfl
    have hsame : U.sameButNew ({ U with heap := s₂.heap, slotsUsed := s₂.slotsUsed } : State) L mc ms := by
      refine ⟨?_, q2, q3, q4, q5, q6⟩
      obtain ⟨t, ht, -⟩ := State.frames_cons hr
      show ({ U with heap := s₂.heap, slotsUsed := s₂.slotsUsed } : State) = { U.setFrames U.frames with heap := s₂.heap, slotsUsed := s₂.slotsUsed }
      rw [State.setFrames_self ht]
    subst hg
    refine Or.inl ⟨v, ⟨(({ U with heap := s₂.heap, slotsUsed := s₂.slotsUsed } : State).setVm s₂.vm), Ls ++ L, c0 + mc, s0 + ms⟩,
      ⟨X.admits, X.cas, X.clock, X.frames, X.room, X.hears, X.method, X.code, (X.here.setHeapUsed s₂.heap s₂.slotsUsed).setVm hW'.alike, X.tail, State.WarmedH.trans X.warmed hW', X.limits, X.bytes, X.same.trans (hsame.setVm s.vm)⟩,
      ⟨g, mk, s₂, L, rfl, rfl, hqc, rfl, hL, rfl, rfl⟩, ?_⟩
    show Steps p.tables e below _ ((({ U with heap := s₂.heap, slotsUsed := s₂.slotsUsed } : State).setVm s₂.vm).setTop { g with pc := g.pc + len₂, stack := v.toList ++ g.stack })
    rw [← hs₂]
    exact hsteps
  · obtain ⟨e2, q2, q3, q4, q5, q6⟩ := id hsm
    have e3 : s₂ = ({ (U.calling g mk a).setFrames s₂.frames with heap := s₂.heap, slotsUsed := s₂.slotsUsed } : State).setVm s₂.vm := by
      have : s₂ = ({ s₂ with vm := (U.calling g mk a).vm } : State).setVm s₂.vm := rfl
      rw [e2] at this
      exact this
    have hf₂ : s₂.frames = .throwing q :: .java g :: U.frames.tail := hend
    have hW' : U.WarmedH s₂.vm := hW₂
    have hs₂ : s₂ = ((({ U with heap := s₂.heap, slotsUsed := s₂.slotsUsed } : State).setVm s₂.vm).setTop g).pushFrame (.throwing q) := by
      refine e3.trans ?_
      rw [hf₂, State.calling_eq h.top, State.setFrames_setFrames, State.pushFrame, State.frames_setTop _ hr', State.setTop_of_frames _ hr', State.setFrames_setFrames, hr]
      rfl
    have hsame : U.sameButNew ({ U with heap := s₂.heap, slotsUsed := s₂.slotsUsed } : State) L mc ms := by
      refine ⟨?_, q2, q3, q4, q5, q6⟩
      obtain ⟨t, ht, -⟩ := State.frames_cons hr
      show ({ U with heap := s₂.heap, slotsUsed := s₂.slotsUsed } : State) = { U.setFrames U.frames with heap := s₂.heap, slotsUsed := s₂.slotsUsed }
      rw [State.setFrames_self ht]
    subst hg
    refine Or.inr ⟨q, ⟨(({ U with heap := s₂.heap, slotsUsed := s₂.slotsUsed } : State).setVm s₂.vm), Ls ++ L, c0 + mc, s0 + ms⟩,
      ⟨X.admits, X.cas, X.clock, X.frames, X.room, X.hears, X.method, X.code, (X.here.setHeapUsed s₂.heap s₂.slotsUsed).setVm hW'.alike, X.tail, State.WarmedH.trans X.warmed hW', X.limits, X.bytes, X.same.trans (hsame.setVm s.vm)⟩,
      ⟨g, mk, s₂, L, E, ce, rfl, rfl, hx, hce, hcv, hcl, rfl, hL, rfl, rfl⟩, ?_⟩
    show Steps p.tables e below _ (((({ U with heap := s₂.heap, slotsUsed := s₂.slotsUsed } : State).setVm s₂.vm).setTop g).pushFrame (.throwing q))
    rw [← hs₂]
    exact hsteps
end Payer
section Calls
variable {p : Program} {l : Launch} {e : Env} {R : Room} {s : State} {m : MethodId} {args : Array Value} {below : List Frame} {meth : Method} {c : Code} {T : State} {locs : List Loc} {cells slots : Nat}
theorem vx_callV (X : Stand p l e R s m args below meth c T locs cells slots) (hexec : p.tables.exec = Jvm.exec) {own C : String} {index : Nat} {y : MethodName} {bytes : ByteArray} {maxL : Nat} {ret : Option FieldType}
    (hown : s.vm.findClass own = some m.cls) (hlink : (Cond.methodLink own index y).before args s = true) (hinst : (Cond.instanceMethod y).before args s = true) (hsel : (Cond.selects C y y).before args s = true)
    (hcode : (Cond.code y bytes maxL ret).before args s = true) (hy : y.cls ≠ "java/lang/invoke/MethodHandle" ∧ y.cls ≠ "java/lang/invoke/VarHandle")
    {W9 : Nat} {Pre : Pt → Array Value → Prop} {Post : Pt → Array Value → Option Value → Pt → Prop} {PostX : Pt → Array Value → Addr → Pt → Prop} (hK : vx_Back l R p e below s args y 3 W9 Pre Post PostX)
    {b : Addr} {cellB : Cell} (hcell : T.heap[b]? = some cellB) (hobj : cellB.vm.isStatics = false) (hcls : s.vm.findClass C = some cellB.cls)
    {g : JFrame} (hg : g.method = m) (hsize : g.locals.size = c.maxLocals) {argsL rest : List Value} (hlen : ∀ sig, parseMethodDescriptor y.desc = some sig → argsL.length = sig.parameters.length)
    (hstack : g.stack = argsL.reverse ++ .ref b :: rest) (hW : 2 * g.monitorRoom + (rest.map fun v => v.category).sum ≤ W9) (hdg : decode c.code g.pc = .ok (.invokevirtual index, 3))
    (hpre : ∀ vm₁, s.WarmedH vm₁ → Pre ⟨T.setVm vm₁, locs, cells, slots⟩ (Value.ref b :: argsL).toArray) :
    (∃ (v : Option Value) (vm₁ : Vm) (B : Pt), s.WarmedH vm₁ ∧ Stand p l e R s m args below meth c B.U B.locs B.cells B.slots ∧ Post ⟨T.setVm vm₁, locs, cells, slots⟩ (Value.ref b :: argsL).toArray v B ∧
      ∀ target, Steps p.tables e below (B.U.setTop { g with pc := g.pc + 3, stack := v.toList ++ rest }) target → Steps p.tables e below (T.setTop g) target) ∨
    (∃ (q : Addr) (vm₁ : Vm) (B : Pt), s.WarmedH vm₁ ∧ Stand p l e R s m args below meth c B.U B.locs B.cells B.slots ∧ PostX ⟨T.setVm vm₁, locs, cells, slots⟩ (Value.ref b :: argsL).toArray q B ∧
      Steps p.tables e below (T.setTop g) ((B.U.setTop { g with stack := rest }).pushFrame (.throwing q))) := by
  obtain ⟨mk, methM, hnamed, hmethM, hstM, habM⟩ := Cond.instanceMethod_spec hinst
  obtain ⟨methM', cM, hmethM', -, -, -, -, -, -, hsigM⟩ := Cond.code_spec hnamed hcode
  cases hmethM.symm.trans hmethM'
  obtain ⟨c2, r2, m2, q1, q2, q3, q4, kP, hkP, hkPi⟩ := Cond.selects_spec hsel
  cases hcls.symm.trans q1
  cases (State.methodFound?_of_named hnamed hy).symm.trans q2
  cases hnamed.symm.trans q3
  have hselP : selectMethod e.platform s.vm cellB.cls mk = .method mk := by rw [Launch.admits_selectMethod X.admits]; exact q4
  obtain ⟨vm₁, X₁, hstep₁⟩ := X.invokevirtual hexec hown hlink hnamed hmethM hstM hkP hkPi hy (a := b) (cell := cellB) hcell
    (fun z h => by rw [h] at hobj; cases hobj) hselP hmethM habM hkP hkPi (g := g) hg (argsL := argsL) (rest := rest) (hlen _ hsigM) hstack hdg
  rcases hK m meth c ⟨T.setVm vm₁, locs, cells, slots⟩ { g with stack := rest } (.invokevirtual index) mk (Value.ref b :: argsL).toArray X₁ hg hsize hdg hW (X₁.named hnamed) (hpre vm₁ X₁.warmed) with ⟨v, B, X', hpost, hsteps⟩ | ⟨q, B, X', hpost, hsteps⟩
  · exact Or.inl ⟨v, vm₁, B, X₁.warmed, X', hpost, fun target h => hstep₁ _ fun acts => by rw [doInvoke_state]; exact hsteps.trans h⟩
  · exact Or.inr ⟨q, vm₁, B, X₁.warmed, X', hpost, hstep₁ _ fun acts => by rw [doInvoke_state]; exact hsteps⟩
theorem vx_callS (X : Stand p l e R s m args below meth c T locs cells slots) (hexec : p.tables.exec = Jvm.exec) {own : String} {index : Nat} {y : MethodName} {bytes : ByteArray} {maxL : Nat} {ret : Option FieldType}
    (hown : s.vm.findClass own = some m.cls) (hlink : (Cond.methodLink own index y).before args s = true) (hstat : (Cond.static y).before args s = true) (hinit : (Cond.initialized y.cls).before args s = true)
    (hcode : (Cond.code y bytes maxL ret).before args s = true) (hy : y.cls ≠ "java/lang/invoke/MethodHandle" ∧ y.cls ≠ "java/lang/invoke/VarHandle")
    {W9 : Nat} {Pre : Pt → Array Value → Prop} {Post : Pt → Array Value → Option Value → Pt → Prop} {PostX : Pt → Array Value → Addr → Pt → Prop} (hK : vx_Back l R p e below s args y 3 W9 Pre Post PostX)
    {g : JFrame} (hg : g.method = m) (hsize : g.locals.size = c.maxLocals) {argsL rest : List Value} (hlen : ∀ sig, parseMethodDescriptor y.desc = some sig → argsL.length = sig.parameters.length)
    (hstack : g.stack = argsL.reverse ++ rest) (hW : 2 * g.monitorRoom + (rest.map fun v => v.category).sum ≤ W9) (hdg : decode c.code g.pc = .ok (.invokestatic index, 3))
    (hpre : ∀ vm₁, s.WarmedH vm₁ → Pre ⟨T.setVm vm₁, locs, cells, slots⟩ argsL.toArray) :
    (∃ (v : Option Value) (vm₁ : Vm) (B : Pt), s.WarmedH vm₁ ∧ Stand p l e R s m args below meth c B.U B.locs B.cells B.slots ∧ Post ⟨T.setVm vm₁, locs, cells, slots⟩ argsL.toArray v B ∧
      ∀ target, Steps p.tables e below (B.U.setTop { g with pc := g.pc + 3, stack := v.toList ++ rest }) target → Steps p.tables e below (T.setTop g) target) ∨
    (∃ (q : Addr) (vm₁ : Vm) (B : Pt), s.WarmedH vm₁ ∧ Stand p l e R s m args below meth c B.U B.locs B.cells B.slots ∧ PostX ⟨T.setVm vm₁, locs, cells, slots⟩ argsL.toArray q B ∧
      Steps p.tables e below (T.setTop g) ((B.U.setTop { g with stack := rest }).pushFrame (.throwing q))) := by
  obtain ⟨mk, hnamed⟩ := Cond.code_named hcode
  obtain ⟨methM, cM, hmethM, -, -, -, -, -, -, hsigM⟩ := Cond.code_spec hnamed hcode
  have hstatic : methM.isStatic = true := Cond.static_spec hnamed hmethM hstat
  obtain ⟨kP, hkP, -⟩ := className_of_methodNamed hnamed
  have hinitP : kP.init = .initialized := Cond.initialized_spec (findClass_of_methodNamed hnamed) hkP hinit
  obtain ⟨vm₁, X₁, hstep₁⟩ := X.invokestatic hexec hown hlink hnamed hmethM hstatic hkP hinitP hy (g := g) hg (argsL := argsL) (rest := rest) (hlen _ hsigM) hstack hdg
  rcases hK m meth c ⟨T.setVm vm₁, locs, cells, slots⟩ { g with stack := rest } (.invokestatic index) mk argsL.toArray X₁ hg hsize hdg hW (X₁.named hnamed) (hpre vm₁ X₁.warmed) with ⟨v, B, X', hpost, hsteps⟩ | ⟨q, B, X', hpost, hsteps⟩
  · exact Or.inl ⟨v, vm₁, B, X₁.warmed, X', hpost, fun target h => hstep₁ _ fun acts => by rw [doInvoke_state]; exact hsteps.trans h⟩
  · exact Or.inr ⟨q, vm₁, B, X₁.warmed, X', hpost, hstep₁ _ fun acts => by rw [doInvoke_state]; exact hsteps⟩
end Calls
theorem vx_cls {s : State} {T : State} {vm₁ : Vm} {E : String} {k : ClassId} (hW : s.WarmedH vm₁) (h : (T.setVm vm₁).vm.findClass E = some k) : s.vm.findClass E = some k := by
  have h1 : vm₁.findClass E = some k := h
  rw [hW.alike.findClass] at h1
  exact h1
/-- the method's frame g, with q thrown over it -/
def vx_W (p : Program) (l : Launch) (e : Env) (R : Room) (s : State) (m : MethodId) (args : Array Value) (below : List Frame) (meth : Method) (c : Code) (H : Heap) (locs : List Loc) (cells slots : Nat) (Q : State → Prop) (g : JFrame) (q : Addr) : Prop :=
  ∀ T : State, T.heap = H → Stand p l e R s m args below meth c T locs cells slots → ∃ t, Steps p.tables e below ((T.setTop g).pushFrame (.throwing q)) t ∧ Q t
def vx_Run (p : Program) (l : Launch) (e : Env) (R : Room) (s : State) (m : MethodId) (args : Array Value) (below : List Frame) (meth : Method) (c : Code) (H : Heap) (locs : List Loc) (cells slots mc ms : Nat) (g : JFrame) (rest : List Value) (Qa : State → Outcome → State → Prop) (XC : String → State → State → Prop) (free : Addr → Prop) : Prop :=
  ∀ T : State, T.heap = H → Stand p l e R s m args below meth c T locs cells slots →
    (∃ (v : Option Value) (st₀ t T' : State) (L : List Loc), st₀.heap = H ∧ Stand p l e R s m args below meth c T' (locs ++ L) (cells + mc) (slots + ms) ∧ (∀ q ∈ L, free q.base) ∧ T'.heap = t.heap ∧ T'.vm = t.vm ∧ Qa st₀ (.returned v) t ∧
      Goes p e below T g T' { g with pc := g.pc + 3, stack := v.toList ++ rest }) ∨
    (∃ (q : Addr) (st₀ t T' : State) (L : List Loc) (E : String) (ce : Cell), st₀.heap = H ∧ Stand p l e R s m args below meth c T' (locs ++ L) (cells + mc) (slots + ms) ∧ (∀ z ∈ L, free z.base) ∧ T'.heap = t.heap ∧ T'.vm = t.vm ∧ XC E st₀ t ∧ t.heap[q]? = some ce ∧ ce.vm = .none ∧ s.vm.findClass E = some ce.cls ∧
      Steps p.tables e below (T.setTop g) ((T'.setTop { g with stack := rest }).pushFrame (.throwing q)))
def vx_X {S : Type} (px : S → Prop) (B : String → S → State → Prop) (A : Nat → Prop) : String → State → State → Prop := fun E st t => ∃ u : S, px u ∧ B E u t ∧ va_F A st t
section Runs
variable {p : Program} {l : Launch} {e : Env} {R : Room} {s : State} {m : MethodId} {args : Array Value} {below : List Frame} {meth : Method} {c : Code} {H : Heap} {locs : List Loc} {cells slots : Nat}
variable {y : MethodName} {bytes cc : ByteArray} {maxL nL mc ms n index : Nat} {ret : Option FieldType} {ws : List Cond} {rm : Room} {Pc : Array Value → State → Prop} {Qc : Array Value → State → Outcome → State → Prop} {XC : String → State → State → Prop} {free : Addr → Prop} {Ts : List Cond} {own C : String} {b : Addr} {As rest : List Value} {g : JFrame}
theorem vx_callBack (cb : CallB R s args own index y bytes maxL ret ws rm mc ms n) (hM : vx_Met l y ws rm Pc Qc XC mc ms free) (hbl : FrameBlind Pc) : vx_Back l R p e below s args y 3 8 (PreOf R mc ms Pc) (PostOf Qc mc ms free) (vx_Post XC mc ms free) := by
  obtain ⟨hrc, hrs, hfr, hlo, hws, hcw, -, hini, -⟩ := cb
  exact vx_back (bytes := bytes) (maxL := maxL) (ret := ret) hM hbl hrc hrs hfr hlo hws hcw (fun a' U hW => word_at hW (Or.inl (by first | rfl | simp [Cond.onTables, Cond.keeps, Cond.steady])) hini)
theorem vx_runV (S : CallFix p m c cc nL s args Ts own) (hM : vx_Met l y ws rm Pc Qc XC mc ms free) (cw : CallW R s args own C index y bytes maxL ret ws rm mc ms n) (hp : PreV s H C b Pc As)
    (hg : g.method = m) (hn : As.length = n) (hsize : g.locals.size = nL) (hstack : g.stack = As.reverse ++ .ref b :: rest) (hW : 2 * g.monitorRoom + (rest.map fun v => v.category).sum ≤ 8) (hdg : decode cc g.pc = .ok (.invokevirtual index, 3)) (hf : cells + mc ≤ R.cells ∧ slots + ms ≤ R.slots) :
    vx_Run p l e R s m args below meth c H locs cells slots mc ms g rest (Qc (Value.ref b :: As).toArray) XC free := by
  have hK : vx_Back l R p e below s args y 3 8 (PreOf R mc ms Pc) (PostOf Qc mc ms free) (vx_Post XC mc ms free) := vx_callBack cw.1 hM hp.1
  obtain ⟨⟨-, -, -, -, -, -, hcode, -, hy, hlen, hl⟩, hin, hse⟩ := cw
  obtain ⟨hx, hb, hml, ho, -⟩ := S
  obtain ⟨-, ⟨cellB, hcB, hoB, hclB⟩, hPc⟩ := hp
  intro T hT X
  rcases vx_callV X hx (C := C) (bytes := bytes) (maxL := maxL) (ret := ret) ho hl hin hse hcode hy hK (by rw [hT]; exact hcB) hoB hclB hg (hsize.trans hml.symm) (argsL := As) (rest := rest) (fun sig h => hn.trans (hlen sig h)) hstack hW (by rw [hb]; exact hdg)
    (fun vm₁ hW₁ => ⟨hf.1, hf.2, hPc (T.setVm vm₁) hT hW₁⟩) with ⟨v, vm₁, ⟨U', l2, c2, s2⟩, hW₁, X', ⟨g', mk, t, L, e1, e2, hq, h1, hL, h2, h3⟩, st⟩ | ⟨q, vm₁, ⟨U', l2, c2, s2⟩, hW₁, X', ⟨g', mk, t, L, E, ce, e1, e2, hq, hce, hcv, hcl, h1, hL, h2, h3⟩, st⟩
  · dsimp only [Pt.U, Pt.locs, Pt.cells, Pt.slots] at X' e1 e2 h1 h2 h3 st
    subst h1; subst h2; subst h3
    exact Or.inl ⟨v, (T.setVm vm₁).calling g' mk (Value.ref b :: As).toArray, t, U', L, hT, X', hL, e1, e2, hq, st⟩
  · dsimp only [Pt.U, Pt.locs, Pt.cells, Pt.slots] at X' e1 e2 h1 h2 h3 st hcl
    subst h1; subst h2; subst h3
    exact Or.inr ⟨q, (T.setVm vm₁).calling g' mk (Value.ref b :: As).toArray, t, U', L, E, ce, hT, X', hL, e1, e2, hq, hce, hcv, vx_cls hW₁ hcl, st⟩
theorem vx_runS (S : CallFix p m c cc nL s args Ts own) (hM : vx_Met l y ws rm Pc Qc XC mc ms free) (cw : CallB R s args own index y bytes maxL ret ws rm mc ms n ∧ (Cond.static y).before args s = true) (hp : PreS s H Pc As)
    (hg : g.method = m) (hn : As.length = n) (hsize : g.locals.size = nL) (hstack : g.stack = As.reverse ++ rest) (hW : 2 * g.monitorRoom + (rest.map fun v => v.category).sum ≤ 8) (hdg : decode cc g.pc = .ok (.invokestatic index, 3)) (hf : cells + mc ≤ R.cells ∧ slots + ms ≤ R.slots) :
    vx_Run p l e R s m args below meth c H locs cells slots mc ms g rest (Qc As.toArray) XC free := by
  have hK : vx_Back l R p e below s args y 3 8 (PreOf R mc ms Pc) (PostOf Qc mc ms free) (vx_Post XC mc ms free) := vx_callBack cw.1 hM hp.1
  obtain ⟨⟨-, -, -, -, -, -, hcode, hini, hy, hlen, hl⟩, hstt⟩ := cw
  obtain ⟨hx, hb, hml, ho, -⟩ := S
  intro T hT X
  rcases vx_callS X hx (bytes := bytes) (maxL := maxL) (ret := ret) ho hl hstt hini hcode hy hK hg (hsize.trans hml.symm) (argsL := As) (rest := rest) (fun sig h => hn.trans (hlen sig h)) hstack hW (by rw [hb]; exact hdg)
    (fun vm₁ hW₁ => ⟨hf.1, hf.2, hp.2 (T.setVm vm₁) hT hW₁⟩) with ⟨v, vm₁, ⟨U', l2, c2, s2⟩, hW₁, X', ⟨g', mk, t, L, e1, e2, hq, h1, hL, h2, h3⟩, st⟩ | ⟨q, vm₁, ⟨U', l2, c2, s2⟩, hW₁, X', ⟨g', mk, t, L, E, ce, e1, e2, hq, hce, hcv, hcl, h1, hL, h2, h3⟩, st⟩
  · dsimp only [Pt.U, Pt.locs, Pt.cells, Pt.slots] at X' e1 e2 h1 h2 h3 st
    subst h1; subst h2; subst h3
    exact Or.inl ⟨v, (T.setVm vm₁).calling g' mk As.toArray, t, U', L, hT, X', hL, e1, e2, hq, st⟩
  · dsimp only [Pt.U, Pt.locs, Pt.cells, Pt.slots] at X' e1 e2 h1 h2 h3 st hcl
    subst h1; subst h2; subst h3
    exact Or.inr ⟨q, (T.setVm vm₁).calling g' mk As.toArray, t, U', L, E, ce, hT, X', hL, e1, e2, hq, hce, hcv, vx_cls hW₁ hcl, st⟩
end Runs
section Rows
variable {p : Program} {l : Launch} {e : Env} {R : Room} {s : State} {m : MethodId} {args : Array Value} {below : List Frame} {meth : Method} {c : Code} {H : Heap} {locs : List Loc} {cells slots : Nat} {Q : State → Prop}
variable {mc ms : Nat} {free : Addr → Prop} {A0 A1 : Nat → Prop} {H0 : Heap} {a : Array Value} {pc : Nat} {ls : Array Slot} {st0 rest : List Value}
theorem vx_keep {st₀ t T' : State} {L : List Loc} (h0 : st₀.heap = H) (e1 : T'.heap = t.heap) (hS : va_S A0 H0 H locs) (hA : ∀ q, q < H.size → A1 q → A0 q) (hf : ∀ q, free q → A0 q) (hL : ∀ q ∈ L, free q.base) (hF : va_F A1 st₀ t) :
    H.size ≤ T'.heap.size ∧ (∀ q : Nat, q < H.size → ¬ A1 q → T'.heap[q]? = H[q]?) ∧ va_S A0 H0 T'.heap (locs ++ L) := by
  obtain ⟨hz, hk⟩ := hF
  rw [h0] at hz hk
  exact ⟨by rw [e1]; exact hz, fun q h1 h2 => by rw [e1]; exact hk q h1 h2,
    ⟨Nat.le_trans hS.1 (by rw [e1]; exact hz), fun q h1 h2 => by rw [e1, hk q (Nat.lt_of_lt_of_le h1 hS.1) (fun z => h2 (hA q (Nat.lt_of_lt_of_le h1 hS.1) z))]; exact hS.2.1 q h1 h2, fun q hq => by
      rcases List.mem_append.mp hq with h | h
      · exact hS.2.2 q h
      · exact hf _ (hL q h)⟩⟩
theorem vx_calli {S SX : Type} {post : Int32 → S → Prop} {px : SX → Prop} {B : S → State → Prop} {BX : String → SX → State → Prop} {AX : Nat → Prop} (hr : vx_Run p l e R s m args below meth c H locs cells slots mc ms (F0 m pc ls st0) rest (va_Qi post B A1 a) (vx_X px BX AX) free) (hS : va_S A0 H0 H locs) (hA : ∀ q, q < H.size → A1 q → A0 q) (hf : ∀ q, free q → A0 q) (hAX : ∀ q, q < H.size → AX q → A0 q)
    (kx : ∀ (E : String) (ce : Cell) (q9 : Addr) (u : SX) (t : State) (H1 : Heap) (locs1 : List Loc), t.heap = H1 → s.vm.Alike t.vm → px u → BX E u t → H.size ≤ H1.size → (∀ q : Nat, q < H.size → ¬ AX q → H1[q]? = H[q]?) → va_S A0 H0 H1 locs1 → H1[q9]? = some ce → ce.vm = .none → s.vm.findClass E = some ce.cls → vx_W p l e R s m args below meth c H1 locs1 (cells + mc) (slots + ms) Q (F0 m pc ls rest) q9)
    (kk : ∀ (r : Int32) (u : S) (t : State) (H1 : Heap) (locs1 : List Loc), t.heap = H1 → s.vm.Alike t.vm → post r u → B u t → H.size ≤ H1.size → (∀ q : Nat, q < H.size → ¬ A1 q → H1[q]? = H[q]?) → va_S A0 H0 H1 locs1 → W p l e R s m args below meth c H1 locs1 (cells + mc) (slots + ms) Q (F0 m (pc + 3) ls (.int r :: rest))) : W p l e R s m args below meth c H locs cells slots Q (F0 m pc ls st0) := by
  intro T hT X
  rcases hr T hT X with ⟨v, st₀, t, T', L, h0, X', hL, e1, e2, ⟨⟨r, u, hv, hp, hb⟩, hF⟩, st⟩ | ⟨q, st₀, t, T', L, E, ce, h0, X', hL, e1, e2, ⟨u, hp, hb, hF⟩, hce, hcv, hcl, st⟩
  · cases hv
    obtain ⟨k1, k2, k3⟩ := vx_keep h0 e1 hS hA hf hL hF
    obtain ⟨t2, a1, b1⟩ := kk r u t T'.heap (locs ++ L) e1.symm (by rw [← e2]; exact X'.warmed.alike) hp hb k1 k2 k3 T' rfl X'
    exact ⟨t2, st t2 a1, b1⟩
  · obtain ⟨k1, k2, k3⟩ := vx_keep h0 e1 hS hAX hf hL hF
    obtain ⟨t2, a1, b1⟩ := kx E ce q u t T'.heap (locs ++ L) e1.symm (by rw [← e2]; exact X'.warmed.alike) hp hb k1 k2 k3 (by rw [e1]; exact hce) hcv hcl T' rfl X'
    exact ⟨t2, st.trans a1, b1⟩
theorem vx_calll {S SX : Type} {post : Int64 → S → Prop} {px : SX → Prop} {B : S → State → Prop} {BX : String → SX → State → Prop} {AX : Nat → Prop} (hr : vx_Run p l e R s m args below meth c H locs cells slots mc ms (F0 m pc ls st0) rest (va_Ql post B A1 a) (vx_X px BX AX) free) (hS : va_S A0 H0 H locs) (hA : ∀ q, q < H.size → A1 q → A0 q) (hf : ∀ q, free q → A0 q) (hAX : ∀ q, q < H.size → AX q → A0 q)
    (kx : ∀ (E : String) (ce : Cell) (q9 : Addr) (u : SX) (t : State) (H1 : Heap) (locs1 : List Loc), t.heap = H1 → s.vm.Alike t.vm → px u → BX E u t → H.size ≤ H1.size → (∀ q : Nat, q < H.size → ¬ AX q → H1[q]? = H[q]?) → va_S A0 H0 H1 locs1 → H1[q9]? = some ce → ce.vm = .none → s.vm.findClass E = some ce.cls → vx_W p l e R s m args below meth c H1 locs1 (cells + mc) (slots + ms) Q (F0 m pc ls rest) q9)
    (kk : ∀ (r : Int64) (u : S) (t : State) (H1 : Heap) (locs1 : List Loc), t.heap = H1 → s.vm.Alike t.vm → post r u → B u t → H.size ≤ H1.size → (∀ q : Nat, q < H.size → ¬ A1 q → H1[q]? = H[q]?) → va_S A0 H0 H1 locs1 → W p l e R s m args below meth c H1 locs1 (cells + mc) (slots + ms) Q (F0 m (pc + 3) ls (.long r :: rest))) : W p l e R s m args below meth c H locs cells slots Q (F0 m pc ls st0) := by
  intro T hT X
  rcases hr T hT X with ⟨v, st₀, t, T', L, h0, X', hL, e1, e2, ⟨⟨r, u, hv, hp, hb⟩, hF⟩, st⟩ | ⟨q, st₀, t, T', L, E, ce, h0, X', hL, e1, e2, ⟨u, hp, hb, hF⟩, hce, hcv, hcl, st⟩
  · cases hv
    obtain ⟨k1, k2, k3⟩ := vx_keep h0 e1 hS hA hf hL hF
    obtain ⟨t2, a1, b1⟩ := kk r u t T'.heap (locs ++ L) e1.symm (by rw [← e2]; exact X'.warmed.alike) hp hb k1 k2 k3 T' rfl X'
    exact ⟨t2, st t2 a1, b1⟩
  · obtain ⟨k1, k2, k3⟩ := vx_keep h0 e1 hS hAX hf hL hF
    obtain ⟨t2, a1, b1⟩ := kx E ce q u t T'.heap (locs ++ L) e1.symm (by rw [← e2]; exact X'.warmed.alike) hp hb k1 k2 k3 (by rw [e1]; exact hce) hcv hcl T' rfl X'
    exact ⟨t2, st.trans a1, b1⟩
theorem vx_callf {S SX : Type} {post : UInt32 → S → Prop} {px : SX → Prop} {B : S → State → Prop} {BX : String → SX → State → Prop} {AX : Nat → Prop} (hr : vx_Run p l e R s m args below meth c H locs cells slots mc ms (F0 m pc ls st0) rest (va_Qf post B A1 a) (vx_X px BX AX) free) (hS : va_S A0 H0 H locs) (hA : ∀ q, q < H.size → A1 q → A0 q) (hf : ∀ q, free q → A0 q) (hAX : ∀ q, q < H.size → AX q → A0 q)
    (kx : ∀ (E : String) (ce : Cell) (q9 : Addr) (u : SX) (t : State) (H1 : Heap) (locs1 : List Loc), t.heap = H1 → s.vm.Alike t.vm → px u → BX E u t → H.size ≤ H1.size → (∀ q : Nat, q < H.size → ¬ AX q → H1[q]? = H[q]?) → va_S A0 H0 H1 locs1 → H1[q9]? = some ce → ce.vm = .none → s.vm.findClass E = some ce.cls → vx_W p l e R s m args below meth c H1 locs1 (cells + mc) (slots + ms) Q (F0 m pc ls rest) q9)
    (kk : ∀ (r : UInt32) (u : S) (t : State) (H1 : Heap) (locs1 : List Loc), t.heap = H1 → s.vm.Alike t.vm → post r u → B u t → H.size ≤ H1.size → (∀ q : Nat, q < H.size → ¬ A1 q → H1[q]? = H[q]?) → va_S A0 H0 H1 locs1 → W p l e R s m args below meth c H1 locs1 (cells + mc) (slots + ms) Q (F0 m (pc + 3) ls (.float r :: rest))) : W p l e R s m args below meth c H locs cells slots Q (F0 m pc ls st0) := by
  intro T hT X
  rcases hr T hT X with ⟨v, st₀, t, T', L, h0, X', hL, e1, e2, ⟨⟨r, u, hv, hp, hb⟩, hF⟩, st⟩ | ⟨q, st₀, t, T', L, E, ce, h0, X', hL, e1, e2, ⟨u, hp, hb, hF⟩, hce, hcv, hcl, st⟩
  · cases hv
    obtain ⟨k1, k2, k3⟩ := vx_keep h0 e1 hS hA hf hL hF
    obtain ⟨t2, a1, b1⟩ := kk r u t T'.heap (locs ++ L) e1.symm (by rw [← e2]; exact X'.warmed.alike) hp hb k1 k2 k3 T' rfl X'
    exact ⟨t2, st t2 a1, b1⟩
  · obtain ⟨k1, k2, k3⟩ := vx_keep h0 e1 hS hAX hf hL hF
    obtain ⟨t2, a1, b1⟩ := kx E ce q u t T'.heap (locs ++ L) e1.symm (by rw [← e2]; exact X'.warmed.alike) hp hb k1 k2 k3 (by rw [e1]; exact hce) hcv hcl T' rfl X'
    exact ⟨t2, st.trans a1, b1⟩
theorem vx_calld {S SX : Type} {post : UInt64 → S → Prop} {px : SX → Prop} {B : S → State → Prop} {BX : String → SX → State → Prop} {AX : Nat → Prop} (hr : vx_Run p l e R s m args below meth c H locs cells slots mc ms (F0 m pc ls st0) rest (va_Qd post B A1 a) (vx_X px BX AX) free) (hS : va_S A0 H0 H locs) (hA : ∀ q, q < H.size → A1 q → A0 q) (hf : ∀ q, free q → A0 q) (hAX : ∀ q, q < H.size → AX q → A0 q)
    (kx : ∀ (E : String) (ce : Cell) (q9 : Addr) (u : SX) (t : State) (H1 : Heap) (locs1 : List Loc), t.heap = H1 → s.vm.Alike t.vm → px u → BX E u t → H.size ≤ H1.size → (∀ q : Nat, q < H.size → ¬ AX q → H1[q]? = H[q]?) → va_S A0 H0 H1 locs1 → H1[q9]? = some ce → ce.vm = .none → s.vm.findClass E = some ce.cls → vx_W p l e R s m args below meth c H1 locs1 (cells + mc) (slots + ms) Q (F0 m pc ls rest) q9)
    (kk : ∀ (r : UInt64) (u : S) (t : State) (H1 : Heap) (locs1 : List Loc), t.heap = H1 → s.vm.Alike t.vm → post r u → B u t → H.size ≤ H1.size → (∀ q : Nat, q < H.size → ¬ A1 q → H1[q]? = H[q]?) → va_S A0 H0 H1 locs1 → W p l e R s m args below meth c H1 locs1 (cells + mc) (slots + ms) Q (F0 m (pc + 3) ls (.double r :: rest))) : W p l e R s m args below meth c H locs cells slots Q (F0 m pc ls st0) := by
  intro T hT X
  rcases hr T hT X with ⟨v, st₀, t, T', L, h0, X', hL, e1, e2, ⟨⟨r, u, hv, hp, hb⟩, hF⟩, st⟩ | ⟨q, st₀, t, T', L, E, ce, h0, X', hL, e1, e2, ⟨u, hp, hb, hF⟩, hce, hcv, hcl, st⟩
  · cases hv
    obtain ⟨k1, k2, k3⟩ := vx_keep h0 e1 hS hA hf hL hF
    obtain ⟨t2, a1, b1⟩ := kk r u t T'.heap (locs ++ L) e1.symm (by rw [← e2]; exact X'.warmed.alike) hp hb k1 k2 k3 T' rfl X'
    exact ⟨t2, st t2 a1, b1⟩
  · obtain ⟨k1, k2, k3⟩ := vx_keep h0 e1 hS hAX hf hL hF
    obtain ⟨t2, a1, b1⟩ := kx E ce q u t T'.heap (locs ++ L) e1.symm (by rw [← e2]; exact X'.warmed.alike) hp hb k1 k2 k3 (by rw [e1]; exact hce) hcv hcl T' rfl X'
    exact ⟨t2, st.trans a1, b1⟩
theorem vx_callv {S SX : Type} {post : S → Prop} {px : SX → Prop} {B : S → State → Prop} {BX : String → SX → State → Prop} {AX : Nat → Prop} (hr : vx_Run p l e R s m args below meth c H locs cells slots mc ms (F0 m pc ls st0) rest (va_Qv post B A1 a) (vx_X px BX AX) free) (hS : va_S A0 H0 H locs) (hA : ∀ q, q < H.size → A1 q → A0 q) (hf : ∀ q, free q → A0 q) (hAX : ∀ q, q < H.size → AX q → A0 q)
    (kx : ∀ (E : String) (ce : Cell) (q9 : Addr) (u : SX) (t : State) (H1 : Heap) (locs1 : List Loc), t.heap = H1 → s.vm.Alike t.vm → px u → BX E u t → H.size ≤ H1.size → (∀ q : Nat, q < H.size → ¬ AX q → H1[q]? = H[q]?) → va_S A0 H0 H1 locs1 → H1[q9]? = some ce → ce.vm = .none → s.vm.findClass E = some ce.cls → vx_W p l e R s m args below meth c H1 locs1 (cells + mc) (slots + ms) Q (F0 m pc ls rest) q9)
    (kk : ∀ (u : S) (t : State) (H1 : Heap) (locs1 : List Loc), t.heap = H1 → s.vm.Alike t.vm → post u → B u t → H.size ≤ H1.size → (∀ q : Nat, q < H.size → ¬ A1 q → H1[q]? = H[q]?) → va_S A0 H0 H1 locs1 → W p l e R s m args below meth c H1 locs1 (cells + mc) (slots + ms) Q (F0 m (pc + 3) ls (rest))) : W p l e R s m args below meth c H locs cells slots Q (F0 m pc ls st0) := by
  intro T hT X
  rcases hr T hT X with ⟨v, st₀, t, T', L, h0, X', hL, e1, e2, ⟨⟨u, hv, hp, hb⟩, hF⟩, st⟩ | ⟨q, st₀, t, T', L, E, ce, h0, X', hL, e1, e2, ⟨u, hp, hb, hF⟩, hce, hcv, hcl, st⟩
  · cases hv
    obtain ⟨k1, k2, k3⟩ := vx_keep h0 e1 hS hA hf hL hF
    obtain ⟨t2, a1, b1⟩ := kk u t T'.heap (locs ++ L) e1.symm (by rw [← e2]; exact X'.warmed.alike) hp hb k1 k2 k3 T' rfl X'
    exact ⟨t2, st t2 a1, b1⟩
  · obtain ⟨k1, k2, k3⟩ := vx_keep h0 e1 hS hAX hf hL hF
    obtain ⟨t2, a1, b1⟩ := kx E ce q u t T'.heap (locs ++ L) e1.symm (by rw [← e2]; exact X'.warmed.alike) hp hb k1 k2 k3 (by rw [e1]; exact hce) hcv hcl T' rfl X'
    exact ⟨t2, st.trans a1, b1⟩
/-- caught by the row x of this method's table; the rows ahead don't take it -/
theorem vx_catch {own name : String} {E : String} {ce : Cell} {q : Addr} (hown : s.vm.findClass own = some m.cls) (pre : List ExceptionTableEntry) (x : ExceptionTableEntry) (suf : List ExceptionTableEntry) (hsplit : c.exceptionTable.toList = pre ++ x :: suf)
    (hpass : ∀ z ∈ pre, covers z pc = false ∨ (z.catchType ≠ 0 ∧ ∃ nm : String, (Cond.classLink own z.catchType nm).before args s = true ∧ va_Nc E nm s)) (hx : covers x pc = true) (h0 : x.catchType ≠ 0)
    (hlink : (Cond.classLink own x.catchType name).before args s = true) (hcast : (Cond.castable E name).before args s = true) (hcell : H[q]? = some ce) (hv : ce.vm = .none) (hcl : s.vm.findClass E = some ce.cls)
    (kk : W p l e R s m args below meth c H locs cells slots Q (F0 m x.handlerPc ls [.ref q])) : vx_W p l e R s m args below meth c H locs cells slots Q (F0 m pc ls rest) q := by
  intro T hT X
  have hpl : e.platform.magicAccessors = ({} : Platform).magicAccessors := by rw [X.admits.platform]
  obtain ⟨c3, c4, hc3, hc4, hasg⟩ := Cond.castable_spec hcast
  cases Option.some.inj (hc3.symm.trans hcl)
  obtain ⟨c5, hc5, hcl5⟩ := Cond.classLink_spec hown hlink e.platform hpl
  cases Option.some.inj (hc4.symm.trans hc5)
  obtain ⟨vm', X', st⟩ := X.thenCaughtThrough q (g := F0 m pc ls rest) rfl (Steps.refl _) (by rw [hT]; exact hcell) (by rw [hv]; rfl) (by obtain ⟨k9, h9, -⟩ := Vm.findClass_spec hcl; exact ⟨k9, h9⟩) pre x suf hsplit
    (fun z hz => by
      rcases hpass z hz with h | ⟨hz0, nm, hl1, hn1⟩
      · exact Or.inl h
      · obtain ⟨c6, hc6, hcl6⟩ := Cond.classLink_spec hown hl1 e.platform hpl
        obtain ⟨a8, b8, h1, h2, h3⟩ := hn1
        cases Option.some.inj (h1.symm.trans hcl)
        cases Option.some.inj (h2.symm.trans hc6)
        exact Or.inr ⟨hz0, _, hcl6, h3⟩) hx (Or.inr ⟨h0, c4, hcl5, hasg⟩)
  obtain ⟨t, a1, b1⟩ := kk (T.setVm vm') hT X'
  exact ⟨t, st.trans a1, b1⟩
end Rows
section Ends
variable {p : Program} {l : Launch} {e : Env} {R : Room} {s : State} {m : MethodId} {args : Array Value} {below : List Frame} {meth : Method} {c : Code} {H : Heap} {locs : List Loc} {cells slots : Nat} {Q : State → Prop}
variable {mc ms : Nat} {free : Addr → Prop} {A0 A1 : Nat → Prop} {H0 : Heap} {a : Array Value} {ls : Array Slot} {st0 rest : List Value}
variable {Qc : Array Value → State → Outcome → State → Prop} {XC : String → State → State → Prop}
/-- what a body that may throw owes at its end -/
def vx_MQ (below : List Frame) (Qc : Array Value → State → Outcome → State → Prop) (XC : String → State → State → Prop) (a : Array Value) (s : State) (mc ms : Nat) (free : Addr → Prop) : State → Prop := fun t =>
  ∃ o, t.status = .running ∧ Ended t below o ∧ vx_Q Qc XC mc ms free a s o t
theorem vx_ret {g : JFrame} {mc ms : Nat} (k : W p l e R s m args below meth c H locs cells slots (MQ below Qc args s mc ms free) g) : W p l e R s m args below meth c H locs cells slots (vx_MQ below Qc XC args s mc ms free) g := by
  intro T hT X
  obtain ⟨t, a1, o, b1, b2, b3, b4⟩ := k T hT X
  exact ⟨t, a1, o, b1, b2, Or.inl ⟨b3, b4⟩⟩
/-- not caught here: it goes on to the caller -/
theorem vx_widen {g : JFrame} {q : Addr} {k n : Nat} (h1 : cells ≤ k) (h2 : slots ≤ n) (kk : vx_W p l e R s m args below meth c H locs k n Q g q) : vx_W p l e R s m args below meth c H locs cells slots Q g q := fun T hT X => kk T hT (stand_widen X h1 h2)
theorem vx_out {pc : Nat} {E : String} {ce : Cell} {q : Addr} {mc ms : Nat} (hout : ∀ x ∈ c.exceptionTable.toList, covers x pc = false) (hlocks : meth.locks = false) (hcell : H[q]? = some ce) (hv : ce.vm = .none) (hcl : s.vm.findClass E = some ce.cls)
    (hx : ∀ t : State, t.heap = H → s.vm.Alike t.vm → XC E s t) (hf : ∀ z ∈ locs, free z.base) (hc : cells ≤ mc) (hs : slots ≤ ms) :
    vx_W p l e R s m args below meth c H locs cells slots (vx_MQ below Qc XC args s mc ms free) (F0 m pc ls rest) q := by
  intro T hT X
  obtain ⟨st1, hrun, hend, hW, hsm⟩ := X.leaveThrown q (g := F0 m pc ls rest) rfl rfl rfl hout hlocks
  have hcell9 : (T.setFrames (.throwing q :: below)).heap[q]? = some ce := by
    show T.heap[q]? = some ce
    rw [hT]; exact hcell
  exact ⟨_, st1, .threw q, hrun, hend, Or.inr ⟨q, rfl, E, ce, locs, hx _ hT hW.alike, hcell9, hv, hcl, hW, hsm.mono hc hs, hf⟩⟩
theorem vx_frame {U : State} {k n : Nat} (h : s.sameButNew ({ U with vm := s.vm } : State) locs k n) : s.heap.size ≤ U.heap.size ∧ ∀ q : Nat, q < s.heap.size → (∀ z ∈ locs, z.base ≠ q) → U.heap[q]? = s.heap[q]? := by
  obtain ⟨-, h2, -, -, -, h6⟩ := h
  refine ⟨h2, fun q hq hz => ?_⟩
  obtain ⟨c9, e1, e2, e3, e4⟩ := h6 q _ (Array.getElem?_eq_getElem hq)
  have hs : c9.slots = (s.heap[q]).slots := Array.ext_getElem? fun i => e4 i fun hm => hz _ hm rfl
  have h9 : c9 = s.heap[q] := by
    rw [hs] at e2
    exact e2
  have e5 : U.heap[q]? = some c9 := e1
  rw [e5, h9, Array.getElem?_eq_getElem hq]
/-- the words of a throw but the four that speak of the heap -/
def vx_no (w : Cond) : Bool := decide (w ≠ .isRef (.static Bundle.tN "UNASSIGNED_STACK" Bundle.steD)) && decide (w ≠ .isRef (.static Bundle.tN "SUPPRESSED_SENTINEL" Bundle.listD)) && decide (w ≠ .laysStatic Bundle.tN "UNASSIGNED_STACK" Bundle.steD) && decide (w ≠ .laysStatic Bundle.tN "SUPPRESSED_SENTINEL" Bundle.listD)
def vx_at0 (own : String) (ic : Nat) (X : String) (names : List String) : List Cond := (Bundle.ownAtoms0 own ic X names).filter vx_no
def vx_atS (own : String) (ic : Nat) (X : String) (names : List String) : List Cond := (Bundle.ownAtoms own ic X names).filter vx_no
/-- a word that the tables alone decide, or a good one -/
def vx_ot (w : Cond) : Bool := w.onTables || goodWord w
theorem vx_ot_at {args a' : Array Value} {s U : State} {w : Cond} (hW : s.WarmedH U.vm) (hvm : s.vm = U.vm) (hg : vx_ot w = true) (h : w.before args s = true) : w.before a' U = true := by
  simp only [vx_ot, Bool.or_eq_true] at hg
  rcases hg with hg | hg
  · exact va_tabs hg hvm h
  · exact word_at hW (good_of_word hg) h
/-- a list's words: the good ones out of the method's own list, the others by premises of their own -/
theorem vx_hat {args : Array Value} {s : State} {L B : List Cond} (h1 : ∀ w ∈ L.filter goodWord, w.before args s = true) (h2 : ∀ w ∈ L.filter (fun w => !goodWord w), w ∈ B) (h3 : ∀ w ∈ B, w.before args s = true) : ∀ w ∈ L, w.before args s = true := by
  intro w hw
  by_cases g : goodWord w = true
  · exact h1 w (List.mem_filter.mpr ⟨hw, g⟩)
  · refine h3 w (h2 w (List.mem_filter.mpr ⟨hw, ?_⟩))
    show (!goodWord w) = true
    cases hgw : goodWord w
    · rfl
    · exact absurd hgw g
theorem vx_c {args : Array Value} {s : State} {w : Cond} {B : List Cond} (h : w.before args s = true) (t : ∀ w ∈ B, w.before args s = true) : ∀ w' ∈ w :: B, w'.before args s = true := fun w' h' => (List.mem_cons.mp h').elim (fun e => by rw [e]; exact h) (t w')
theorem vx_n {args : Array Value} {s : State} : ∀ w ∈ ([] : List Cond), w.before args s = true := fun _ h => nomatch h
theorem vx_own {args : Array Value} {s : State} {L : List Cond} (h1 : ∀ w ∈ L.filter vx_no, w.before args s = true)
    (hU : (Cond.isRef (.static Bundle.tN "UNASSIGNED_STACK" Bundle.steD)).before args s = true) (hN : (Cond.isRef (.static Bundle.tN "SUPPRESSED_SENTINEL" Bundle.listD)).before args s = true)
    (lU : (Cond.laysStatic Bundle.tN "UNASSIGNED_STACK" Bundle.steD).before args s = true) (lN : (Cond.laysStatic Bundle.tN "SUPPRESSED_SENTINEL" Bundle.listD).before args s = true) : ∀ w ∈ L, w.before args s = true := by
  intro w hw
  by_cases e1 : w = .isRef (.static Bundle.tN "UNASSIGNED_STACK" Bundle.steD)
  · rw [e1]; exact hU
  · by_cases e2 : w = .isRef (.static Bundle.tN "SUPPRESSED_SENTINEL" Bundle.listD)
    · rw [e2]; exact hN
    · by_cases e3 : w = .laysStatic Bundle.tN "UNASSIGNED_STACK" Bundle.steD
      · rw [e3]; exact lU
      · by_cases e4 : w = .laysStatic Bundle.tN "SUPPRESSED_SENTINEL" Bundle.listD
        · rw [e4]; exact lN
        · exact h1 w (List.mem_filter.mpr ⟨hw, by unfold vx_no; rw [decide_eq_true e1, decide_eq_true e2, decide_eq_true e3, decide_eq_true e4]; rfl⟩)
/-- where a static field lies, its class's statics cell in H -/
def vx_L (C n d : String) (A : Nat → Prop) (U : State) (H : Heap) : Prop := ∃ (c : ClassId) (k : Class) (i : Nat) (f : Field) (a : Nat) (cell : Cell), U.vm.findClass C = some c ∧ U.fieldFound? C n d = some (c, k, i, f) ∧ f.isStatic = true ∧ k.statics = some a ∧ H[a]? = some cell ∧ cell.vm.isStatics = true ∧ cell.cls = c ∧ f.slot < cell.slots.size ∧ k.staticTypes[f.slot]? = some f.type ∧ ¬ A a
theorem vx_L.moved {C n d : String} {A : Nat → Prop} {u U : State} {H : Heap} (hvm : u.vm.Alike U.vm) (h : vx_L C n d A u H) : vx_L C n d A U H := by
  obtain ⟨c, k, i, f, a, cell, h1, h2, h3, h4, h5, h6, h7, h8, h9, h10⟩ := h
  obtain ⟨k', hi', he⟩ := State.fieldFound?_setVm hvm h2
  exact ⟨c, k', i, f, a, cell, by rw [hvm.findClass]; exact h1, hi', h3, by rw [he]; exact h4, h5, h6, h7, h8, by rw [he]; exact h9, h10⟩
theorem vx_L.kept {C n d : String} {A : Nat → Prop} {U : State} {H H1 : Heap} (h : vx_L C n d A U H) (hq : ∀ a : Nat, a < H.size → ¬ A a → H1[a]? = H[a]?) : vx_L C n d A U H1 := by
  obtain ⟨c, k, i, f, a, cell, h1, h2, h3, h4, h5, h6, h7, h8, h9, h10⟩ := h
  exact ⟨c, k, i, f, a, cell, h1, h2, h3, h4, by rw [hq a (Array.getElem?_eq_some_iff.mp h5).1 h10]; exact h5, h6, h7, h8, h9, h10⟩
theorem vx_L.narrow {C n d : String} {A B : Nat → Prop} {U : State} {H : Heap} (h : vx_L C n d A U H) (hAB : ∀ q, B q → A q) : vx_L C n d B U H := by
  obtain ⟨c, k, i, f, a, cell, h1, h2, h3, h4, h5, h6, h7, h8, h9, h10⟩ := h
  exact ⟨c, k, i, f, a, cell, h1, h2, h3, h4, h5, h6, h7, h8, h9, fun z => h10 (hAB _ z)⟩
theorem vx_L.word {C n d : String} {A : Nat → Prop} {s : State} {args : Array Value} (h : vx_L C n d A s s.heap) : (Cond.laysStatic C n d).before args s = true := by
  obtain ⟨c, k, i, f, a, cell, h1, h2, h3, h4, h5, h6, h7, h8, h9, -⟩ := h
  show (Cond.laysStatic C n d).holds args s none s [] = true
  exact Cond.laysStatic_of h1 h2 h3 h4 h5 h6 h7 h8 h9
/-- .. and what it holds: null or some reference -/
def vx_Zq (C n d : String) (A : Nat → Prop) (U : State) (H : Heap) : Prop := va_Zq C n d A U H ∧ vx_L C n d A U H
theorem vx_Zq.moved {C n d : String} {A : Nat → Prop} {u U : State} {H : Heap} (hvm : u.vm.Alike U.vm) (h : vx_Zq C n d A u H) : vx_Zq C n d A U H := ⟨va_Zq.moved hvm h.1, vx_L.moved hvm h.2⟩
theorem vx_Zq.kept {C n d : String} {A : Nat → Prop} {U : State} {H H1 : Heap} (h : vx_Zq C n d A U H) (hq : ∀ a : Nat, a < H.size → ¬ A a → H1[a]? = H[a]?) : vx_Zq C n d A U H1 := ⟨va_Zq.kept h.1 hq, vx_L.kept h.2 hq⟩
theorem vx_Zq.narrow {C n d : String} {A B : Nat → Prop} {U : State} {H : Heap} (h : vx_Zq C n d A U H) (hAB : ∀ q, B q → A q) : vx_Zq C n d B U H := ⟨va_Zq.narrow h.1 hAB, vx_L.narrow h.2 hAB⟩
theorem vx_Zqof {args : Array Value} {s : State} {C n d : String} {A : Nat → Prop} (hl : (Cond.laysStatic C n d).before args s = true) (hini : (Cond.initialized C).before args s = true) (h : (Cond.isRef (.static C n d)).before args s = true) (hA : ∀ a : Nat, a < s.heap.size → ¬ A a) : vx_Zq C n d A s s.heap := by
  refine ⟨va_Zqof hl hini h hA, ?_⟩
  obtain ⟨c, k, i, f, a, cell, h1, h2, h3, h4, h5, h6, h7, h8, h9⟩ := Cond.laysStatic_spec hl
  exact ⟨c, k, i, f, a, cell, h1, h2, h3, h4, h5, h6, h7, h8, h9, hA a (Array.getElem?_eq_some_iff.mp h5).1⟩
theorem vx_isRef {C n d : String} {v : Value} {A : Nat → Prop} {s : State} {args : Array Value} (h : va_Z C n d v A s s.heap) (hv : v.isRef = true) : (Cond.isRef (.static C n d)).before args s = true := by
  obtain ⟨cf, kf, fi, f, a, cell, h1, h2, h3, h4, h5, h6, h7, -⟩ := h
  have he : (Term.static C n d).eval args s none [] s = some v := by
    simp [Term.eval, State.fieldNamed?, h1, h2, h4, h5, h6, h7]
  simp only [Cond.before, Cond.holds, Cond.value, he]
  cases v <;> simp_all [Value.isRef]
theorem vx_isRefq {C n d : String} {A : Nat → Prop} {s : State} {args : Array Value} (h : va_Zq C n d A s s.heap) : (Cond.isRef (.static C n d)).before args s = true := by
  rcases h with h | ⟨t, h⟩
  · exact vx_isRef h rfl
  · exact vx_isRef h rfl
/-- the same frame, seen from here: as if the method were called anew in this heap -/
theorem vx_rebase {T : State} (X : Stand p l e R s m args below meth c T locs cells slots) {R' : Room} (hf : R'.frames ≤ R.frames) (hl : R'.locals ≤ R.locals) (hc : cells + R'.cells ≤ R.cells) (hs : slots + R'.slots ≤ R.slots) :
    Stand p l e R' ((T.setVm s.vm).setFrames (.invoking m args :: below)) m args below meth c T [] 0 0 := by
  have htop : (T.setVm s.vm).topJava?.isSome := X.here.top
  have hF : ((T.setVm s.vm).setFrames (.invoking m args :: below)).frames = .invoking m args :: below := State.frames_setFrames _ (State.cur_lt_of_top htop)
  obtain ⟨g₀, hg0⟩ := Option.isSome_iff_exists.mp htop
  obtain ⟨r, hr⟩ := State.topJava?_eq_some.mp hg0
  have hl9 : e.platform.stackLimits (T.setVm s.vm).me = e.platform.stackLimits s.me := X.limits
  have hb9 : (T.setVm s.vm).me.stackBytes = s.me.stackBytes := X.bytes
  refine ⟨X.admits, X.cas, X.clock, hF, ?_, X.hears, X.method, X.code, X.here, X.tail, X.warmed, ?_, ?_, ?_⟩
  · have h := X.room
    have hU : ((T.setVm s.vm).setFrames (.invoking m args :: below)).localsInUse = s.localsInUse := by
      rw [State.localsInUse_invoking hF (meth := meth) (c := c) X.method X.code, State.localsInUse_invoking X.frames X.method X.code]
    simp only [State.hasRoom, Bool.and_eq_true, decide_eq_true_eq] at h ⊢
    obtain ⟨⟨⟨⟨h1, h2, h3, h4, h5, h6⟩, h7⟩, h8⟩, h9⟩ := h
    rw [X.frames, List.length_cons] at h2 h3
    have q1 := X.heapSize
    have q2 := X.used
    simp only [hF, hU, List.length_cons, State.stackLimits_setFrames, State.stackBytes_setFrames, hl9, hb9]
    refine ⟨⟨⟨⟨by omega, by omega, by omega, by omega, by omega, h6⟩, ?_⟩, ?_⟩, X.book⟩
    · show T.heap.size + R'.cells ≤ e.platform.maxCells
      omega
    · show T.slotsUsed + R'.slots ≤ e.platform.maxSlots
      omega
  · rw [State.stackLimits_setFrames]; rfl
  · rw [State.stackBytes_setFrames]; rfl
  · refine ⟨?_, Nat.le_refl _, Nat.le_refl _, ?_, ?_, fun a c9 h9 => ⟨c9, h9, rfl, rfl, fun _ _ => rfl⟩⟩
    · obtain ⟨t, ht, -⟩ := State.frames_cons hr
      show T.setVm s.vm = { ((T.setVm s.vm).setFrames (.invoking m args :: below)).setFrames (T.setVm s.vm).frames with heap := T.heap, slotsUsed := T.slotsUsed }
      rw [State.setFrames_setFrames, State.setFrames_self ht]
      rfl
    · show T.slotsUsed = T.slotsUsed + ((T.heap.toList.drop T.heap.size).map (·.slots.size)).sum
      rw [List.drop_eq_nil_of_le (Nat.le_of_eq Array.length_toList)]
      rfl
    · show ((T.heap.toList.drop T.heap.size).map (·.slots.size)).sum ≤ 0
      rw [List.drop_eq_nil_of_le (Nat.le_of_eq Array.length_toList)]
      exact Nat.le_refl _
/-- 'throw new E()': new; dup; invokespecial; athrow -/
theorem vx_throw0 {cc : ByteArray} {pc : Nat} (hexec : p.tables.exec = Jvm.exec) (hb : c.code = cc) (hl : l.stackTraces = false) {own cls : String} {names : List String} {ik ic mc ms : Nat} {A : Nat → Prop}
    (hown : s.vm.findClass own = some m.cls) (hcls : Bundle.fit cls = true) (hnames : ∀ n ∈ names, Bundle.fit n = true)
    (hk : (Cond.classLink own ik cls).before args s = true) (hini : (Cond.initialized cls).before args s = true) (hat : ∀ w ∈ vx_at0 own ic cls names, w.before args s = true)
    (hgood : ∀ w ∈ Cond.classLink own ik cls :: Cond.initialized cls :: vx_at0 own ic cls names, vx_ot w = true)
    (hU : vx_Zq Bundle.tN "UNASSIGNED_STACK" Bundle.steD A s s.heap) (hN : vx_Zq Bundle.tN "SUPPRESSED_SENTINEL" Bundle.listD A s s.heap) (hS : va_S A s.heap H locs) (hsize : ls.size = c.maxLocals)
    (d0 : decode cc pc = .ok (.new ik, 3)) (d3 : decode cc (pc + 3) = .ok (.dup, 1)) (d4 : decode cc (pc + 4) = .ok (.invokespecial ic, 3)) (d7 : decode cc (pc + 7) = .ok (.athrow, 1))
    (hout : ∀ x ∈ c.exceptionTable.toList, covers x (pc + 7) = false)
    (hRframes : names.length + 3 < R.frames) (hRlocals : (rest.map fun v => v.category).sum + (13 * (names.length + 1) + 42) ≤ R.locals) (hRcells : cells + 1 ≤ R.cells) (hRslots : slots + 6 ≤ R.slots) (hlocks : meth.locks = false)
    (hx : ∀ t : State, s.vm.Alike t.vm → H.size ≤ t.heap.size → (∀ q : Nat, q < H.size → t.heap[q]? = H[q]?) → XC cls s t)
    (hf : ∀ z ∈ locs, free z.base) (hc : cells + 1 ≤ mc) (hs : slots + 6 ≤ ms) :
    W p l e R s m args below meth c H locs cells slots (vx_MQ below Qc XC args s mc ms free) (F0 m pc ls rest) := by
  intro T hT X
  have htr : e.platform.stackTraces = false := (show e.platform.stackTraces = l.stackTraces by rw [X.admits.platform]).trans hl
  have Y := vx_rebase X (R' := { frames := R.frames, locals := R.locals, cells := 1, slots := 6 }) (Nat.le_refl _) (Nat.le_refl _) hRcells hRslots
  obtain ⟨s', hA⟩ : ∃ z, z = (T.setVm s.vm).setFrames (.invoking m args :: below) := ⟨_, rfl⟩
  rw [← hA] at Y
  have hvm : s'.vm = s.vm := by rw [hA]; rfl
  have hhp : s'.heap = H := by rw [hA]; exact hT
  have hW0 : s.WarmedH s'.vm := by rw [hvm]; exact State.WarmedH.refl s
  have hat' : ∀ w ∈ vx_at0 own ic cls names, w.before args s' = true := fun w hw => vx_ot_at hW0 hvm.symm (hgood w (List.mem_cons_of_mem _ (List.mem_cons_of_mem _ hw))) (hat w hw)
  have hk' : (Cond.classLink own ik cls).before args s' = true := vx_ot_at hW0 hvm.symm (hgood _ List.mem_cons_self) hk
  have hini' : (Cond.initialized cls).before args s' = true := vx_ot_at hW0 hvm.symm (hgood _ (List.mem_cons_of_mem _ List.mem_cons_self)) hini
  have hU' : vx_Zq Bundle.tN "UNASSIGNED_STACK" Bundle.steD A s' s'.heap := by rw [hhp]; exact vx_Zq.moved hW0.alike (hU.kept hS.2.1)
  have hN' : vx_Zq Bundle.tN "SUPPRESSED_SENTINEL" Bundle.listD A s' s'.heap := by rw [hhp]; exact vx_Zq.moved hW0.alike (hN.kept hS.2.1)
  have h : ∀ w ∈ Bundle.ownAtoms0 own ic cls names, w.before args s' = true := vx_own hat' (vx_isRefq hU'.1) (vx_isRefq hN'.1) hU'.2.word hN'.2.word
  have hown' : s'.vm.findClass own = some m.cls := by rw [hvm]; exact hown
  have hins : (Cond.instantiable cls 6).before args s' = true := h _ (by simp [Bundle.ownAtoms0])
  obtain ⟨vm₁, cX, kX, hfX, hkX, -, -, X₁, st1⟩ := Y.newCold hexec (own := own) (C := cls) (index := ik) (n := 6) hown' hk' hins hini'
    (g := F0 m pc ls rest) rfl (by rw [hb]; exact d0) (Nat.le_refl _) (Nat.le_refl _)
  generalize hT1 : (T.setVm vm₁).pushCell { cls := cX, slots := kX.instanceTypes.map defaultValue, vm := .none } = T1 at X₁ st1
  have hcat : (Value.ref T.heap.size).category = 1 := rfl
  have hcellA : T1.heap[T.heap.size]? = some (freshCell cX kX) := by rw [← hT1]; exact State.heap_pushCell_size _ _
  have d3' : decode c.code (pc + 3) = .ok (.dup, 1) := by rw [hb]; exact d3
  obtain ⟨U, hsteps, hrun, hend, hW, hsame, ce, hce, hO⟩ := X₁.ctorThrow0 hexec htr (own := own) (cls := cls) (names := names) (ic := ic) hown' hcls hnames h (fun x hx => nomatch hx) hfX hkX hcellA (by rw [hhp, hT]; exact Nat.le_refl _)
    (g := { method := m, pc := pc + 4, locals := ls, stack := .ref T.heap.size :: .ref T.heap.size :: rest, locked := none }) rfl hsize rfl rfl (rest := rest) rfl
    (by rw [hb]; exact d4) (by rw [hb]; exact d7) hout hRframes (by simp only [List.map_cons, List.sum_cons, hcat]; omega) hlocks
  obtain ⟨f1, f2⟩ := vx_frame hsame
  rw [hhp] at f1 f2
  have hWs : s.WarmedH U.vm := State.WarmedH.trans hW0 hW
  have hcl : s.vm.findClass cls = some ce.cls := by
    have h9 := hO.cls
    rw [hvm] at h9
    exact h9
  have hall : s.sameButNew ({ U with vm := s.vm } : State) locs mc ms := by
    subst hA
    obtain ⟨e1, e2⟩ := hsame
    rw [State.setFrames_setFrames] at e1
    have h2 : (T.setVm s.vm).sameButNew ({ U with vm := s.vm } : State) [] (0 + 1) (0 + 6) := ⟨e1, e2⟩
    have h3 := X.same.trans h2
    rw [List.append_nil] at h3
    exact h3.mono hc hs
  refine ⟨U, ?_, .threw T.heap.size, hrun, hend, Or.inr ⟨T.heap.size, rfl, cls, ce, locs, hx U hWs.alike f1 (fun q hq => f2 q hq (fun z hz => nomatch hz)), hce, hO.vm, hcl, hWs, hall, hf⟩⟩
  refine st1 _ ?_
  show Steps p.tables e below (T1.setTop { method := m, pc := pc + 3, locals := ls, stack := .ref T.heap.size :: rest, locked := none }) _
  jvm_step X₁.here [X₁.here.top, hexec, d3', Value.category]
  exact hsteps
/-- 'throw new E("text")': new; dup; ldc; invokespecial; athrow -/
theorem vx_throwS {cc : ByteArray} {pc : Nat} (hexec : p.tables.exec = Jvm.exec) (hb : c.code = cc) (hl : l.stackTraces = false) {own cls text : String} {names : List String} {ik is ic mc ms sa : Nat} {A : Nat → Prop}
    (hown : s.vm.findClass own = some m.cls) (hcls : Bundle.fit cls = true) (hnames : ∀ n ∈ names, Bundle.fit n = true)
    (hk : (Cond.classLink own ik cls).before args s = true) (hini : (Cond.initialized cls).before args s = true) (hstr : vk_R own is text sa s) (hat : ∀ w ∈ vx_atS own ic cls names, w.before args s = true)
    (hgood : ∀ w ∈ Cond.classLink own ik cls :: Cond.initialized cls :: vx_atS own ic cls names, vx_ot w = true)
    (hU : vx_Zq Bundle.tN "UNASSIGNED_STACK" Bundle.steD A s s.heap) (hN : vx_Zq Bundle.tN "SUPPRESSED_SENTINEL" Bundle.listD A s s.heap) (hS : va_S A s.heap H locs) (hsize : ls.size = c.maxLocals)
    (d0 : decode cc pc = .ok (.new ik, 3)) (d3 : decode cc (pc + 3) = .ok (.dup, 1)) (d4 : decode cc (pc + 4) = .ok (.ldc is, 2)) (d6 : decode cc (pc + 6) = .ok (.invokespecial ic, 3)) (d9 : decode cc (pc + 9) = .ok (.athrow, 1))
    (hout : ∀ x ∈ c.exceptionTable.toList, covers x (pc + 9) = false)
    (hRframes : names.length + 3 < R.frames) (hRlocals : (rest.map fun v => v.category).sum + (13 * (names.length + 1) + 43) ≤ R.locals) (hRcells : cells + 1 ≤ R.cells) (hRslots : slots + 6 ≤ R.slots) (hlocks : meth.locks = false)
    (hx : ∀ t : State, s.vm.Alike t.vm → H.size ≤ t.heap.size → (∀ q : Nat, q < H.size → t.heap[q]? = H[q]?) → XC cls s t)
    (hf : ∀ z ∈ locs, free z.base) (hc : cells + 1 ≤ mc) (hs : slots + 6 ≤ ms) :
    W p l e R s m args below meth c H locs cells slots (vx_MQ below Qc XC args s mc ms free) (F0 m pc ls rest) := by
  intro T hT X
  have htr : e.platform.stackTraces = false := (show e.platform.stackTraces = l.stackTraces by rw [X.admits.platform]).trans hl
  have Y := vx_rebase X (R' := { frames := R.frames, locals := R.locals, cells := 1, slots := 6 }) (Nat.le_refl _) (Nat.le_refl _) hRcells hRslots
  obtain ⟨s', hA⟩ : ∃ z, z = (T.setVm s.vm).setFrames (.invoking m args :: below) := ⟨_, rfl⟩
  rw [← hA] at Y
  have hvm : s'.vm = s.vm := by rw [hA]; rfl
  have hhp : s'.heap = H := by rw [hA]; exact hT
  have hW0 : s.WarmedH s'.vm := by rw [hvm]; exact State.WarmedH.refl s
  have hat' : ∀ w ∈ vx_atS own ic cls names, w.before args s' = true := fun w hw => vx_ot_at hW0 hvm.symm (hgood w (List.mem_cons_of_mem _ (List.mem_cons_of_mem _ hw))) (hat w hw)
  have hk' : (Cond.classLink own ik cls).before args s' = true := vx_ot_at hW0 hvm.symm (hgood _ List.mem_cons_self) hk
  have hini' : (Cond.initialized cls).before args s' = true := vx_ot_at hW0 hvm.symm (hgood _ (List.mem_cons_of_mem _ List.mem_cons_self)) hini
  have hU' : vx_Zq Bundle.tN "UNASSIGNED_STACK" Bundle.steD A s' s'.heap := by rw [hhp]; exact vx_Zq.moved hW0.alike (hU.kept hS.2.1)
  have hN' : vx_Zq Bundle.tN "SUPPRESSED_SENTINEL" Bundle.listD A s' s'.heap := by rw [hhp]; exact vx_Zq.moved hW0.alike (hN.kept hS.2.1)
  have h : ∀ w ∈ Bundle.ownAtoms own ic cls names, w.before args s' = true := vx_own hat' (vx_isRefq hU'.1) (vx_isRefq hN'.1) hU'.2.word hN'.2.word
  have hown' : s'.vm.findClass own = some m.cls := by rw [hvm]; exact hown
  have hins : (Cond.instantiable cls 6).before args s' = true := h _ (by simp [Bundle.ownAtoms])
  obtain ⟨vm₁, cX, kX, hfX, hkX, -, -, X₁, st1⟩ := Y.newCold hexec (own := own) (C := cls) (index := ik) (n := 6) hown' hk' hins hini'
    (g := F0 m pc ls rest) rfl (by rw [hb]; exact d0) (Nat.le_refl _) (Nat.le_refl _)
  generalize hT1 : (T.setVm vm₁).pushCell { cls := cX, slots := kX.instanceTypes.map defaultValue, vm := .none } = T1 at X₁ st1
  have hcat : (Value.ref T.heap.size).category = 1 := rfl
  have hcellA : T1.heap[T.heap.size]? = some (freshCell cX kX) := by rw [← hT1]; exact State.heap_pushCell_size _ _
  have d3' : decode c.code (pc + 3) = .ok (.dup, 1) := by rw [hb]; exact d3
  have d4' : decode c.code (pc + 4) = .ok (.ldc is, 2) := by rw [hb]; exact d4
  have hstr' : vk_R own is text sa s' := vk_R.warm hW0 hstr
  obtain ⟨U, hsteps, hrun, hend, hW, hsame, ce, hce, hO⟩ := X₁.ctorThrowS hexec htr (own := own) (cls := cls) (names := names) (ic := ic) hown' hcls hnames h (fun x hx => nomatch hx) hfX hkX hcellA (by rw [hhp, hT]; exact Nat.le_refl _) (msg := .ref sa) rfl
    (g := { method := m, pc := pc + 6, locals := ls, stack := .ref sa :: .ref T.heap.size :: .ref T.heap.size :: rest, locked := none }) rfl hsize rfl rfl (rest := rest) rfl
    (by rw [hb]; exact d6) (by rw [hb]; exact d9) hout hRframes (by simp only [List.map_cons, List.sum_cons, hcat]; omega) hlocks
  obtain ⟨f1, f2⟩ := vx_frame hsame
  rw [hhp] at f1 f2
  have hWs : s.WarmedH U.vm := State.WarmedH.trans hW0 hW
  have hcl : s.vm.findClass cls = some ce.cls := by
    have h9 := hO.cls
    rw [hvm] at h9
    exact h9
  have hall : s.sameButNew ({ U with vm := s.vm } : State) locs mc ms := by
    subst hA
    obtain ⟨e1, e2⟩ := hsame
    rw [State.setFrames_setFrames] at e1
    have h2 : (T.setVm s.vm).sameButNew ({ U with vm := s.vm } : State) [] (0 + 1) (0 + 6) := ⟨e1, e2⟩
    have h3 := X.same.trans h2
    rw [List.append_nil] at h3
    exact h3.mono hc hs
  refine ⟨U, ?_, .threw T.heap.size, hrun, hend, Or.inr ⟨T.heap.size, rfl, cls, ce, locs, hx U hWs.alike f1 (fun q hq => f2 q hq (fun z hz => nomatch hz)), hce, hO.vm, hcl, hWs, hall, hf⟩⟩
  refine st1 _ ?_
  show Steps p.tables e below (T1.setTop { method := m, pc := pc + 3, locals := ls, stack := .ref T.heap.size :: rest, locked := none }) _
  jvm_step X₁.here [X₁.here.top, hexec, d3', Value.category]
  exact X₁.ldcString hexec (own := own) (text := text) (index := is) (a := sa) hown' hstr'.1 hstr'.2
    (g := { method := m, pc := pc + 4, locals := ls, stack := .ref T.heap.size :: .ref T.heap.size :: rest, locked := none }) rfl d4' _ hsteps
/-- 'throw new E("text")', the text by a wide index -/
theorem vx_throwSW {cc : ByteArray} {pc : Nat} (hexec : p.tables.exec = Jvm.exec) (hb : c.code = cc) (hl : l.stackTraces = false) {own cls text : String} {names : List String} {ik is ic mc ms sa : Nat} {A : Nat → Prop}
    (hown : s.vm.findClass own = some m.cls) (hcls : Bundle.fit cls = true) (hnames : ∀ n ∈ names, Bundle.fit n = true)
    (hk : (Cond.classLink own ik cls).before args s = true) (hini : (Cond.initialized cls).before args s = true) (hstr : vk_R own is text sa s) (hat : ∀ w ∈ vx_atS own ic cls names, w.before args s = true)
    (hgood : ∀ w ∈ Cond.classLink own ik cls :: Cond.initialized cls :: vx_atS own ic cls names, vx_ot w = true)
    (hU : vx_Zq Bundle.tN "UNASSIGNED_STACK" Bundle.steD A s s.heap) (hN : vx_Zq Bundle.tN "SUPPRESSED_SENTINEL" Bundle.listD A s s.heap) (hS : va_S A s.heap H locs) (hsize : ls.size = c.maxLocals)
    (d0 : decode cc pc = .ok (.new ik, 3)) (d3 : decode cc (pc + 3) = .ok (.dup, 1)) (d4 : decode cc (pc + 4) = .ok (.ldc_w is, 3)) (d7 : decode cc (pc + 7) = .ok (.invokespecial ic, 3)) (d10 : decode cc (pc + 10) = .ok (.athrow, 1))
    (hout : ∀ x ∈ c.exceptionTable.toList, covers x (pc + 10) = false)
    (hRframes : names.length + 3 < R.frames) (hRlocals : (rest.map fun v => v.category).sum + (13 * (names.length + 1) + 43) ≤ R.locals) (hRcells : cells + 1 ≤ R.cells) (hRslots : slots + 6 ≤ R.slots) (hlocks : meth.locks = false)
    (hx : ∀ t : State, s.vm.Alike t.vm → H.size ≤ t.heap.size → (∀ q : Nat, q < H.size → t.heap[q]? = H[q]?) → XC cls s t)
    (hf : ∀ z ∈ locs, free z.base) (hc : cells + 1 ≤ mc) (hs : slots + 6 ≤ ms) :
    W p l e R s m args below meth c H locs cells slots (vx_MQ below Qc XC args s mc ms free) (F0 m pc ls rest) := by
  intro T hT X
  have htr : e.platform.stackTraces = false := (show e.platform.stackTraces = l.stackTraces by rw [X.admits.platform]).trans hl
  have Y := vx_rebase X (R' := { frames := R.frames, locals := R.locals, cells := 1, slots := 6 }) (Nat.le_refl _) (Nat.le_refl _) hRcells hRslots
  obtain ⟨s', hA⟩ : ∃ z, z = (T.setVm s.vm).setFrames (.invoking m args :: below) := ⟨_, rfl⟩
  rw [← hA] at Y
  have hvm : s'.vm = s.vm := by rw [hA]; rfl
  have hhp : s'.heap = H := by rw [hA]; exact hT
  have hW0 : s.WarmedH s'.vm := by rw [hvm]; exact State.WarmedH.refl s
  have hat' : ∀ w ∈ vx_atS own ic cls names, w.before args s' = true := fun w hw => vx_ot_at hW0 hvm.symm (hgood w (List.mem_cons_of_mem _ (List.mem_cons_of_mem _ hw))) (hat w hw)
  have hk' : (Cond.classLink own ik cls).before args s' = true := vx_ot_at hW0 hvm.symm (hgood _ List.mem_cons_self) hk
  have hini' : (Cond.initialized cls).before args s' = true := vx_ot_at hW0 hvm.symm (hgood _ (List.mem_cons_of_mem _ List.mem_cons_self)) hini
  have hU' : vx_Zq Bundle.tN "UNASSIGNED_STACK" Bundle.steD A s' s'.heap := by rw [hhp]; exact vx_Zq.moved hW0.alike (hU.kept hS.2.1)
  have hN' : vx_Zq Bundle.tN "SUPPRESSED_SENTINEL" Bundle.listD A s' s'.heap := by rw [hhp]; exact vx_Zq.moved hW0.alike (hN.kept hS.2.1)
  have h : ∀ w ∈ Bundle.ownAtoms own ic cls names, w.before args s' = true := vx_own hat' (vx_isRefq hU'.1) (vx_isRefq hN'.1) hU'.2.word hN'.2.word
  have hown' : s'.vm.findClass own = some m.cls := by rw [hvm]; exact hown
  have hins : (Cond.instantiable cls 6).before args s' = true := h _ (by simp [Bundle.ownAtoms])
  obtain ⟨vm₁, cX, kX, hfX, hkX, -, -, X₁, st1⟩ := Y.newCold hexec (own := own) (C := cls) (index := ik) (n := 6) hown' hk' hins hini'
    (g := F0 m pc ls rest) rfl (by rw [hb]; exact d0) (Nat.le_refl _) (Nat.le_refl _)
  generalize hT1 : (T.setVm vm₁).pushCell { cls := cX, slots := kX.instanceTypes.map defaultValue, vm := .none } = T1 at X₁ st1
  have hcat : (Value.ref T.heap.size).category = 1 := rfl
  have hcellA : T1.heap[T.heap.size]? = some (freshCell cX kX) := by rw [← hT1]; exact State.heap_pushCell_size _ _
  have d3' : decode c.code (pc + 3) = .ok (.dup, 1) := by rw [hb]; exact d3
  have d4' : decode c.code (pc + 4) = .ok (.ldc_w is, 3) := by rw [hb]; exact d4
  have hstr' : vk_R own is text sa s' := vk_R.warm hW0 hstr
  obtain ⟨U, hsteps, hrun, hend, hW, hsame, ce, hce, hO⟩ := X₁.ctorThrowS hexec htr (own := own) (cls := cls) (names := names) (ic := ic) hown' hcls hnames h (fun x hx => nomatch hx) hfX hkX hcellA (by rw [hhp, hT]; exact Nat.le_refl _) (msg := .ref sa) rfl
    (g := { method := m, pc := pc + 7, locals := ls, stack := .ref sa :: .ref T.heap.size :: .ref T.heap.size :: rest, locked := none }) rfl hsize rfl rfl (rest := rest) rfl
    (by rw [hb]; exact d7) (by rw [hb]; exact d10) hout hRframes (by simp only [List.map_cons, List.sum_cons, hcat]; omega) hlocks
  obtain ⟨f1, f2⟩ := vx_frame hsame
  rw [hhp] at f1 f2
  have hWs : s.WarmedH U.vm := State.WarmedH.trans hW0 hW
  have hcl : s.vm.findClass cls = some ce.cls := by
    have h9 := hO.cls
    rw [hvm] at h9
    exact h9
  have hall : s.sameButNew ({ U with vm := s.vm } : State) locs mc ms := by
    subst hA
    obtain ⟨e1, e2⟩ := hsame
    rw [State.setFrames_setFrames] at e1
    have h2 : (T.setVm s.vm).sameButNew ({ U with vm := s.vm } : State) [] (0 + 1) (0 + 6) := ⟨e1, e2⟩
    have h3 := X.same.trans h2
    rw [List.append_nil] at h3
    exact h3.mono hc hs
  refine ⟨U, ?_, .threw T.heap.size, hrun, hend, Or.inr ⟨T.heap.size, rfl, cls, ce, locs, hx U hWs.alike f1 (fun q hq => f2 q hq (fun z hz => nomatch hz)), hce, hO.vm, hcl, hWs, hall, hf⟩⟩
  refine st1 _ ?_
  show Steps p.tables e below (T1.setTop { method := m, pc := pc + 3, locals := ls, stack := .ref T.heap.size :: rest, locked := none }) _
  jvm_step X₁.here [X₁.here.top, hexec, d3', Value.category]
  exact X₁.ldcStringW hexec (own := own) (text := text) (index := is) (a := sa) hown' hstr'.1 hstr'.2
    (g := { method := m, pc := pc + 4, locals := ls, stack := .ref T.heap.size :: .ref T.heap.size :: rest, locked := none }) rfl d4' _ hsteps
end Ends
section Bodies
variable {l : Launch}
theorem vx_ofW {y : MethodName} {ws ws' : List Cond} {rm : Room} {Pc : Array Value → State → Prop} {Qc : Array Value → State → Outcome → State → Prop} {XC : String → State → State → Prop} {mc ms : Nat} {free : Addr → Prop} {cc : ByteArray} {maxL : Nat} {ret : Option FieldType}
    (hy : plainName y.cls = true) (hw : ws = Cond.code y cc maxL ret :: ws')
    (body : ∀ p e s m args below meth c s₁, BodyLoose p l y (headSpec ws rm) cc maxL ret e s m args below meth c s₁ → c.maxLocals = maxL → (∀ x ∈ c.exceptionTable.toList, False) → Pc args s →
      W p l e (headSpec ws rm).room s m args below meth c s.heap [] 0 0 (vx_MQ below Qc XC args s mc ms free) (entryFrame m args maxL)) : vx_Met l y ws rm Pc Qc XC mc ms free := by
  refine MetFree.of_bodyS (code := cc) (maxLocals := maxL) (ret := ret) hy ?_ ?_
  · intro args s m h hn
    obtain ⟨meth, c, h1, h2, h3, h4, h5, h6, -, -⟩ := Cond.code_spec hn (atoms_spec (ws := ws) h _ (by rw [hw]; exact List.mem_cons_self))
    exact ⟨meth, c, h1, h2, h3, h4, h5, h6⟩
  · intro p e s m args below meth c s₁ B hml hP _
    have hh0 : s₁.heap = s.heap := by rw [B.state]; rfl
    have ht : ∀ x ∈ c.exceptionTable.toList, False := by
      obtain ⟨meth9, c9, h1, h2, -, -, -, -, h7, -⟩ := Cond.code_spec B.named (atoms_spec (ws := ws) B.pre _ (by rw [hw]; exact List.mem_cons_self))
      cases Option.some.inj (h1.symm.trans B.method)
      cases Option.some.inj (h2.symm.trans (Stand.of_body B).code)
      intro x hx
      rw [Array.isEmpty_iff.mp h7] at hx
      cases hx
    obtain ⟨t, a1, o, b1, b2, b3⟩ := body p e s m args below meth c s₁ B hml ht hP s₁ hh0 (Stand.of_body B)
    exact ⟨t, o, a1, b1, b2, b3⟩
/-- the table of a body with handlers -/
theorem vx_table {p : Program} {x y : MethodName} {S : Spec} {cc bytes : ByteArray} {maxL maxL' : Nat} {ret ret' : Option FieldType} {e : Env} {s s₁ : State} {m : MethodId} {args : Array Value} {below : List Frame} {meth : Method} {c : Code} {hh : List (Nat × Nat × Nat × Nat)}
    (B : BodyLoose p l y S cc maxL ret e s m args below meth c s₁) (h : (Cond.codeWith y bytes maxL' ret' hh).before args s = true) : c.exceptionTable.toList = tableOf hh := by
  obtain ⟨m9, meth9, c9, hn9, h1, h2, -, -, h6, -⟩ := Cond.codeWith_spec h
  cases Option.some.inj (hn9.symm.trans B.named)
  cases Option.some.inj (h1.symm.trans B.method)
  cases Option.some.inj (h2.symm.trans (Stand.of_body B).code)
  rw [← h6, table_eq]
end Bodies
end VXA
/-! ===== END ===== -/
/-! ===== BEGIN a static call of a method with an exception table ===== -/
section VXS
variable {p : Program} {l : Launch} {e : Env} {R : Room} {s : State} {m : MethodId} {args : Array Value} {below : List Frame} {meth : Method} {c : Code} {T : State} {H : Heap} {locs : List Loc} {cells slots : Nat}
abbrev vx_CSW (R : Room) (s : State) (args : Array Value) (own : String) (index : Nat) (y : MethodName) (bytes : ByteArray) (maxL : Nat) (ret : Option FieldType) (hh : List (Nat × Nat × Nat × Nat)) (ws : List Cond) (rm : Room) (mc ms n : Nat) : Prop :=
  (rm.cells = mc ∧ rm.slots = ms ∧ rm.frames + 1 ≤ R.frames ∧ 8 + (maxL + 11) + rm.locals ≤ R.locals ∧ (∀ w ∈ ws, ∀ (a' : Array Value) (U : State), s.WarmedH U.vm → w.before a' U = true) ∧ Cond.codeWith y bytes maxL ret hh ∈ ws) ∧
  (Cond.codeWith y bytes maxL ret hh).before args s = true ∧ (Cond.initialized y.cls).before args s = true ∧ (y.cls ≠ "java/lang/invoke/MethodHandle" ∧ y.cls ≠ "java/lang/invoke/VarHandle") ∧
  (∀ sig, parseMethodDescriptor y.desc = some sig → n = sig.parameters.length) ∧ (Cond.methodLink own index y).before args s = true ∧ (Cond.static y).before args s = true
theorem vx_cwSW {own : String} {index maxL mc ms : Nat} {y : MethodName} {bytes : ByteArray} {ret : Option FieldType} {hh : List (Nat × Nat × Nat × Nat)} {Ts ws ws' : List Cond} {rm : Room} (n : Nat) (ht : ∀ w ∈ Ts, w.before args s = true) (hT : GoodIn Ts (va_wsS own index y ws)) (hw : ws = Cond.codeWith y bytes maxL ret hh :: ws') (hrc : rm.cells = mc) (hrs : rm.slots = ms)
    (hd : y.cls ≠ "java/lang/invoke/MethodHandle" ∧ y.cls ≠ "java/lang/invoke/VarHandle" ∧ (parseMethodDescriptor y.desc).map (fun d => d.parameters.length) = some n) (hR : rm.frames + 1 ≤ R.frames ∧ 8 + (maxL + 11) + rm.locals ≤ R.locals) :
    vx_CSW R s args own index y bytes maxL ret hh ws rm mc ms n := by
  have ok : ∀ w ∈ va_wsS own index y ws, w.before args s = true := fun w h => ht w (hT w h).1
  have hG : GoodIn Ts ws := fun w h => hT w (by unfold va_wsS; exact List.mem_append_right _ h)
  have hc : Cond.codeWith y bytes maxL ret hh ∈ ws := by rw [hw]; exact List.mem_cons_self
  refine ⟨⟨hrc, hrs, hR.1, hR.2, pay_in ht hG, hc⟩, ht _ (hG _ hc).1, ok _ (by simp [va_wsS]), ⟨hd.1, hd.2.1⟩, fun sig h => ?_, ok _ (by simp [va_wsS]), ok _ (by simp [va_wsS])⟩
  have h2 := hd.2.2
  rw [h] at h2
  exact (Option.some.inj h2).symm
theorem vx_callSW (X : Stand p l e R s m args below meth c T locs cells slots) (hexec : p.tables.exec = Jvm.exec) {own : String} {index : Nat} {y : MethodName} {bytes : ByteArray} {maxL : Nat} {ret : Option FieldType} {hh : List (Nat × Nat × Nat × Nat)}
    (hown : s.vm.findClass own = some m.cls) (hlink : (Cond.methodLink own index y).before args s = true) (hstat : (Cond.static y).before args s = true) (hinit : (Cond.initialized y.cls).before args s = true)
    (hcode : (Cond.codeWith y bytes maxL ret hh).before args s = true) (hy : y.cls ≠ "java/lang/invoke/MethodHandle" ∧ y.cls ≠ "java/lang/invoke/VarHandle")
    {W9 : Nat} {Pre : Pt → Array Value → Prop} {Post : Pt → Array Value → Option Value → Pt → Prop} (hK : Back l R p e below s args y 3 W9 Pre Post)
    {g : JFrame} (hg : g.method = m) (hsize : g.locals.size = c.maxLocals) {argsL rest : List Value} (hlen : ∀ sig, parseMethodDescriptor y.desc = some sig → argsL.length = sig.parameters.length)
    (hstack : g.stack = argsL.reverse ++ rest) (hW : 2 * g.monitorRoom + (rest.map fun v => v.category).sum ≤ W9) (hdg : decode c.code g.pc = .ok (.invokestatic index, 3))
    (hpre : ∀ vm₁, s.WarmedH vm₁ → Pre ⟨T.setVm vm₁, locs, cells, slots⟩ argsL.toArray) :
    ∃ (v : Option Value) (vm₁ : Vm) (B : Pt), s.WarmedH vm₁ ∧ Stand p l e R s m args below meth c B.U B.locs B.cells B.slots ∧ Post ⟨T.setVm vm₁, locs, cells, slots⟩ argsL.toArray v B ∧
      ∀ target, Steps p.tables e below (B.U.setTop { g with pc := g.pc + 3, stack := v.toList ++ rest }) target → Steps p.tables e below (T.setTop g) target := by
  obtain ⟨mk, methM, cM, hnamed, hmethM, -, -, -, -, -, -, hsigM⟩ := Cond.codeWith_spec hcode
  have hstatic : methM.isStatic = true := Cond.static_spec hnamed hmethM hstat
  obtain ⟨kP, hkP, -⟩ := className_of_methodNamed hnamed
  have hinitP : kP.init = .initialized := Cond.initialized_spec (findClass_of_methodNamed hnamed) hkP hinit
  obtain ⟨vm₁, X₁, hstep₁⟩ := X.invokestatic hexec hown hlink hnamed hmethM hstatic hkP hinitP hy (g := g) hg (argsL := argsL) (rest := rest) (hlen _ hsigM) hstack hdg
  obtain ⟨v, B, X', hpost, hsteps⟩ := hK m meth c ⟨T.setVm vm₁, locs, cells, slots⟩ { g with stack := rest } (.invokestatic index) mk argsL.toArray X₁ hg hsize hdg hW (X₁.named hnamed) (hpre vm₁ X₁.warmed)
  exact ⟨v, vm₁, B, X₁.warmed, X', hpost, fun target h => hstep₁ _ fun acts => by rw [doInvoke_state]; exact hsteps.trans h⟩
theorem vx_runSW {y : MethodName} {bytes cc : ByteArray} {maxL nL mc ms n index : Nat} {ret : Option FieldType} {hh : List (Nat × Nat × Nat × Nat)} {ws : List Cond} {rm : Room} {Pc : Array Value → State → Prop} {Qc : Array Value → State → Outcome → State → Prop} {free : Addr → Prop} {Ts : List Cond} {own : String} {As rest : List Value} {g : JFrame}
    (S : CallFix p m c cc nL s args Ts own) (hM : Met l y ws rm Pc Qc mc ms free) (cw : vx_CSW R s args own index y bytes maxL ret hh ws rm mc ms n) (hp : PreS s H Pc As)
    (hg : g.method = m) (hn : As.length = n) (hsize : g.locals.size = nL) (hstack : g.stack = As.reverse ++ rest) (hW : 2 * g.monitorRoom + (rest.map fun v => v.category).sum ≤ 8) (hdg : decode cc g.pc = .ok (.invokestatic index, 3)) (hf : cells + mc ≤ R.cells ∧ slots + ms ≤ R.slots) :
    va_Run p l e R s m args below meth c H locs cells slots mc ms g rest (Qc As.toArray) (free) := by
  obtain ⟨⟨hrc, hrs, hfr, hlo, hws, hcw⟩, hcode, hini, hy, hlen, hl, hstt⟩ := cw
  have hK : Back l R p e below s args y 3 8 (PreOf R mc ms Pc) (PostOf Qc mc ms free) := va_backW (hh := hh) (bytes := bytes) (maxL := maxL) (ret := ret) hM hp.1 hrc hrs hfr hlo hws hcw (fun a' U hW => word_at hW (Or.inl (by first | rfl | simp [Cond.onTables, Cond.keeps, Cond.steady])) hini)
  obtain ⟨hx, hb, hml, ho, -⟩ := S
  intro T hT X
  obtain ⟨v, vm₁, ⟨U', l2, c2, s2⟩, hW₁, X', ⟨g', mk, t, L, e1, e2, hq, h1, hL, h2, h3⟩, st⟩ := vx_callSW X hx (hh := hh) (bytes := bytes) (maxL := maxL) (ret := ret) ho hl hstt hini hcode hy hK hg (hsize.trans hml.symm) (argsL := As) (rest := rest) (fun sig h => hn.trans (hlen sig h)) hstack hW (by rw [hb]; exact hdg)
    (fun vm₁ hW₁ => ⟨hf.1, hf.2, hp.2 (T.setVm vm₁) hT hW₁⟩)
  dsimp only [Pt.U, Pt.locs, Pt.cells, Pt.slots] at X' e1 e2 h1 h2 h3 st
  subst h1; subst h2; subst h3
  exact ⟨v, (T.setVm vm₁).calling g' mk As.toArray, t, U', L, hT, X', hL, e1, e2, hq, st⟩
/-- not caught here, past rows that name other classes: it goes on to the caller -/
theorem vx_outP {p : Program} {l : Launch} {e : Env} {R : Room} {s : State} {m : MethodId} {args : Array Value} {below : List Frame} {meth : Method} {c : Code} {H : Heap} {locs : List Loc} {cells slots : Nat} {free : Addr → Prop} {ls : Array Slot} {rest : List Value} {Qc : Array Value → State → Outcome → State → Prop} {XC : String → State → State → Prop}
    {pc : Nat} {own E : String} {ce : Cell} {q : Addr} {mc ms : Nat} (hown : s.vm.findClass own = some m.cls) (hlocks : meth.locks = false)
    (hpass : ∀ z ∈ c.exceptionTable.toList, covers z pc = false ∨ (z.catchType ≠ 0 ∧ ∃ nm : String, (Cond.classLink own z.catchType nm).before args s = true ∧ va_Nc E nm s)) (hcell : H[q]? = some ce) (hv : ce.vm = .none) (hcl : s.vm.findClass E = some ce.cls)
    (hx : ∀ t : State, t.heap = H → s.vm.Alike t.vm → XC E s t) (hf : ∀ z ∈ locs, free z.base) (hc : cells ≤ mc) (hs : slots ≤ ms) :
    vx_W p l e R s m args below meth c H locs cells slots (vx_MQ below Qc XC args s mc ms free) (F0 m pc ls rest) q := by
  intro T hT X
  have hpl : e.platform.magicAccessors = ({} : Platform).magicAccessors := by rw [X.admits.platform]
  obtain ⟨vm', hW', X', st⟩ := X.outThrough hlocks q (g := F0 m pc ls rest) rfl rfl rfl (cell := ce) (by rw [hT]; exact hcell) (by rw [hv]; rfl)
    (by obtain ⟨k9, h9, -⟩ := Vm.findClass_spec hcl; exact ⟨k9, h9⟩) (fun z hz => by
      rcases hpass z hz with h | ⟨hz0, nm, hl1, hn1⟩
      · exact Or.inl h
      · obtain ⟨c6, hc6, hcl6⟩ := Cond.classLink_spec hown hl1 e.platform hpl
        obtain ⟨a8, b8, h1, h2, h3⟩ := hn1
        cases Option.some.inj (h1.symm.trans hcl)
        cases Option.some.inj (h2.symm.trans hc6)
        exact Or.inr ⟨hz0, _, hcl6, h3⟩)
  obtain ⟨g₀, hfr⟩ := X'.frames_eq
  have hcell9 : ((T.setVm vm').setFrames (.throwing q :: below)).heap[q]? = some ce := by
    show T.heap[q]? = some ce
    rw [hT]; exact hcell
  have hend : Ended ((T.setVm vm').setFrames (.throwing q :: below)) below (.threw q) := State.frames_setFrames _ (State.cur_lt_of_frames hfr)
  refine ⟨(T.setVm vm').setFrames (.throwing q :: below), ?_, .threw q, X'.here.running, hend, Or.inr ⟨q, rfl, E, ce, locs, hx _ hT (X'.ends _).1.alike, hcell9, hv, hcl, (X'.ends _).1, (X'.ends _).2.mono hc hs, hf⟩⟩
  rw [X.pushThrowing_eq]
  exact st
/-- a thing of a world lies in the heap -/
theorem vx_lt {D : va_G} {cl : List vw_C} {ws : va_W} {H1 : Heap} (h : va_P D cl ws H1) {k : Nat} {q : Nat × va_E} (hk : ws[k]? = some q) : q.1 < H1.size := (h k q hk).lt
end VXS
/-! ===== END ===== -/
/-! ===== BEGIN methods with a table of their own: called by a name, returning or throwing ===== -/
section VXH
/-! vx_backW, vx_callVX, vx_callSX, vx_callVW, vx_runVW, vx_runVX, vx_runSX, vx_ofWH follow the same proofs as their sisters above (Free/Laws.lean, Shelf42/LK1.lean); vx_outP calls Shelf42/NT130.lean (outThrough). -/
section
variable {l : Launch} {R : Room} {p : Program} {e : Env} {below : List Frame} {s : State} {sargs : Array Value} {y : MethodName} {len W9 : Nat}
theorem vx_backW {ws : List Cond} {rm : Room} {Pc : Array Value → State → Prop} {Qc : Array Value → State → Outcome → State → Prop} {XC : String → State → State → Prop} {mc ms : Nat} {free : Addr → Prop} {bytes : ByteArray} {maxL : Nat} {ret : Option FieldType} {hh : List (Nat × Nat × Nat × Nat)}
    (hM : vx_Met l y ws rm Pc Qc XC mc ms free) (hblind : FrameBlind Pc) (hrc : rm.cells = mc) (hrs : rm.slots = ms)
    (hframes : rm.frames + 1 ≤ R.frames) (hlocals : W9 + (maxL + 11) + rm.locals ≤ R.locals)
    (hws : ∀ w ∈ ws, ∀ a' U, s.WarmedH U.vm → w.before a' U = true) (hcode : Cond.codeWith y bytes maxL ret hh ∈ ws) (hinit : ∀ a' U, s.WarmedH U.vm → (Cond.initialized y.cls).before a' U = true) :
    vx_Back l R p e below s sargs y len W9 (PreOf R mc ms Pc) (PostOf Qc mc ms free) (vx_Post XC mc ms free) := by
  intro m meth c A g ig mk a X hg hsize hdg hW hn hp
  have h1 : (headSpec ws rm).pre.before a A.U = true := atoms_intro fun w hw => hws w hw _ _ X.warmed
  have h2 : (Cond.codeWith y bytes maxL ret hh).before a A.U = true := hws _ hcode _ _ X.warmed
  have h3 : (Cond.initialized y.cls).before a A.U = true := hinit _ _ X.warmed
  have h4 : A.cells + (headSpec ws rm).room.cells ≤ R.cells := by rw [show (headSpec ws rm).room.cells = mc from hrc]; exact hp.1
  have h5 : A.slots + (headSpec ws rm).room.slots ≤ R.slots := by rw [show (headSpec ws rm).room.slots = ms from hrs]; exact hp.2.1
  have hPc : Pc a (A.U.calling g mk a) := hblind _ _ _ _ hp.2.2
  obtain ⟨U, Ls, c0, s0⟩ := A
  dsimp only [Pt.U, Pt.locs, Pt.cells, Pt.slots] at h1 h2 h3 h4 h5 X hn hPc ⊢
  obtain ⟨m9, methY, cY, hn9, hmY, hcY, -, hlY, -⟩ := Cond.codeWith_spec h2
  cases Option.some.inj (hn9.symm.trans hn)
  obtain ⟨kY, hkY, -⟩ := className_of_methodNamed hn
  have hinitY : kY.init = .initialized := Cond.initialized_spec (findClass_of_methodNamed hn) hkY h3
  have h : At U g.method c below := by rw [hg]; exact X.here
  have hlocals9 : W9 + (maxL + 11) + (headSpec ws rm).room.locals ≤ R.locals := hlocals
  have happ : (headSpec ws rm).appliesLoose y e.platform (U.calling g mk a) = true :=
    Spec.appliesLoose_calling (g := g) h hdg hn hkY hinitY
      (X.room_calling (g := g) (R' := (headSpec ws rm).room) hsize hmY hcY hframes (by rw [hlY]; omega) h4 h5) h1
  obtain ⟨mid, hmid⟩ := h.above
  have hfr : (U.setTop g).frames = (.java g :: mid) ++ below := by rw [State.frames_setTop' g h.top, hmid]; rfl
  obtain ⟨o, s₂, hsteps, -, hend, hq⟩ := Steps.callFree hM p X.admits X.cas X.clock (acts := []) hfr happ hPc trivial
  have hq' : vx_Q Qc XC mc ms free a (U.calling g mk a) o s₂ := hq
  rw [State.frames_setTop' g h.top] at hend
  obtain ⟨g₀, hg0⟩ := Option.isSome_iff_exists.mp h.top
  obtain ⟨r, hr⟩ := State.topJava?_eq_some.mp hg0
  have hr' : (({ U with heap := s₂.heap, slotsUsed := s₂.slotsUsed } : State).setVm s₂.vm).frames = .java g₀ :: r := hr
  rcases hq' with ⟨hqc, L, hfe, hL⟩ | ⟨q, rfl, E, ce, L, hx, hce, hcv, hcl, hW₂, hsm, hL⟩
  · obtain ⟨⟨v, rfl⟩, hW₂, e2, q2, q3, q4, q5, q6⟩ := id hfe
    have e3 : s₂ = ({ (U.calling g mk a).setFrames s₂.frames with heap := s₂.heap, slotsUsed := s₂.slotsUsed } : State).setVm s₂.vm := by
      have : s₂ = ({ s₂ with vm := (U.calling g mk a).vm } : State).setVm s₂.vm := rfl
      rw [e2] at this
      exact this
    obtain ⟨c₂, i₂, len₂, hc₂, hd₂, hf₂⟩ := hend
    have hW' : U.WarmedH s₂.vm := hW₂
    have hcc : c₂ = c := by
      have h1 : s₂.code? g.method = U.code? g.method := by
        rw [State.code?_eq, State.code?_eq, hW'.alike.method?]
      exact Option.some.inj (hc₂.symm.trans (h1.trans h.code))
    subst hcc
    have hlen : len₂ = len := by rw [hdg] at hd₂; cases hd₂; rfl
    subst hlen
    have hs₂ : s₂ = (({ U with heap := s₂.heap, slotsUsed := s₂.slotsUsed } : State).setVm s₂.vm).setTop { g with pc := g.pc + len₂, stack := v.toList ++ g.stack } := by
      refine e3.trans ?_
      rw [hf₂, State.calling_eq h.top, State.setFrames_setFrames, State.setTop_of_frames _ hr', hr]
      rfl
    have hsame : U.sameButNew ({ U with heap := s₂.heap, slotsUsed := s₂.slotsUsed } : State) L mc ms := by
      refine ⟨?_, q2, q3, q4, q5, q6⟩
      obtain ⟨t, ht, -⟩ := State.frames_cons hr
      show ({ U with heap := s₂.heap, slotsUsed := s₂.slotsUsed } : State) = { U.setFrames U.frames with heap := s₂.heap, slotsUsed := s₂.slotsUsed }
      rw [State.setFrames_self ht]
    subst hg
    refine Or.inl ⟨v, ⟨(({ U with heap := s₂.heap, slotsUsed := s₂.slotsUsed } : State).setVm s₂.vm), Ls ++ L, c0 + mc, s0 + ms⟩,
      ⟨X.admits, X.cas, X.clock, X.frames, X.room, X.hears, X.method, X.code, (X.here.setHeapUsed s₂.heap s₂.slotsUsed).setVm hW'.alike, X.tail, State.WarmedH.trans X.warmed hW', X.limits, X.bytes, X.same.trans (hsame.setVm s.vm)⟩,
      ⟨g, mk, s₂, L, rfl, rfl, hqc, rfl, hL, rfl, rfl⟩, ?_⟩
    show Steps p.tables e below _ ((({ U with heap := s₂.heap, slotsUsed := s₂.slotsUsed } : State).setVm s₂.vm).setTop { g with pc := g.pc + len₂, stack := v.toList ++ g.stack })
    rw [← hs₂]
    exact hsteps
  · obtain ⟨e2, q2, q3, q4, q5, q6⟩ := id hsm
    have e3 : s₂ = ({ (U.calling g mk a).setFrames s₂.frames with heap := s₂.heap, slotsUsed := s₂.slotsUsed } : State).setVm s₂.vm := by
      have : s₂ = ({ s₂ with vm := (U.calling g mk a).vm } : State).setVm s₂.vm := rfl
      rw [e2] at this
      exact this
    have hf₂ : s₂.frames = .throwing q :: .java g :: U.frames.tail := hend
    have hW' : U.WarmedH s₂.vm := hW₂
    have hs₂ : s₂ = ((({ U with heap := s₂.heap, slotsUsed := s₂.slotsUsed } : State).setVm s₂.vm).setTop g).pushFrame (.throwing q) := by
      refine e3.trans ?_
      rw [hf₂, State.calling_eq h.top, State.setFrames_setFrames, State.pushFrame, State.frames_setTop _ hr', State.setTop_of_frames _ hr', State.setFrames_setFrames, hr]
      rfl
    have hsame : U.sameButNew ({ U with heap := s₂.heap, slotsUsed := s₂.slotsUsed } : State) L mc ms := by
      refine ⟨?_, q2, q3, q4, q5, q6⟩
      obtain ⟨t, ht, -⟩ := State.frames_cons hr
      show ({ U with heap := s₂.heap, slotsUsed := s₂.slotsUsed } : State) = { U.setFrames U.frames with heap := s₂.heap, slotsUsed := s₂.slotsUsed }
      rw [State.setFrames_self ht]
    subst hg
    refine Or.inr ⟨q, ⟨(({ U with heap := s₂.heap, slotsUsed := s₂.slotsUsed } : State).setVm s₂.vm), Ls ++ L, c0 + mc, s0 + ms⟩,
      ⟨X.admits, X.cas, X.clock, X.frames, X.room, X.hears, X.method, X.code, (X.here.setHeapUsed s₂.heap s₂.slotsUsed).setVm hW'.alike, X.tail, State.WarmedH.trans X.warmed hW', X.limits, X.bytes, X.same.trans (hsame.setVm s.vm)⟩,
      ⟨g, mk, s₂, L, E, ce, rfl, rfl, hx, hce, hcv, hcl, rfl, hL, rfl, rfl⟩, ?_⟩
    show Steps p.tables e below _ (((({ U with heap := s₂.heap, slotsUsed := s₂.slotsUsed } : State).setVm s₂.vm).setTop g).pushFrame (.throwing q))
    rw [← hs₂]
    exact hsteps
end
variable {p : Program} {l : Launch} {e : Env} {R : Room} {s : State} {m : MethodId} {args : Array Value} {below : List Frame} {meth : Method} {c : Code} {T : State} {H : Heap} {locs : List Loc} {cells slots : Nat}
theorem vx_callVX (X : Stand p l e R s m args below meth c T locs cells slots) (hexec : p.tables.exec = Jvm.exec) {own C : String} {index : Nat} {y : MethodName} {bytes : ByteArray} {maxL : Nat} {ret : Option FieldType} {hh : List (Nat × Nat × Nat × Nat)}
    (hown : s.vm.findClass own = some m.cls) (hlink : (Cond.methodLink own index y).before args s = true) (hinst : (Cond.instanceMethod y).before args s = true) (hsel : (Cond.selects C y y).before args s = true)
    (hcode : (Cond.codeWith y bytes maxL ret hh).before args s = true) (hy : y.cls ≠ "java/lang/invoke/MethodHandle" ∧ y.cls ≠ "java/lang/invoke/VarHandle")
    {W9 : Nat} {Pre : Pt → Array Value → Prop} {Post : Pt → Array Value → Option Value → Pt → Prop} {PostX : Pt → Array Value → Addr → Pt → Prop} (hK : vx_Back l R p e below s args y 3 W9 Pre Post PostX)
    {b : Addr} {cellB : Cell} (hcell : T.heap[b]? = some cellB) (hobj : cellB.vm.isStatics = false) (hcls : s.vm.findClass C = some cellB.cls)
    {g : JFrame} (hg : g.method = m) (hsize : g.locals.size = c.maxLocals) {argsL rest : List Value} (hlen : ∀ sig, parseMethodDescriptor y.desc = some sig → argsL.length = sig.parameters.length)
    (hstack : g.stack = argsL.reverse ++ .ref b :: rest) (hW : 2 * g.monitorRoom + (rest.map fun v => v.category).sum ≤ W9) (hdg : decode c.code g.pc = .ok (.invokevirtual index, 3))
    (hpre : ∀ vm₁, s.WarmedH vm₁ → Pre ⟨T.setVm vm₁, locs, cells, slots⟩ (Value.ref b :: argsL).toArray) :
    (∃ (v : Option Value) (vm₁ : Vm) (B : Pt), s.WarmedH vm₁ ∧ Stand p l e R s m args below meth c B.U B.locs B.cells B.slots ∧ Post ⟨T.setVm vm₁, locs, cells, slots⟩ (Value.ref b :: argsL).toArray v B ∧
      ∀ target, Steps p.tables e below (B.U.setTop { g with pc := g.pc + 3, stack := v.toList ++ rest }) target → Steps p.tables e below (T.setTop g) target) ∨
    (∃ (q : Addr) (vm₁ : Vm) (B : Pt), s.WarmedH vm₁ ∧ Stand p l e R s m args below meth c B.U B.locs B.cells B.slots ∧ PostX ⟨T.setVm vm₁, locs, cells, slots⟩ (Value.ref b :: argsL).toArray q B ∧
      Steps p.tables e below (T.setTop g) ((B.U.setTop { g with stack := rest }).pushFrame (.throwing q))) := by
  obtain ⟨mk, methM, hnamed, hmethM, hstM, habM⟩ := Cond.instanceMethod_spec hinst
  obtain ⟨m8, methM', cM, hn8, hmethM', -, -, -, -, -, -, hsigM⟩ := Cond.codeWith_spec hcode
  cases Option.some.inj (hn8.symm.trans hnamed)
  cases hmethM.symm.trans hmethM'
  obtain ⟨c2, r2, m2, q1, q2, q3, q4, kP, hkP, hkPi⟩ := Cond.selects_spec hsel
  cases hcls.symm.trans q1
  cases (State.methodFound?_of_named hnamed hy).symm.trans q2
  cases hnamed.symm.trans q3
  have hselP : selectMethod e.platform s.vm cellB.cls mk = .method mk := by rw [Launch.admits_selectMethod X.admits]; exact q4
  obtain ⟨vm₁, X₁, hstep₁⟩ := X.invokevirtual hexec hown hlink hnamed hmethM hstM hkP hkPi hy (a := b) (cell := cellB) hcell
    (fun z h => by rw [h] at hobj; cases hobj) hselP hmethM habM hkP hkPi (g := g) hg (argsL := argsL) (rest := rest) (hlen _ hsigM) hstack hdg
  rcases hK m meth c ⟨T.setVm vm₁, locs, cells, slots⟩ { g with stack := rest } (.invokevirtual index) mk (Value.ref b :: argsL).toArray X₁ hg hsize hdg hW (X₁.named hnamed) (hpre vm₁ X₁.warmed) with ⟨v, B, X', hpost, hsteps⟩ | ⟨q, B, X', hpost, hsteps⟩
  · exact Or.inl ⟨v, vm₁, B, X₁.warmed, X', hpost, fun target h => hstep₁ _ fun acts => by rw [doInvoke_state]; exact hsteps.trans h⟩
  · exact Or.inr ⟨q, vm₁, B, X₁.warmed, X', hpost, hstep₁ _ fun acts => by rw [doInvoke_state]; exact hsteps⟩
theorem vx_callSX (X : Stand p l e R s m args below meth c T locs cells slots) (hexec : p.tables.exec = Jvm.exec) {own : String} {index : Nat} {y : MethodName} {bytes : ByteArray} {maxL : Nat} {ret : Option FieldType} {hh : List (Nat × Nat × Nat × Nat)}
    (hown : s.vm.findClass own = some m.cls) (hlink : (Cond.methodLink own index y).before args s = true) (hstat : (Cond.static y).before args s = true) (hinit : (Cond.initialized y.cls).before args s = true)
    (hcode : (Cond.codeWith y bytes maxL ret hh).before args s = true) (hy : y.cls ≠ "java/lang/invoke/MethodHandle" ∧ y.cls ≠ "java/lang/invoke/VarHandle")
    {W9 : Nat} {Pre : Pt → Array Value → Prop} {Post : Pt → Array Value → Option Value → Pt → Prop} {PostX : Pt → Array Value → Addr → Pt → Prop} (hK : vx_Back l R p e below s args y 3 W9 Pre Post PostX)
    {g : JFrame} (hg : g.method = m) (hsize : g.locals.size = c.maxLocals) {argsL rest : List Value} (hlen : ∀ sig, parseMethodDescriptor y.desc = some sig → argsL.length = sig.parameters.length)
    (hstack : g.stack = argsL.reverse ++ rest) (hW : 2 * g.monitorRoom + (rest.map fun v => v.category).sum ≤ W9) (hdg : decode c.code g.pc = .ok (.invokestatic index, 3))
    (hpre : ∀ vm₁, s.WarmedH vm₁ → Pre ⟨T.setVm vm₁, locs, cells, slots⟩ argsL.toArray) :
    (∃ (v : Option Value) (vm₁ : Vm) (B : Pt), s.WarmedH vm₁ ∧ Stand p l e R s m args below meth c B.U B.locs B.cells B.slots ∧ Post ⟨T.setVm vm₁, locs, cells, slots⟩ argsL.toArray v B ∧
      ∀ target, Steps p.tables e below (B.U.setTop { g with pc := g.pc + 3, stack := v.toList ++ rest }) target → Steps p.tables e below (T.setTop g) target) ∨
    (∃ (q : Addr) (vm₁ : Vm) (B : Pt), s.WarmedH vm₁ ∧ Stand p l e R s m args below meth c B.U B.locs B.cells B.slots ∧ PostX ⟨T.setVm vm₁, locs, cells, slots⟩ argsL.toArray q B ∧
      Steps p.tables e below (T.setTop g) ((B.U.setTop { g with stack := rest }).pushFrame (.throwing q))) := by
  obtain ⟨mk, methM, cM, hnamed, hmethM, -, -, -, -, -, -, hsigM⟩ := Cond.codeWith_spec hcode
  have hstatic : methM.isStatic = true := Cond.static_spec hnamed hmethM hstat
  obtain ⟨kP, hkP, -⟩ := className_of_methodNamed hnamed
  have hinitP : kP.init = .initialized := Cond.initialized_spec (findClass_of_methodNamed hnamed) hkP hinit
  obtain ⟨vm₁, X₁, hstep₁⟩ := X.invokestatic hexec hown hlink hnamed hmethM hstatic hkP hinitP hy (g := g) hg (argsL := argsL) (rest := rest) (hlen _ hsigM) hstack hdg
  rcases hK m meth c ⟨T.setVm vm₁, locs, cells, slots⟩ { g with stack := rest } (.invokestatic index) mk argsL.toArray X₁ hg hsize hdg hW (X₁.named hnamed) (hpre vm₁ X₁.warmed) with ⟨v, B, X', hpost, hsteps⟩ | ⟨q, B, X', hpost, hsteps⟩
  · exact Or.inl ⟨v, vm₁, B, X₁.warmed, X', hpost, fun target h => hstep₁ _ fun acts => by rw [doInvoke_state]; exact hsteps.trans h⟩
  · exact Or.inr ⟨q, vm₁, B, X₁.warmed, X', hpost, hstep₁ _ fun acts => by rw [doInvoke_state]; exact hsteps⟩
theorem vx_callVW (X : Stand p l e R s m args below meth c T locs cells slots) (hexec : p.tables.exec = Jvm.exec) {own C : String} {index : Nat} {y : MethodName} {bytes : ByteArray} {maxL : Nat} {ret : Option FieldType} {hh : List (Nat × Nat × Nat × Nat)}
    (hown : s.vm.findClass own = some m.cls) (hlink : (Cond.methodLink own index y).before args s = true) (hinst : (Cond.instanceMethod y).before args s = true) (hsel : (Cond.selects C y y).before args s = true)
    (hcode : (Cond.codeWith y bytes maxL ret hh).before args s = true) (hy : y.cls ≠ "java/lang/invoke/MethodHandle" ∧ y.cls ≠ "java/lang/invoke/VarHandle")
    {W9 : Nat} {Pre : Pt → Array Value → Prop} {Post : Pt → Array Value → Option Value → Pt → Prop} (hK : Back l R p e below s args y 3 W9 Pre Post)
    {b : Addr} {cellB : Cell} (hcell : T.heap[b]? = some cellB) (hobj : cellB.vm.isStatics = false) (hcls : s.vm.findClass C = some cellB.cls)
    {g : JFrame} (hg : g.method = m) (hsize : g.locals.size = c.maxLocals) {argsL rest : List Value} (hlen : ∀ sig, parseMethodDescriptor y.desc = some sig → argsL.length = sig.parameters.length)
    (hstack : g.stack = argsL.reverse ++ .ref b :: rest) (hW : 2 * g.monitorRoom + (rest.map fun v => v.category).sum ≤ W9) (hdg : decode c.code g.pc = .ok (.invokevirtual index, 3))
    (hpre : ∀ vm₁, s.WarmedH vm₁ → Pre ⟨T.setVm vm₁, locs, cells, slots⟩ (Value.ref b :: argsL).toArray) :
    ∃ (v : Option Value) (vm₁ : Vm) (B : Pt), s.WarmedH vm₁ ∧ Stand p l e R s m args below meth c B.U B.locs B.cells B.slots ∧ Post ⟨T.setVm vm₁, locs, cells, slots⟩ (Value.ref b :: argsL).toArray v B ∧
      ∀ target, Steps p.tables e below (B.U.setTop { g with pc := g.pc + 3, stack := v.toList ++ rest }) target → Steps p.tables e below (T.setTop g) target := by
  obtain ⟨mk, methM, hnamed, hmethM, hstM, habM⟩ := Cond.instanceMethod_spec hinst
  obtain ⟨m8, methM', cM, hn8, hmethM', -, -, -, -, -, -, hsigM⟩ := Cond.codeWith_spec hcode
  cases Option.some.inj (hn8.symm.trans hnamed)
  cases hmethM.symm.trans hmethM'
  obtain ⟨c2, r2, m2, q1, q2, q3, q4, kP, hkP, hkPi⟩ := Cond.selects_spec hsel
  cases hcls.symm.trans q1
  cases (State.methodFound?_of_named hnamed hy).symm.trans q2
  cases hnamed.symm.trans q3
  have hselP : selectMethod e.platform s.vm cellB.cls mk = .method mk := by rw [Launch.admits_selectMethod X.admits]; exact q4
  obtain ⟨vm₁, X₁, hstep₁⟩ := X.invokevirtual hexec hown hlink hnamed hmethM hstM hkP hkPi hy (a := b) (cell := cellB) hcell
    (fun z h => by rw [h] at hobj; cases hobj) hselP hmethM habM hkP hkPi (g := g) hg (argsL := argsL) (rest := rest) (hlen _ hsigM) hstack hdg
  obtain ⟨v, B, X', hpost, hsteps⟩ := hK m meth c ⟨T.setVm vm₁, locs, cells, slots⟩ { g with stack := rest } (.invokevirtual index) mk (Value.ref b :: argsL).toArray X₁ hg hsize hdg hW (X₁.named hnamed) (hpre vm₁ X₁.warmed)
  exact ⟨v, vm₁, B, X₁.warmed, X', hpost, fun target h => hstep₁ _ fun acts => by rw [doInvoke_state]; exact hsteps.trans h⟩
abbrev vx_CVW (R : Room) (s : State) (args : Array Value) (own C : String) (index : Nat) (y : MethodName) (bytes : ByteArray) (maxL : Nat) (ret : Option FieldType) (hh : List (Nat × Nat × Nat × Nat)) (ws : List Cond) (rm : Room) (mc ms n : Nat) : Prop :=
  (rm.cells = mc ∧ rm.slots = ms ∧ rm.frames + 1 ≤ R.frames ∧ 8 + (maxL + 11) + rm.locals ≤ R.locals ∧ (∀ w ∈ ws, ∀ (a' : Array Value) (U : State), s.WarmedH U.vm → w.before a' U = true) ∧ Cond.codeWith y bytes maxL ret hh ∈ ws) ∧
  (Cond.codeWith y bytes maxL ret hh).before args s = true ∧ (Cond.initialized y.cls).before args s = true ∧ (y.cls ≠ "java/lang/invoke/MethodHandle" ∧ y.cls ≠ "java/lang/invoke/VarHandle") ∧
  (∀ sig, parseMethodDescriptor y.desc = some sig → n = sig.parameters.length) ∧ (Cond.methodLink own index y).before args s = true ∧ (Cond.instanceMethod y).before args s = true ∧ (Cond.selects C y y).before args s = true
theorem vx_cwVW {own C : String} {index maxL mc ms : Nat} {y : MethodName} {bytes : ByteArray} {ret : Option FieldType} {hh : List (Nat × Nat × Nat × Nat)} {Ts ws ws' : List Cond} {rm : Room} (n : Nat) (ht : ∀ w ∈ Ts, w.before args s = true) (hT : GoodIn Ts (wsV own index C y ws)) (hw : ws = Cond.codeWith y bytes maxL ret hh :: ws') (hrc : rm.cells = mc) (hrs : rm.slots = ms)
    (hd : y.cls = C ∧ y.cls ≠ "java/lang/invoke/MethodHandle" ∧ y.cls ≠ "java/lang/invoke/VarHandle" ∧ (parseMethodDescriptor y.desc).map (fun d => d.parameters.length) = some n) (hR : rm.frames + 1 ≤ R.frames ∧ 8 + (maxL + 11) + rm.locals ≤ R.locals) :
    vx_CVW R s args own C index y bytes maxL ret hh ws rm mc ms n := by
  obtain ⟨hC, hd⟩ := hd
  subst hC
  have ok : ∀ w ∈ wsV own index y.cls y ws, w.before args s = true := fun w h => ht w (hT w h).1
  have hG : GoodIn Ts ws := fun w h => hT w (by unfold wsV; exact List.mem_append_right _ h)
  have hc : Cond.codeWith y bytes maxL ret hh ∈ ws := by rw [hw]; exact List.mem_cons_self
  refine ⟨⟨hrc, hrs, hR.1, hR.2, pay_in ht hG, hc⟩, ht _ (hG _ hc).1, ok _ (by simp [wsV]), ⟨hd.1, hd.2.1⟩, fun sig h => ?_, ok _ (by simp [wsV]), ok _ (by simp [wsV]), ok _ (by simp [wsV])⟩
  have h2 := hd.2.2
  rw [h] at h2
  exact (Option.some.inj h2).symm
theorem vx_runVW {y : MethodName} {bytes cc : ByteArray} {maxL nL mc ms n index : Nat} {ret : Option FieldType} {hh : List (Nat × Nat × Nat × Nat)} {ws : List Cond} {rm : Room} {Pc : Array Value → State → Prop} {Qc : Array Value → State → Outcome → State → Prop} {free : Addr → Prop} {Ts : List Cond} {own C : String} {b : Addr} {As rest : List Value} {g : JFrame}
    (S : CallFix p m c cc nL s args Ts own) (hM : Met l y ws rm Pc Qc mc ms free) (cw : vx_CVW R s args own C index y bytes maxL ret hh ws rm mc ms n) (hp : PreV s H C b Pc As)
    (hg : g.method = m) (hn : As.length = n) (hsize : g.locals.size = nL) (hstack : g.stack = As.reverse ++ .ref b :: rest) (hW : 2 * g.monitorRoom + (rest.map fun v => v.category).sum ≤ 8) (hdg : decode cc g.pc = .ok (.invokevirtual index, 3)) (hf : cells + mc ≤ R.cells ∧ slots + ms ≤ R.slots) :
    va_Run p l e R s m args below meth c H locs cells slots mc ms g rest (Qc (Value.ref b :: As).toArray) free := by
  obtain ⟨⟨hrc, hrs, hfr, hlo, hws, hcw⟩, hcode, hini, hy, hlen, hl, hin, hse⟩ := cw
  have hK : Back l R p e below s args y 3 8 (PreOf R mc ms Pc) (PostOf Qc mc ms free) := va_backW (hh := hh) (bytes := bytes) (maxL := maxL) (ret := ret) hM hp.1 hrc hrs hfr hlo hws hcw (fun a' U hW => word_at hW (Or.inl (by first | rfl | simp [Cond.onTables, Cond.keeps, Cond.steady])) hini)
  obtain ⟨hx, hb, hml, ho, -⟩ := S
  obtain ⟨-, ⟨cellB, hcB, hoB, hclB⟩, hPc⟩ := hp
  intro T hT X
  obtain ⟨v, vm₁, ⟨U', l2, c2, s2⟩, hW₁, X', ⟨g', mk, t, L, e1, e2, hq, h1, hL, h2, h3⟩, st⟩ := vx_callVW X hx (C := C) (hh := hh) (bytes := bytes) (maxL := maxL) (ret := ret) ho hl hin hse hcode hy hK (by rw [hT]; exact hcB) hoB hclB hg (hsize.trans hml.symm) (argsL := As) (rest := rest) (fun sig h => hn.trans (hlen sig h)) hstack hW (by rw [hb]; exact hdg)
    (fun vm₁ hW₁ => ⟨hf.1, hf.2, hPc (T.setVm vm₁) hT hW₁⟩)
  dsimp only [Pt.U, Pt.locs, Pt.cells, Pt.slots] at X' e1 e2 h1 h2 h3 st
  subst h1; subst h2; subst h3
  exact ⟨v, (T.setVm vm₁).calling g' mk (Value.ref b :: As).toArray, t, U', L, hT, X', hL, e1, e2, hq, st⟩
section
variable {y : MethodName} {bytes cc : ByteArray} {maxL nL mc ms n index : Nat} {ret : Option FieldType} {ws : List Cond} {rm : Room} {Pc : Array Value → State → Prop} {Qc : Array Value → State → Outcome → State → Prop} {XC : String → State → State → Prop} {free : Addr → Prop} {Ts : List Cond} {own C : String} {b : Addr} {As rest : List Value} {g : JFrame}
theorem vx_runVX {hh : List (Nat × Nat × Nat × Nat)} (S : CallFix p m c cc nL s args Ts own) (hM : vx_Met l y ws rm Pc Qc XC mc ms free) (cw : vx_CVW R s args own C index y bytes maxL ret hh ws rm mc ms n) (hp : PreV s H C b Pc As)
    (hg : g.method = m) (hn : As.length = n) (hsize : g.locals.size = nL) (hstack : g.stack = As.reverse ++ .ref b :: rest) (hW : 2 * g.monitorRoom + (rest.map fun v => v.category).sum ≤ 8) (hdg : decode cc g.pc = .ok (.invokevirtual index, 3)) (hf : cells + mc ≤ R.cells ∧ slots + ms ≤ R.slots) :
    vx_Run p l e R s m args below meth c H locs cells slots mc ms g rest (Qc (Value.ref b :: As).toArray) XC free := by
  obtain ⟨⟨hrc, hrs, hfr, hlo, hws, hcw⟩, hcode, hini, hy, hlen, hl, hin, hse⟩ := cw
  have hK : vx_Back l R p e below s args y 3 8 (PreOf R mc ms Pc) (PostOf Qc mc ms free) (vx_Post XC mc ms free) := vx_backW (hh := hh) (bytes := bytes) (maxL := maxL) (ret := ret) hM hp.1 hrc hrs hfr hlo hws hcw (fun a' U hW => word_at hW (Or.inl (by first | rfl | simp [Cond.onTables, Cond.keeps, Cond.steady])) hini)
  obtain ⟨hx, hb, hml, ho, -⟩ := S
  obtain ⟨-, ⟨cellB, hcB, hoB, hclB⟩, hPc⟩ := hp
  intro T hT X
  rcases vx_callVX X hx (C := C) (hh := hh) (bytes := bytes) (maxL := maxL) (ret := ret) ho hl hin hse hcode hy hK (by rw [hT]; exact hcB) hoB hclB hg (hsize.trans hml.symm) (argsL := As) (rest := rest) (fun sig h => hn.trans (hlen sig h)) hstack hW (by rw [hb]; exact hdg)
    (fun vm₁ hW₁ => ⟨hf.1, hf.2, hPc (T.setVm vm₁) hT hW₁⟩) with ⟨v, vm₁, ⟨U', l2, c2, s2⟩, hW₁, X', ⟨g', mk, t, L, e1, e2, hq, h1, hL, h2, h3⟩, st⟩ | ⟨q, vm₁, ⟨U', l2, c2, s2⟩, hW₁, X', ⟨g', mk, t, L, E, ce, e1, e2, hq, hce, hcv, hcl, h1, hL, h2, h3⟩, st⟩
  · dsimp only [Pt.U, Pt.locs, Pt.cells, Pt.slots] at X' e1 e2 h1 h2 h3 st
    subst h1; subst h2; subst h3
    exact Or.inl ⟨v, (T.setVm vm₁).calling g' mk (Value.ref b :: As).toArray, t, U', L, hT, X', hL, e1, e2, hq, st⟩
  · dsimp only [Pt.U, Pt.locs, Pt.cells, Pt.slots] at X' e1 e2 h1 h2 h3 st hcl
    subst h1; subst h2; subst h3
    exact Or.inr ⟨q, (T.setVm vm₁).calling g' mk (Value.ref b :: As).toArray, t, U', L, E, ce, hT, X', hL, e1, e2, hq, hce, hcv, vx_cls hW₁ hcl, st⟩
theorem vx_runSX {hh : List (Nat × Nat × Nat × Nat)} (S : CallFix p m c cc nL s args Ts own) (hM : vx_Met l y ws rm Pc Qc XC mc ms free) (cw : vx_CSW R s args own index y bytes maxL ret hh ws rm mc ms n) (hp : PreS s H Pc As)
    (hg : g.method = m) (hn : As.length = n) (hsize : g.locals.size = nL) (hstack : g.stack = As.reverse ++ rest) (hW : 2 * g.monitorRoom + (rest.map fun v => v.category).sum ≤ 8) (hdg : decode cc g.pc = .ok (.invokestatic index, 3)) (hf : cells + mc ≤ R.cells ∧ slots + ms ≤ R.slots) :
    vx_Run p l e R s m args below meth c H locs cells slots mc ms g rest (Qc As.toArray) XC free := by
  obtain ⟨⟨hrc, hrs, hfr, hlo, hws, hcw⟩, hcode, hini, hy, hlen, hl, hstt⟩ := cw
  have hK : vx_Back l R p e below s args y 3 8 (PreOf R mc ms Pc) (PostOf Qc mc ms free) (vx_Post XC mc ms free) := vx_backW (hh := hh) (bytes := bytes) (maxL := maxL) (ret := ret) hM hp.1 hrc hrs hfr hlo hws hcw (fun a' U hW => word_at hW (Or.inl (by first | rfl | simp [Cond.onTables, Cond.keeps, Cond.steady])) hini)
  obtain ⟨hx, hb, hml, ho, -⟩ := S
  intro T hT X
  rcases vx_callSX X hx (hh := hh) (bytes := bytes) (maxL := maxL) (ret := ret) ho hl hstt hini hcode hy hK hg (hsize.trans hml.symm) (argsL := As) (rest := rest) (fun sig h => hn.trans (hlen sig h)) hstack hW (by rw [hb]; exact hdg)
    (fun vm₁ hW₁ => ⟨hf.1, hf.2, hp.2 (T.setVm vm₁) hT hW₁⟩) with ⟨v, vm₁, ⟨U', l2, c2, s2⟩, hW₁, X', ⟨g', mk, t, L, e1, e2, hq, h1, hL, h2, h3⟩, st⟩ | ⟨q, vm₁, ⟨U', l2, c2, s2⟩, hW₁, X', ⟨g', mk, t, L, E, ce, e1, e2, hq, hce, hcv, hcl, h1, hL, h2, h3⟩, st⟩
  · dsimp only [Pt.U, Pt.locs, Pt.cells, Pt.slots] at X' e1 e2 h1 h2 h3 st
    subst h1; subst h2; subst h3
    exact Or.inl ⟨v, (T.setVm vm₁).calling g' mk As.toArray, t, U', L, hT, X', hL, e1, e2, hq, st⟩
  · dsimp only [Pt.U, Pt.locs, Pt.cells, Pt.slots] at X' e1 e2 h1 h2 h3 st hcl
    subst h1; subst h2; subst h3
    exact Or.inr ⟨q, (T.setVm vm₁).calling g' mk As.toArray, t, U', L, E, ce, hT, X', hL, e1, e2, hq, hce, hcv, vx_cls hW₁ hcl, st⟩
end
end VXH
theorem vx_ofWH {l : Launch} {y : MethodName} {ws ws' : List Cond} {rm : Room} {Pc : Array Value → State → Prop} {Qc : Array Value → State → Outcome → State → Prop} {XC : String → State → State → Prop} {mc ms : Nat} {free : Addr → Prop} {cc : ByteArray} {maxL : Nat} {ret : Option FieldType} {hh : List (Nat × Nat × Nat × Nat)}
    (hy : plainName y.cls = true) (hw : ws = Cond.codeWith y cc maxL ret hh :: ws')
    (body : ∀ p e s m args below meth c s₁, BodyLoose p l y (headSpec ws rm) cc maxL ret e s m args below meth c s₁ → c.maxLocals = maxL → Pc args s →
      W p l e (headSpec ws rm).room s m args below meth c s.heap [] 0 0 (vx_MQ below Qc XC args s mc ms free) (entryFrame m args maxL)) : vx_Met l y ws rm Pc Qc XC mc ms free := by
  refine MetFree.of_bodyS (code := cc) (maxLocals := maxL) (ret := ret) hy ?_ ?_
  · intro args s m h hn
    obtain ⟨m9, meth, c, hn9, h1, h2, h3, h4, -, h5, h6, -⟩ := Cond.codeWith_spec (atoms_spec (ws := ws) h _ (by rw [hw]; exact List.mem_cons_self))
    cases hn.symm.trans hn9
    exact ⟨meth, c, h1, h2, h3, h4, h5, h6⟩
  · intro p e s m args below meth c s₁ B hml hP _
    have hh0 : s₁.heap = s.heap := by rw [B.state]; rfl
    obtain ⟨t, a1, o, b1, b2, b3⟩ := body p e s m args below meth c s₁ B hml hP s₁ hh0 (Stand.of_body B)
    exact ⟨t, o, a1, b1, b2, b3⟩
/-! ===== END ===== -/
end
section
/-! ===== BEGIN printed: names, fields, word lists, decode rows ===== -/
def RX0 : String := "HousePlans$Drawing"
def TX0 : u_T := fun k => match k with
  | 0 => ("HousePlans$Drawing", "told", "[I", true)
  | 1 => ("HousePlans$Drawing", "toldExits", "[Z", true)
  | 2 => ("HousePlans$Drawing", "others", "[LHousePlans$Drawing;", true)
  | 3 => ("HousePlans$Drawing", "locker", "I", false)
  | _ => ("HousePlans$Drawing", "borrower", "I", false)
def tyX0 : Nat → FieldType := fun k => match k with
  | 0 => .array .int
  | 1 => .array .boolean
  | 2 => .array (.object "HousePlans$Drawing")
  | 3 => .int
  | _ => .int
theorem nmX0 : ∀ a, a < 5 → ∀ b, b < 5 → a ≠ b → (TX0 a).2.1 ≠ (TX0 b).2.1 := by decide +kernel
theorem tyX0_ok : ∀ k, k < 5 → parseFieldDescriptor (TX0 k).2.2.1 = some (tyX0 k) := by decide +kernel
abbrev cX0_init : ByteArray := prog_2_method_1_code
def yX0_init : MethodName := ⟨RX0, "<init>", "()V"⟩
abbrev cX0_changer : ByteArray := prog_2_method_2_code
def yX0_changer : MethodName := ⟨RX0, "changer", "()I"⟩
abbrev cX0_sideNow : ByteArray := prog_2_method_3_code
def yX0_sideNow : MethodName := ⟨RX0, "sideNow", "(I)I"⟩
abbrev cX0_exitNow : ByteArray := prog_2_method_4_code
def yX0_exitNow : MethodName := ⟨RX0, "exitNow", "(I)Z"⟩
abbrev cX0_leadsTo : ByteArray := prog_2_method_5_code
def yX0_leadsTo : MethodName := ⟨RX0, "leadsTo", "(LHousePlans$Drawing;)Z"⟩
abbrev cX0_sideIn : ByteArray := prog_2_method_6_code
def yX0_sideIn : MethodName := ⟨RX0, "sideIn", "(LHousePlans$Drawing;II)I"⟩
abbrev cX0_exitIn : ByteArray := prog_2_method_7_code
def yX0_exitIn : MethodName := ⟨RX0, "exitIn", "(LHousePlans$Drawing;II)Z"⟩
abbrev cX0_leads : ByteArray := prog_2_method_8_code
def yX0_leads : MethodName := ⟨RX0, "leads", "(LHousePlans$Drawing;LHousePlans$Drawing;I)Z"⟩
def RX1 : String := "HousePlans$Floor"
def TX1 : u_T := fun k => match k with
  | 0 => ("HousePlans$Floor", "state", "LHousePlans$State;", true)
  | 1 => ("HousePlans$Floor", "roomOf", "[I", true)
  | 2 => ("HousePlans$Floor", "doorsOutOf", "[I", true)
  | _ => ("HousePlans$Floor", "doorsFrom", "[I", true)
def tyX1 : Nat → FieldType := fun k => match k with
  | 0 => .object "HousePlans$State"
  | 1 => .array .int
  | 2 => .array .int
  | _ => .array .int
theorem nmX1 : ∀ a, a < 4 → ∀ b, b < 4 → a ≠ b → (TX1 a).2.1 ≠ (TX1 b).2.1 := by decide +kernel
theorem tyX1_ok : ∀ k, k < 4 → parseFieldDescriptor (TX1 k).2.2.1 = some (tyX1 k) := by decide +kernel
abbrev cX1_init : ByteArray := prog_3_method_1_code
def yX1_init : MethodName := ⟨RX1, "<init>", "()V"⟩
abbrev cX1_lookAt : ByteArray := prog_3_method_2_code
def yX1_lookAt : MethodName := ⟨RX1, "lookAt", "(LHousePlans$Drawing;)V"⟩
abbrev cX1_findRooms : ByteArray := prog_3_method_3_code
def yX1_findRooms : MethodName := ⟨RX1, "findRooms", "()V"⟩
abbrev cX1_join : ByteArray := prog_3_method_4_code
def yX1_join : MethodName := ⟨RX1, "join", "(II)V"⟩
abbrev cX1_findWaysOut : ByteArray := prog_3_method_5_code
def yX1_findWaysOut : MethodName := ⟨RX1, "findWaysOut", "()V"⟩
abbrev cX1_goThroughDoors : ByteArray := prog_3_method_6_code
def yX1_goThroughDoors : MethodName := ⟨RX1, "goThroughDoors", "([I)V"⟩
abbrev cX1_goThrough : ByteArray := prog_3_method_7_code
def yX1_goThrough : MethodName := ⟨RX1, "goThrough", "([IIII)Z"⟩
abbrev cX1_countRooms : ByteArray := prog_3_method_8_code
def yX1_countRooms : MethodName := ⟨RX1, "countRooms", "()I"⟩
abbrev cX1_countCells : ByteArray := prog_3_method_9_code
def yX1_countCells : MethodName := ⟨RX1, "countCells", "(I)I"⟩
abbrev cX1_everyRoomHasWayOut : ByteArray := prog_3_method_10_code
def yX1_everyRoomHasWayOut : MethodName := ⟨RX1, "everyRoomHasWayOut", "()Z"⟩
abbrev cX1_wallThatHelps : ByteArray := prog_3_method_11_code
def yX1_wallThatHelps : MethodName := ⟨RX1, "wallThatHelps", "(I)I"⟩
abbrev cX1_leadsOut : ByteArray := prog_3_method_12_code
def yX1_leadsOut : MethodName := ⟨RX1, "leadsOut", "(II)Z"⟩
def RX2 : String := "HousePlans$Permit"
def TX2 : u_T := fun k => match k with
  | 0 => ("HousePlans$Permit", "drawing", "LHousePlans$Drawing;", true)
  | _ => ("HousePlans$Permit", "kept", "LHousePlans$State;", true)
def tyX2 : Nat → FieldType := fun k => match k with
  | 0 => .object "HousePlans$Drawing"
  | _ => .object "HousePlans$State"
theorem nmX2 : ∀ a, a < 2 → ∀ b, b < 2 → a ≠ b → (TX2 a).2.1 ≠ (TX2 b).2.1 := by decide +kernel
theorem tyX2_ok : ∀ k, k < 2 → parseFieldDescriptor (TX2 k).2.2.1 = some (tyX2 k) := by decide +kernel
abbrev cX2_init : ByteArray := prog_4_method_1_code
def yX2_init : MethodName := ⟨RX2, "<init>", "(LHousePlans$Drawing;)V"⟩
abbrev cX2_isValid : ByteArray := prog_4_method_2_code
def yX2_isValid : MethodName := ⟨RX2, "isValid", "()Z"⟩
def RX3 : String := "HousePlans$Print"
def TX3 : u_T := fun k => match k with
  | 0 => ("HousePlans$Print", "drawing", "LHousePlans$Drawing;", true)
  | 1 => ("HousePlans$Print", "kept", "LHousePlans$State;", true)
  | _ => ("HousePlans$Print", "permit", "I", true)
def tyX3 : Nat → FieldType := fun k => match k with
  | 0 => .object "HousePlans$Drawing"
  | 1 => .object "HousePlans$State"
  | _ => .int
theorem nmX3 : ∀ a, a < 3 → ∀ b, b < 3 → a ≠ b → (TX3 a).2.1 ≠ (TX3 b).2.1 := by decide +kernel
theorem tyX3_ok : ∀ k, k < 3 → parseFieldDescriptor (TX3 k).2.2.1 = some (tyX3 k) := by decide +kernel
abbrev cX3_init : ByteArray := prog_5_method_1_code
def yX3_init : MethodName := ⟨RX3, "<init>", "(LHousePlans$Drawing;I)V"⟩
abbrev cX3_isOld : ByteArray := prog_5_method_2_code
def yX3_isOld : MethodName := ⟨RX3, "isOld", "()Z"⟩
def RX4 : String := "HousePlans$State"
def TX4 : u_T := fun k => match k with
  | 0 => ("HousePlans$State", "sides", "[I", true)
  | _ => ("HousePlans$State", "exits", "[Z", true)
def tyX4 : Nat → FieldType := fun k => match k with
  | 0 => .array .int
  | _ => .array .boolean
theorem nmX4 : ∀ a, a < 2 → ∀ b, b < 2 → a ≠ b → (TX4 a).2.1 ≠ (TX4 b).2.1 := by decide +kernel
theorem tyX4_ok : ∀ k, k < 2 → parseFieldDescriptor (TX4 k).2.2.1 = some (tyX4 k) := by decide +kernel
abbrev cX4_init : ByteArray := prog_6_method_1_code
def yX4_init : MethodName := ⟨RX4, "<init>", "()V"⟩
abbrev cX4_takeFrom : ByteArray := prog_6_method_2_code
def yX4_takeFrom : MethodName := ⟨RX4, "takeFrom", "(LHousePlans$Drawing;)V"⟩
abbrev cX4_isThatOf : ByteArray := prog_6_method_3_code
def yX4_isThatOf : MethodName := ⟨RX4, "isThatOf", "(LHousePlans$Drawing;)Z"⟩
def RX5 : String := "HousePlans"
def TX5 : u_T := fun k => match k with
  | 0 => ("HousePlans", "drawingList", "Ljava/util/ArrayList;", true)
  | 1 => ("HousePlans", "permitList", "Ljava/util/ArrayList;", true)
  | 2 => ("HousePlans", "printList", "Ljava/util/ArrayList;", true)
  | _ => ("HousePlans", "floor", "LHousePlans$Floor;", true)
def tyX5 : Nat → FieldType := fun k => match k with
  | 0 => .object "java/util/ArrayList"
  | 1 => .object "java/util/ArrayList"
  | 2 => .object "java/util/ArrayList"
  | _ => .object "HousePlans$Floor"
theorem nmX5 : ∀ a, a < 4 → ∀ b, b < 4 → a ≠ b → (TX5 a).2.1 ≠ (TX5 b).2.1 := by decide +kernel
theorem tyX5_ok : ∀ k, k < 4 → parseFieldDescriptor (TX5 k).2.2.1 = some (tyX5 k) := by decide +kernel
abbrev cX5_init : ByteArray := prog_1_method_1_code
def yX5_init : MethodName := ⟨RX5, "<init>", "()V"⟩
abbrev cX5_begin : ByteArray := prog_1_method_2_code
def yX5_begin : MethodName := ⟨RX5, "begin", "()I"⟩
abbrev cX5_tell : ByteArray := prog_1_method_3_code
def yX5_tell : MethodName := ⟨RX5, "tell", "(IIII)I"⟩
abbrev cX5_setExit : ByteArray := prog_1_method_4_code
def yX5_setExit : MethodName := ⟨RX5, "setExit", "(IIIZ)Z"⟩
abbrev cX5_refer : ByteArray := prog_1_method_5_code
def yX5_refer : MethodName := ⟨RX5, "refer", "(IIIZ)Z"⟩
abbrev cX5_drawings : ByteArray := prog_1_method_6_code
def yX5_drawings : MethodName := ⟨RX5, "drawings", "()I"⟩
abbrev cX5_side : ByteArray := prog_1_method_7_code
def yX5_side : MethodName := ⟨RX5, "side", "(II)I"⟩
abbrev cX5_hasExit : ByteArray := prog_1_method_8_code
def yX5_hasExit : MethodName := ⟨RX5, "hasExit", "(II)Z"⟩
abbrev cX5_rooms : ByteArray := prog_1_method_9_code
def yX5_rooms : MethodName := ⟨RX5, "rooms", "(I)I"⟩
abbrev cX5_room : ByteArray := prog_1_method_10_code
def yX5_room : MethodName := ⟨RX5, "room", "(II)I"⟩
abbrev cX5_size : ByteArray := prog_1_method_11_code
def yX5_size : MethodName := ⟨RX5, "size", "(II)I"⟩
abbrev cX5_doorsOut : ByteArray := prog_1_method_12_code
def yX5_doorsOut : MethodName := ⟨RX5, "doorsOut", "(II)I"⟩
abbrev cX5_doorThatHelps : ByteArray := prog_1_method_13_code
def yX5_doorThatHelps : MethodName := ⟨RX5, "doorThatHelps", "(II)I"⟩
abbrev cX5_lock : ByteArray := prog_1_method_14_code
def yX5_lock : MethodName := ⟨RX5, "lock", "(II)V"⟩
abbrev cX5_unlock : ByteArray := prog_1_method_15_code
def yX5_unlock : MethodName := ⟨RX5, "unlock", "(II)V"⟩
abbrev cX5_lend : ByteArray := prog_1_method_16_code
def yX5_lend : MethodName := ⟨RX5, "lend", "(III)I"⟩
abbrev cX5_canChange : ByteArray := prog_1_method_17_code
def yX5_canChange : MethodName := ⟨RX5, "canChange", "(I)I"⟩
abbrev cX5_grant : ByteArray := prog_1_method_18_code
def yX5_grant : MethodName := ⟨RX5, "grant", "(I)I"⟩
abbrev cX5_holds : ByteArray := prog_1_method_19_code
def yX5_holds : MethodName := ⟨RX5, "holds", "(I)Z"⟩
abbrev cX5_print : ByteArray := prog_1_method_20_code
def yX5_print : MethodName := ⟨RX5, "print", "(I)I"⟩
abbrev cX5_permitOf : ByteArray := prog_1_method_21_code
def yX5_permitOf : MethodName := ⟨RX5, "permitOf", "(I)I"⟩
abbrev cX5_isGood : ByteArray := prog_1_method_22_code
def yX5_isGood : MethodName := ⟨RX5, "isGood", "(I)Z"⟩
abbrev cX5_old : ByteArray := prog_1_method_23_code
def yX5_old : MethodName := ⟨RX5, "old", "()I"⟩
abbrev cX5_drawingAt : ByteArray := prog_1_method_24_code
def yX5_drawingAt : MethodName := ⟨RX5, "drawingAt", "(I)LHousePlans$Drawing;"⟩
abbrev cX5_printAt : ByteArray := prog_1_method_25_code
def yX5_printAt : MethodName := ⟨RX5, "printAt", "(I)LHousePlans$Print;"⟩
abbrev cX5_highestPermit : ByteArray := prog_1_method_26_code
def yX5_highestPermit : MethodName := ⟨RX5, "highestPermit", "(LHousePlans$Drawing;)I"⟩
abbrev cX5_needPerson : ByteArray := prog_1_method_27_code
def yX5_needPerson : MethodName := ⟨RX5, "needPerson", "(I)V"⟩
abbrev cX5_needSide : ByteArray := prog_1_method_28_code
def yX5_needSide : MethodName := ⟨RX5, "needSide", "(I)V"⟩
abbrev cX5_needCell : ByteArray := prog_1_method_29_code
def yX5_needCell : MethodName := ⟨RX5, "needCell", "(I)V"⟩
abbrev cX5_needChanger : ByteArray := prog_1_method_30_code
def yX5_needChanger : MethodName := ⟨RX5, "needChanger", "(LHousePlans$Drawing;I)V"⟩
abbrev cX5_needLocker : ByteArray := prog_1_method_31_code
def yX5_needLocker : MethodName := ⟨RX5, "needLocker", "(LHousePlans$Drawing;I)V"⟩
abbrev cX5_firstCell : ByteArray := prog_1_method_32_code
def yX5_firstCell : MethodName := ⟨RX5, "firstCell", "(I)I"⟩
abbrev cX5_secondCell : ByteArray := prog_1_method_33_code
def yX5_secondCell : MethodName := ⟨RX5, "secondCell", "(I)I"⟩
def RX6 : String := "HousePlansModel"
def TX6 : u_T := fun k => match k with
  | _ => ("", "", "", false)
def tyX6 : Nat → FieldType := fun k => match k with
  | _ => .int
theorem nmX6 : ∀ a, a < 0 → ∀ b, b < 0 → a ≠ b → (TX6 a).2.1 ≠ (TX6 b).2.1 := by decide +kernel
theorem tyX6_ok : ∀ k, k < 0 → parseFieldDescriptor (TX6 k).2.2.1 = some (tyX6 k) := by decide +kernel
def RJx145de : String := "java/io/Serializable"
def TJx145de : u_T := fun k => match k with
  | _ => ("", "", "", false)
def tyJx145de : Nat → FieldType := fun k => match k with
  | _ => .int
theorem nmJx145de : ∀ a, a < 0 → ∀ b, b < 0 → a ≠ b → (TJx145de a).2.1 ≠ (TJx145de b).2.1 := by decide +kernel
theorem tyJx145de_ok : ∀ k, k < 0 → parseFieldDescriptor (TJx145de k).2.2.1 = some (tyJx145de k) := by decide +kernel
def RJx8e188 : String := "java/lang/Cloneable"
def TJx8e188 : u_T := fun k => match k with
  | _ => ("", "", "", false)
def tyJx8e188 : Nat → FieldType := fun k => match k with
  | _ => .int
theorem nmJx8e188 : ∀ a, a < 0 → ∀ b, b < 0 → a ≠ b → (TJx8e188 a).2.1 ≠ (TJx8e188 b).2.1 := by decide +kernel
theorem tyJx8e188_ok : ∀ k, k < 0 → parseFieldDescriptor (TJx8e188 k).2.2.1 = some (tyJx8e188 k) := by decide +kernel
def RJxab1ab : String := "java/lang/Iterable"
def TJxab1ab : u_T := fun k => match k with
  | _ => ("", "", "", false)
def tyJxab1ab : Nat → FieldType := fun k => match k with
  | _ => .int
theorem nmJxab1ab : ∀ a, a < 0 → ∀ b, b < 0 → a ≠ b → (TJxab1ab a).2.1 ≠ (TJxab1ab b).2.1 := by decide +kernel
theorem tyJxab1ab_ok : ∀ k, k < 0 → parseFieldDescriptor (TJxab1ab k).2.2.1 = some (tyJxab1ab k) := by decide +kernel
def RJ9 : String := "java/lang/Math"
def TJ9 : u_T := fun k => match k with
  | _ => ("", "", "", false)
def tyJ9 : Nat → FieldType := fun k => match k with
  | _ => .int
theorem nmJ9 : ∀ a, a < 0 → ∀ b, b < 0 → a ≠ b → (TJ9 a).2.1 ≠ (TJ9 b).2.1 := by decide +kernel
theorem tyJ9_ok : ∀ k, k < 0 → parseFieldDescriptor (TJ9 k).2.2.1 = some (tyJ9 k) := by decide +kernel
abbrev cJ9_max_7cf53 : ByteArray := prog_16_method_65_code
def yJ9_max_7cf53 : MethodName := ⟨RJ9, "max", "(II)I"⟩
abbrev cJ9_min_7cf53 : ByteArray := prog_16_method_69_code
def yJ9_min_7cf53 : MethodName := ⟨RJ9, "min", "(II)I"⟩
def RJ0 : String := "java/lang/String"
def TJ0 : u_T := fun k => match k with
  | _ => ("", "", "", false)
def tyJ0 : Nat → FieldType := fun k => match k with
  | _ => .int
theorem nmJ0 : ∀ a, a < 0 → ∀ b, b < 0 → a ≠ b → (TJ0 a).2.1 ≠ (TJ0 b).2.1 := by decide +kernel
theorem tyJ0_ok : ∀ k, k < 0 → parseFieldDescriptor (TJ0 k).2.2.1 = some (tyJ0 k) := by decide +kernel
def RJ10 : String := "java/lang/System"
def TJ10 : u_T := fun k => match k with
  | _ => ("", "", "", false)
def tyJ10 : Nat → FieldType := fun k => match k with
  | _ => .int
theorem nmJ10 : ∀ a, a < 0 → ∀ b, b < 0 → a ≠ b → (TJ10 a).2.1 ≠ (TJ10 b).2.1 := by decide +kernel
theorem tyJ10_ok : ∀ k, k < 0 → parseFieldDescriptor (TJ10 k).2.2.1 = some (tyJ10 k) := by decide +kernel
def RJxa1e45 : String := "java/util/AbstractCollection"
def TJxa1e45 : u_T := fun k => match k with
  | _ => ("", "", "", false)
def tyJxa1e45 : Nat → FieldType := fun k => match k with
  | _ => .int
theorem nmJxa1e45 : ∀ a, a < 0 → ∀ b, b < 0 → a ≠ b → (TJxa1e45 a).2.1 ≠ (TJxa1e45 b).2.1 := by decide +kernel
theorem tyJxa1e45_ok : ∀ k, k < 0 → parseFieldDescriptor (TJxa1e45 k).2.2.1 = some (tyJxa1e45 k) := by decide +kernel
abbrev cJxa1e45_init_da8c8 : ByteArray := prog_21_method_1_code
def yJxa1e45_init_da8c8 : MethodName := ⟨RJxa1e45, "<init>", "()V"⟩
def RJxc12de : String := "java/util/AbstractList"
def TJxc12de : u_T := fun k => match k with
  | _ => ("", "", "", false)
def tyJxc12de : Nat → FieldType := fun k => match k with
  | _ => .int
theorem nmJxc12de : ∀ a, a < 0 → ∀ b, b < 0 → a ≠ b → (TJxc12de a).2.1 ≠ (TJxc12de b).2.1 := by decide +kernel
theorem tyJxc12de_ok : ∀ k, k < 0 → parseFieldDescriptor (TJxc12de k).2.2.1 = some (tyJxc12de k) := by decide +kernel
abbrev cJxc12de_init_da8c8 : ByteArray := prog_22_method_1_code
def yJxc12de_init_da8c8 : MethodName := ⟨RJxc12de, "<init>", "()V"⟩
def RJx4a65c : String := "java/util/ArrayList"
def TJx4a65c : u_T := fun k => match k with
  | 0 => ("java/util/AbstractList", "modCount", "I", false)
  | 1 => ("java/util/ArrayList", "elementData", "[Ljava/lang/Object;", false)
  | _ => ("java/util/ArrayList", "size", "I", false)
def tyJx4a65c : Nat → FieldType := fun k => match k with
  | 0 => .int
  | 1 => .array (.object "java/lang/Object")
  | _ => .int
theorem nmJx4a65c : ∀ a, a < 3 → ∀ b, b < 3 → a ≠ b → (TJx4a65c a).2.1 ≠ (TJx4a65c b).2.1 := by decide +kernel
theorem tyJx4a65c_ok : ∀ k, k < 3 → parseFieldDescriptor (TJx4a65c k).2.2.1 = some (tyJx4a65c k) := by decide +kernel
abbrev cJx4a65c_init_da8c8 : ByteArray := prog_23_method_2_code
def yJx4a65c_init_da8c8 : MethodName := ⟨RJx4a65c, "<init>", "()V"⟩
abbrev cJx4a65c_grow_92f84 : ByteArray := prog_23_method_6_code
def yJx4a65c_grow_92f84 : MethodName := ⟨RJx4a65c, "grow", "(I)[Ljava/lang/Object;"⟩
abbrev cJx4a65c_grow_d5877 : ByteArray := prog_23_method_7_code
def yJx4a65c_grow_d5877 : MethodName := ⟨RJx4a65c, "grow", "()[Ljava/lang/Object;"⟩
abbrev cJx4a65c_size_8abf5 : ByteArray := prog_23_method_8_code
def yJx4a65c_size_8abf5 : MethodName := ⟨RJx4a65c, "size", "()I"⟩
abbrev cJx4a65c_elementData_915e3 : ByteArray := prog_23_method_18_code
def yJx4a65c_elementData_915e3 : MethodName := ⟨RJx4a65c, "elementData", "(I)Ljava/lang/Object;"⟩
abbrev cJx4a65c_get_915e3 : ByteArray := prog_23_method_20_code
def yJx4a65c_get_915e3 : MethodName := ⟨RJx4a65c, "get", "(I)Ljava/lang/Object;"⟩
abbrev cJx4a65c_add_72be8 : ByteArray := prog_23_method_24_code
def yJx4a65c_add_72be8 : MethodName := ⟨RJx4a65c, "add", "(Ljava/lang/Object;[Ljava/lang/Object;I)V"⟩
abbrev cJx4a65c_add_9ea2d : ByteArray := prog_23_method_25_code
def yJx4a65c_add_9ea2d : MethodName := ⟨RJx4a65c, "add", "(Ljava/lang/Object;)Z"⟩
def RJ7 : String := "java/util/Arrays"
def TJ7 : u_T := fun k => match k with
  | _ => ("", "", "", false)
def tyJ7 : Nat → FieldType := fun k => match k with
  | _ => .int
theorem nmJ7 : ∀ a, a < 0 → ∀ b, b < 0 → a ≠ b → (TJ7 a).2.1 ≠ (TJ7 b).2.1 := by decide +kernel
theorem tyJ7_ok : ∀ k, k < 0 → parseFieldDescriptor (TJ7 k).2.2.1 = some (tyJ7 k) := by decide +kernel
abbrev cJ7_fill_53178 : ByteArray := prog_24_method_103_code
def yJ7_fill_53178 : MethodName := ⟨RJ7, "fill", "([II)V"⟩
abbrev cJ7_copyOf_1904c : ByteArray := prog_24_method_119_code
def yJ7_copyOf_1904c : MethodName := ⟨RJ7, "copyOf", "([Ljava/lang/Object;I)[Ljava/lang/Object;"⟩
abbrev cJ7_copyOf_6403c : ByteArray := prog_24_method_120_code
def yJ7_copyOf_6403c : MethodName := ⟨RJ7, "copyOf", "([Ljava/lang/Object;ILjava/lang/Class;)[Ljava/lang/Object;"⟩
def RJx5ef63 : String := "java/util/Collection"
def TJx5ef63 : u_T := fun k => match k with
  | _ => ("", "", "", false)
def tyJx5ef63 : Nat → FieldType := fun k => match k with
  | _ => .int
theorem nmJx5ef63 : ∀ a, a < 0 → ∀ b, b < 0 → a ≠ b → (TJx5ef63 a).2.1 ≠ (TJx5ef63 b).2.1 := by decide +kernel
theorem tyJx5ef63_ok : ∀ k, k < 0 → parseFieldDescriptor (TJx5ef63 k).2.2.1 = some (tyJx5ef63 k) := by decide +kernel
def RJxbd725 : String := "java/util/List"
def TJxbd725 : u_T := fun k => match k with
  | _ => ("", "", "", false)
def tyJxbd725 : Nat → FieldType := fun k => match k with
  | _ => .int
theorem nmJxbd725 : ∀ a, a < 0 → ∀ b, b < 0 → a ≠ b → (TJxbd725 a).2.1 ≠ (TJxbd725 b).2.1 := by decide +kernel
theorem tyJxbd725_ok : ∀ k, k < 0 → parseFieldDescriptor (TJxbd725 k).2.2.1 = some (tyJxbd725 k) := by decide +kernel
def RJ15 : String := "java/util/Objects"
def TJ15 : u_T := fun k => match k with
  | _ => ("", "", "", false)
def tyJ15 : Nat → FieldType := fun k => match k with
  | _ => .int
theorem nmJ15 : ∀ a, a < 0 → ∀ b, b < 0 → a ≠ b → (TJ15 a).2.1 ≠ (TJ15 b).2.1 := by decide +kernel
theorem tyJ15_ok : ∀ k, k < 0 → parseFieldDescriptor (TJ15 k).2.2.1 = some (tyJ15 k) := by decide +kernel
abbrev cJ15_checkIndex_7cf53 : ByteArray := prog_27_method_17_code
def yJ15_checkIndex_7cf53 : MethodName := ⟨RJ15, "checkIndex", "(II)I"⟩
def RJxf0a74 : String := "java/util/RandomAccess"
def TJxf0a74 : u_T := fun k => match k with
  | _ => ("", "", "", false)
def tyJxf0a74 : Nat → FieldType := fun k => match k with
  | _ => .int
theorem nmJxf0a74 : ∀ a, a < 0 → ∀ b, b < 0 → a ≠ b → (TJxf0a74 a).2.1 ≠ (TJxf0a74 b).2.1 := by decide +kernel
theorem tyJxf0a74_ok : ∀ k, k < 0 → parseFieldDescriptor (TJxf0a74 k).2.2.1 = some (tyJxf0a74 k) := by decide +kernel
def RJxa66e6 : String := "java/util/SequencedCollection"
def TJxa66e6 : u_T := fun k => match k with
  | _ => ("", "", "", false)
def tyJxa66e6 : Nat → FieldType := fun k => match k with
  | _ => .int
theorem nmJxa66e6 : ∀ a, a < 0 → ∀ b, b < 0 → a ≠ b → (TJxa66e6 a).2.1 ≠ (TJxa66e6 b).2.1 := by decide +kernel
theorem tyJxa66e6_ok : ∀ k, k < 0 → parseFieldDescriptor (TJxa66e6 k).2.2.1 = some (tyJxa66e6 k) := by decide +kernel
def RJ8 : String := "jdk/internal/util/ArraysSupport"
def TJ8 : u_T := fun k => match k with
  | _ => ("", "", "", false)
def tyJ8 : Nat → FieldType := fun k => match k with
  | _ => .int
theorem nmJ8 : ∀ a, a < 0 → ∀ b, b < 0 → a ≠ b → (TJ8 a).2.1 ≠ (TJ8 b).2.1 := by decide +kernel
theorem tyJ8_ok : ∀ k, k < 0 → parseFieldDescriptor (TJ8 k).2.2.1 = some (tyJ8 k) := by decide +kernel
abbrev cJ8_newLength_cabcc : ByteArray := prog_30_method_27_code
def yJ8_newLength_cabcc : MethodName := ⟨RJ8, "newLength", "(III)I"⟩
abbrev cJ8_hugeLength_7cf53 : ByteArray := prog_30_method_28_code
def yJ8_hugeLength_7cf53 : MethodName := ⟨RJ8, "hugeLength", "(II)I"⟩
def RJ3 : String := "jdk/internal/util/Preconditions"
def TJ3 : u_T := fun k => match k with
  | _ => ("", "", "", false)
def tyJ3 : Nat → FieldType := fun k => match k with
  | _ => .int
theorem nmJ3 : ∀ a, a < 0 → ∀ b, b < 0 → a ≠ b → (TJ3 a).2.1 ≠ (TJ3 b).2.1 := by decide +kernel
theorem tyJ3_ok : ∀ k, k < 0 → parseFieldDescriptor (TJ3 k).2.2.1 = some (tyJ3 k) := by decide +kernel
abbrev cJ3_checkIndex_8e157 : ByteArray := prog_31_method_11_code
def yJ3_checkIndex_8e157 : MethodName := ⟨RJ3, "checkIndex", "(IILjava/util/function/BiFunction;)I"⟩
def RL : String := "HousePlansLaw"
abbrev cL_lock : ByteArray := method_2_code
def yL_lock : MethodName := ⟨RL, "lock", "(LHousePlans;II)I"⟩
abbrev cL_unlock : ByteArray := method_3_code
def yL_unlock : MethodName := ⟨RL, "unlock", "(LHousePlans;II)I"⟩
abbrev cL_act : ByteArray := method_4_code
def yL_act : MethodName := ⟨RL, "act", "(LHousePlans;IIIII)I"⟩
abbrev cL_refuses : ByteArray := method_5_code
def yL_refuses : MethodName := ⟨RL, "refuses", "(LHousePlans;II)Z"⟩
abbrev cL_cell : ByteArray := method_6_code
def yL_cell : MethodName := ⟨RL, "cell", "(LHousePlans;IIIIII)Z"⟩
abbrev cL_floor : ByteArray := method_7_code
def yL_floor : MethodName := ⟨RL, "floor", "()Z"⟩
abbrev cL_rows : ByteArray := method_8_code
def yL_rows : MethodName := ⟨RL, "rows", "()Z"⟩
abbrev cL_hands : ByteArray := method_9_code
def yL_hands : MethodName := ⟨RL, "hands", "()Z"⟩
abbrev cL_law : ByteArray := code
def yL_law : MethodName := ⟨RL, "law", "([I)Z"⟩
abbrev vwCl : List vw_C := [(RJx4a65c, TJx4a65c, 3), (RX0, TX0, 5), (RX1, TX1, 4), (RX2, TX2, 2), (RX3, TX3, 3), (RX4, TX4, 2), (RX5, TX5, 4)]
end
section
theorem dX0_init_0 : decode cX0_init 0 = .ok (.aload_n 0, 1) := by decide +kernel
theorem dX0_init_1 : decode cX0_init 1 = .ok (.invokespecial 3, 3) := by decide +kernel
theorem dX0_init_4 : decode cX0_init 4 = .ok (.aload_n 0, 1) := by decide +kernel
theorem dX0_init_5 : decode cX0_init 5 = .ok (.bipush 40, 2) := by decide +kernel
theorem dX0_init_7 : decode cX0_init 7 = .ok (.newarray .int, 2) := by decide +kernel
theorem dX0_init_9 : decode cX0_init 9 = .ok (.putfield 9, 3) := by decide +kernel
theorem dX0_init_12 : decode cX0_init 12 = .ok (.aload_n 0, 1) := by decide +kernel
theorem dX0_init_13 : decode cX0_init 13 = .ok (.bipush 25, 2) := by decide +kernel
theorem dX0_init_15 : decode cX0_init 15 = .ok (.newarray .boolean, 2) := by decide +kernel
theorem dX0_init_17 : decode cX0_init 17 = .ok (.putfield 15, 3) := by decide +kernel
theorem dX0_init_20 : decode cX0_init 20 = .ok (.aload_n 0, 1) := by decide +kernel
theorem dX0_init_21 : decode cX0_init 21 = .ok (.bipush 6, 2) := by decide +kernel
theorem dX0_init_23 : decode cX0_init 23 = .ok (.anewarray 10, 3) := by decide +kernel
theorem dX0_init_26 : decode cX0_init 26 = .ok (.putfield 19, 3) := by decide +kernel
theorem dX0_init_29 : decode cX0_init 29 = .ok (.aload_n 0, 1) := by decide +kernel
theorem dX0_init_30 : decode cX0_init 30 = .ok (.iconst (-1), 1) := by decide +kernel
theorem dX0_init_31 : decode cX0_init 31 = .ok (.putfield 23, 3) := by decide +kernel
theorem dX0_init_34 : decode cX0_init 34 = .ok (.aload_n 0, 1) := by decide +kernel
theorem dX0_init_35 : decode cX0_init 35 = .ok (.iconst (-1), 1) := by decide +kernel
theorem dX0_init_36 : decode cX0_init 36 = .ok (.putfield 27, 3) := by decide +kernel
theorem dX0_init_39 : decode cX0_init 39 = .ok (.aload_n 0, 1) := by decide +kernel
theorem dX0_init_40 : decode cX0_init 40 = .ok (.getfield 9, 3) := by decide +kernel
theorem dX0_init_43 : decode cX0_init 43 = .ok (.iconst (-1), 1) := by decide +kernel
theorem dX0_init_44 : decode cX0_init 44 = .ok (.invokestatic 30, 3) := by decide +kernel
theorem dX0_init_47 : decode cX0_init 47 = .ok (.return_, 1) := by decide +kernel
theorem dX0_changer_0 : decode cX0_changer 0 = .ok (.aload_n 0, 1) := by decide +kernel
theorem dX0_changer_1 : decode cX0_changer 1 = .ok (.getfield 27, 3) := by decide +kernel
theorem dX0_changer_4 : decode cX0_changer 4 = .ok (.iconst (-1), 1) := by decide +kernel
theorem dX0_changer_5 : decode cX0_changer 5 = .ok (.if_icmp .eq 10, 3) := by decide +kernel
theorem dX0_changer_8 : decode cX0_changer 8 = .ok (.aload_n 0, 1) := by decide +kernel
theorem dX0_changer_9 : decode cX0_changer 9 = .ok (.getfield 27, 3) := by decide +kernel
theorem dX0_changer_12 : decode cX0_changer 12 = .ok (.goto 7, 3) := by decide +kernel
theorem dX0_changer_15 : decode cX0_changer 15 = .ok (.aload_n 0, 1) := by decide +kernel
theorem dX0_changer_16 : decode cX0_changer 16 = .ok (.getfield 23, 3) := by decide +kernel
theorem dX0_changer_19 : decode cX0_changer 19 = .ok (.ireturn, 1) := by decide +kernel
theorem dX0_sideNow_0 : decode cX0_sideNow 0 = .ok (.aload_n 0, 1) := by decide +kernel
theorem dX0_sideNow_1 : decode cX0_sideNow 1 = .ok (.iload_n 1, 1) := by decide +kernel
theorem dX0_sideNow_2 : decode cX0_sideNow 2 = .ok (.iconst 0, 1) := by decide +kernel
theorem dX0_sideNow_3 : decode cX0_sideNow 3 = .ok (.invokestatic 36, 3) := by decide +kernel
theorem dX0_sideNow_6 : decode cX0_sideNow 6 = .ok (.ireturn, 1) := by decide +kernel
theorem dX0_exitNow_0 : decode cX0_exitNow 0 = .ok (.aload_n 0, 1) := by decide +kernel
theorem dX0_exitNow_1 : decode cX0_exitNow 1 = .ok (.iload_n 1, 1) := by decide +kernel
theorem dX0_exitNow_2 : decode cX0_exitNow 2 = .ok (.iconst 0, 1) := by decide +kernel
theorem dX0_exitNow_3 : decode cX0_exitNow 3 = .ok (.invokestatic 40, 3) := by decide +kernel
theorem dX0_exitNow_6 : decode cX0_exitNow 6 = .ok (.ireturn, 1) := by decide +kernel
theorem dX0_leadsTo_0 : decode cX0_leadsTo 0 = .ok (.aload_n 0, 1) := by decide +kernel
theorem dX0_leadsTo_1 : decode cX0_leadsTo 1 = .ok (.aload_n 1, 1) := by decide +kernel
theorem dX0_leadsTo_2 : decode cX0_leadsTo 2 = .ok (.iconst 0, 1) := by decide +kernel
theorem dX0_leadsTo_3 : decode cX0_leadsTo 3 = .ok (.invokestatic 44, 3) := by decide +kernel
theorem dX0_leadsTo_6 : decode cX0_leadsTo 6 = .ok (.ireturn, 1) := by decide +kernel
theorem dX0_sideIn_0 : decode cX0_sideIn 0 = .ok (.aload_n 0, 1) := by decide +kernel
theorem dX0_sideIn_1 : decode cX0_sideIn 1 = .ok (.getfield 9, 3) := by decide +kernel
theorem dX0_sideIn_4 : decode cX0_sideIn 4 = .ok (.iload_n 1, 1) := by decide +kernel
theorem dX0_sideIn_5 : decode cX0_sideIn 5 = .ok (.iaload, 1) := by decide +kernel
theorem dX0_sideIn_6 : decode cX0_sideIn 6 = .ok (.iconst (-1), 1) := by decide +kernel
theorem dX0_sideIn_7 : decode cX0_sideIn 7 = .ok (.if_icmp .ne 9, 3) := by decide +kernel
theorem dX0_sideIn_10 : decode cX0_sideIn 10 = .ok (.iload_n 2, 1) := by decide +kernel
theorem dX0_sideIn_11 : decode cX0_sideIn 11 = .ok (.bipush 6, 2) := by decide +kernel
theorem dX0_sideIn_13 : decode cX0_sideIn 13 = .ok (.if_icmp .lt 10, 3) := by decide +kernel
theorem dX0_sideIn_16 : decode cX0_sideIn 16 = .ok (.aload_n 0, 1) := by decide +kernel
theorem dX0_sideIn_17 : decode cX0_sideIn 17 = .ok (.getfield 9, 3) := by decide +kernel
theorem dX0_sideIn_20 : decode cX0_sideIn 20 = .ok (.iload_n 1, 1) := by decide +kernel
theorem dX0_sideIn_21 : decode cX0_sideIn 21 = .ok (.iaload, 1) := by decide +kernel
theorem dX0_sideIn_22 : decode cX0_sideIn 22 = .ok (.ireturn, 1) := by decide +kernel
theorem dX0_sideIn_23 : decode cX0_sideIn 23 = .ok (.aload_n 0, 1) := by decide +kernel
theorem dX0_sideIn_24 : decode cX0_sideIn 24 = .ok (.getfield 19, 3) := by decide +kernel
theorem dX0_sideIn_27 : decode cX0_sideIn 27 = .ok (.astore_n 3, 1) := by decide +kernel
theorem dX0_sideIn_28 : decode cX0_sideIn 28 = .ok (.aload_n 3, 1) := by decide +kernel
theorem dX0_sideIn_29 : decode cX0_sideIn 29 = .ok (.arraylength, 1) := by decide +kernel
theorem dX0_sideIn_30 : decode cX0_sideIn 30 = .ok (.istore 4, 2) := by decide +kernel
theorem dX0_sideIn_32 : decode cX0_sideIn 32 = .ok (.iconst 0, 1) := by decide +kernel
theorem dX0_sideIn_33 : decode cX0_sideIn 33 = .ok (.istore 5, 2) := by decide +kernel
theorem dX0_sideIn_35 : decode cX0_sideIn 35 = .ok (.iload 5, 2) := by decide +kernel
theorem dX0_sideIn_37 : decode cX0_sideIn 37 = .ok (.iload 4, 2) := by decide +kernel
theorem dX0_sideIn_39 : decode cX0_sideIn 39 = .ok (.if_icmp .ge 44, 3) := by decide +kernel
theorem dX0_sideIn_42 : decode cX0_sideIn 42 = .ok (.aload_n 3, 1) := by decide +kernel
theorem dX0_sideIn_43 : decode cX0_sideIn 43 = .ok (.iload 5, 2) := by decide +kernel
theorem dX0_sideIn_45 : decode cX0_sideIn 45 = .ok (.aaload, 1) := by decide +kernel
theorem dX0_sideIn_46 : decode cX0_sideIn 46 = .ok (.astore 6, 2) := by decide +kernel
theorem dX0_sideIn_48 : decode cX0_sideIn 48 = .ok (.aload 6, 2) := by decide +kernel
theorem dX0_sideIn_50 : decode cX0_sideIn 50 = .ok (.ifnonnull 7, 3) := by decide +kernel
theorem dX0_sideIn_53 : decode cX0_sideIn 53 = .ok (.iconst (-1), 1) := by decide +kernel
theorem dX0_sideIn_54 : decode cX0_sideIn 54 = .ok (.goto 12, 3) := by decide +kernel
theorem dX0_sideIn_57 : decode cX0_sideIn 57 = .ok (.aload 6, 2) := by decide +kernel
theorem dX0_sideIn_59 : decode cX0_sideIn 59 = .ok (.iload_n 1, 1) := by decide +kernel
theorem dX0_sideIn_60 : decode cX0_sideIn 60 = .ok (.iload_n 2, 1) := by decide +kernel
theorem dX0_sideIn_61 : decode cX0_sideIn 61 = .ok (.iconst 1, 1) := by decide +kernel
theorem dX0_sideIn_62 : decode cX0_sideIn 62 = .ok (.iadd, 1) := by decide +kernel
theorem dX0_sideIn_63 : decode cX0_sideIn 63 = .ok (.invokestatic 36, 3) := by decide +kernel
theorem dX0_sideIn_66 : decode cX0_sideIn 66 = .ok (.istore 7, 2) := by decide +kernel
theorem dX0_sideIn_68 : decode cX0_sideIn 68 = .ok (.iload 7, 2) := by decide +kernel
theorem dX0_sideIn_70 : decode cX0_sideIn 70 = .ok (.iconst (-1), 1) := by decide +kernel
theorem dX0_sideIn_71 : decode cX0_sideIn 71 = .ok (.if_icmp .eq 6, 3) := by decide +kernel
theorem dX0_sideIn_74 : decode cX0_sideIn 74 = .ok (.iload 7, 2) := by decide +kernel
theorem dX0_sideIn_76 : decode cX0_sideIn 76 = .ok (.ireturn, 1) := by decide +kernel
theorem dX0_sideIn_77 : decode cX0_sideIn 77 = .ok (.iinc 5 1, 3) := by decide +kernel
theorem dX0_sideIn_80 : decode cX0_sideIn 80 = .ok (.goto (-45), 3) := by decide +kernel
theorem dX0_sideIn_83 : decode cX0_sideIn 83 = .ok (.iconst (-1), 1) := by decide +kernel
theorem dX0_sideIn_84 : decode cX0_sideIn 84 = .ok (.ireturn, 1) := by decide +kernel
theorem dX0_exitIn_0 : decode cX0_exitIn 0 = .ok (.aload_n 0, 1) := by decide +kernel
theorem dX0_exitIn_1 : decode cX0_exitIn 1 = .ok (.getfield 15, 3) := by decide +kernel
theorem dX0_exitIn_4 : decode cX0_exitIn 4 = .ok (.iload_n 1, 1) := by decide +kernel
theorem dX0_exitIn_5 : decode cX0_exitIn 5 = .ok (.baload, 1) := by decide +kernel
theorem dX0_exitIn_6 : decode cX0_exitIn 6 = .ok (.ifCond .ne 9, 3) := by decide +kernel
theorem dX0_exitIn_9 : decode cX0_exitIn 9 = .ok (.iload_n 2, 1) := by decide +kernel
theorem dX0_exitIn_10 : decode cX0_exitIn 10 = .ok (.bipush 6, 2) := by decide +kernel
theorem dX0_exitIn_12 : decode cX0_exitIn 12 = .ok (.if_icmp .lt 10, 3) := by decide +kernel
theorem dX0_exitIn_15 : decode cX0_exitIn 15 = .ok (.aload_n 0, 1) := by decide +kernel
theorem dX0_exitIn_16 : decode cX0_exitIn 16 = .ok (.getfield 15, 3) := by decide +kernel
theorem dX0_exitIn_19 : decode cX0_exitIn 19 = .ok (.iload_n 1, 1) := by decide +kernel
theorem dX0_exitIn_20 : decode cX0_exitIn 20 = .ok (.baload, 1) := by decide +kernel
theorem dX0_exitIn_21 : decode cX0_exitIn 21 = .ok (.ireturn, 1) := by decide +kernel
theorem dX0_exitIn_22 : decode cX0_exitIn 22 = .ok (.aload_n 0, 1) := by decide +kernel
theorem dX0_exitIn_23 : decode cX0_exitIn 23 = .ok (.getfield 19, 3) := by decide +kernel
theorem dX0_exitIn_26 : decode cX0_exitIn 26 = .ok (.astore_n 3, 1) := by decide +kernel
theorem dX0_exitIn_27 : decode cX0_exitIn 27 = .ok (.aload_n 3, 1) := by decide +kernel
theorem dX0_exitIn_28 : decode cX0_exitIn 28 = .ok (.arraylength, 1) := by decide +kernel
theorem dX0_exitIn_29 : decode cX0_exitIn 29 = .ok (.istore 4, 2) := by decide +kernel
theorem dX0_exitIn_31 : decode cX0_exitIn 31 = .ok (.iconst 0, 1) := by decide +kernel
theorem dX0_exitIn_32 : decode cX0_exitIn 32 = .ok (.istore 5, 2) := by decide +kernel
theorem dX0_exitIn_34 : decode cX0_exitIn 34 = .ok (.iload 5, 2) := by decide +kernel
theorem dX0_exitIn_36 : decode cX0_exitIn 36 = .ok (.iload 4, 2) := by decide +kernel
theorem dX0_exitIn_38 : decode cX0_exitIn 38 = .ok (.if_icmp .ge 34, 3) := by decide +kernel
theorem dX0_exitIn_41 : decode cX0_exitIn 41 = .ok (.aload_n 3, 1) := by decide +kernel
theorem dX0_exitIn_42 : decode cX0_exitIn 42 = .ok (.iload 5, 2) := by decide +kernel
theorem dX0_exitIn_44 : decode cX0_exitIn 44 = .ok (.aaload, 1) := by decide +kernel
theorem dX0_exitIn_45 : decode cX0_exitIn 45 = .ok (.astore 6, 2) := by decide +kernel
theorem dX0_exitIn_47 : decode cX0_exitIn 47 = .ok (.aload 6, 2) := by decide +kernel
theorem dX0_exitIn_49 : decode cX0_exitIn 49 = .ok (.ifnull 17, 3) := by decide +kernel
theorem dX0_exitIn_52 : decode cX0_exitIn 52 = .ok (.aload 6, 2) := by decide +kernel
theorem dX0_exitIn_54 : decode cX0_exitIn 54 = .ok (.iload_n 1, 1) := by decide +kernel
theorem dX0_exitIn_55 : decode cX0_exitIn 55 = .ok (.iload_n 2, 1) := by decide +kernel
theorem dX0_exitIn_56 : decode cX0_exitIn 56 = .ok (.iconst 1, 1) := by decide +kernel
theorem dX0_exitIn_57 : decode cX0_exitIn 57 = .ok (.iadd, 1) := by decide +kernel
theorem dX0_exitIn_58 : decode cX0_exitIn 58 = .ok (.invokestatic 40, 3) := by decide +kernel
theorem dX0_exitIn_61 : decode cX0_exitIn 61 = .ok (.ifCond .eq 5, 3) := by decide +kernel
theorem dX0_exitIn_64 : decode cX0_exitIn 64 = .ok (.iconst 1, 1) := by decide +kernel
theorem dX0_exitIn_65 : decode cX0_exitIn 65 = .ok (.ireturn, 1) := by decide +kernel
theorem dX0_exitIn_66 : decode cX0_exitIn 66 = .ok (.iinc 5 1, 3) := by decide +kernel
theorem dX0_exitIn_69 : decode cX0_exitIn 69 = .ok (.goto (-35), 3) := by decide +kernel
theorem dX0_exitIn_72 : decode cX0_exitIn 72 = .ok (.iconst 0, 1) := by decide +kernel
theorem dX0_exitIn_73 : decode cX0_exitIn 73 = .ok (.ireturn, 1) := by decide +kernel
theorem dX0_leads_0 : decode cX0_leads 0 = .ok (.aload_n 0, 1) := by decide +kernel
theorem dX0_leads_1 : decode cX0_leads 1 = .ok (.aload_n 1, 1) := by decide +kernel
theorem dX0_leads_2 : decode cX0_leads 2 = .ok (.if_acmp .eq 9, 3) := by decide +kernel
theorem dX0_leads_5 : decode cX0_leads 5 = .ok (.iload_n 2, 1) := by decide +kernel
theorem dX0_leads_6 : decode cX0_leads 6 = .ok (.bipush 6, 2) := by decide +kernel
theorem dX0_leads_8 : decode cX0_leads 8 = .ok (.if_icmp .lt 14, 3) := by decide +kernel
theorem dX0_leads_11 : decode cX0_leads 11 = .ok (.aload_n 0, 1) := by decide +kernel
theorem dX0_leads_12 : decode cX0_leads 12 = .ok (.aload_n 1, 1) := by decide +kernel
theorem dX0_leads_13 : decode cX0_leads 13 = .ok (.if_acmp .ne 7, 3) := by decide +kernel
theorem dX0_leads_16 : decode cX0_leads 16 = .ok (.iconst 1, 1) := by decide +kernel
theorem dX0_leads_17 : decode cX0_leads 17 = .ok (.goto 4, 3) := by decide +kernel
theorem dX0_leads_20 : decode cX0_leads 20 = .ok (.iconst 0, 1) := by decide +kernel
theorem dX0_leads_21 : decode cX0_leads 21 = .ok (.ireturn, 1) := by decide +kernel
theorem dX0_leads_22 : decode cX0_leads 22 = .ok (.aload_n 0, 1) := by decide +kernel
theorem dX0_leads_23 : decode cX0_leads 23 = .ok (.getfield 19, 3) := by decide +kernel
theorem dX0_leads_26 : decode cX0_leads 26 = .ok (.astore_n 3, 1) := by decide +kernel
theorem dX0_leads_27 : decode cX0_leads 27 = .ok (.aload_n 3, 1) := by decide +kernel
theorem dX0_leads_28 : decode cX0_leads 28 = .ok (.arraylength, 1) := by decide +kernel
theorem dX0_leads_29 : decode cX0_leads 29 = .ok (.istore 4, 2) := by decide +kernel
theorem dX0_leads_31 : decode cX0_leads 31 = .ok (.iconst 0, 1) := by decide +kernel
theorem dX0_leads_32 : decode cX0_leads 32 = .ok (.istore 5, 2) := by decide +kernel
theorem dX0_leads_34 : decode cX0_leads 34 = .ok (.iload 5, 2) := by decide +kernel
theorem dX0_leads_36 : decode cX0_leads 36 = .ok (.iload 4, 2) := by decide +kernel
theorem dX0_leads_38 : decode cX0_leads 38 = .ok (.if_icmp .ge 34, 3) := by decide +kernel
theorem dX0_leads_41 : decode cX0_leads 41 = .ok (.aload_n 3, 1) := by decide +kernel
theorem dX0_leads_42 : decode cX0_leads 42 = .ok (.iload 5, 2) := by decide +kernel
theorem dX0_leads_44 : decode cX0_leads 44 = .ok (.aaload, 1) := by decide +kernel
theorem dX0_leads_45 : decode cX0_leads 45 = .ok (.astore 6, 2) := by decide +kernel
theorem dX0_leads_47 : decode cX0_leads 47 = .ok (.aload 6, 2) := by decide +kernel
theorem dX0_leads_49 : decode cX0_leads 49 = .ok (.ifnull 17, 3) := by decide +kernel
theorem dX0_leads_52 : decode cX0_leads 52 = .ok (.aload 6, 2) := by decide +kernel
theorem dX0_leads_54 : decode cX0_leads 54 = .ok (.aload_n 1, 1) := by decide +kernel
theorem dX0_leads_55 : decode cX0_leads 55 = .ok (.iload_n 2, 1) := by decide +kernel
theorem dX0_leads_56 : decode cX0_leads 56 = .ok (.iconst 1, 1) := by decide +kernel
theorem dX0_leads_57 : decode cX0_leads 57 = .ok (.iadd, 1) := by decide +kernel
theorem dX0_leads_58 : decode cX0_leads 58 = .ok (.invokestatic 44, 3) := by decide +kernel
theorem dX0_leads_61 : decode cX0_leads 61 = .ok (.ifCond .eq 5, 3) := by decide +kernel
theorem dX0_leads_64 : decode cX0_leads 64 = .ok (.iconst 1, 1) := by decide +kernel
theorem dX0_leads_65 : decode cX0_leads 65 = .ok (.ireturn, 1) := by decide +kernel
theorem dX0_leads_66 : decode cX0_leads 66 = .ok (.iinc 5 1, 3) := by decide +kernel
theorem dX0_leads_69 : decode cX0_leads 69 = .ok (.goto (-35), 3) := by decide +kernel
theorem dX0_leads_72 : decode cX0_leads 72 = .ok (.iconst 0, 1) := by decide +kernel
theorem dX0_leads_73 : decode cX0_leads 73 = .ok (.ireturn, 1) := by decide +kernel
theorem dX1_init_0 : decode cX1_init 0 = .ok (.aload_n 0, 1) := by decide +kernel
theorem dX1_init_1 : decode cX1_init 1 = .ok (.invokespecial 3, 3) := by decide +kernel
theorem dX1_init_4 : decode cX1_init 4 = .ok (.aload_n 0, 1) := by decide +kernel
theorem dX1_init_5 : decode cX1_init 5 = .ok (.new 9, 3) := by decide +kernel
theorem dX1_init_8 : decode cX1_init 8 = .ok (.dup, 1) := by decide +kernel
theorem dX1_init_9 : decode cX1_init 9 = .ok (.invokespecial 11, 3) := by decide +kernel
theorem dX1_init_12 : decode cX1_init 12 = .ok (.putfield 12, 3) := by decide +kernel
theorem dX1_init_15 : decode cX1_init 15 = .ok (.aload_n 0, 1) := by decide +kernel
theorem dX1_init_16 : decode cX1_init 16 = .ok (.bipush 25, 2) := by decide +kernel
theorem dX1_init_18 : decode cX1_init 18 = .ok (.newarray .int, 2) := by decide +kernel
theorem dX1_init_20 : decode cX1_init 20 = .ok (.putfield 18, 3) := by decide +kernel
theorem dX1_init_23 : decode cX1_init 23 = .ok (.aload_n 0, 1) := by decide +kernel
theorem dX1_init_24 : decode cX1_init 24 = .ok (.bipush 25, 2) := by decide +kernel
theorem dX1_init_26 : decode cX1_init 26 = .ok (.newarray .int, 2) := by decide +kernel
theorem dX1_init_28 : decode cX1_init 28 = .ok (.putfield 22, 3) := by decide +kernel
theorem dX1_init_31 : decode cX1_init 31 = .ok (.aload_n 0, 1) := by decide +kernel
theorem dX1_init_32 : decode cX1_init 32 = .ok (.bipush 25, 2) := by decide +kernel
theorem dX1_init_34 : decode cX1_init 34 = .ok (.newarray .int, 2) := by decide +kernel
theorem dX1_init_36 : decode cX1_init 36 = .ok (.putfield 25, 3) := by decide +kernel
theorem dX1_init_39 : decode cX1_init 39 = .ok (.return_, 1) := by decide +kernel
theorem dX1_lookAt_0 : decode cX1_lookAt 0 = .ok (.aload_n 0, 1) := by decide +kernel
theorem dX1_lookAt_1 : decode cX1_lookAt 1 = .ok (.getfield 12, 3) := by decide +kernel
theorem dX1_lookAt_4 : decode cX1_lookAt 4 = .ok (.aload_n 1, 1) := by decide +kernel
theorem dX1_lookAt_5 : decode cX1_lookAt 5 = .ok (.invokevirtual 28, 3) := by decide +kernel
theorem dX1_lookAt_8 : decode cX1_lookAt 8 = .ok (.aload_n 0, 1) := by decide +kernel
theorem dX1_lookAt_9 : decode cX1_lookAt 9 = .ok (.invokevirtual 32, 3) := by decide +kernel
theorem dX1_lookAt_12 : decode cX1_lookAt 12 = .ok (.aload_n 0, 1) := by decide +kernel
theorem dX1_lookAt_13 : decode cX1_lookAt 13 = .ok (.invokevirtual 35, 3) := by decide +kernel
theorem dX1_lookAt_16 : decode cX1_lookAt 16 = .ok (.return_, 1) := by decide +kernel
theorem dX1_findRooms_0 : decode cX1_findRooms 0 = .ok (.iconst 0, 1) := by decide +kernel
theorem dX1_findRooms_1 : decode cX1_findRooms 1 = .ok (.istore_n 1, 1) := by decide +kernel
theorem dX1_findRooms_2 : decode cX1_findRooms 2 = .ok (.iload_n 1, 1) := by decide +kernel
theorem dX1_findRooms_3 : decode cX1_findRooms 3 = .ok (.bipush 25, 2) := by decide +kernel
theorem dX1_findRooms_5 : decode cX1_findRooms 5 = .ok (.if_icmp .ge 16, 3) := by decide +kernel
theorem dX1_findRooms_8 : decode cX1_findRooms 8 = .ok (.aload_n 0, 1) := by decide +kernel
theorem dX1_findRooms_9 : decode cX1_findRooms 9 = .ok (.getfield 18, 3) := by decide +kernel
theorem dX1_findRooms_12 : decode cX1_findRooms 12 = .ok (.iload_n 1, 1) := by decide +kernel
theorem dX1_findRooms_13 : decode cX1_findRooms 13 = .ok (.iload_n 1, 1) := by decide +kernel
theorem dX1_findRooms_14 : decode cX1_findRooms 14 = .ok (.iastore, 1) := by decide +kernel
theorem dX1_findRooms_15 : decode cX1_findRooms 15 = .ok (.iinc 1 1, 3) := by decide +kernel
theorem dX1_findRooms_18 : decode cX1_findRooms 18 = .ok (.goto (-16), 3) := by decide +kernel
theorem dX1_findRooms_21 : decode cX1_findRooms 21 = .ok (.iconst 0, 1) := by decide +kernel
theorem dX1_findRooms_22 : decode cX1_findRooms 22 = .ok (.istore_n 1, 1) := by decide +kernel
theorem dX1_findRooms_23 : decode cX1_findRooms 23 = .ok (.iload_n 1, 1) := by decide +kernel
theorem dX1_findRooms_24 : decode cX1_findRooms 24 = .ok (.bipush 40, 2) := by decide +kernel
theorem dX1_findRooms_26 : decode cX1_findRooms 26 = .ok (.if_icmp .ge 56, 3) := by decide +kernel
theorem dX1_findRooms_29 : decode cX1_findRooms 29 = .ok (.aload_n 0, 1) := by decide +kernel
theorem dX1_findRooms_30 : decode cX1_findRooms 30 = .ok (.getfield 12, 3) := by decide +kernel
theorem dX1_findRooms_33 : decode cX1_findRooms 33 = .ok (.getfield 38, 3) := by decide +kernel
theorem dX1_findRooms_36 : decode cX1_findRooms 36 = .ok (.iload_n 1, 1) := by decide +kernel
theorem dX1_findRooms_37 : decode cX1_findRooms 37 = .ok (.iaload, 1) := by decide +kernel
theorem dX1_findRooms_38 : decode cX1_findRooms 38 = .ok (.iconst (-1), 1) := by decide +kernel
theorem dX1_findRooms_39 : decode cX1_findRooms 39 = .ok (.if_icmp .eq 15, 3) := by decide +kernel
theorem dX1_findRooms_42 : decode cX1_findRooms 42 = .ok (.aload_n 0, 1) := by decide +kernel
theorem dX1_findRooms_43 : decode cX1_findRooms 43 = .ok (.getfield 12, 3) := by decide +kernel
theorem dX1_findRooms_46 : decode cX1_findRooms 46 = .ok (.getfield 38, 3) := by decide +kernel
theorem dX1_findRooms_49 : decode cX1_findRooms 49 = .ok (.iload_n 1, 1) := by decide +kernel
theorem dX1_findRooms_50 : decode cX1_findRooms 50 = .ok (.iaload, 1) := by decide +kernel
theorem dX1_findRooms_51 : decode cX1_findRooms 51 = .ok (.ifCond .ne 25, 3) := by decide +kernel
theorem dX1_findRooms_54 : decode cX1_findRooms 54 = .ok (.aload_n 0, 1) := by decide +kernel
theorem dX1_findRooms_55 : decode cX1_findRooms 55 = .ok (.aload_n 0, 1) := by decide +kernel
theorem dX1_findRooms_56 : decode cX1_findRooms 56 = .ok (.getfield 18, 3) := by decide +kernel
theorem dX1_findRooms_59 : decode cX1_findRooms 59 = .ok (.iload_n 1, 1) := by decide +kernel
theorem dX1_findRooms_60 : decode cX1_findRooms 60 = .ok (.invokestatic 41, 3) := by decide +kernel
theorem dX1_findRooms_63 : decode cX1_findRooms 63 = .ok (.iaload, 1) := by decide +kernel
theorem dX1_findRooms_64 : decode cX1_findRooms 64 = .ok (.aload_n 0, 1) := by decide +kernel
theorem dX1_findRooms_65 : decode cX1_findRooms 65 = .ok (.getfield 18, 3) := by decide +kernel
theorem dX1_findRooms_68 : decode cX1_findRooms 68 = .ok (.iload_n 1, 1) := by decide +kernel
theorem dX1_findRooms_69 : decode cX1_findRooms 69 = .ok (.invokestatic 45, 3) := by decide +kernel
theorem dX1_findRooms_72 : decode cX1_findRooms 72 = .ok (.iaload, 1) := by decide +kernel
theorem dX1_findRooms_73 : decode cX1_findRooms 73 = .ok (.invokevirtual 48, 3) := by decide +kernel
theorem dX1_findRooms_76 : decode cX1_findRooms 76 = .ok (.iinc 1 1, 3) := by decide +kernel
theorem dX1_findRooms_79 : decode cX1_findRooms 79 = .ok (.goto (-56), 3) := by decide +kernel
theorem dX1_findRooms_82 : decode cX1_findRooms 82 = .ok (.return_, 1) := by decide +kernel
theorem dX1_join_0 : decode cX1_join 0 = .ok (.iload_n 1, 1) := by decide +kernel
theorem dX1_join_1 : decode cX1_join 1 = .ok (.iload_n 2, 1) := by decide +kernel
theorem dX1_join_2 : decode cX1_join 2 = .ok (.invokestatic 52, 3) := by decide +kernel
theorem dX1_join_5 : decode cX1_join 5 = .ok (.istore_n 3, 1) := by decide +kernel
theorem dX1_join_6 : decode cX1_join 6 = .ok (.iload_n 1, 1) := by decide +kernel
theorem dX1_join_7 : decode cX1_join 7 = .ok (.iload_n 2, 1) := by decide +kernel
theorem dX1_join_8 : decode cX1_join 8 = .ok (.invokestatic 58, 3) := by decide +kernel
theorem dX1_join_11 : decode cX1_join 11 = .ok (.istore 4, 2) := by decide +kernel
theorem dX1_join_13 : decode cX1_join 13 = .ok (.iconst 0, 1) := by decide +kernel
theorem dX1_join_14 : decode cX1_join 14 = .ok (.istore 5, 2) := by decide +kernel
theorem dX1_join_16 : decode cX1_join 16 = .ok (.iload 5, 2) := by decide +kernel
theorem dX1_join_18 : decode cX1_join 18 = .ok (.bipush 25, 2) := by decide +kernel
theorem dX1_join_20 : decode cX1_join 20 = .ok (.if_icmp .ge 29, 3) := by decide +kernel
theorem dX1_join_23 : decode cX1_join 23 = .ok (.aload_n 0, 1) := by decide +kernel
theorem dX1_join_24 : decode cX1_join 24 = .ok (.getfield 18, 3) := by decide +kernel
theorem dX1_join_27 : decode cX1_join 27 = .ok (.iload 5, 2) := by decide +kernel
theorem dX1_join_29 : decode cX1_join 29 = .ok (.iaload, 1) := by decide +kernel
theorem dX1_join_30 : decode cX1_join 30 = .ok (.iload 4, 2) := by decide +kernel
theorem dX1_join_32 : decode cX1_join 32 = .ok (.if_icmp .ne 11, 3) := by decide +kernel
theorem dX1_join_35 : decode cX1_join 35 = .ok (.aload_n 0, 1) := by decide +kernel
theorem dX1_join_36 : decode cX1_join 36 = .ok (.getfield 18, 3) := by decide +kernel
theorem dX1_join_39 : decode cX1_join 39 = .ok (.iload 5, 2) := by decide +kernel
theorem dX1_join_41 : decode cX1_join 41 = .ok (.iload_n 3, 1) := by decide +kernel
theorem dX1_join_42 : decode cX1_join 42 = .ok (.iastore, 1) := by decide +kernel
theorem dX1_join_43 : decode cX1_join 43 = .ok (.iinc 5 1, 3) := by decide +kernel
theorem dX1_join_46 : decode cX1_join 46 = .ok (.goto (-30), 3) := by decide +kernel
theorem dX1_join_49 : decode cX1_join 49 = .ok (.return_, 1) := by decide +kernel
theorem dX1_findWaysOut_0 : decode cX1_findWaysOut 0 = .ok (.aload_n 0, 1) := by decide +kernel
theorem dX1_findWaysOut_1 : decode cX1_findWaysOut 1 = .ok (.getfield 22, 3) := by decide +kernel
theorem dX1_findWaysOut_4 : decode cX1_findWaysOut 4 = .ok (.iconst (-1), 1) := by decide +kernel
theorem dX1_findWaysOut_5 : decode cX1_findWaysOut 5 = .ok (.invokestatic 61, 3) := by decide +kernel
theorem dX1_findWaysOut_8 : decode cX1_findWaysOut 8 = .ok (.iconst 0, 1) := by decide +kernel
theorem dX1_findWaysOut_9 : decode cX1_findWaysOut 9 = .ok (.istore_n 1, 1) := by decide +kernel
theorem dX1_findWaysOut_10 : decode cX1_findWaysOut 10 = .ok (.iload_n 1, 1) := by decide +kernel
theorem dX1_findWaysOut_11 : decode cX1_findWaysOut 11 = .ok (.bipush 25, 2) := by decide +kernel
theorem dX1_findWaysOut_13 : decode cX1_findWaysOut 13 = .ok (.if_icmp .ge 33, 3) := by decide +kernel
theorem dX1_findWaysOut_16 : decode cX1_findWaysOut 16 = .ok (.aload_n 0, 1) := by decide +kernel
theorem dX1_findWaysOut_17 : decode cX1_findWaysOut 17 = .ok (.getfield 12, 3) := by decide +kernel
theorem dX1_findWaysOut_20 : decode cX1_findWaysOut 20 = .ok (.getfield 67, 3) := by decide +kernel
theorem dX1_findWaysOut_23 : decode cX1_findWaysOut 23 = .ok (.iload_n 1, 1) := by decide +kernel
theorem dX1_findWaysOut_24 : decode cX1_findWaysOut 24 = .ok (.baload, 1) := by decide +kernel
theorem dX1_findWaysOut_25 : decode cX1_findWaysOut 25 = .ok (.ifCond .eq 15, 3) := by decide +kernel
theorem dX1_findWaysOut_28 : decode cX1_findWaysOut 28 = .ok (.aload_n 0, 1) := by decide +kernel
theorem dX1_findWaysOut_29 : decode cX1_findWaysOut 29 = .ok (.getfield 22, 3) := by decide +kernel
theorem dX1_findWaysOut_32 : decode cX1_findWaysOut 32 = .ok (.aload_n 0, 1) := by decide +kernel
theorem dX1_findWaysOut_33 : decode cX1_findWaysOut 33 = .ok (.getfield 18, 3) := by decide +kernel
theorem dX1_findWaysOut_36 : decode cX1_findWaysOut 36 = .ok (.iload_n 1, 1) := by decide +kernel
theorem dX1_findWaysOut_37 : decode cX1_findWaysOut 37 = .ok (.iaload, 1) := by decide +kernel
theorem dX1_findWaysOut_38 : decode cX1_findWaysOut 38 = .ok (.iconst 0, 1) := by decide +kernel
theorem dX1_findWaysOut_39 : decode cX1_findWaysOut 39 = .ok (.iastore, 1) := by decide +kernel
theorem dX1_findWaysOut_40 : decode cX1_findWaysOut 40 = .ok (.iinc 1 1, 3) := by decide +kernel
theorem dX1_findWaysOut_43 : decode cX1_findWaysOut 43 = .ok (.goto (-33), 3) := by decide +kernel
theorem dX1_findWaysOut_46 : decode cX1_findWaysOut 46 = .ok (.aload_n 0, 1) := by decide +kernel
theorem dX1_findWaysOut_47 : decode cX1_findWaysOut 47 = .ok (.aload_n 0, 1) := by decide +kernel
theorem dX1_findWaysOut_48 : decode cX1_findWaysOut 48 = .ok (.getfield 22, 3) := by decide +kernel
theorem dX1_findWaysOut_51 : decode cX1_findWaysOut 51 = .ok (.invokevirtual 71, 3) := by decide +kernel
theorem dX1_findWaysOut_54 : decode cX1_findWaysOut 54 = .ok (.return_, 1) := by decide +kernel
theorem dX1_goThroughDoors_0 : decode cX1_goThroughDoors 0 = .ok (.iconst 1, 1) := by decide +kernel
theorem dX1_goThroughDoors_1 : decode cX1_goThroughDoors 1 = .ok (.istore_n 2, 1) := by decide +kernel
theorem dX1_goThroughDoors_2 : decode cX1_goThroughDoors 2 = .ok (.iconst 0, 1) := by decide +kernel
theorem dX1_goThroughDoors_3 : decode cX1_goThroughDoors 3 = .ok (.istore_n 3, 1) := by decide +kernel
theorem dX1_goThroughDoors_4 : decode cX1_goThroughDoors 4 = .ok (.iload_n 2, 1) := by decide +kernel
theorem dX1_goThroughDoors_5 : decode cX1_goThroughDoors 5 = .ok (.ifCond .eq 97, 3) := by decide +kernel
theorem dX1_goThroughDoors_8 : decode cX1_goThroughDoors 8 = .ok (.iload_n 3, 1) := by decide +kernel
theorem dX1_goThroughDoors_9 : decode cX1_goThroughDoors 9 = .ok (.bipush 25, 2) := by decide +kernel
theorem dX1_goThroughDoors_11 : decode cX1_goThroughDoors 11 = .ok (.if_icmp .ge 91, 3) := by decide +kernel
theorem dX1_goThroughDoors_14 : decode cX1_goThroughDoors 14 = .ok (.iconst 0, 1) := by decide +kernel
theorem dX1_goThroughDoors_15 : decode cX1_goThroughDoors 15 = .ok (.istore_n 2, 1) := by decide +kernel
theorem dX1_goThroughDoors_16 : decode cX1_goThroughDoors 16 = .ok (.iconst 0, 1) := by decide +kernel
theorem dX1_goThroughDoors_17 : decode cX1_goThroughDoors 17 = .ok (.istore 4, 2) := by decide +kernel
theorem dX1_goThroughDoors_19 : decode cX1_goThroughDoors 19 = .ok (.iload 4, 2) := by decide +kernel
theorem dX1_goThroughDoors_21 : decode cX1_goThroughDoors 21 = .ok (.bipush 40, 2) := by decide +kernel
theorem dX1_goThroughDoors_23 : decode cX1_goThroughDoors 23 = .ok (.if_icmp .ge 73, 3) := by decide +kernel
theorem dX1_goThroughDoors_26 : decode cX1_goThroughDoors 26 = .ok (.aload_n 0, 1) := by decide +kernel
theorem dX1_goThroughDoors_27 : decode cX1_goThroughDoors 27 = .ok (.getfield 12, 3) := by decide +kernel
theorem dX1_goThroughDoors_30 : decode cX1_goThroughDoors 30 = .ok (.getfield 38, 3) := by decide +kernel
theorem dX1_goThroughDoors_33 : decode cX1_goThroughDoors 33 = .ok (.iload 4, 2) := by decide +kernel
theorem dX1_goThroughDoors_35 : decode cX1_goThroughDoors 35 = .ok (.iaload, 1) := by decide +kernel
theorem dX1_goThroughDoors_36 : decode cX1_goThroughDoors 36 = .ok (.iconst 2, 1) := by decide +kernel
theorem dX1_goThroughDoors_37 : decode cX1_goThroughDoors 37 = .ok (.if_icmp .ne 53, 3) := by decide +kernel
theorem dX1_goThroughDoors_40 : decode cX1_goThroughDoors 40 = .ok (.aload_n 0, 1) := by decide +kernel
theorem dX1_goThroughDoors_41 : decode cX1_goThroughDoors 41 = .ok (.getfield 18, 3) := by decide +kernel
theorem dX1_goThroughDoors_44 : decode cX1_goThroughDoors 44 = .ok (.iload 4, 2) := by decide +kernel
theorem dX1_goThroughDoors_46 : decode cX1_goThroughDoors 46 = .ok (.invokestatic 41, 3) := by decide +kernel
theorem dX1_goThroughDoors_49 : decode cX1_goThroughDoors 49 = .ok (.iaload, 1) := by decide +kernel
theorem dX1_goThroughDoors_50 : decode cX1_goThroughDoors 50 = .ok (.istore 5, 2) := by decide +kernel
theorem dX1_goThroughDoors_52 : decode cX1_goThroughDoors 52 = .ok (.aload_n 0, 1) := by decide +kernel
theorem dX1_goThroughDoors_53 : decode cX1_goThroughDoors 53 = .ok (.getfield 18, 3) := by decide +kernel
theorem dX1_goThroughDoors_56 : decode cX1_goThroughDoors 56 = .ok (.iload 4, 2) := by decide +kernel
theorem dX1_goThroughDoors_58 : decode cX1_goThroughDoors 58 = .ok (.invokestatic 45, 3) := by decide +kernel
theorem dX1_goThroughDoors_61 : decode cX1_goThroughDoors 61 = .ok (.iaload, 1) := by decide +kernel
theorem dX1_goThroughDoors_62 : decode cX1_goThroughDoors 62 = .ok (.istore 6, 2) := by decide +kernel
theorem dX1_goThroughDoors_64 : decode cX1_goThroughDoors 64 = .ok (.aload_n 1, 1) := by decide +kernel
theorem dX1_goThroughDoors_65 : decode cX1_goThroughDoors 65 = .ok (.iload 5, 2) := by decide +kernel
theorem dX1_goThroughDoors_67 : decode cX1_goThroughDoors 67 = .ok (.iload 6, 2) := by decide +kernel
theorem dX1_goThroughDoors_69 : decode cX1_goThroughDoors 69 = .ok (.iload_n 3, 1) := by decide +kernel
theorem dX1_goThroughDoors_70 : decode cX1_goThroughDoors 70 = .ok (.invokestatic 75, 3) := by decide +kernel
theorem dX1_goThroughDoors_73 : decode cX1_goThroughDoors 73 = .ok (.ifCond .ne 15, 3) := by decide +kernel
theorem dX1_goThroughDoors_76 : decode cX1_goThroughDoors 76 = .ok (.aload_n 1, 1) := by decide +kernel
theorem dX1_goThroughDoors_77 : decode cX1_goThroughDoors 77 = .ok (.iload 6, 2) := by decide +kernel
theorem dX1_goThroughDoors_79 : decode cX1_goThroughDoors 79 = .ok (.iload 5, 2) := by decide +kernel
theorem dX1_goThroughDoors_81 : decode cX1_goThroughDoors 81 = .ok (.iload_n 3, 1) := by decide +kernel
theorem dX1_goThroughDoors_82 : decode cX1_goThroughDoors 82 = .ok (.invokestatic 75, 3) := by decide +kernel
theorem dX1_goThroughDoors_85 : decode cX1_goThroughDoors 85 = .ok (.ifCond .eq 5, 3) := by decide +kernel
theorem dX1_goThroughDoors_88 : decode cX1_goThroughDoors 88 = .ok (.iconst 1, 1) := by decide +kernel
theorem dX1_goThroughDoors_89 : decode cX1_goThroughDoors 89 = .ok (.istore_n 2, 1) := by decide +kernel
theorem dX1_goThroughDoors_90 : decode cX1_goThroughDoors 90 = .ok (.iinc 4 1, 3) := by decide +kernel
theorem dX1_goThroughDoors_93 : decode cX1_goThroughDoors 93 = .ok (.goto (-74), 3) := by decide +kernel
theorem dX1_goThroughDoors_96 : decode cX1_goThroughDoors 96 = .ok (.iinc 3 1, 3) := by decide +kernel
theorem dX1_goThroughDoors_99 : decode cX1_goThroughDoors 99 = .ok (.goto (-95), 3) := by decide +kernel
theorem dX1_goThroughDoors_102 : decode cX1_goThroughDoors 102 = .ok (.return_, 1) := by decide +kernel
theorem dX1_goThrough_0 : decode cX1_goThrough 0 = .ok (.aload_n 0, 1) := by decide +kernel
theorem dX1_goThrough_1 : decode cX1_goThrough 1 = .ok (.iload_n 1, 1) := by decide +kernel
theorem dX1_goThrough_2 : decode cX1_goThrough 2 = .ok (.iaload, 1) := by decide +kernel
theorem dX1_goThrough_3 : decode cX1_goThrough 3 = .ok (.iload_n 3, 1) := by decide +kernel
theorem dX1_goThrough_4 : decode cX1_goThrough 4 = .ok (.if_icmp .ne 10, 3) := by decide +kernel
theorem dX1_goThrough_7 : decode cX1_goThrough 7 = .ok (.aload_n 0, 1) := by decide +kernel
theorem dX1_goThrough_8 : decode cX1_goThrough 8 = .ok (.iload_n 2, 1) := by decide +kernel
theorem dX1_goThrough_9 : decode cX1_goThrough 9 = .ok (.iaload, 1) := by decide +kernel
theorem dX1_goThrough_10 : decode cX1_goThrough 10 = .ok (.iconst (-1), 1) := by decide +kernel
theorem dX1_goThrough_11 : decode cX1_goThrough 11 = .ok (.if_icmp .eq 5, 3) := by decide +kernel
theorem dX1_goThrough_14 : decode cX1_goThrough 14 = .ok (.iconst 0, 1) := by decide +kernel
theorem dX1_goThrough_15 : decode cX1_goThrough 15 = .ok (.ireturn, 1) := by decide +kernel
theorem dX1_goThrough_16 : decode cX1_goThrough 16 = .ok (.aload_n 0, 1) := by decide +kernel
theorem dX1_goThrough_17 : decode cX1_goThrough 17 = .ok (.iload_n 2, 1) := by decide +kernel
theorem dX1_goThrough_18 : decode cX1_goThrough 18 = .ok (.iload_n 3, 1) := by decide +kernel
theorem dX1_goThrough_19 : decode cX1_goThrough 19 = .ok (.iconst 1, 1) := by decide +kernel
theorem dX1_goThrough_20 : decode cX1_goThrough 20 = .ok (.iadd, 1) := by decide +kernel
theorem dX1_goThrough_21 : decode cX1_goThrough 21 = .ok (.iastore, 1) := by decide +kernel
theorem dX1_goThrough_22 : decode cX1_goThrough 22 = .ok (.iconst 1, 1) := by decide +kernel
theorem dX1_goThrough_23 : decode cX1_goThrough 23 = .ok (.ireturn, 1) := by decide +kernel
theorem dX1_countRooms_0 : decode cX1_countRooms 0 = .ok (.iconst 0, 1) := by decide +kernel
theorem dX1_countRooms_1 : decode cX1_countRooms 1 = .ok (.istore_n 1, 1) := by decide +kernel
theorem dX1_countRooms_2 : decode cX1_countRooms 2 = .ok (.iconst 0, 1) := by decide +kernel
theorem dX1_countRooms_3 : decode cX1_countRooms 3 = .ok (.istore_n 2, 1) := by decide +kernel
theorem dX1_countRooms_4 : decode cX1_countRooms 4 = .ok (.iload_n 2, 1) := by decide +kernel
theorem dX1_countRooms_5 : decode cX1_countRooms 5 = .ok (.bipush 25, 2) := by decide +kernel
theorem dX1_countRooms_7 : decode cX1_countRooms 7 = .ok (.if_icmp .ge 22, 3) := by decide +kernel
theorem dX1_countRooms_10 : decode cX1_countRooms 10 = .ok (.aload_n 0, 1) := by decide +kernel
theorem dX1_countRooms_11 : decode cX1_countRooms 11 = .ok (.getfield 18, 3) := by decide +kernel
theorem dX1_countRooms_14 : decode cX1_countRooms 14 = .ok (.iload_n 2, 1) := by decide +kernel
theorem dX1_countRooms_15 : decode cX1_countRooms 15 = .ok (.iaload, 1) := by decide +kernel
theorem dX1_countRooms_16 : decode cX1_countRooms 16 = .ok (.iload_n 2, 1) := by decide +kernel
theorem dX1_countRooms_17 : decode cX1_countRooms 17 = .ok (.if_icmp .ne 6, 3) := by decide +kernel
theorem dX1_countRooms_20 : decode cX1_countRooms 20 = .ok (.iinc 1 1, 3) := by decide +kernel
theorem dX1_countRooms_23 : decode cX1_countRooms 23 = .ok (.iinc 2 1, 3) := by decide +kernel
theorem dX1_countRooms_26 : decode cX1_countRooms 26 = .ok (.goto (-22), 3) := by decide +kernel
theorem dX1_countRooms_29 : decode cX1_countRooms 29 = .ok (.iload_n 1, 1) := by decide +kernel
theorem dX1_countRooms_30 : decode cX1_countRooms 30 = .ok (.ireturn, 1) := by decide +kernel
theorem dX1_countCells_0 : decode cX1_countCells 0 = .ok (.iconst 0, 1) := by decide +kernel
theorem dX1_countCells_1 : decode cX1_countCells 1 = .ok (.istore_n 2, 1) := by decide +kernel
theorem dX1_countCells_2 : decode cX1_countCells 2 = .ok (.iconst 0, 1) := by decide +kernel
theorem dX1_countCells_3 : decode cX1_countCells 3 = .ok (.istore_n 3, 1) := by decide +kernel
theorem dX1_countCells_4 : decode cX1_countCells 4 = .ok (.iload_n 3, 1) := by decide +kernel
theorem dX1_countCells_5 : decode cX1_countCells 5 = .ok (.bipush 25, 2) := by decide +kernel
theorem dX1_countCells_7 : decode cX1_countCells 7 = .ok (.if_icmp .ge 22, 3) := by decide +kernel
theorem dX1_countCells_10 : decode cX1_countCells 10 = .ok (.aload_n 0, 1) := by decide +kernel
theorem dX1_countCells_11 : decode cX1_countCells 11 = .ok (.getfield 18, 3) := by decide +kernel
theorem dX1_countCells_14 : decode cX1_countCells 14 = .ok (.iload_n 3, 1) := by decide +kernel
theorem dX1_countCells_15 : decode cX1_countCells 15 = .ok (.iaload, 1) := by decide +kernel
theorem dX1_countCells_16 : decode cX1_countCells 16 = .ok (.iload_n 1, 1) := by decide +kernel
theorem dX1_countCells_17 : decode cX1_countCells 17 = .ok (.if_icmp .ne 6, 3) := by decide +kernel
theorem dX1_countCells_20 : decode cX1_countCells 20 = .ok (.iinc 2 1, 3) := by decide +kernel
theorem dX1_countCells_23 : decode cX1_countCells 23 = .ok (.iinc 3 1, 3) := by decide +kernel
theorem dX1_countCells_26 : decode cX1_countCells 26 = .ok (.goto (-22), 3) := by decide +kernel
theorem dX1_countCells_29 : decode cX1_countCells 29 = .ok (.iload_n 2, 1) := by decide +kernel
theorem dX1_countCells_30 : decode cX1_countCells 30 = .ok (.ireturn, 1) := by decide +kernel
theorem dX1_everyRoomHasWayOut_0 : decode cX1_everyRoomHasWayOut 0 = .ok (.iconst 0, 1) := by decide +kernel
theorem dX1_everyRoomHasWayOut_1 : decode cX1_everyRoomHasWayOut 1 = .ok (.istore_n 1, 1) := by decide +kernel
theorem dX1_everyRoomHasWayOut_2 : decode cX1_everyRoomHasWayOut 2 = .ok (.iload_n 1, 1) := by decide +kernel
theorem dX1_everyRoomHasWayOut_3 : decode cX1_everyRoomHasWayOut 3 = .ok (.bipush 25, 2) := by decide +kernel
theorem dX1_everyRoomHasWayOut_5 : decode cX1_everyRoomHasWayOut 5 = .ok (.if_icmp .ge 26, 3) := by decide +kernel
theorem dX1_everyRoomHasWayOut_8 : decode cX1_everyRoomHasWayOut 8 = .ok (.aload_n 0, 1) := by decide +kernel
theorem dX1_everyRoomHasWayOut_9 : decode cX1_everyRoomHasWayOut 9 = .ok (.getfield 22, 3) := by decide +kernel
theorem dX1_everyRoomHasWayOut_12 : decode cX1_everyRoomHasWayOut 12 = .ok (.aload_n 0, 1) := by decide +kernel
theorem dX1_everyRoomHasWayOut_13 : decode cX1_everyRoomHasWayOut 13 = .ok (.getfield 18, 3) := by decide +kernel
theorem dX1_everyRoomHasWayOut_16 : decode cX1_everyRoomHasWayOut 16 = .ok (.iload_n 1, 1) := by decide +kernel
theorem dX1_everyRoomHasWayOut_17 : decode cX1_everyRoomHasWayOut 17 = .ok (.iaload, 1) := by decide +kernel
theorem dX1_everyRoomHasWayOut_18 : decode cX1_everyRoomHasWayOut 18 = .ok (.iaload, 1) := by decide +kernel
theorem dX1_everyRoomHasWayOut_19 : decode cX1_everyRoomHasWayOut 19 = .ok (.iconst (-1), 1) := by decide +kernel
theorem dX1_everyRoomHasWayOut_20 : decode cX1_everyRoomHasWayOut 20 = .ok (.if_icmp .ne 5, 3) := by decide +kernel
theorem dX1_everyRoomHasWayOut_23 : decode cX1_everyRoomHasWayOut 23 = .ok (.iconst 0, 1) := by decide +kernel
theorem dX1_everyRoomHasWayOut_24 : decode cX1_everyRoomHasWayOut 24 = .ok (.ireturn, 1) := by decide +kernel
theorem dX1_everyRoomHasWayOut_25 : decode cX1_everyRoomHasWayOut 25 = .ok (.iinc 1 1, 3) := by decide +kernel
theorem dX1_everyRoomHasWayOut_28 : decode cX1_everyRoomHasWayOut 28 = .ok (.goto (-26), 3) := by decide +kernel
theorem dX1_everyRoomHasWayOut_31 : decode cX1_everyRoomHasWayOut 31 = .ok (.iconst 1, 1) := by decide +kernel
theorem dX1_everyRoomHasWayOut_32 : decode cX1_everyRoomHasWayOut 32 = .ok (.ireturn, 1) := by decide +kernel
theorem dX1_wallThatHelps_0 : decode cX1_wallThatHelps 0 = .ok (.aload_n 0, 1) := by decide +kernel
theorem dX1_wallThatHelps_1 : decode cX1_wallThatHelps 1 = .ok (.getfield 22, 3) := by decide +kernel
theorem dX1_wallThatHelps_4 : decode cX1_wallThatHelps 4 = .ok (.iload_n 1, 1) := by decide +kernel
theorem dX1_wallThatHelps_5 : decode cX1_wallThatHelps 5 = .ok (.iaload, 1) := by decide +kernel
theorem dX1_wallThatHelps_6 : decode cX1_wallThatHelps 6 = .ok (.iconst (-1), 1) := by decide +kernel
theorem dX1_wallThatHelps_7 : decode cX1_wallThatHelps 7 = .ok (.if_icmp .eq 5, 3) := by decide +kernel
theorem dX1_wallThatHelps_10 : decode cX1_wallThatHelps 10 = .ok (.iconst (-1), 1) := by decide +kernel
theorem dX1_wallThatHelps_11 : decode cX1_wallThatHelps 11 = .ok (.ireturn, 1) := by decide +kernel
theorem dX1_wallThatHelps_12 : decode cX1_wallThatHelps 12 = .ok (.aload_n 0, 1) := by decide +kernel
theorem dX1_wallThatHelps_13 : decode cX1_wallThatHelps 13 = .ok (.getfield 25, 3) := by decide +kernel
theorem dX1_wallThatHelps_16 : decode cX1_wallThatHelps 16 = .ok (.iconst (-1), 1) := by decide +kernel
theorem dX1_wallThatHelps_17 : decode cX1_wallThatHelps 17 = .ok (.invokestatic 61, 3) := by decide +kernel
theorem dX1_wallThatHelps_20 : decode cX1_wallThatHelps 20 = .ok (.aload_n 0, 1) := by decide +kernel
theorem dX1_wallThatHelps_21 : decode cX1_wallThatHelps 21 = .ok (.getfield 25, 3) := by decide +kernel
theorem dX1_wallThatHelps_24 : decode cX1_wallThatHelps 24 = .ok (.iload_n 1, 1) := by decide +kernel
theorem dX1_wallThatHelps_25 : decode cX1_wallThatHelps 25 = .ok (.iconst 0, 1) := by decide +kernel
theorem dX1_wallThatHelps_26 : decode cX1_wallThatHelps 26 = .ok (.iastore, 1) := by decide +kernel
theorem dX1_wallThatHelps_27 : decode cX1_wallThatHelps 27 = .ok (.aload_n 0, 1) := by decide +kernel
theorem dX1_wallThatHelps_28 : decode cX1_wallThatHelps 28 = .ok (.aload_n 0, 1) := by decide +kernel
theorem dX1_wallThatHelps_29 : decode cX1_wallThatHelps 29 = .ok (.getfield 25, 3) := by decide +kernel
theorem dX1_wallThatHelps_32 : decode cX1_wallThatHelps 32 = .ok (.invokevirtual 71, 3) := by decide +kernel
theorem dX1_wallThatHelps_35 : decode cX1_wallThatHelps 35 = .ok (.iconst 0, 1) := by decide +kernel
theorem dX1_wallThatHelps_36 : decode cX1_wallThatHelps 36 = .ok (.istore_n 2, 1) := by decide +kernel
theorem dX1_wallThatHelps_37 : decode cX1_wallThatHelps 37 = .ok (.iload_n 2, 1) := by decide +kernel
theorem dX1_wallThatHelps_38 : decode cX1_wallThatHelps 38 = .ok (.bipush 40, 2) := by decide +kernel
theorem dX1_wallThatHelps_40 : decode cX1_wallThatHelps 40 = .ok (.if_icmp .ge 65, 3) := by decide +kernel
theorem dX1_wallThatHelps_43 : decode cX1_wallThatHelps 43 = .ok (.aload_n 0, 1) := by decide +kernel
theorem dX1_wallThatHelps_44 : decode cX1_wallThatHelps 44 = .ok (.getfield 18, 3) := by decide +kernel
theorem dX1_wallThatHelps_47 : decode cX1_wallThatHelps 47 = .ok (.iload_n 2, 1) := by decide +kernel
theorem dX1_wallThatHelps_48 : decode cX1_wallThatHelps 48 = .ok (.invokestatic 41, 3) := by decide +kernel
theorem dX1_wallThatHelps_51 : decode cX1_wallThatHelps 51 = .ok (.iaload, 1) := by decide +kernel
theorem dX1_wallThatHelps_52 : decode cX1_wallThatHelps 52 = .ok (.istore_n 3, 1) := by decide +kernel
theorem dX1_wallThatHelps_53 : decode cX1_wallThatHelps 53 = .ok (.aload_n 0, 1) := by decide +kernel
theorem dX1_wallThatHelps_54 : decode cX1_wallThatHelps 54 = .ok (.getfield 18, 3) := by decide +kernel
theorem dX1_wallThatHelps_57 : decode cX1_wallThatHelps 57 = .ok (.iload_n 2, 1) := by decide +kernel
theorem dX1_wallThatHelps_58 : decode cX1_wallThatHelps 58 = .ok (.invokestatic 45, 3) := by decide +kernel
theorem dX1_wallThatHelps_61 : decode cX1_wallThatHelps 61 = .ok (.iaload, 1) := by decide +kernel
theorem dX1_wallThatHelps_62 : decode cX1_wallThatHelps 62 = .ok (.istore 4, 2) := by decide +kernel
theorem dX1_wallThatHelps_64 : decode cX1_wallThatHelps 64 = .ok (.aload_n 0, 1) := by decide +kernel
theorem dX1_wallThatHelps_65 : decode cX1_wallThatHelps 65 = .ok (.getfield 12, 3) := by decide +kernel
theorem dX1_wallThatHelps_68 : decode cX1_wallThatHelps 68 = .ok (.getfield 38, 3) := by decide +kernel
theorem dX1_wallThatHelps_71 : decode cX1_wallThatHelps 71 = .ok (.iload_n 2, 1) := by decide +kernel
theorem dX1_wallThatHelps_72 : decode cX1_wallThatHelps 72 = .ok (.iaload, 1) := by decide +kernel
theorem dX1_wallThatHelps_73 : decode cX1_wallThatHelps 73 = .ok (.iconst 1, 1) := by decide +kernel
theorem dX1_wallThatHelps_74 : decode cX1_wallThatHelps 74 = .ok (.if_icmp .ne 25, 3) := by decide +kernel
theorem dX1_wallThatHelps_77 : decode cX1_wallThatHelps 77 = .ok (.aload_n 0, 1) := by decide +kernel
theorem dX1_wallThatHelps_78 : decode cX1_wallThatHelps 78 = .ok (.iload_n 3, 1) := by decide +kernel
theorem dX1_wallThatHelps_79 : decode cX1_wallThatHelps 79 = .ok (.iload 4, 2) := by decide +kernel
theorem dX1_wallThatHelps_81 : decode cX1_wallThatHelps 81 = .ok (.invokevirtual 79, 3) := by decide +kernel
theorem dX1_wallThatHelps_84 : decode cX1_wallThatHelps 84 = .ok (.ifCond .ne 13, 3) := by decide +kernel
theorem dX1_wallThatHelps_87 : decode cX1_wallThatHelps 87 = .ok (.aload_n 0, 1) := by decide +kernel
theorem dX1_wallThatHelps_88 : decode cX1_wallThatHelps 88 = .ok (.iload 4, 2) := by decide +kernel
theorem dX1_wallThatHelps_90 : decode cX1_wallThatHelps 90 = .ok (.iload_n 3, 1) := by decide +kernel
theorem dX1_wallThatHelps_91 : decode cX1_wallThatHelps 91 = .ok (.invokevirtual 79, 3) := by decide +kernel
theorem dX1_wallThatHelps_94 : decode cX1_wallThatHelps 94 = .ok (.ifCond .eq 5, 3) := by decide +kernel
theorem dX1_wallThatHelps_97 : decode cX1_wallThatHelps 97 = .ok (.iload_n 2, 1) := by decide +kernel
theorem dX1_wallThatHelps_98 : decode cX1_wallThatHelps 98 = .ok (.ireturn, 1) := by decide +kernel
theorem dX1_wallThatHelps_99 : decode cX1_wallThatHelps 99 = .ok (.iinc 2 1, 3) := by decide +kernel
theorem dX1_wallThatHelps_102 : decode cX1_wallThatHelps 102 = .ok (.goto (-65), 3) := by decide +kernel
theorem dX1_wallThatHelps_105 : decode cX1_wallThatHelps 105 = .ok (.iconst (-1), 1) := by decide +kernel
theorem dX1_wallThatHelps_106 : decode cX1_wallThatHelps 106 = .ok (.ireturn, 1) := by decide +kernel
theorem dX1_leadsOut_0 : decode cX1_leadsOut 0 = .ok (.aload_n 0, 1) := by decide +kernel
theorem dX1_leadsOut_1 : decode cX1_leadsOut 1 = .ok (.getfield 25, 3) := by decide +kernel
theorem dX1_leadsOut_4 : decode cX1_leadsOut 4 = .ok (.iload_n 1, 1) := by decide +kernel
theorem dX1_leadsOut_5 : decode cX1_leadsOut 5 = .ok (.iaload, 1) := by decide +kernel
theorem dX1_leadsOut_6 : decode cX1_leadsOut 6 = .ok (.iconst (-1), 1) := by decide +kernel
theorem dX1_leadsOut_7 : decode cX1_leadsOut 7 = .ok (.if_icmp .eq 17, 3) := by decide +kernel
theorem dX1_leadsOut_10 : decode cX1_leadsOut 10 = .ok (.aload_n 0, 1) := by decide +kernel
theorem dX1_leadsOut_11 : decode cX1_leadsOut 11 = .ok (.getfield 22, 3) := by decide +kernel
theorem dX1_leadsOut_14 : decode cX1_leadsOut 14 = .ok (.iload_n 2, 1) := by decide +kernel
theorem dX1_leadsOut_15 : decode cX1_leadsOut 15 = .ok (.iaload, 1) := by decide +kernel
theorem dX1_leadsOut_16 : decode cX1_leadsOut 16 = .ok (.iconst (-1), 1) := by decide +kernel
theorem dX1_leadsOut_17 : decode cX1_leadsOut 17 = .ok (.if_icmp .eq 7, 3) := by decide +kernel
theorem dX1_leadsOut_20 : decode cX1_leadsOut 20 = .ok (.iconst 1, 1) := by decide +kernel
theorem dX1_leadsOut_21 : decode cX1_leadsOut 21 = .ok (.goto 4, 3) := by decide +kernel
theorem dX1_leadsOut_24 : decode cX1_leadsOut 24 = .ok (.iconst 0, 1) := by decide +kernel
theorem dX1_leadsOut_25 : decode cX1_leadsOut 25 = .ok (.ireturn, 1) := by decide +kernel
theorem dX2_init_0 : decode cX2_init 0 = .ok (.aload_n 0, 1) := by decide +kernel
theorem dX2_init_1 : decode cX2_init 1 = .ok (.invokespecial 1, 3) := by decide +kernel
theorem dX2_init_4 : decode cX2_init 4 = .ok (.aload_n 0, 1) := by decide +kernel
theorem dX2_init_5 : decode cX2_init 5 = .ok (.new 7, 3) := by decide +kernel
theorem dX2_init_8 : decode cX2_init 8 = .ok (.dup, 1) := by decide +kernel
theorem dX2_init_9 : decode cX2_init 9 = .ok (.invokespecial 9, 3) := by decide +kernel
theorem dX2_init_12 : decode cX2_init 12 = .ok (.putfield 10, 3) := by decide +kernel
theorem dX2_init_15 : decode cX2_init 15 = .ok (.aload_n 0, 1) := by decide +kernel
theorem dX2_init_16 : decode cX2_init 16 = .ok (.aload_n 1, 1) := by decide +kernel
theorem dX2_init_17 : decode cX2_init 17 = .ok (.putfield 16, 3) := by decide +kernel
theorem dX2_init_20 : decode cX2_init 20 = .ok (.aload_n 0, 1) := by decide +kernel
theorem dX2_init_21 : decode cX2_init 21 = .ok (.getfield 10, 3) := by decide +kernel
theorem dX2_init_24 : decode cX2_init 24 = .ok (.aload_n 1, 1) := by decide +kernel
theorem dX2_init_25 : decode cX2_init 25 = .ok (.invokevirtual 20, 3) := by decide +kernel
theorem dX2_init_28 : decode cX2_init 28 = .ok (.return_, 1) := by decide +kernel
theorem dX2_isValid_0 : decode cX2_isValid 0 = .ok (.aload_n 0, 1) := by decide +kernel
theorem dX2_isValid_1 : decode cX2_isValid 1 = .ok (.getfield 10, 3) := by decide +kernel
theorem dX2_isValid_4 : decode cX2_isValid 4 = .ok (.aload_n 0, 1) := by decide +kernel
theorem dX2_isValid_5 : decode cX2_isValid 5 = .ok (.getfield 16, 3) := by decide +kernel
theorem dX2_isValid_8 : decode cX2_isValid 8 = .ok (.invokevirtual 24, 3) := by decide +kernel
theorem dX2_isValid_11 : decode cX2_isValid 11 = .ok (.ireturn, 1) := by decide +kernel
theorem dX3_init_0 : decode cX3_init 0 = .ok (.aload_n 0, 1) := by decide +kernel
theorem dX3_init_1 : decode cX3_init 1 = .ok (.invokespecial 1, 3) := by decide +kernel
theorem dX3_init_4 : decode cX3_init 4 = .ok (.aload_n 0, 1) := by decide +kernel
theorem dX3_init_5 : decode cX3_init 5 = .ok (.new 7, 3) := by decide +kernel
theorem dX3_init_8 : decode cX3_init 8 = .ok (.dup, 1) := by decide +kernel
theorem dX3_init_9 : decode cX3_init 9 = .ok (.invokespecial 9, 3) := by decide +kernel
theorem dX3_init_12 : decode cX3_init 12 = .ok (.putfield 10, 3) := by decide +kernel
theorem dX3_init_15 : decode cX3_init 15 = .ok (.aload_n 0, 1) := by decide +kernel
theorem dX3_init_16 : decode cX3_init 16 = .ok (.aload_n 1, 1) := by decide +kernel
theorem dX3_init_17 : decode cX3_init 17 = .ok (.putfield 16, 3) := by decide +kernel
theorem dX3_init_20 : decode cX3_init 20 = .ok (.aload_n 0, 1) := by decide +kernel
theorem dX3_init_21 : decode cX3_init 21 = .ok (.iload_n 2, 1) := by decide +kernel
theorem dX3_init_22 : decode cX3_init 22 = .ok (.putfield 20, 3) := by decide +kernel
theorem dX3_init_25 : decode cX3_init 25 = .ok (.aload_n 0, 1) := by decide +kernel
theorem dX3_init_26 : decode cX3_init 26 = .ok (.getfield 10, 3) := by decide +kernel
theorem dX3_init_29 : decode cX3_init 29 = .ok (.aload_n 1, 1) := by decide +kernel
theorem dX3_init_30 : decode cX3_init 30 = .ok (.invokevirtual 24, 3) := by decide +kernel
theorem dX3_init_33 : decode cX3_init 33 = .ok (.return_, 1) := by decide +kernel
theorem dX3_isOld_0 : decode cX3_isOld 0 = .ok (.aload_n 0, 1) := by decide +kernel
theorem dX3_isOld_1 : decode cX3_isOld 1 = .ok (.getfield 10, 3) := by decide +kernel
theorem dX3_isOld_4 : decode cX3_isOld 4 = .ok (.aload_n 0, 1) := by decide +kernel
theorem dX3_isOld_5 : decode cX3_isOld 5 = .ok (.getfield 16, 3) := by decide +kernel
theorem dX3_isOld_8 : decode cX3_isOld 8 = .ok (.invokevirtual 28, 3) := by decide +kernel
theorem dX3_isOld_11 : decode cX3_isOld 11 = .ok (.ifCond .ne 7, 3) := by decide +kernel
theorem dX3_isOld_14 : decode cX3_isOld 14 = .ok (.iconst 1, 1) := by decide +kernel
theorem dX3_isOld_15 : decode cX3_isOld 15 = .ok (.goto 4, 3) := by decide +kernel
theorem dX3_isOld_18 : decode cX3_isOld 18 = .ok (.iconst 0, 1) := by decide +kernel
theorem dX3_isOld_19 : decode cX3_isOld 19 = .ok (.ireturn, 1) := by decide +kernel
theorem dX4_init_0 : decode cX4_init 0 = .ok (.aload_n 0, 1) := by decide +kernel
theorem dX4_init_1 : decode cX4_init 1 = .ok (.invokespecial 3, 3) := by decide +kernel
theorem dX4_init_4 : decode cX4_init 4 = .ok (.aload_n 0, 1) := by decide +kernel
theorem dX4_init_5 : decode cX4_init 5 = .ok (.bipush 40, 2) := by decide +kernel
theorem dX4_init_7 : decode cX4_init 7 = .ok (.newarray .int, 2) := by decide +kernel
theorem dX4_init_9 : decode cX4_init 9 = .ok (.putfield 9, 3) := by decide +kernel
theorem dX4_init_12 : decode cX4_init 12 = .ok (.aload_n 0, 1) := by decide +kernel
theorem dX4_init_13 : decode cX4_init 13 = .ok (.bipush 25, 2) := by decide +kernel
theorem dX4_init_15 : decode cX4_init 15 = .ok (.newarray .boolean, 2) := by decide +kernel
theorem dX4_init_17 : decode cX4_init 17 = .ok (.putfield 15, 3) := by decide +kernel
theorem dX4_init_20 : decode cX4_init 20 = .ok (.return_, 1) := by decide +kernel
theorem dX4_takeFrom_0 : decode cX4_takeFrom 0 = .ok (.iconst 0, 1) := by decide +kernel
theorem dX4_takeFrom_1 : decode cX4_takeFrom 1 = .ok (.istore_n 2, 1) := by decide +kernel
theorem dX4_takeFrom_2 : decode cX4_takeFrom 2 = .ok (.iload_n 2, 1) := by decide +kernel
theorem dX4_takeFrom_3 : decode cX4_takeFrom 3 = .ok (.bipush 40, 2) := by decide +kernel
theorem dX4_takeFrom_5 : decode cX4_takeFrom 5 = .ok (.if_icmp .ge 20, 3) := by decide +kernel
theorem dX4_takeFrom_8 : decode cX4_takeFrom 8 = .ok (.aload_n 0, 1) := by decide +kernel
theorem dX4_takeFrom_9 : decode cX4_takeFrom 9 = .ok (.getfield 9, 3) := by decide +kernel
theorem dX4_takeFrom_12 : decode cX4_takeFrom 12 = .ok (.iload_n 2, 1) := by decide +kernel
theorem dX4_takeFrom_13 : decode cX4_takeFrom 13 = .ok (.aload_n 1, 1) := by decide +kernel
theorem dX4_takeFrom_14 : decode cX4_takeFrom 14 = .ok (.iload_n 2, 1) := by decide +kernel
theorem dX4_takeFrom_15 : decode cX4_takeFrom 15 = .ok (.invokevirtual 19, 3) := by decide +kernel
theorem dX4_takeFrom_18 : decode cX4_takeFrom 18 = .ok (.iastore, 1) := by decide +kernel
theorem dX4_takeFrom_19 : decode cX4_takeFrom 19 = .ok (.iinc 2 1, 3) := by decide +kernel
theorem dX4_takeFrom_22 : decode cX4_takeFrom 22 = .ok (.goto (-20), 3) := by decide +kernel
theorem dX4_takeFrom_25 : decode cX4_takeFrom 25 = .ok (.iconst 0, 1) := by decide +kernel
theorem dX4_takeFrom_26 : decode cX4_takeFrom 26 = .ok (.istore_n 2, 1) := by decide +kernel
theorem dX4_takeFrom_27 : decode cX4_takeFrom 27 = .ok (.iload_n 2, 1) := by decide +kernel
theorem dX4_takeFrom_28 : decode cX4_takeFrom 28 = .ok (.bipush 25, 2) := by decide +kernel
theorem dX4_takeFrom_30 : decode cX4_takeFrom 30 = .ok (.if_icmp .ge 20, 3) := by decide +kernel
theorem dX4_takeFrom_33 : decode cX4_takeFrom 33 = .ok (.aload_n 0, 1) := by decide +kernel
theorem dX4_takeFrom_34 : decode cX4_takeFrom 34 = .ok (.getfield 15, 3) := by decide +kernel
theorem dX4_takeFrom_37 : decode cX4_takeFrom 37 = .ok (.iload_n 2, 1) := by decide +kernel
theorem dX4_takeFrom_38 : decode cX4_takeFrom 38 = .ok (.aload_n 1, 1) := by decide +kernel
theorem dX4_takeFrom_39 : decode cX4_takeFrom 39 = .ok (.iload_n 2, 1) := by decide +kernel
theorem dX4_takeFrom_40 : decode cX4_takeFrom 40 = .ok (.invokevirtual 25, 3) := by decide +kernel
theorem dX4_takeFrom_43 : decode cX4_takeFrom 43 = .ok (.bastore, 1) := by decide +kernel
theorem dX4_takeFrom_44 : decode cX4_takeFrom 44 = .ok (.iinc 2 1, 3) := by decide +kernel
theorem dX4_takeFrom_47 : decode cX4_takeFrom 47 = .ok (.goto (-20), 3) := by decide +kernel
theorem dX4_takeFrom_50 : decode cX4_takeFrom 50 = .ok (.return_, 1) := by decide +kernel
theorem dX4_isThatOf_0 : decode cX4_isThatOf 0 = .ok (.iconst 0, 1) := by decide +kernel
theorem dX4_isThatOf_1 : decode cX4_isThatOf 1 = .ok (.istore_n 2, 1) := by decide +kernel
theorem dX4_isThatOf_2 : decode cX4_isThatOf 2 = .ok (.iload_n 2, 1) := by decide +kernel
theorem dX4_isThatOf_3 : decode cX4_isThatOf 3 = .ok (.bipush 40, 2) := by decide +kernel
theorem dX4_isThatOf_5 : decode cX4_isThatOf 5 = .ok (.if_icmp .ge 25, 3) := by decide +kernel
theorem dX4_isThatOf_8 : decode cX4_isThatOf 8 = .ok (.aload_n 0, 1) := by decide +kernel
theorem dX4_isThatOf_9 : decode cX4_isThatOf 9 = .ok (.getfield 9, 3) := by decide +kernel
theorem dX4_isThatOf_12 : decode cX4_isThatOf 12 = .ok (.iload_n 2, 1) := by decide +kernel
theorem dX4_isThatOf_13 : decode cX4_isThatOf 13 = .ok (.iaload, 1) := by decide +kernel
theorem dX4_isThatOf_14 : decode cX4_isThatOf 14 = .ok (.aload_n 1, 1) := by decide +kernel
theorem dX4_isThatOf_15 : decode cX4_isThatOf 15 = .ok (.iload_n 2, 1) := by decide +kernel
theorem dX4_isThatOf_16 : decode cX4_isThatOf 16 = .ok (.invokevirtual 19, 3) := by decide +kernel
theorem dX4_isThatOf_19 : decode cX4_isThatOf 19 = .ok (.if_icmp .eq 5, 3) := by decide +kernel
theorem dX4_isThatOf_22 : decode cX4_isThatOf 22 = .ok (.iconst 0, 1) := by decide +kernel
theorem dX4_isThatOf_23 : decode cX4_isThatOf 23 = .ok (.ireturn, 1) := by decide +kernel
theorem dX4_isThatOf_24 : decode cX4_isThatOf 24 = .ok (.iinc 2 1, 3) := by decide +kernel
theorem dX4_isThatOf_27 : decode cX4_isThatOf 27 = .ok (.goto (-25), 3) := by decide +kernel
theorem dX4_isThatOf_30 : decode cX4_isThatOf 30 = .ok (.iconst 0, 1) := by decide +kernel
theorem dX4_isThatOf_31 : decode cX4_isThatOf 31 = .ok (.istore_n 2, 1) := by decide +kernel
theorem dX4_isThatOf_32 : decode cX4_isThatOf 32 = .ok (.iload_n 2, 1) := by decide +kernel
theorem dX4_isThatOf_33 : decode cX4_isThatOf 33 = .ok (.bipush 25, 2) := by decide +kernel
theorem dX4_isThatOf_35 : decode cX4_isThatOf 35 = .ok (.if_icmp .ge 25, 3) := by decide +kernel
theorem dX4_isThatOf_38 : decode cX4_isThatOf 38 = .ok (.aload_n 0, 1) := by decide +kernel
theorem dX4_isThatOf_39 : decode cX4_isThatOf 39 = .ok (.getfield 15, 3) := by decide +kernel
theorem dX4_isThatOf_42 : decode cX4_isThatOf 42 = .ok (.iload_n 2, 1) := by decide +kernel
theorem dX4_isThatOf_43 : decode cX4_isThatOf 43 = .ok (.baload, 1) := by decide +kernel
theorem dX4_isThatOf_44 : decode cX4_isThatOf 44 = .ok (.aload_n 1, 1) := by decide +kernel
theorem dX4_isThatOf_45 : decode cX4_isThatOf 45 = .ok (.iload_n 2, 1) := by decide +kernel
theorem dX4_isThatOf_46 : decode cX4_isThatOf 46 = .ok (.invokevirtual 25, 3) := by decide +kernel
theorem dX4_isThatOf_49 : decode cX4_isThatOf 49 = .ok (.if_icmp .eq 5, 3) := by decide +kernel
theorem dX4_isThatOf_52 : decode cX4_isThatOf 52 = .ok (.iconst 0, 1) := by decide +kernel
theorem dX4_isThatOf_53 : decode cX4_isThatOf 53 = .ok (.ireturn, 1) := by decide +kernel
theorem dX4_isThatOf_54 : decode cX4_isThatOf 54 = .ok (.iinc 2 1, 3) := by decide +kernel
theorem dX4_isThatOf_57 : decode cX4_isThatOf 57 = .ok (.goto (-25), 3) := by decide +kernel
theorem dX4_isThatOf_60 : decode cX4_isThatOf 60 = .ok (.iconst 1, 1) := by decide +kernel
theorem dX4_isThatOf_61 : decode cX4_isThatOf 61 = .ok (.ireturn, 1) := by decide +kernel
theorem dX5_init_0 : decode cX5_init 0 = .ok (.aload_n 0, 1) := by decide +kernel
theorem dX5_init_1 : decode cX5_init 1 = .ok (.invokespecial 1, 3) := by decide +kernel
theorem dX5_init_4 : decode cX5_init 4 = .ok (.aload_n 0, 1) := by decide +kernel
theorem dX5_init_5 : decode cX5_init 5 = .ok (.new 7, 3) := by decide +kernel
theorem dX5_init_8 : decode cX5_init 8 = .ok (.dup, 1) := by decide +kernel
theorem dX5_init_9 : decode cX5_init 9 = .ok (.invokespecial 9, 3) := by decide +kernel
theorem dX5_init_12 : decode cX5_init 12 = .ok (.putfield 10, 3) := by decide +kernel
theorem dX5_init_15 : decode cX5_init 15 = .ok (.aload_n 0, 1) := by decide +kernel
theorem dX5_init_16 : decode cX5_init 16 = .ok (.new 7, 3) := by decide +kernel
theorem dX5_init_19 : decode cX5_init 19 = .ok (.dup, 1) := by decide +kernel
theorem dX5_init_20 : decode cX5_init 20 = .ok (.invokespecial 9, 3) := by decide +kernel
theorem dX5_init_23 : decode cX5_init 23 = .ok (.putfield 16, 3) := by decide +kernel
theorem dX5_init_26 : decode cX5_init 26 = .ok (.aload_n 0, 1) := by decide +kernel
theorem dX5_init_27 : decode cX5_init 27 = .ok (.new 7, 3) := by decide +kernel
theorem dX5_init_30 : decode cX5_init 30 = .ok (.dup, 1) := by decide +kernel
theorem dX5_init_31 : decode cX5_init 31 = .ok (.invokespecial 9, 3) := by decide +kernel
theorem dX5_init_34 : decode cX5_init 34 = .ok (.putfield 19, 3) := by decide +kernel
theorem dX5_init_37 : decode cX5_init 37 = .ok (.aload_n 0, 1) := by decide +kernel
theorem dX5_init_38 : decode cX5_init 38 = .ok (.new 22, 3) := by decide +kernel
theorem dX5_init_41 : decode cX5_init 41 = .ok (.dup, 1) := by decide +kernel
theorem dX5_init_42 : decode cX5_init 42 = .ok (.invokespecial 24, 3) := by decide +kernel
theorem dX5_init_45 : decode cX5_init 45 = .ok (.putfield 25, 3) := by decide +kernel
theorem dX5_init_48 : decode cX5_init 48 = .ok (.return_, 1) := by decide +kernel
theorem dX5_begin_0 : decode cX5_begin 0 = .ok (.aload_n 0, 1) := by decide +kernel
theorem dX5_begin_1 : decode cX5_begin 1 = .ok (.getfield 10, 3) := by decide +kernel
theorem dX5_begin_4 : decode cX5_begin 4 = .ok (.invokevirtual 29, 3) := by decide +kernel
theorem dX5_begin_7 : decode cX5_begin 7 = .ok (.istore_n 1, 1) := by decide +kernel
theorem dX5_begin_8 : decode cX5_begin 8 = .ok (.iload_n 1, 1) := by decide +kernel
theorem dX5_begin_9 : decode cX5_begin 9 = .ok (.bipush 6, 2) := by decide +kernel
theorem dX5_begin_11 : decode cX5_begin 11 = .ok (.if_icmp .lt 13, 3) := by decide +kernel
theorem dX5_begin_14 : decode cX5_begin 14 = .ok (.new 33, 3) := by decide +kernel
theorem dX5_begin_17 : decode cX5_begin 17 = .ok (.dup, 1) := by decide +kernel
theorem dX5_begin_18 : decode cX5_begin 18 = .ok (.ldc 35, 2) := by decide +kernel
theorem dX5_begin_20 : decode cX5_begin 20 = .ok (.invokespecial 37, 3) := by decide +kernel
theorem dX5_begin_23 : decode cX5_begin 23 = .ok (.athrow, 1) := by decide +kernel
theorem dX5_begin_24 : decode cX5_begin 24 = .ok (.aload_n 0, 1) := by decide +kernel
theorem dX5_begin_25 : decode cX5_begin 25 = .ok (.getfield 10, 3) := by decide +kernel
theorem dX5_begin_28 : decode cX5_begin 28 = .ok (.new 40, 3) := by decide +kernel
theorem dX5_begin_31 : decode cX5_begin 31 = .ok (.dup, 1) := by decide +kernel
theorem dX5_begin_32 : decode cX5_begin 32 = .ok (.invokespecial 42, 3) := by decide +kernel
theorem dX5_begin_35 : decode cX5_begin 35 = .ok (.invokevirtual 43, 3) := by decide +kernel
theorem dX5_begin_38 : decode cX5_begin 38 = .ok (.pop, 1) := by decide +kernel
theorem dX5_begin_39 : decode cX5_begin 39 = .ok (.iload_n 1, 1) := by decide +kernel
theorem dX5_begin_40 : decode cX5_begin 40 = .ok (.ireturn, 1) := by decide +kernel
theorem dX5_tell_0 : decode cX5_tell 0 = .ok (.aload_n 0, 1) := by decide +kernel
theorem dX5_tell_1 : decode cX5_tell 1 = .ok (.iload_n 1, 1) := by decide +kernel
theorem dX5_tell_2 : decode cX5_tell 2 = .ok (.invokevirtual 47, 3) := by decide +kernel
theorem dX5_tell_5 : decode cX5_tell 5 = .ok (.astore 5, 2) := by decide +kernel
theorem dX5_tell_7 : decode cX5_tell 7 = .ok (.iload_n 2, 1) := by decide +kernel
theorem dX5_tell_8 : decode cX5_tell 8 = .ok (.invokestatic 51, 3) := by decide +kernel
theorem dX5_tell_11 : decode cX5_tell 11 = .ok (.iload_n 3, 1) := by decide +kernel
theorem dX5_tell_12 : decode cX5_tell 12 = .ok (.invokestatic 55, 3) := by decide +kernel
theorem dX5_tell_15 : decode cX5_tell 15 = .ok (.iload 4, 2) := by decide +kernel
theorem dX5_tell_17 : decode cX5_tell 17 = .ok (.iconst (-1), 1) := by decide +kernel
theorem dX5_tell_18 : decode cX5_tell 18 = .ok (.if_icmp .lt 9, 3) := by decide +kernel
theorem dX5_tell_21 : decode cX5_tell 21 = .ok (.iload 4, 2) := by decide +kernel
theorem dX5_tell_23 : decode cX5_tell 23 = .ok (.iconst 2, 1) := by decide +kernel
theorem dX5_tell_24 : decode cX5_tell 24 = .ok (.if_icmp .le 13, 3) := by decide +kernel
theorem dX5_tell_27 : decode cX5_tell 27 = .ok (.new 58, 3) := by decide +kernel
theorem dX5_tell_30 : decode cX5_tell 30 = .ok (.dup, 1) := by decide +kernel
theorem dX5_tell_31 : decode cX5_tell 31 = .ok (.ldc 60, 2) := by decide +kernel
theorem dX5_tell_33 : decode cX5_tell 33 = .ok (.invokespecial 62, 3) := by decide +kernel
theorem dX5_tell_36 : decode cX5_tell 36 = .ok (.athrow, 1) := by decide +kernel
end
section
theorem dX5_tell_37 : decode cX5_tell 37 = .ok (.aload 5, 2) := by decide +kernel
theorem dX5_tell_39 : decode cX5_tell 39 = .ok (.iload_n 2, 1) := by decide +kernel
theorem dX5_tell_40 : decode cX5_tell 40 = .ok (.invokestatic 63, 3) := by decide +kernel
theorem dX5_tell_43 : decode cX5_tell 43 = .ok (.aload 5, 2) := by decide +kernel
theorem dX5_tell_45 : decode cX5_tell 45 = .ok (.getfield 67, 3) := by decide +kernel
theorem dX5_tell_48 : decode cX5_tell 48 = .ok (.iload_n 3, 1) := by decide +kernel
theorem dX5_tell_49 : decode cX5_tell 49 = .ok (.iaload, 1) := by decide +kernel
theorem dX5_tell_50 : decode cX5_tell 50 = .ok (.istore 6, 2) := by decide +kernel
theorem dX5_tell_52 : decode cX5_tell 52 = .ok (.aload 5, 2) := by decide +kernel
theorem dX5_tell_54 : decode cX5_tell 54 = .ok (.getfield 67, 3) := by decide +kernel
theorem dX5_tell_57 : decode cX5_tell 57 = .ok (.iload_n 3, 1) := by decide +kernel
theorem dX5_tell_58 : decode cX5_tell 58 = .ok (.iload 4, 2) := by decide +kernel
theorem dX5_tell_60 : decode cX5_tell 60 = .ok (.iastore, 1) := by decide +kernel
theorem dX5_tell_61 : decode cX5_tell 61 = .ok (.iload 6, 2) := by decide +kernel
theorem dX5_tell_63 : decode cX5_tell 63 = .ok (.ireturn, 1) := by decide +kernel
theorem dX5_setExit_0 : decode cX5_setExit 0 = .ok (.aload_n 0, 1) := by decide +kernel
theorem dX5_setExit_1 : decode cX5_setExit 1 = .ok (.iload_n 1, 1) := by decide +kernel
theorem dX5_setExit_2 : decode cX5_setExit 2 = .ok (.invokevirtual 47, 3) := by decide +kernel
theorem dX5_setExit_5 : decode cX5_setExit 5 = .ok (.astore 5, 2) := by decide +kernel
theorem dX5_setExit_7 : decode cX5_setExit 7 = .ok (.iload_n 2, 1) := by decide +kernel
theorem dX5_setExit_8 : decode cX5_setExit 8 = .ok (.invokestatic 51, 3) := by decide +kernel
theorem dX5_setExit_11 : decode cX5_setExit 11 = .ok (.iload_n 3, 1) := by decide +kernel
theorem dX5_setExit_12 : decode cX5_setExit 12 = .ok (.invokestatic 71, 3) := by decide +kernel
theorem dX5_setExit_15 : decode cX5_setExit 15 = .ok (.aload 5, 2) := by decide +kernel
theorem dX5_setExit_17 : decode cX5_setExit 17 = .ok (.iload_n 2, 1) := by decide +kernel
theorem dX5_setExit_18 : decode cX5_setExit 18 = .ok (.invokestatic 63, 3) := by decide +kernel
theorem dX5_setExit_21 : decode cX5_setExit 21 = .ok (.aload 5, 2) := by decide +kernel
theorem dX5_setExit_23 : decode cX5_setExit 23 = .ok (.getfield 74, 3) := by decide +kernel
theorem dX5_setExit_26 : decode cX5_setExit 26 = .ok (.iload_n 3, 1) := by decide +kernel
theorem dX5_setExit_27 : decode cX5_setExit 27 = .ok (.baload, 1) := by decide +kernel
theorem dX5_setExit_28 : decode cX5_setExit 28 = .ok (.istore 6, 2) := by decide +kernel
theorem dX5_setExit_30 : decode cX5_setExit 30 = .ok (.aload 5, 2) := by decide +kernel
theorem dX5_setExit_32 : decode cX5_setExit 32 = .ok (.getfield 74, 3) := by decide +kernel
theorem dX5_setExit_35 : decode cX5_setExit 35 = .ok (.iload_n 3, 1) := by decide +kernel
theorem dX5_setExit_36 : decode cX5_setExit 36 = .ok (.iload 4, 2) := by decide +kernel
theorem dX5_setExit_38 : decode cX5_setExit 38 = .ok (.bastore, 1) := by decide +kernel
theorem dX5_setExit_39 : decode cX5_setExit 39 = .ok (.iload 6, 2) := by decide +kernel
theorem dX5_setExit_41 : decode cX5_setExit 41 = .ok (.ireturn, 1) := by decide +kernel
theorem dX5_refer_0 : decode cX5_refer 0 = .ok (.aload_n 0, 1) := by decide +kernel
theorem dX5_refer_1 : decode cX5_refer 1 = .ok (.iload_n 1, 1) := by decide +kernel
theorem dX5_refer_2 : decode cX5_refer 2 = .ok (.invokevirtual 47, 3) := by decide +kernel
theorem dX5_refer_5 : decode cX5_refer 5 = .ok (.astore 5, 2) := by decide +kernel
theorem dX5_refer_7 : decode cX5_refer 7 = .ok (.aload_n 0, 1) := by decide +kernel
theorem dX5_refer_8 : decode cX5_refer 8 = .ok (.iload_n 3, 1) := by decide +kernel
theorem dX5_refer_9 : decode cX5_refer 9 = .ok (.invokevirtual 47, 3) := by decide +kernel
theorem dX5_refer_12 : decode cX5_refer 12 = .ok (.astore 6, 2) := by decide +kernel
theorem dX5_refer_14 : decode cX5_refer 14 = .ok (.iload_n 2, 1) := by decide +kernel
theorem dX5_refer_15 : decode cX5_refer 15 = .ok (.invokestatic 51, 3) := by decide +kernel
theorem dX5_refer_18 : decode cX5_refer 18 = .ok (.aload 5, 2) := by decide +kernel
theorem dX5_refer_20 : decode cX5_refer 20 = .ok (.iload_n 2, 1) := by decide +kernel
theorem dX5_refer_21 : decode cX5_refer 21 = .ok (.invokestatic 63, 3) := by decide +kernel
theorem dX5_refer_24 : decode cX5_refer 24 = .ok (.iload 4, 2) := by decide +kernel
theorem dX5_refer_26 : decode cX5_refer 26 = .ok (.ifCond .eq 23, 3) := by decide +kernel
theorem dX5_refer_29 : decode cX5_refer 29 = .ok (.aload 6, 2) := by decide +kernel
theorem dX5_refer_31 : decode cX5_refer 31 = .ok (.aload 5, 2) := by decide +kernel
theorem dX5_refer_33 : decode cX5_refer 33 = .ok (.invokevirtual 78, 3) := by decide +kernel
theorem dX5_refer_36 : decode cX5_refer 36 = .ok (.ifCond .eq 13, 3) := by decide +kernel
theorem dX5_refer_39 : decode cX5_refer 39 = .ok (.new 33, 3) := by decide +kernel
theorem dX5_refer_42 : decode cX5_refer 42 = .ok (.dup, 1) := by decide +kernel
theorem dX5_refer_43 : decode cX5_refer 43 = .ok (.ldc 82, 2) := by decide +kernel
theorem dX5_refer_45 : decode cX5_refer 45 = .ok (.invokespecial 37, 3) := by decide +kernel
theorem dX5_refer_48 : decode cX5_refer 48 = .ok (.athrow, 1) := by decide +kernel
theorem dX5_refer_49 : decode cX5_refer 49 = .ok (.aload 5, 2) := by decide +kernel
theorem dX5_refer_51 : decode cX5_refer 51 = .ok (.getfield 84, 3) := by decide +kernel
theorem dX5_refer_54 : decode cX5_refer 54 = .ok (.iload_n 3, 1) := by decide +kernel
theorem dX5_refer_55 : decode cX5_refer 55 = .ok (.aaload, 1) := by decide +kernel
theorem dX5_refer_56 : decode cX5_refer 56 = .ok (.ifnull 7, 3) := by decide +kernel
theorem dX5_refer_59 : decode cX5_refer 59 = .ok (.iconst 1, 1) := by decide +kernel
theorem dX5_refer_60 : decode cX5_refer 60 = .ok (.goto 4, 3) := by decide +kernel
theorem dX5_refer_63 : decode cX5_refer 63 = .ok (.iconst 0, 1) := by decide +kernel
theorem dX5_refer_64 : decode cX5_refer 64 = .ok (.istore 7, 2) := by decide +kernel
theorem dX5_refer_66 : decode cX5_refer 66 = .ok (.aload 5, 2) := by decide +kernel
theorem dX5_refer_68 : decode cX5_refer 68 = .ok (.getfield 84, 3) := by decide +kernel
theorem dX5_refer_71 : decode cX5_refer 71 = .ok (.iload_n 3, 1) := by decide +kernel
theorem dX5_refer_72 : decode cX5_refer 72 = .ok (.iload 4, 2) := by decide +kernel
theorem dX5_refer_74 : decode cX5_refer 74 = .ok (.ifCond .eq 8, 3) := by decide +kernel
theorem dX5_refer_77 : decode cX5_refer 77 = .ok (.aload 6, 2) := by decide +kernel
theorem dX5_refer_79 : decode cX5_refer 79 = .ok (.goto 4, 3) := by decide +kernel
theorem dX5_refer_82 : decode cX5_refer 82 = .ok (.aconst_null, 1) := by decide +kernel
theorem dX5_refer_83 : decode cX5_refer 83 = .ok (.aastore, 1) := by decide +kernel
theorem dX5_refer_84 : decode cX5_refer 84 = .ok (.iload 7, 2) := by decide +kernel
theorem dX5_refer_86 : decode cX5_refer 86 = .ok (.ireturn, 1) := by decide +kernel
theorem dX5_drawings_0 : decode cX5_drawings 0 = .ok (.aload_n 0, 1) := by decide +kernel
theorem dX5_drawings_1 : decode cX5_drawings 1 = .ok (.getfield 10, 3) := by decide +kernel
theorem dX5_drawings_4 : decode cX5_drawings 4 = .ok (.invokevirtual 29, 3) := by decide +kernel
theorem dX5_drawings_7 : decode cX5_drawings 7 = .ok (.ireturn, 1) := by decide +kernel
theorem dX5_side_0 : decode cX5_side 0 = .ok (.aload_n 0, 1) := by decide +kernel
theorem dX5_side_1 : decode cX5_side 1 = .ok (.iload_n 1, 1) := by decide +kernel
theorem dX5_side_2 : decode cX5_side 2 = .ok (.invokevirtual 47, 3) := by decide +kernel
theorem dX5_side_5 : decode cX5_side 5 = .ok (.astore_n 3, 1) := by decide +kernel
theorem dX5_side_6 : decode cX5_side 6 = .ok (.iload_n 2, 1) := by decide +kernel
theorem dX5_side_7 : decode cX5_side 7 = .ok (.invokestatic 55, 3) := by decide +kernel
theorem dX5_side_10 : decode cX5_side 10 = .ok (.aload_n 3, 1) := by decide +kernel
theorem dX5_side_11 : decode cX5_side 11 = .ok (.iload_n 2, 1) := by decide +kernel
theorem dX5_side_12 : decode cX5_side 12 = .ok (.invokevirtual 88, 3) := by decide +kernel
theorem dX5_side_15 : decode cX5_side 15 = .ok (.ireturn, 1) := by decide +kernel
theorem dX5_hasExit_0 : decode cX5_hasExit 0 = .ok (.aload_n 0, 1) := by decide +kernel
theorem dX5_hasExit_1 : decode cX5_hasExit 1 = .ok (.iload_n 1, 1) := by decide +kernel
theorem dX5_hasExit_2 : decode cX5_hasExit 2 = .ok (.invokevirtual 47, 3) := by decide +kernel
theorem dX5_hasExit_5 : decode cX5_hasExit 5 = .ok (.astore_n 3, 1) := by decide +kernel
theorem dX5_hasExit_6 : decode cX5_hasExit 6 = .ok (.iload_n 2, 1) := by decide +kernel
theorem dX5_hasExit_7 : decode cX5_hasExit 7 = .ok (.invokestatic 71, 3) := by decide +kernel
theorem dX5_hasExit_10 : decode cX5_hasExit 10 = .ok (.aload_n 3, 1) := by decide +kernel
theorem dX5_hasExit_11 : decode cX5_hasExit 11 = .ok (.iload_n 2, 1) := by decide +kernel
theorem dX5_hasExit_12 : decode cX5_hasExit 12 = .ok (.invokevirtual 92, 3) := by decide +kernel
theorem dX5_hasExit_15 : decode cX5_hasExit 15 = .ok (.ireturn, 1) := by decide +kernel
theorem dX5_rooms_0 : decode cX5_rooms 0 = .ok (.aload_n 0, 1) := by decide +kernel
theorem dX5_rooms_1 : decode cX5_rooms 1 = .ok (.getfield 25, 3) := by decide +kernel
theorem dX5_rooms_4 : decode cX5_rooms 4 = .ok (.aload_n 0, 1) := by decide +kernel
theorem dX5_rooms_5 : decode cX5_rooms 5 = .ok (.iload_n 1, 1) := by decide +kernel
theorem dX5_rooms_6 : decode cX5_rooms 6 = .ok (.invokevirtual 47, 3) := by decide +kernel
theorem dX5_rooms_9 : decode cX5_rooms 9 = .ok (.invokevirtual 96, 3) := by decide +kernel
theorem dX5_rooms_12 : decode cX5_rooms 12 = .ok (.aload_n 0, 1) := by decide +kernel
theorem dX5_rooms_13 : decode cX5_rooms 13 = .ok (.getfield 25, 3) := by decide +kernel
theorem dX5_rooms_16 : decode cX5_rooms 16 = .ok (.invokevirtual 100, 3) := by decide +kernel
theorem dX5_rooms_19 : decode cX5_rooms 19 = .ok (.ireturn, 1) := by decide +kernel
theorem dX5_room_0 : decode cX5_room 0 = .ok (.aload_n 0, 1) := by decide +kernel
theorem dX5_room_1 : decode cX5_room 1 = .ok (.iload_n 1, 1) := by decide +kernel
theorem dX5_room_2 : decode cX5_room 2 = .ok (.invokevirtual 47, 3) := by decide +kernel
theorem dX5_room_5 : decode cX5_room 5 = .ok (.astore_n 3, 1) := by decide +kernel
theorem dX5_room_6 : decode cX5_room 6 = .ok (.iload_n 2, 1) := by decide +kernel
theorem dX5_room_7 : decode cX5_room 7 = .ok (.invokestatic 71, 3) := by decide +kernel
theorem dX5_room_10 : decode cX5_room 10 = .ok (.aload_n 0, 1) := by decide +kernel
theorem dX5_room_11 : decode cX5_room 11 = .ok (.getfield 25, 3) := by decide +kernel
theorem dX5_room_14 : decode cX5_room 14 = .ok (.aload_n 3, 1) := by decide +kernel
theorem dX5_room_15 : decode cX5_room 15 = .ok (.invokevirtual 96, 3) := by decide +kernel
theorem dX5_room_18 : decode cX5_room 18 = .ok (.aload_n 0, 1) := by decide +kernel
theorem dX5_room_19 : decode cX5_room 19 = .ok (.getfield 25, 3) := by decide +kernel
theorem dX5_room_22 : decode cX5_room 22 = .ok (.getfield 103, 3) := by decide +kernel
theorem dX5_room_25 : decode cX5_room 25 = .ok (.iload_n 2, 1) := by decide +kernel
theorem dX5_room_26 : decode cX5_room 26 = .ok (.iaload, 1) := by decide +kernel
theorem dX5_room_27 : decode cX5_room 27 = .ok (.ireturn, 1) := by decide +kernel
theorem dX5_size_0 : decode cX5_size 0 = .ok (.aload_n 0, 1) := by decide +kernel
theorem dX5_size_1 : decode cX5_size 1 = .ok (.iload_n 1, 1) := by decide +kernel
theorem dX5_size_2 : decode cX5_size 2 = .ok (.invokevirtual 47, 3) := by decide +kernel
theorem dX5_size_5 : decode cX5_size 5 = .ok (.astore_n 3, 1) := by decide +kernel
theorem dX5_size_6 : decode cX5_size 6 = .ok (.iload_n 2, 1) := by decide +kernel
theorem dX5_size_7 : decode cX5_size 7 = .ok (.invokestatic 71, 3) := by decide +kernel
theorem dX5_size_10 : decode cX5_size 10 = .ok (.aload_n 0, 1) := by decide +kernel
theorem dX5_size_11 : decode cX5_size 11 = .ok (.getfield 25, 3) := by decide +kernel
theorem dX5_size_14 : decode cX5_size 14 = .ok (.aload_n 3, 1) := by decide +kernel
theorem dX5_size_15 : decode cX5_size 15 = .ok (.invokevirtual 96, 3) := by decide +kernel
theorem dX5_size_18 : decode cX5_size 18 = .ok (.aload_n 0, 1) := by decide +kernel
theorem dX5_size_19 : decode cX5_size 19 = .ok (.getfield 25, 3) := by decide +kernel
theorem dX5_size_22 : decode cX5_size 22 = .ok (.aload_n 0, 1) := by decide +kernel
theorem dX5_size_23 : decode cX5_size 23 = .ok (.getfield 25, 3) := by decide +kernel
theorem dX5_size_26 : decode cX5_size 26 = .ok (.getfield 103, 3) := by decide +kernel
theorem dX5_size_29 : decode cX5_size 29 = .ok (.iload_n 2, 1) := by decide +kernel
theorem dX5_size_30 : decode cX5_size 30 = .ok (.iaload, 1) := by decide +kernel
theorem dX5_size_31 : decode cX5_size 31 = .ok (.invokevirtual 106, 3) := by decide +kernel
theorem dX5_size_34 : decode cX5_size 34 = .ok (.ireturn, 1) := by decide +kernel
theorem dX5_doorsOut_0 : decode cX5_doorsOut 0 = .ok (.aload_n 0, 1) := by decide +kernel
theorem dX5_doorsOut_1 : decode cX5_doorsOut 1 = .ok (.iload_n 1, 1) := by decide +kernel
theorem dX5_doorsOut_2 : decode cX5_doorsOut 2 = .ok (.invokevirtual 47, 3) := by decide +kernel
theorem dX5_doorsOut_5 : decode cX5_doorsOut 5 = .ok (.astore_n 3, 1) := by decide +kernel
theorem dX5_doorsOut_6 : decode cX5_doorsOut 6 = .ok (.iload_n 2, 1) := by decide +kernel
theorem dX5_doorsOut_7 : decode cX5_doorsOut 7 = .ok (.invokestatic 71, 3) := by decide +kernel
theorem dX5_doorsOut_10 : decode cX5_doorsOut 10 = .ok (.aload_n 0, 1) := by decide +kernel
theorem dX5_doorsOut_11 : decode cX5_doorsOut 11 = .ok (.getfield 25, 3) := by decide +kernel
theorem dX5_doorsOut_14 : decode cX5_doorsOut 14 = .ok (.aload_n 3, 1) := by decide +kernel
theorem dX5_doorsOut_15 : decode cX5_doorsOut 15 = .ok (.invokevirtual 96, 3) := by decide +kernel
theorem dX5_doorsOut_18 : decode cX5_doorsOut 18 = .ok (.aload_n 0, 1) := by decide +kernel
theorem dX5_doorsOut_19 : decode cX5_doorsOut 19 = .ok (.getfield 25, 3) := by decide +kernel
theorem dX5_doorsOut_22 : decode cX5_doorsOut 22 = .ok (.getfield 109, 3) := by decide +kernel
theorem dX5_doorsOut_25 : decode cX5_doorsOut 25 = .ok (.aload_n 0, 1) := by decide +kernel
theorem dX5_doorsOut_26 : decode cX5_doorsOut 26 = .ok (.getfield 25, 3) := by decide +kernel
theorem dX5_doorsOut_29 : decode cX5_doorsOut 29 = .ok (.getfield 103, 3) := by decide +kernel
theorem dX5_doorsOut_32 : decode cX5_doorsOut 32 = .ok (.iload_n 2, 1) := by decide +kernel
theorem dX5_doorsOut_33 : decode cX5_doorsOut 33 = .ok (.iaload, 1) := by decide +kernel
theorem dX5_doorsOut_34 : decode cX5_doorsOut 34 = .ok (.iaload, 1) := by decide +kernel
theorem dX5_doorsOut_35 : decode cX5_doorsOut 35 = .ok (.ireturn, 1) := by decide +kernel
theorem dX5_doorThatHelps_0 : decode cX5_doorThatHelps 0 = .ok (.aload_n 0, 1) := by decide +kernel
theorem dX5_doorThatHelps_1 : decode cX5_doorThatHelps 1 = .ok (.iload_n 1, 1) := by decide +kernel
theorem dX5_doorThatHelps_2 : decode cX5_doorThatHelps 2 = .ok (.invokevirtual 47, 3) := by decide +kernel
theorem dX5_doorThatHelps_5 : decode cX5_doorThatHelps 5 = .ok (.astore_n 3, 1) := by decide +kernel
theorem dX5_doorThatHelps_6 : decode cX5_doorThatHelps 6 = .ok (.iload_n 2, 1) := by decide +kernel
theorem dX5_doorThatHelps_7 : decode cX5_doorThatHelps 7 = .ok (.invokestatic 71, 3) := by decide +kernel
theorem dX5_doorThatHelps_10 : decode cX5_doorThatHelps 10 = .ok (.aload_n 0, 1) := by decide +kernel
theorem dX5_doorThatHelps_11 : decode cX5_doorThatHelps 11 = .ok (.getfield 25, 3) := by decide +kernel
theorem dX5_doorThatHelps_14 : decode cX5_doorThatHelps 14 = .ok (.aload_n 3, 1) := by decide +kernel
theorem dX5_doorThatHelps_15 : decode cX5_doorThatHelps 15 = .ok (.invokevirtual 96, 3) := by decide +kernel
theorem dX5_doorThatHelps_18 : decode cX5_doorThatHelps 18 = .ok (.aload_n 0, 1) := by decide +kernel
theorem dX5_doorThatHelps_19 : decode cX5_doorThatHelps 19 = .ok (.getfield 25, 3) := by decide +kernel
theorem dX5_doorThatHelps_22 : decode cX5_doorThatHelps 22 = .ok (.aload_n 0, 1) := by decide +kernel
theorem dX5_doorThatHelps_23 : decode cX5_doorThatHelps 23 = .ok (.getfield 25, 3) := by decide +kernel
theorem dX5_doorThatHelps_26 : decode cX5_doorThatHelps 26 = .ok (.getfield 103, 3) := by decide +kernel
theorem dX5_doorThatHelps_29 : decode cX5_doorThatHelps 29 = .ok (.iload_n 2, 1) := by decide +kernel
theorem dX5_doorThatHelps_30 : decode cX5_doorThatHelps 30 = .ok (.iaload, 1) := by decide +kernel
theorem dX5_doorThatHelps_31 : decode cX5_doorThatHelps 31 = .ok (.invokevirtual 112, 3) := by decide +kernel
theorem dX5_doorThatHelps_34 : decode cX5_doorThatHelps 34 = .ok (.ireturn, 1) := by decide +kernel
theorem dX5_lock_0 : decode cX5_lock 0 = .ok (.aload_n 0, 1) := by decide +kernel
theorem dX5_lock_1 : decode cX5_lock 1 = .ok (.iload_n 1, 1) := by decide +kernel
theorem dX5_lock_2 : decode cX5_lock 2 = .ok (.invokevirtual 47, 3) := by decide +kernel
theorem dX5_lock_5 : decode cX5_lock 5 = .ok (.astore_n 3, 1) := by decide +kernel
theorem dX5_lock_6 : decode cX5_lock 6 = .ok (.iload_n 2, 1) := by decide +kernel
theorem dX5_lock_7 : decode cX5_lock 7 = .ok (.invokestatic 51, 3) := by decide +kernel
theorem dX5_lock_10 : decode cX5_lock 10 = .ok (.aload_n 3, 1) := by decide +kernel
theorem dX5_lock_11 : decode cX5_lock 11 = .ok (.getfield 115, 3) := by decide +kernel
theorem dX5_lock_14 : decode cX5_lock 14 = .ok (.iconst (-1), 1) := by decide +kernel
theorem dX5_lock_15 : decode cX5_lock 15 = .ok (.if_icmp .eq 13, 3) := by decide +kernel
theorem dX5_lock_18 : decode cX5_lock 18 = .ok (.new 33, 3) := by decide +kernel
theorem dX5_lock_21 : decode cX5_lock 21 = .ok (.dup, 1) := by decide +kernel
theorem dX5_lock_22 : decode cX5_lock 22 = .ok (.ldc 119, 2) := by decide +kernel
theorem dX5_lock_24 : decode cX5_lock 24 = .ok (.invokespecial 37, 3) := by decide +kernel
theorem dX5_lock_27 : decode cX5_lock 27 = .ok (.athrow, 1) := by decide +kernel
theorem dX5_lock_28 : decode cX5_lock 28 = .ok (.aload_n 3, 1) := by decide +kernel
theorem dX5_lock_29 : decode cX5_lock 29 = .ok (.iload_n 2, 1) := by decide +kernel
theorem dX5_lock_30 : decode cX5_lock 30 = .ok (.putfield 115, 3) := by decide +kernel
theorem dX5_lock_33 : decode cX5_lock 33 = .ok (.return_, 1) := by decide +kernel
theorem dX5_unlock_0 : decode cX5_unlock 0 = .ok (.aload_n 0, 1) := by decide +kernel
theorem dX5_unlock_1 : decode cX5_unlock 1 = .ok (.iload_n 1, 1) := by decide +kernel
theorem dX5_unlock_2 : decode cX5_unlock 2 = .ok (.invokevirtual 47, 3) := by decide +kernel
theorem dX5_unlock_5 : decode cX5_unlock 5 = .ok (.astore_n 3, 1) := by decide +kernel
theorem dX5_unlock_6 : decode cX5_unlock 6 = .ok (.iload_n 2, 1) := by decide +kernel
theorem dX5_unlock_7 : decode cX5_unlock 7 = .ok (.invokestatic 51, 3) := by decide +kernel
theorem dX5_unlock_10 : decode cX5_unlock 10 = .ok (.aload_n 3, 1) := by decide +kernel
theorem dX5_unlock_11 : decode cX5_unlock 11 = .ok (.iload_n 2, 1) := by decide +kernel
theorem dX5_unlock_12 : decode cX5_unlock 12 = .ok (.invokestatic 121, 3) := by decide +kernel
theorem dX5_unlock_15 : decode cX5_unlock 15 = .ok (.aload_n 3, 1) := by decide +kernel
theorem dX5_unlock_16 : decode cX5_unlock 16 = .ok (.getfield 124, 3) := by decide +kernel
theorem dX5_unlock_19 : decode cX5_unlock 19 = .ok (.iconst (-1), 1) := by decide +kernel
theorem dX5_unlock_20 : decode cX5_unlock 20 = .ok (.if_icmp .eq 13, 3) := by decide +kernel
theorem dX5_unlock_23 : decode cX5_unlock 23 = .ok (.new 33, 3) := by decide +kernel
theorem dX5_unlock_26 : decode cX5_unlock 26 = .ok (.dup, 1) := by decide +kernel
theorem dX5_unlock_27 : decode cX5_unlock 27 = .ok (.ldc 127, 2) := by decide +kernel
theorem dX5_unlock_29 : decode cX5_unlock 29 = .ok (.invokespecial 37, 3) := by decide +kernel
theorem dX5_unlock_32 : decode cX5_unlock 32 = .ok (.athrow, 1) := by decide +kernel
theorem dX5_unlock_33 : decode cX5_unlock 33 = .ok (.aload_n 3, 1) := by decide +kernel
theorem dX5_unlock_34 : decode cX5_unlock 34 = .ok (.iconst (-1), 1) := by decide +kernel
theorem dX5_unlock_35 : decode cX5_unlock 35 = .ok (.putfield 115, 3) := by decide +kernel
theorem dX5_unlock_38 : decode cX5_unlock 38 = .ok (.return_, 1) := by decide +kernel
theorem dX5_lend_0 : decode cX5_lend 0 = .ok (.aload_n 0, 1) := by decide +kernel
theorem dX5_lend_1 : decode cX5_lend 1 = .ok (.iload_n 1, 1) := by decide +kernel
theorem dX5_lend_2 : decode cX5_lend 2 = .ok (.invokevirtual 47, 3) := by decide +kernel
theorem dX5_lend_5 : decode cX5_lend 5 = .ok (.astore 4, 2) := by decide +kernel
theorem dX5_lend_7 : decode cX5_lend 7 = .ok (.iload_n 2, 1) := by decide +kernel
theorem dX5_lend_8 : decode cX5_lend 8 = .ok (.invokestatic 51, 3) := by decide +kernel
theorem dX5_lend_11 : decode cX5_lend 11 = .ok (.iload_n 3, 1) := by decide +kernel
theorem dX5_lend_12 : decode cX5_lend 12 = .ok (.iconst (-1), 1) := by decide +kernel
theorem dX5_lend_13 : decode cX5_lend 13 = .ok (.if_icmp .eq 7, 3) := by decide +kernel
theorem dX5_lend_16 : decode cX5_lend 16 = .ok (.iload_n 3, 1) := by decide +kernel
theorem dX5_lend_17 : decode cX5_lend 17 = .ok (.invokestatic 51, 3) := by decide +kernel
theorem dX5_lend_20 : decode cX5_lend 20 = .ok (.iload_n 2, 1) := by decide +kernel
theorem dX5_lend_21 : decode cX5_lend 21 = .ok (.iload_n 3, 1) := by decide +kernel
theorem dX5_lend_22 : decode cX5_lend 22 = .ok (.if_icmp .ne 13, 3) := by decide +kernel
theorem dX5_lend_25 : decode cX5_lend 25 = .ok (.new 58, 3) := by decide +kernel
theorem dX5_lend_28 : decode cX5_lend 28 = .ok (.dup, 1) := by decide +kernel
theorem dX5_lend_29 : decode cX5_lend 29 = .ok (.ldc 129, 2) := by decide +kernel
theorem dX5_lend_31 : decode cX5_lend 31 = .ok (.invokespecial 62, 3) := by decide +kernel
theorem dX5_lend_34 : decode cX5_lend 34 = .ok (.athrow, 1) := by decide +kernel
theorem dX5_lend_35 : decode cX5_lend 35 = .ok (.aload 4, 2) := by decide +kernel
theorem dX5_lend_37 : decode cX5_lend 37 = .ok (.iload_n 2, 1) := by decide +kernel
theorem dX5_lend_38 : decode cX5_lend 38 = .ok (.invokestatic 121, 3) := by decide +kernel
theorem dX5_lend_41 : decode cX5_lend 41 = .ok (.aload 4, 2) := by decide +kernel
theorem dX5_lend_43 : decode cX5_lend 43 = .ok (.getfield 124, 3) := by decide +kernel
theorem dX5_lend_46 : decode cX5_lend 46 = .ok (.istore 5, 2) := by decide +kernel
theorem dX5_lend_48 : decode cX5_lend 48 = .ok (.aload 4, 2) := by decide +kernel
theorem dX5_lend_50 : decode cX5_lend 50 = .ok (.iload_n 3, 1) := by decide +kernel
theorem dX5_lend_51 : decode cX5_lend 51 = .ok (.putfield 124, 3) := by decide +kernel
theorem dX5_lend_54 : decode cX5_lend 54 = .ok (.iload 5, 2) := by decide +kernel
theorem dX5_lend_56 : decode cX5_lend 56 = .ok (.ireturn, 1) := by decide +kernel
theorem dX5_canChange_0 : decode cX5_canChange 0 = .ok (.aload_n 0, 1) := by decide +kernel
theorem dX5_canChange_1 : decode cX5_canChange 1 = .ok (.iload_n 1, 1) := by decide +kernel
theorem dX5_canChange_2 : decode cX5_canChange 2 = .ok (.invokevirtual 47, 3) := by decide +kernel
theorem dX5_canChange_5 : decode cX5_canChange 5 = .ok (.invokevirtual 131, 3) := by decide +kernel
theorem dX5_canChange_8 : decode cX5_canChange 8 = .ok (.ireturn, 1) := by decide +kernel
theorem dX5_grant_0 : decode cX5_grant 0 = .ok (.aload_n 0, 1) := by decide +kernel
theorem dX5_grant_1 : decode cX5_grant 1 = .ok (.iload_n 1, 1) := by decide +kernel
theorem dX5_grant_2 : decode cX5_grant 2 = .ok (.invokevirtual 47, 3) := by decide +kernel
theorem dX5_grant_5 : decode cX5_grant 5 = .ok (.astore_n 2, 1) := by decide +kernel
theorem dX5_grant_6 : decode cX5_grant 6 = .ok (.aload_n 0, 1) := by decide +kernel
theorem dX5_grant_7 : decode cX5_grant 7 = .ok (.getfield 16, 3) := by decide +kernel
theorem dX5_grant_10 : decode cX5_grant 10 = .ok (.invokevirtual 29, 3) := by decide +kernel
theorem dX5_grant_13 : decode cX5_grant 13 = .ok (.istore_n 3, 1) := by decide +kernel
theorem dX5_grant_14 : decode cX5_grant 14 = .ok (.iload_n 3, 1) := by decide +kernel
theorem dX5_grant_15 : decode cX5_grant 15 = .ok (.bipush 20, 2) := by decide +kernel
theorem dX5_grant_17 : decode cX5_grant 17 = .ok (.if_icmp .lt 13, 3) := by decide +kernel
theorem dX5_grant_20 : decode cX5_grant 20 = .ok (.new 33, 3) := by decide +kernel
theorem dX5_grant_23 : decode cX5_grant 23 = .ok (.dup, 1) := by decide +kernel
theorem dX5_grant_24 : decode cX5_grant 24 = .ok (.ldc 134, 2) := by decide +kernel
theorem dX5_grant_26 : decode cX5_grant 26 = .ok (.invokespecial 37, 3) := by decide +kernel
theorem dX5_grant_29 : decode cX5_grant 29 = .ok (.athrow, 1) := by decide +kernel
theorem dX5_grant_30 : decode cX5_grant 30 = .ok (.aload_n 0, 1) := by decide +kernel
theorem dX5_grant_31 : decode cX5_grant 31 = .ok (.getfield 25, 3) := by decide +kernel
theorem dX5_grant_34 : decode cX5_grant 34 = .ok (.aload_n 2, 1) := by decide +kernel
theorem dX5_grant_35 : decode cX5_grant 35 = .ok (.invokevirtual 96, 3) := by decide +kernel
theorem dX5_grant_38 : decode cX5_grant 38 = .ok (.aload_n 0, 1) := by decide +kernel
theorem dX5_grant_39 : decode cX5_grant 39 = .ok (.getfield 25, 3) := by decide +kernel
theorem dX5_grant_42 : decode cX5_grant 42 = .ok (.invokevirtual 136, 3) := by decide +kernel
theorem dX5_grant_45 : decode cX5_grant 45 = .ok (.ifCond .ne 13, 3) := by decide +kernel
theorem dX5_grant_48 : decode cX5_grant 48 = .ok (.new 33, 3) := by decide +kernel
theorem dX5_grant_51 : decode cX5_grant 51 = .ok (.dup, 1) := by decide +kernel
theorem dX5_grant_52 : decode cX5_grant 52 = .ok (.ldc 140, 2) := by decide +kernel
theorem dX5_grant_54 : decode cX5_grant 54 = .ok (.invokespecial 37, 3) := by decide +kernel
theorem dX5_grant_57 : decode cX5_grant 57 = .ok (.athrow, 1) := by decide +kernel
theorem dX5_grant_58 : decode cX5_grant 58 = .ok (.aload_n 0, 1) := by decide +kernel
theorem dX5_grant_59 : decode cX5_grant 59 = .ok (.getfield 16, 3) := by decide +kernel
theorem dX5_grant_62 : decode cX5_grant 62 = .ok (.new 142, 3) := by decide +kernel
theorem dX5_grant_65 : decode cX5_grant 65 = .ok (.dup, 1) := by decide +kernel
theorem dX5_grant_66 : decode cX5_grant 66 = .ok (.aload_n 2, 1) := by decide +kernel
theorem dX5_grant_67 : decode cX5_grant 67 = .ok (.invokespecial 144, 3) := by decide +kernel
theorem dX5_grant_70 : decode cX5_grant 70 = .ok (.invokevirtual 43, 3) := by decide +kernel
theorem dX5_grant_73 : decode cX5_grant 73 = .ok (.pop, 1) := by decide +kernel
theorem dX5_grant_74 : decode cX5_grant 74 = .ok (.iload_n 3, 1) := by decide +kernel
theorem dX5_grant_75 : decode cX5_grant 75 = .ok (.ireturn, 1) := by decide +kernel
theorem dX5_holds_0 : decode cX5_holds 0 = .ok (.iload_n 1, 1) := by decide +kernel
theorem dX5_holds_1 : decode cX5_holds 1 = .ok (.ifCond .lt 14, 3) := by decide +kernel
theorem dX5_holds_4 : decode cX5_holds 4 = .ok (.iload_n 1, 1) := by decide +kernel
theorem dX5_holds_5 : decode cX5_holds 5 = .ok (.aload_n 0, 1) := by decide +kernel
theorem dX5_holds_6 : decode cX5_holds 6 = .ok (.getfield 16, 3) := by decide +kernel
theorem dX5_holds_9 : decode cX5_holds 9 = .ok (.invokevirtual 29, 3) := by decide +kernel
theorem dX5_holds_12 : decode cX5_holds 12 = .ok (.if_icmp .lt 13, 3) := by decide +kernel
theorem dX5_holds_15 : decode cX5_holds 15 = .ok (.new 146, 3) := by decide +kernel
theorem dX5_holds_18 : decode cX5_holds 18 = .ok (.dup, 1) := by decide +kernel
theorem dX5_holds_19 : decode cX5_holds 19 = .ok (.ldc 148, 2) := by decide +kernel
theorem dX5_holds_21 : decode cX5_holds 21 = .ok (.invokespecial 150, 3) := by decide +kernel
theorem dX5_holds_24 : decode cX5_holds 24 = .ok (.athrow, 1) := by decide +kernel
theorem dX5_holds_25 : decode cX5_holds 25 = .ok (.aload_n 0, 1) := by decide +kernel
theorem dX5_holds_26 : decode cX5_holds 26 = .ok (.getfield 16, 3) := by decide +kernel
theorem dX5_holds_29 : decode cX5_holds 29 = .ok (.iload_n 1, 1) := by decide +kernel
theorem dX5_holds_30 : decode cX5_holds 30 = .ok (.invokevirtual 151, 3) := by decide +kernel
theorem dX5_holds_33 : decode cX5_holds 33 = .ok (.checkcast 142, 3) := by decide +kernel
theorem dX5_holds_36 : decode cX5_holds 36 = .ok (.invokevirtual 155, 3) := by decide +kernel
theorem dX5_holds_39 : decode cX5_holds 39 = .ok (.ireturn, 1) := by decide +kernel
theorem dX5_print_0 : decode cX5_print 0 = .ok (.aload_n 0, 1) := by decide +kernel
theorem dX5_print_1 : decode cX5_print 1 = .ok (.iload_n 1, 1) := by decide +kernel
theorem dX5_print_2 : decode cX5_print 2 = .ok (.invokevirtual 47, 3) := by decide +kernel
theorem dX5_print_5 : decode cX5_print 5 = .ok (.astore_n 2, 1) := by decide +kernel
theorem dX5_print_6 : decode cX5_print 6 = .ok (.aload_n 0, 1) := by decide +kernel
theorem dX5_print_7 : decode cX5_print 7 = .ok (.getfield 19, 3) := by decide +kernel
theorem dX5_print_10 : decode cX5_print 10 = .ok (.invokevirtual 29, 3) := by decide +kernel
theorem dX5_print_13 : decode cX5_print 13 = .ok (.istore_n 3, 1) := by decide +kernel
theorem dX5_print_14 : decode cX5_print 14 = .ok (.iload_n 3, 1) := by decide +kernel
theorem dX5_print_15 : decode cX5_print 15 = .ok (.bipush 30, 2) := by decide +kernel
theorem dX5_print_17 : decode cX5_print 17 = .ok (.if_icmp .lt 13, 3) := by decide +kernel
theorem dX5_print_20 : decode cX5_print 20 = .ok (.new 33, 3) := by decide +kernel
theorem dX5_print_23 : decode cX5_print 23 = .ok (.dup, 1) := by decide +kernel
theorem dX5_print_24 : decode cX5_print 24 = .ok (.ldc 158, 2) := by decide +kernel
theorem dX5_print_26 : decode cX5_print 26 = .ok (.invokespecial 37, 3) := by decide +kernel
theorem dX5_print_29 : decode cX5_print 29 = .ok (.athrow, 1) := by decide +kernel
theorem dX5_print_30 : decode cX5_print 30 = .ok (.aload_n 0, 1) := by decide +kernel
theorem dX5_print_31 : decode cX5_print 31 = .ok (.getfield 19, 3) := by decide +kernel
theorem dX5_print_34 : decode cX5_print 34 = .ok (.new 160, 3) := by decide +kernel
theorem dX5_print_37 : decode cX5_print 37 = .ok (.dup, 1) := by decide +kernel
theorem dX5_print_38 : decode cX5_print 38 = .ok (.aload_n 2, 1) := by decide +kernel
theorem dX5_print_39 : decode cX5_print 39 = .ok (.aload_n 0, 1) := by decide +kernel
theorem dX5_print_40 : decode cX5_print 40 = .ok (.aload_n 2, 1) := by decide +kernel
theorem dX5_print_41 : decode cX5_print 41 = .ok (.invokevirtual 162, 3) := by decide +kernel
theorem dX5_print_44 : decode cX5_print 44 = .ok (.invokespecial 166, 3) := by decide +kernel
theorem dX5_print_47 : decode cX5_print 47 = .ok (.invokevirtual 43, 3) := by decide +kernel
theorem dX5_print_50 : decode cX5_print 50 = .ok (.pop, 1) := by decide +kernel
theorem dX5_print_51 : decode cX5_print 51 = .ok (.iload_n 3, 1) := by decide +kernel
theorem dX5_print_52 : decode cX5_print 52 = .ok (.ireturn, 1) := by decide +kernel
theorem dX5_permitOf_0 : decode cX5_permitOf 0 = .ok (.aload_n 0, 1) := by decide +kernel
theorem dX5_permitOf_1 : decode cX5_permitOf 1 = .ok (.iload_n 1, 1) := by decide +kernel
theorem dX5_permitOf_2 : decode cX5_permitOf 2 = .ok (.invokevirtual 168, 3) := by decide +kernel
theorem dX5_permitOf_5 : decode cX5_permitOf 5 = .ok (.getfield 172, 3) := by decide +kernel
theorem dX5_permitOf_8 : decode cX5_permitOf 8 = .ok (.ireturn, 1) := by decide +kernel
theorem dX5_isGood_0 : decode cX5_isGood 0 = .ok (.aload_n 0, 1) := by decide +kernel
theorem dX5_isGood_1 : decode cX5_isGood 1 = .ok (.iload_n 1, 1) := by decide +kernel
theorem dX5_isGood_2 : decode cX5_isGood 2 = .ok (.invokevirtual 168, 3) := by decide +kernel
theorem dX5_isGood_5 : decode cX5_isGood 5 = .ok (.astore_n 2, 1) := by decide +kernel
theorem dX5_isGood_6 : decode cX5_isGood 6 = .ok (.aload_n 2, 1) := by decide +kernel
theorem dX5_isGood_7 : decode cX5_isGood 7 = .ok (.getfield 172, 3) := by decide +kernel
theorem dX5_isGood_10 : decode cX5_isGood 10 = .ok (.iconst (-1), 1) := by decide +kernel
theorem dX5_isGood_11 : decode cX5_isGood 11 = .ok (.if_icmp .eq 14, 3) := by decide +kernel
theorem dX5_isGood_14 : decode cX5_isGood 14 = .ok (.aload_n 2, 1) := by decide +kernel
theorem dX5_isGood_15 : decode cX5_isGood 15 = .ok (.invokevirtual 175, 3) := by decide +kernel
theorem dX5_isGood_18 : decode cX5_isGood 18 = .ok (.ifCond .ne 7, 3) := by decide +kernel
theorem dX5_isGood_21 : decode cX5_isGood 21 = .ok (.iconst 1, 1) := by decide +kernel
theorem dX5_isGood_22 : decode cX5_isGood 22 = .ok (.goto 4, 3) := by decide +kernel
theorem dX5_isGood_25 : decode cX5_isGood 25 = .ok (.iconst 0, 1) := by decide +kernel
theorem dX5_isGood_26 : decode cX5_isGood 26 = .ok (.ireturn, 1) := by decide +kernel
theorem dX5_old_0 : decode cX5_old 0 = .ok (.iconst 0, 1) := by decide +kernel
theorem dX5_old_1 : decode cX5_old 1 = .ok (.istore_n 1, 1) := by decide +kernel
theorem dX5_old_2 : decode cX5_old 2 = .ok (.iconst 0, 1) := by decide +kernel
theorem dX5_old_3 : decode cX5_old 3 = .ok (.istore_n 2, 1) := by decide +kernel
theorem dX5_old_4 : decode cX5_old 4 = .ok (.iload_n 2, 1) := by decide +kernel
theorem dX5_old_5 : decode cX5_old 5 = .ok (.aload_n 0, 1) := by decide +kernel
theorem dX5_old_6 : decode cX5_old 6 = .ok (.getfield 19, 3) := by decide +kernel
theorem dX5_old_9 : decode cX5_old 9 = .ok (.invokevirtual 29, 3) := by decide +kernel
theorem dX5_old_12 : decode cX5_old 12 = .ok (.if_icmp .ge 29, 3) := by decide +kernel
theorem dX5_old_15 : decode cX5_old 15 = .ok (.aload_n 0, 1) := by decide +kernel
theorem dX5_old_16 : decode cX5_old 16 = .ok (.getfield 19, 3) := by decide +kernel
theorem dX5_old_19 : decode cX5_old 19 = .ok (.iload_n 2, 1) := by decide +kernel
theorem dX5_old_20 : decode cX5_old 20 = .ok (.invokevirtual 151, 3) := by decide +kernel
theorem dX5_old_23 : decode cX5_old 23 = .ok (.checkcast 160, 3) := by decide +kernel
theorem dX5_old_26 : decode cX5_old 26 = .ok (.invokevirtual 175, 3) := by decide +kernel
theorem dX5_old_29 : decode cX5_old 29 = .ok (.ifCond .eq 6, 3) := by decide +kernel
theorem dX5_old_32 : decode cX5_old 32 = .ok (.iinc 1 1, 3) := by decide +kernel
theorem dX5_old_35 : decode cX5_old 35 = .ok (.iinc 2 1, 3) := by decide +kernel
theorem dX5_old_38 : decode cX5_old 38 = .ok (.goto (-34), 3) := by decide +kernel
theorem dX5_old_41 : decode cX5_old 41 = .ok (.iload_n 1, 1) := by decide +kernel
theorem dX5_old_42 : decode cX5_old 42 = .ok (.ireturn, 1) := by decide +kernel
theorem dX5_drawingAt_0 : decode cX5_drawingAt 0 = .ok (.iload_n 1, 1) := by decide +kernel
theorem dX5_drawingAt_1 : decode cX5_drawingAt 1 = .ok (.ifCond .lt 14, 3) := by decide +kernel
theorem dX5_drawingAt_4 : decode cX5_drawingAt 4 = .ok (.iload_n 1, 1) := by decide +kernel
theorem dX5_drawingAt_5 : decode cX5_drawingAt 5 = .ok (.aload_n 0, 1) := by decide +kernel
theorem dX5_drawingAt_6 : decode cX5_drawingAt 6 = .ok (.getfield 10, 3) := by decide +kernel
theorem dX5_drawingAt_9 : decode cX5_drawingAt 9 = .ok (.invokevirtual 29, 3) := by decide +kernel
theorem dX5_drawingAt_12 : decode cX5_drawingAt 12 = .ok (.if_icmp .lt 13, 3) := by decide +kernel
theorem dX5_drawingAt_15 : decode cX5_drawingAt 15 = .ok (.new 146, 3) := by decide +kernel
theorem dX5_drawingAt_18 : decode cX5_drawingAt 18 = .ok (.dup, 1) := by decide +kernel
theorem dX5_drawingAt_19 : decode cX5_drawingAt 19 = .ok (.ldc 178, 2) := by decide +kernel
theorem dX5_drawingAt_21 : decode cX5_drawingAt 21 = .ok (.invokespecial 150, 3) := by decide +kernel
theorem dX5_drawingAt_24 : decode cX5_drawingAt 24 = .ok (.athrow, 1) := by decide +kernel
theorem dX5_drawingAt_25 : decode cX5_drawingAt 25 = .ok (.aload_n 0, 1) := by decide +kernel
theorem dX5_drawingAt_26 : decode cX5_drawingAt 26 = .ok (.getfield 10, 3) := by decide +kernel
theorem dX5_drawingAt_29 : decode cX5_drawingAt 29 = .ok (.iload_n 1, 1) := by decide +kernel
theorem dX5_drawingAt_30 : decode cX5_drawingAt 30 = .ok (.invokevirtual 151, 3) := by decide +kernel
theorem dX5_drawingAt_33 : decode cX5_drawingAt 33 = .ok (.checkcast 40, 3) := by decide +kernel
theorem dX5_drawingAt_36 : decode cX5_drawingAt 36 = .ok (.areturn, 1) := by decide +kernel
theorem dX5_printAt_0 : decode cX5_printAt 0 = .ok (.iload_n 1, 1) := by decide +kernel
theorem dX5_printAt_1 : decode cX5_printAt 1 = .ok (.ifCond .lt 14, 3) := by decide +kernel
theorem dX5_printAt_4 : decode cX5_printAt 4 = .ok (.iload_n 1, 1) := by decide +kernel
theorem dX5_printAt_5 : decode cX5_printAt 5 = .ok (.aload_n 0, 1) := by decide +kernel
theorem dX5_printAt_6 : decode cX5_printAt 6 = .ok (.getfield 19, 3) := by decide +kernel
theorem dX5_printAt_9 : decode cX5_printAt 9 = .ok (.invokevirtual 29, 3) := by decide +kernel
theorem dX5_printAt_12 : decode cX5_printAt 12 = .ok (.if_icmp .lt 13, 3) := by decide +kernel
theorem dX5_printAt_15 : decode cX5_printAt 15 = .ok (.new 146, 3) := by decide +kernel
theorem dX5_printAt_18 : decode cX5_printAt 18 = .ok (.dup, 1) := by decide +kernel
theorem dX5_printAt_19 : decode cX5_printAt 19 = .ok (.ldc 180, 2) := by decide +kernel
theorem dX5_printAt_21 : decode cX5_printAt 21 = .ok (.invokespecial 150, 3) := by decide +kernel
theorem dX5_printAt_24 : decode cX5_printAt 24 = .ok (.athrow, 1) := by decide +kernel
theorem dX5_printAt_25 : decode cX5_printAt 25 = .ok (.aload_n 0, 1) := by decide +kernel
theorem dX5_printAt_26 : decode cX5_printAt 26 = .ok (.getfield 19, 3) := by decide +kernel
theorem dX5_printAt_29 : decode cX5_printAt 29 = .ok (.iload_n 1, 1) := by decide +kernel
theorem dX5_printAt_30 : decode cX5_printAt 30 = .ok (.invokevirtual 151, 3) := by decide +kernel
theorem dX5_printAt_33 : decode cX5_printAt 33 = .ok (.checkcast 160, 3) := by decide +kernel
theorem dX5_printAt_36 : decode cX5_printAt 36 = .ok (.areturn, 1) := by decide +kernel
theorem dX5_highestPermit_0 : decode cX5_highestPermit 0 = .ok (.aload_n 0, 1) := by decide +kernel
theorem dX5_highestPermit_1 : decode cX5_highestPermit 1 = .ok (.getfield 16, 3) := by decide +kernel
theorem dX5_highestPermit_4 : decode cX5_highestPermit 4 = .ok (.invokevirtual 29, 3) := by decide +kernel
theorem dX5_highestPermit_7 : decode cX5_highestPermit 7 = .ok (.iconst 1, 1) := by decide +kernel
theorem dX5_highestPermit_8 : decode cX5_highestPermit 8 = .ok (.isub, 1) := by decide +kernel
theorem dX5_highestPermit_9 : decode cX5_highestPermit 9 = .ok (.istore_n 2, 1) := by decide +kernel
theorem dX5_highestPermit_10 : decode cX5_highestPermit 10 = .ok (.iload_n 2, 1) := by decide +kernel
theorem dX5_highestPermit_11 : decode cX5_highestPermit 11 = .ok (.ifCond .lt 38, 3) := by decide +kernel
theorem dX5_highestPermit_14 : decode cX5_highestPermit 14 = .ok (.aload_n 0, 1) := by decide +kernel
theorem dX5_highestPermit_15 : decode cX5_highestPermit 15 = .ok (.getfield 16, 3) := by decide +kernel
theorem dX5_highestPermit_18 : decode cX5_highestPermit 18 = .ok (.iload_n 2, 1) := by decide +kernel
theorem dX5_highestPermit_19 : decode cX5_highestPermit 19 = .ok (.invokevirtual 151, 3) := by decide +kernel
theorem dX5_highestPermit_22 : decode cX5_highestPermit 22 = .ok (.checkcast 142, 3) := by decide +kernel
theorem dX5_highestPermit_25 : decode cX5_highestPermit 25 = .ok (.astore_n 3, 1) := by decide +kernel
theorem dX5_highestPermit_26 : decode cX5_highestPermit 26 = .ok (.aload_n 3, 1) := by decide +kernel
theorem dX5_highestPermit_27 : decode cX5_highestPermit 27 = .ok (.getfield 182, 3) := by decide +kernel
theorem dX5_highestPermit_30 : decode cX5_highestPermit 30 = .ok (.aload_n 1, 1) := by decide +kernel
theorem dX5_highestPermit_31 : decode cX5_highestPermit 31 = .ok (.if_acmp .ne 12, 3) := by decide +kernel
theorem dX5_highestPermit_34 : decode cX5_highestPermit 34 = .ok (.aload_n 3, 1) := by decide +kernel
theorem dX5_highestPermit_35 : decode cX5_highestPermit 35 = .ok (.invokevirtual 155, 3) := by decide +kernel
theorem dX5_highestPermit_38 : decode cX5_highestPermit 38 = .ok (.ifCond .eq 5, 3) := by decide +kernel
theorem dX5_highestPermit_41 : decode cX5_highestPermit 41 = .ok (.iload_n 2, 1) := by decide +kernel
theorem dX5_highestPermit_42 : decode cX5_highestPermit 42 = .ok (.ireturn, 1) := by decide +kernel
theorem dX5_highestPermit_43 : decode cX5_highestPermit 43 = .ok (.iinc 2 (-1), 3) := by decide +kernel
theorem dX5_highestPermit_46 : decode cX5_highestPermit 46 = .ok (.goto (-36), 3) := by decide +kernel
theorem dX5_highestPermit_49 : decode cX5_highestPermit 49 = .ok (.iconst (-1), 1) := by decide +kernel
theorem dX5_highestPermit_50 : decode cX5_highestPermit 50 = .ok (.ireturn, 1) := by decide +kernel
theorem dX5_needPerson_0 : decode cX5_needPerson 0 = .ok (.iload_n 0, 1) := by decide +kernel
theorem dX5_needPerson_1 : decode cX5_needPerson 1 = .ok (.ifCond .lt 9, 3) := by decide +kernel
theorem dX5_needPerson_4 : decode cX5_needPerson 4 = .ok (.iload_n 0, 1) := by decide +kernel
theorem dX5_needPerson_5 : decode cX5_needPerson 5 = .ok (.bipush 6, 2) := by decide +kernel
theorem dX5_needPerson_7 : decode cX5_needPerson 7 = .ok (.if_icmp .lt 13, 3) := by decide +kernel
theorem dX5_needPerson_10 : decode cX5_needPerson 10 = .ok (.new 58, 3) := by decide +kernel
theorem dX5_needPerson_13 : decode cX5_needPerson 13 = .ok (.dup, 1) := by decide +kernel
theorem dX5_needPerson_14 : decode cX5_needPerson 14 = .ok (.ldc 186, 2) := by decide +kernel
theorem dX5_needPerson_16 : decode cX5_needPerson 16 = .ok (.invokespecial 62, 3) := by decide +kernel
theorem dX5_needPerson_19 : decode cX5_needPerson 19 = .ok (.athrow, 1) := by decide +kernel
theorem dX5_needPerson_20 : decode cX5_needPerson 20 = .ok (.return_, 1) := by decide +kernel
theorem dX5_needSide_0 : decode cX5_needSide 0 = .ok (.iload_n 0, 1) := by decide +kernel
theorem dX5_needSide_1 : decode cX5_needSide 1 = .ok (.ifCond .lt 9, 3) := by decide +kernel
theorem dX5_needSide_4 : decode cX5_needSide 4 = .ok (.iload_n 0, 1) := by decide +kernel
theorem dX5_needSide_5 : decode cX5_needSide 5 = .ok (.bipush 40, 2) := by decide +kernel
theorem dX5_needSide_7 : decode cX5_needSide 7 = .ok (.if_icmp .lt 13, 3) := by decide +kernel
theorem dX5_needSide_10 : decode cX5_needSide 10 = .ok (.new 58, 3) := by decide +kernel
theorem dX5_needSide_13 : decode cX5_needSide 13 = .ok (.dup, 1) := by decide +kernel
theorem dX5_needSide_14 : decode cX5_needSide 14 = .ok (.ldc 188, 2) := by decide +kernel
theorem dX5_needSide_16 : decode cX5_needSide 16 = .ok (.invokespecial 62, 3) := by decide +kernel
theorem dX5_needSide_19 : decode cX5_needSide 19 = .ok (.athrow, 1) := by decide +kernel
theorem dX5_needSide_20 : decode cX5_needSide 20 = .ok (.return_, 1) := by decide +kernel
theorem dX5_needCell_0 : decode cX5_needCell 0 = .ok (.iload_n 0, 1) := by decide +kernel
theorem dX5_needCell_1 : decode cX5_needCell 1 = .ok (.ifCond .lt 9, 3) := by decide +kernel
theorem dX5_needCell_4 : decode cX5_needCell 4 = .ok (.iload_n 0, 1) := by decide +kernel
theorem dX5_needCell_5 : decode cX5_needCell 5 = .ok (.bipush 25, 2) := by decide +kernel
theorem dX5_needCell_7 : decode cX5_needCell 7 = .ok (.if_icmp .lt 13, 3) := by decide +kernel
theorem dX5_needCell_10 : decode cX5_needCell 10 = .ok (.new 58, 3) := by decide +kernel
theorem dX5_needCell_13 : decode cX5_needCell 13 = .ok (.dup, 1) := by decide +kernel
theorem dX5_needCell_14 : decode cX5_needCell 14 = .ok (.ldc 190, 2) := by decide +kernel
theorem dX5_needCell_16 : decode cX5_needCell 16 = .ok (.invokespecial 62, 3) := by decide +kernel
theorem dX5_needCell_19 : decode cX5_needCell 19 = .ok (.athrow, 1) := by decide +kernel
theorem dX5_needCell_20 : decode cX5_needCell 20 = .ok (.return_, 1) := by decide +kernel
theorem dX5_needChanger_0 : decode cX5_needChanger 0 = .ok (.aload_n 0, 1) := by decide +kernel
theorem dX5_needChanger_1 : decode cX5_needChanger 1 = .ok (.invokevirtual 131, 3) := by decide +kernel
theorem dX5_needChanger_4 : decode cX5_needChanger 4 = .ok (.iload_n 1, 1) := by decide +kernel
theorem dX5_needChanger_5 : decode cX5_needChanger 5 = .ok (.if_icmp .eq 13, 3) := by decide +kernel
theorem dX5_needChanger_8 : decode cX5_needChanger 8 = .ok (.new 33, 3) := by decide +kernel
theorem dX5_needChanger_11 : decode cX5_needChanger 11 = .ok (.dup, 1) := by decide +kernel
theorem dX5_needChanger_12 : decode cX5_needChanger 12 = .ok (.ldc 192, 2) := by decide +kernel
theorem dX5_needChanger_14 : decode cX5_needChanger 14 = .ok (.invokespecial 37, 3) := by decide +kernel
theorem dX5_needChanger_17 : decode cX5_needChanger 17 = .ok (.athrow, 1) := by decide +kernel
theorem dX5_needChanger_18 : decode cX5_needChanger 18 = .ok (.return_, 1) := by decide +kernel
theorem dX5_needLocker_0 : decode cX5_needLocker 0 = .ok (.aload_n 0, 1) := by decide +kernel
theorem dX5_needLocker_1 : decode cX5_needLocker 1 = .ok (.getfield 115, 3) := by decide +kernel
theorem dX5_needLocker_4 : decode cX5_needLocker 4 = .ok (.iload_n 1, 1) := by decide +kernel
theorem dX5_needLocker_5 : decode cX5_needLocker 5 = .ok (.if_icmp .eq 13, 3) := by decide +kernel
theorem dX5_needLocker_8 : decode cX5_needLocker 8 = .ok (.new 33, 3) := by decide +kernel
theorem dX5_needLocker_11 : decode cX5_needLocker 11 = .ok (.dup, 1) := by decide +kernel
theorem dX5_needLocker_12 : decode cX5_needLocker 12 = .ok (.ldc 194, 2) := by decide +kernel
theorem dX5_needLocker_14 : decode cX5_needLocker 14 = .ok (.invokespecial 37, 3) := by decide +kernel
theorem dX5_needLocker_17 : decode cX5_needLocker 17 = .ok (.athrow, 1) := by decide +kernel
theorem dX5_needLocker_18 : decode cX5_needLocker 18 = .ok (.return_, 1) := by decide +kernel
theorem dX5_firstCell_0 : decode cX5_firstCell 0 = .ok (.iload_n 0, 1) := by decide +kernel
theorem dX5_firstCell_1 : decode cX5_firstCell 1 = .ok (.bipush 20, 2) := by decide +kernel
theorem dX5_firstCell_3 : decode cX5_firstCell 3 = .ok (.if_icmp .ge 13, 3) := by decide +kernel
theorem dX5_firstCell_6 : decode cX5_firstCell 6 = .ok (.iconst 5, 1) := by decide +kernel
theorem dX5_firstCell_7 : decode cX5_firstCell 7 = .ok (.iload_n 0, 1) := by decide +kernel
theorem dX5_firstCell_8 : decode cX5_firstCell 8 = .ok (.iconst 4, 1) := by decide +kernel
theorem dX5_firstCell_9 : decode cX5_firstCell 9 = .ok (.idiv, 1) := by decide +kernel
theorem dX5_firstCell_10 : decode cX5_firstCell 10 = .ok (.imul, 1) := by decide +kernel
theorem dX5_firstCell_11 : decode cX5_firstCell 11 = .ok (.iload_n 0, 1) := by decide +kernel
theorem dX5_firstCell_12 : decode cX5_firstCell 12 = .ok (.iconst 4, 1) := by decide +kernel
theorem dX5_firstCell_13 : decode cX5_firstCell 13 = .ok (.irem, 1) := by decide +kernel
theorem dX5_firstCell_14 : decode cX5_firstCell 14 = .ok (.iadd, 1) := by decide +kernel
theorem dX5_firstCell_15 : decode cX5_firstCell 15 = .ok (.ireturn, 1) := by decide +kernel
theorem dX5_firstCell_16 : decode cX5_firstCell 16 = .ok (.iload_n 0, 1) := by decide +kernel
theorem dX5_firstCell_17 : decode cX5_firstCell 17 = .ok (.bipush 20, 2) := by decide +kernel
theorem dX5_firstCell_19 : decode cX5_firstCell 19 = .ok (.isub, 1) := by decide +kernel
theorem dX5_firstCell_20 : decode cX5_firstCell 20 = .ok (.ireturn, 1) := by decide +kernel
theorem dX5_secondCell_0 : decode cX5_secondCell 0 = .ok (.iload_n 0, 1) := by decide +kernel
theorem dX5_secondCell_1 : decode cX5_secondCell 1 = .ok (.invokestatic 196, 3) := by decide +kernel
theorem dX5_secondCell_4 : decode cX5_secondCell 4 = .ok (.iload_n 0, 1) := by decide +kernel
theorem dX5_secondCell_5 : decode cX5_secondCell 5 = .ok (.bipush 20, 2) := by decide +kernel
theorem dX5_secondCell_7 : decode cX5_secondCell 7 = .ok (.if_icmp .ge 7, 3) := by decide +kernel
theorem dX5_secondCell_10 : decode cX5_secondCell 10 = .ok (.iconst 1, 1) := by decide +kernel
theorem dX5_secondCell_11 : decode cX5_secondCell 11 = .ok (.goto 4, 3) := by decide +kernel
theorem dX5_secondCell_14 : decode cX5_secondCell 14 = .ok (.iconst 5, 1) := by decide +kernel
theorem dX5_secondCell_15 : decode cX5_secondCell 15 = .ok (.iadd, 1) := by decide +kernel
theorem dX5_secondCell_16 : decode cX5_secondCell 16 = .ok (.ireturn, 1) := by decide +kernel
theorem dJ9_max_7cf53_0 : decode cJ9_max_7cf53 0 = .ok (.iload_n 0, 1) := by decide +kernel
theorem dJ9_max_7cf53_1 : decode cJ9_max_7cf53 1 = .ok (.iload_n 1, 1) := by decide +kernel
theorem dJ9_max_7cf53_2 : decode cJ9_max_7cf53 2 = .ok (.if_icmp .lt 7, 3) := by decide +kernel
theorem dJ9_max_7cf53_5 : decode cJ9_max_7cf53 5 = .ok (.iload_n 0, 1) := by decide +kernel
theorem dJ9_max_7cf53_6 : decode cJ9_max_7cf53 6 = .ok (.goto 4, 3) := by decide +kernel
theorem dJ9_max_7cf53_9 : decode cJ9_max_7cf53 9 = .ok (.iload_n 1, 1) := by decide +kernel
theorem dJ9_max_7cf53_10 : decode cJ9_max_7cf53 10 = .ok (.ireturn, 1) := by decide +kernel
theorem dJ9_min_7cf53_0 : decode cJ9_min_7cf53 0 = .ok (.iload_n 0, 1) := by decide +kernel
theorem dJ9_min_7cf53_1 : decode cJ9_min_7cf53 1 = .ok (.iload_n 1, 1) := by decide +kernel
theorem dJ9_min_7cf53_2 : decode cJ9_min_7cf53 2 = .ok (.if_icmp .gt 7, 3) := by decide +kernel
theorem dJ9_min_7cf53_5 : decode cJ9_min_7cf53 5 = .ok (.iload_n 0, 1) := by decide +kernel
theorem dJ9_min_7cf53_6 : decode cJ9_min_7cf53 6 = .ok (.goto 4, 3) := by decide +kernel
theorem dJ9_min_7cf53_9 : decode cJ9_min_7cf53 9 = .ok (.iload_n 1, 1) := by decide +kernel
theorem dJ9_min_7cf53_10 : decode cJ9_min_7cf53 10 = .ok (.ireturn, 1) := by decide +kernel
theorem dJxa1e45_init_da8c8_0 : decode cJxa1e45_init_da8c8 0 = .ok (.aload_n 0, 1) := by decide +kernel
theorem dJxa1e45_init_da8c8_1 : decode cJxa1e45_init_da8c8 1 = .ok (.invokespecial 1, 3) := by decide +kernel
theorem dJxa1e45_init_da8c8_4 : decode cJxa1e45_init_da8c8 4 = .ok (.return_, 1) := by decide +kernel
theorem dJxc12de_init_da8c8_0 : decode cJxc12de_init_da8c8 0 = .ok (.aload_n 0, 1) := by decide +kernel
theorem dJxc12de_init_da8c8_1 : decode cJxc12de_init_da8c8 1 = .ok (.invokespecial 1, 3) := by decide +kernel
theorem dJxc12de_init_da8c8_4 : decode cJxc12de_init_da8c8 4 = .ok (.aload_n 0, 1) := by decide +kernel
theorem dJxc12de_init_da8c8_5 : decode cJxc12de_init_da8c8 5 = .ok (.iconst 0, 1) := by decide +kernel
theorem dJxc12de_init_da8c8_6 : decode cJxc12de_init_da8c8 6 = .ok (.putfield 7, 3) := by decide +kernel
theorem dJxc12de_init_da8c8_9 : decode cJxc12de_init_da8c8 9 = .ok (.return_, 1) := by decide +kernel
theorem dJx4a65c_init_da8c8_0 : decode cJx4a65c_init_da8c8 0 = .ok (.aload_n 0, 1) := by decide +kernel
theorem dJx4a65c_init_da8c8_1 : decode cJx4a65c_init_da8c8 1 = .ok (.invokespecial 1, 3) := by decide +kernel
theorem dJx4a65c_init_da8c8_4 : decode cJx4a65c_init_da8c8 4 = .ok (.aload_n 0, 1) := by decide +kernel
theorem dJx4a65c_init_da8c8_5 : decode cJx4a65c_init_da8c8 5 = .ok (.getstatic 39, 3) := by decide +kernel
theorem dJx4a65c_init_da8c8_8 : decode cJx4a65c_init_da8c8 8 = .ok (.putfield 9, 3) := by decide +kernel
theorem dJx4a65c_init_da8c8_11 : decode cJx4a65c_init_da8c8 11 = .ok (.return_, 1) := by decide +kernel
theorem dJx4a65c_grow_92f84_0 : decode cJx4a65c_grow_92f84 0 = .ok (.aload_n 0, 1) := by decide +kernel
theorem dJx4a65c_grow_92f84_1 : decode cJx4a65c_grow_92f84 1 = .ok (.getfield 9, 3) := by decide +kernel
theorem dJx4a65c_grow_92f84_4 : decode cJx4a65c_grow_92f84 4 = .ok (.arraylength, 1) := by decide +kernel
theorem dJx4a65c_grow_92f84_5 : decode cJx4a65c_grow_92f84 5 = .ok (.istore_n 2, 1) := by decide +kernel
theorem dJx4a65c_grow_92f84_6 : decode cJx4a65c_grow_92f84 6 = .ok (.iload_n 2, 1) := by decide +kernel
theorem dJx4a65c_grow_92f84_7 : decode cJx4a65c_grow_92f84 7 = .ok (.ifCond .gt 13, 3) := by decide +kernel
theorem dJx4a65c_grow_92f84_10 : decode cJx4a65c_grow_92f84 10 = .ok (.aload_n 0, 1) := by decide +kernel
theorem dJx4a65c_grow_92f84_11 : decode cJx4a65c_grow_92f84 11 = .ok (.getfield 9, 3) := by decide +kernel
theorem dJx4a65c_grow_92f84_14 : decode cJx4a65c_grow_92f84 14 = .ok (.getstatic 39, 3) := by decide +kernel
theorem dJx4a65c_grow_92f84_17 : decode cJx4a65c_grow_92f84 17 = .ok (.if_acmp .eq 28, 3) := by decide +kernel
theorem dJx4a65c_grow_92f84_20 : decode cJx4a65c_grow_92f84 20 = .ok (.iload_n 2, 1) := by decide +kernel
theorem dJx4a65c_grow_92f84_21 : decode cJx4a65c_grow_92f84 21 = .ok (.iload_n 1, 1) := by decide +kernel
theorem dJx4a65c_grow_92f84_22 : decode cJx4a65c_grow_92f84 22 = .ok (.iload_n 2, 1) := by decide +kernel
theorem dJx4a65c_grow_92f84_23 : decode cJx4a65c_grow_92f84 23 = .ok (.isub, 1) := by decide +kernel
theorem dJx4a65c_grow_92f84_24 : decode cJx4a65c_grow_92f84 24 = .ok (.iload_n 2, 1) := by decide +kernel
theorem dJx4a65c_grow_92f84_25 : decode cJx4a65c_grow_92f84 25 = .ok (.iconst 1, 1) := by decide +kernel
theorem dJx4a65c_grow_92f84_26 : decode cJx4a65c_grow_92f84 26 = .ok (.ishr, 1) := by decide +kernel
theorem dJx4a65c_grow_92f84_27 : decode cJx4a65c_grow_92f84 27 = .ok (.invokestatic 73, 3) := by decide +kernel
theorem dJx4a65c_grow_92f84_30 : decode cJx4a65c_grow_92f84 30 = .ok (.istore_n 3, 1) := by decide +kernel
theorem dJx4a65c_grow_92f84_31 : decode cJx4a65c_grow_92f84 31 = .ok (.aload_n 0, 1) := by decide +kernel
theorem dJx4a65c_grow_92f84_32 : decode cJx4a65c_grow_92f84 32 = .ok (.aload_n 0, 1) := by decide +kernel
theorem dJx4a65c_grow_92f84_33 : decode cJx4a65c_grow_92f84 33 = .ok (.getfield 9, 3) := by decide +kernel
theorem dJx4a65c_grow_92f84_36 : decode cJx4a65c_grow_92f84 36 = .ok (.iload_n 3, 1) := by decide +kernel
theorem dJx4a65c_grow_92f84_37 : decode cJx4a65c_grow_92f84 37 = .ok (.invokestatic 66, 3) := by decide +kernel
theorem dJx4a65c_grow_92f84_40 : decode cJx4a65c_grow_92f84 40 = .ok (.dup_x1, 1) := by decide +kernel
theorem dJx4a65c_grow_92f84_41 : decode cJx4a65c_grow_92f84 41 = .ok (.putfield 9, 3) := by decide +kernel
theorem dJx4a65c_grow_92f84_44 : decode cJx4a65c_grow_92f84 44 = .ok (.areturn, 1) := by decide +kernel
theorem dJx4a65c_grow_92f84_45 : decode cJx4a65c_grow_92f84 45 = .ok (.aload_n 0, 1) := by decide +kernel
theorem dJx4a65c_grow_92f84_46 : decode cJx4a65c_grow_92f84 46 = .ok (.bipush 10, 2) := by decide +kernel
theorem dJx4a65c_grow_92f84_48 : decode cJx4a65c_grow_92f84 48 = .ok (.iload_n 1, 1) := by decide +kernel
theorem dJx4a65c_grow_92f84_49 : decode cJx4a65c_grow_92f84 49 = .ok (.invokestatic 79, 3) := by decide +kernel
theorem dJx4a65c_grow_92f84_52 : decode cJx4a65c_grow_92f84 52 = .ok (.anewarray 7, 3) := by decide +kernel
theorem dJx4a65c_grow_92f84_55 : decode cJx4a65c_grow_92f84 55 = .ok (.dup_x1, 1) := by decide +kernel
theorem dJx4a65c_grow_92f84_56 : decode cJx4a65c_grow_92f84 56 = .ok (.putfield 9, 3) := by decide +kernel
theorem dJx4a65c_grow_92f84_59 : decode cJx4a65c_grow_92f84 59 = .ok (.areturn, 1) := by decide +kernel
theorem dJx4a65c_grow_d5877_0 : decode cJx4a65c_grow_d5877 0 = .ok (.aload_n 0, 1) := by decide +kernel
theorem dJx4a65c_grow_d5877_1 : decode cJx4a65c_grow_d5877 1 = .ok (.aload_n 0, 1) := by decide +kernel
theorem dJx4a65c_grow_d5877_2 : decode cJx4a65c_grow_d5877 2 = .ok (.getfield 48, 3) := by decide +kernel
theorem dJx4a65c_grow_d5877_5 : decode cJx4a65c_grow_d5877 5 = .ok (.iconst 1, 1) := by decide +kernel
theorem dJx4a65c_grow_d5877_6 : decode cJx4a65c_grow_d5877 6 = .ok (.iadd, 1) := by decide +kernel
theorem dJx4a65c_grow_d5877_7 : decode cJx4a65c_grow_d5877 7 = .ok (.invokevirtual 69, 3) := by decide +kernel
theorem dJx4a65c_grow_d5877_10 : decode cJx4a65c_grow_d5877 10 = .ok (.areturn, 1) := by decide +kernel
theorem dJx4a65c_size_8abf5_0 : decode cJx4a65c_size_8abf5 0 = .ok (.aload_n 0, 1) := by decide +kernel
theorem dJx4a65c_size_8abf5_1 : decode cJx4a65c_size_8abf5 1 = .ok (.getfield 48, 3) := by decide +kernel
theorem dJx4a65c_size_8abf5_4 : decode cJx4a65c_size_8abf5 4 = .ok (.ireturn, 1) := by decide +kernel
theorem dJx4a65c_elementData_915e3_0 : decode cJx4a65c_elementData_915e3 0 = .ok (.aload_n 0, 1) := by decide +kernel
theorem dJx4a65c_elementData_915e3_1 : decode cJx4a65c_elementData_915e3 1 = .ok (.getfield 9, 3) := by decide +kernel
theorem dJx4a65c_elementData_915e3_4 : decode cJx4a65c_elementData_915e3 4 = .ok (.iload_n 1, 1) := by decide +kernel
theorem dJx4a65c_elementData_915e3_5 : decode cJx4a65c_elementData_915e3 5 = .ok (.aaload, 1) := by decide +kernel
theorem dJx4a65c_elementData_915e3_6 : decode cJx4a65c_elementData_915e3 6 = .ok (.areturn, 1) := by decide +kernel
theorem dJx4a65c_get_915e3_0 : decode cJx4a65c_get_915e3 0 = .ok (.iload_n 1, 1) := by decide +kernel
theorem dJx4a65c_get_915e3_1 : decode cJx4a65c_get_915e3 1 = .ok (.aload_n 0, 1) := by decide +kernel
theorem dJx4a65c_get_915e3_2 : decode cJx4a65c_get_915e3 2 = .ok (.getfield 48, 3) := by decide +kernel
theorem dJx4a65c_get_915e3_5 : decode cJx4a65c_get_915e3 5 = .ok (.invokestatic 118, 3) := by decide +kernel
theorem dJx4a65c_get_915e3_8 : decode cJx4a65c_get_915e3 8 = .ok (.pop, 1) := by decide +kernel
theorem dJx4a65c_get_915e3_9 : decode cJx4a65c_get_915e3 9 = .ok (.aload_n 0, 1) := by decide +kernel
theorem dJx4a65c_get_915e3_10 : decode cJx4a65c_get_915e3 10 = .ok (.iload_n 1, 1) := by decide +kernel
theorem dJx4a65c_get_915e3_11 : decode cJx4a65c_get_915e3 11 = .ok (.invokevirtual 123, 3) := by decide +kernel
theorem dJx4a65c_get_915e3_14 : decode cJx4a65c_get_915e3 14 = .ok (.areturn, 1) := by decide +kernel
theorem dJx4a65c_add_72be8_0 : decode cJx4a65c_add_72be8 0 = .ok (.iload_n 3, 1) := by decide +kernel
theorem dJx4a65c_add_72be8_1 : decode cJx4a65c_add_72be8 1 = .ok (.aload_n 2, 1) := by decide +kernel
theorem dJx4a65c_add_72be8_2 : decode cJx4a65c_add_72be8 2 = .ok (.arraylength, 1) := by decide +kernel
theorem dJx4a65c_add_72be8_3 : decode cJx4a65c_add_72be8 3 = .ok (.if_icmp .ne 8, 3) := by decide +kernel
theorem dJx4a65c_add_72be8_6 : decode cJx4a65c_add_72be8 6 = .ok (.aload_n 0, 1) := by decide +kernel
theorem dJx4a65c_add_72be8_7 : decode cJx4a65c_add_72be8 7 = .ok (.invokevirtual 129, 3) := by decide +kernel
theorem dJx4a65c_add_72be8_10 : decode cJx4a65c_add_72be8 10 = .ok (.astore_n 2, 1) := by decide +kernel
theorem dJx4a65c_add_72be8_11 : decode cJx4a65c_add_72be8 11 = .ok (.aload_n 2, 1) := by decide +kernel
theorem dJx4a65c_add_72be8_12 : decode cJx4a65c_add_72be8 12 = .ok (.iload_n 3, 1) := by decide +kernel
theorem dJx4a65c_add_72be8_13 : decode cJx4a65c_add_72be8 13 = .ok (.aload_n 1, 1) := by decide +kernel
theorem dJx4a65c_add_72be8_14 : decode cJx4a65c_add_72be8 14 = .ok (.aastore, 1) := by decide +kernel
theorem dJx4a65c_add_72be8_15 : decode cJx4a65c_add_72be8 15 = .ok (.aload_n 0, 1) := by decide +kernel
theorem dJx4a65c_add_72be8_16 : decode cJx4a65c_add_72be8 16 = .ok (.iload_n 3, 1) := by decide +kernel
theorem dJx4a65c_add_72be8_17 : decode cJx4a65c_add_72be8 17 = .ok (.iconst 1, 1) := by decide +kernel
theorem dJx4a65c_add_72be8_18 : decode cJx4a65c_add_72be8 18 = .ok (.iadd, 1) := by decide +kernel
theorem dJx4a65c_add_72be8_19 : decode cJx4a65c_add_72be8 19 = .ok (.putfield 48, 3) := by decide +kernel
theorem dJx4a65c_add_72be8_22 : decode cJx4a65c_add_72be8 22 = .ok (.return_, 1) := by decide +kernel
theorem dJx4a65c_add_9ea2d_0 : decode cJx4a65c_add_9ea2d 0 = .ok (.aload_n 0, 1) := by decide +kernel
theorem dJx4a65c_add_9ea2d_1 : decode cJx4a65c_add_9ea2d 1 = .ok (.dup, 1) := by decide +kernel
theorem dJx4a65c_add_9ea2d_2 : decode cJx4a65c_add_9ea2d 2 = .ok (.getfield 63, 3) := by decide +kernel
theorem dJx4a65c_add_9ea2d_5 : decode cJx4a65c_add_9ea2d 5 = .ok (.iconst 1, 1) := by decide +kernel
theorem dJx4a65c_add_9ea2d_6 : decode cJx4a65c_add_9ea2d 6 = .ok (.iadd, 1) := by decide +kernel
theorem dJx4a65c_add_9ea2d_7 : decode cJx4a65c_add_9ea2d 7 = .ok (.putfield 63, 3) := by decide +kernel
theorem dJx4a65c_add_9ea2d_10 : decode cJx4a65c_add_9ea2d 10 = .ok (.aload_n 0, 1) := by decide +kernel
theorem dJx4a65c_add_9ea2d_11 : decode cJx4a65c_add_9ea2d 11 = .ok (.aload_n 1, 1) := by decide +kernel
theorem dJx4a65c_add_9ea2d_12 : decode cJx4a65c_add_9ea2d 12 = .ok (.aload_n 0, 1) := by decide +kernel
theorem dJx4a65c_add_9ea2d_13 : decode cJx4a65c_add_9ea2d 13 = .ok (.getfield 9, 3) := by decide +kernel
theorem dJx4a65c_add_9ea2d_16 : decode cJx4a65c_add_9ea2d 16 = .ok (.aload_n 0, 1) := by decide +kernel
theorem dJx4a65c_add_9ea2d_17 : decode cJx4a65c_add_9ea2d 17 = .ok (.getfield 48, 3) := by decide +kernel
theorem dJx4a65c_add_9ea2d_20 : decode cJx4a65c_add_9ea2d 20 = .ok (.invokevirtual 131, 3) := by decide +kernel
theorem dJx4a65c_add_9ea2d_23 : decode cJx4a65c_add_9ea2d 23 = .ok (.iconst 1, 1) := by decide +kernel
theorem dJx4a65c_add_9ea2d_24 : decode cJx4a65c_add_9ea2d 24 = .ok (.ireturn, 1) := by decide +kernel
theorem dJ7_fill_53178_0 : decode cJ7_fill_53178 0 = .ok (.iconst 0, 1) := by decide +kernel
theorem dJ7_fill_53178_1 : decode cJ7_fill_53178 1 = .ok (.istore_n 2, 1) := by decide +kernel
theorem dJ7_fill_53178_2 : decode cJ7_fill_53178 2 = .ok (.aload_n 0, 1) := by decide +kernel
theorem dJ7_fill_53178_3 : decode cJ7_fill_53178 3 = .ok (.arraylength, 1) := by decide +kernel
theorem dJ7_fill_53178_4 : decode cJ7_fill_53178 4 = .ok (.istore_n 3, 1) := by decide +kernel
theorem dJ7_fill_53178_5 : decode cJ7_fill_53178 5 = .ok (.iload_n 2, 1) := by decide +kernel
theorem dJ7_fill_53178_6 : decode cJ7_fill_53178 6 = .ok (.iload_n 3, 1) := by decide +kernel
theorem dJ7_fill_53178_7 : decode cJ7_fill_53178 7 = .ok (.if_icmp .ge 13, 3) := by decide +kernel
theorem dJ7_fill_53178_10 : decode cJ7_fill_53178 10 = .ok (.aload_n 0, 1) := by decide +kernel
theorem dJ7_fill_53178_11 : decode cJ7_fill_53178 11 = .ok (.iload_n 2, 1) := by decide +kernel
theorem dJ7_fill_53178_12 : decode cJ7_fill_53178 12 = .ok (.iload_n 1, 1) := by decide +kernel
theorem dJ7_fill_53178_13 : decode cJ7_fill_53178 13 = .ok (.iastore, 1) := by decide +kernel
theorem dJ7_fill_53178_14 : decode cJ7_fill_53178 14 = .ok (.iinc 2 1, 3) := by decide +kernel
theorem dJ7_fill_53178_17 : decode cJ7_fill_53178 17 = .ok (.goto (-12), 3) := by decide +kernel
theorem dJ7_fill_53178_20 : decode cJ7_fill_53178 20 = .ok (.return_, 1) := by decide +kernel
theorem dJ7_copyOf_1904c_0 : decode cJ7_copyOf_1904c 0 = .ok (.aload_n 0, 1) := by decide +kernel
theorem dJ7_copyOf_1904c_1 : decode cJ7_copyOf_1904c 1 = .ok (.iload_n 1, 1) := by decide +kernel
theorem dJ7_copyOf_1904c_2 : decode cJ7_copyOf_1904c 2 = .ok (.aload_n 0, 1) := by decide +kernel
theorem dJ7_copyOf_1904c_3 : decode cJ7_copyOf_1904c 3 = .ok (.invokevirtual 86, 3) := by decide +kernel
theorem dJ7_copyOf_1904c_6 : decode cJ7_copyOf_1904c 6 = .ok (.invokestatic 300, 3) := by decide +kernel
theorem dJ7_copyOf_1904c_9 : decode cJ7_copyOf_1904c 9 = .ok (.areturn, 1) := by decide +kernel
theorem dJ7_copyOf_6403c_0 : decode cJ7_copyOf_6403c 0 = .ok (.aload_n 2, 1) := by decide +kernel
theorem dJ7_copyOf_6403c_1 : decode cJ7_copyOf_6403c 1 = .ok (.ldc 110, 2) := by decide +kernel
theorem dJ7_copyOf_6403c_3 : decode cJ7_copyOf_6403c 3 = .ok (.if_acmp .ne 10, 3) := by decide +kernel
theorem dJ7_copyOf_6403c_6 : decode cJ7_copyOf_6403c 6 = .ok (.iload_n 1, 1) := by decide +kernel
theorem dJ7_copyOf_6403c_7 : decode cJ7_copyOf_6403c 7 = .ok (.anewarray 2, 3) := by decide +kernel
theorem dJ7_copyOf_6403c_10 : decode cJ7_copyOf_6403c 10 = .ok (.goto 14, 3) := by decide +kernel
theorem dJ7_copyOf_6403c_13 : decode cJ7_copyOf_6403c 13 = .ok (.aload_n 2, 1) := by decide +kernel
theorem dJ7_copyOf_6403c_14 : decode cJ7_copyOf_6403c 14 = .ok (.invokevirtual 90, 3) := by decide +kernel
theorem dJ7_copyOf_6403c_17 : decode cJ7_copyOf_6403c 17 = .ok (.iload_n 1, 1) := by decide +kernel
theorem dJ7_copyOf_6403c_18 : decode cJ7_copyOf_6403c 18 = .ok (.invokestatic 95, 3) := by decide +kernel
theorem dJ7_copyOf_6403c_21 : decode cJ7_copyOf_6403c 21 = .ok (.checkcast 110, 3) := by decide +kernel
theorem dJ7_copyOf_6403c_24 : decode cJ7_copyOf_6403c 24 = .ok (.astore_n 3, 1) := by decide +kernel
theorem dJ7_copyOf_6403c_25 : decode cJ7_copyOf_6403c 25 = .ok (.aload_n 0, 1) := by decide +kernel
theorem dJ7_copyOf_6403c_26 : decode cJ7_copyOf_6403c 26 = .ok (.iconst 0, 1) := by decide +kernel
theorem dJ7_copyOf_6403c_27 : decode cJ7_copyOf_6403c 27 = .ok (.aload_n 3, 1) := by decide +kernel
theorem dJ7_copyOf_6403c_28 : decode cJ7_copyOf_6403c 28 = .ok (.iconst 0, 1) := by decide +kernel
theorem dJ7_copyOf_6403c_29 : decode cJ7_copyOf_6403c 29 = .ok (.aload_n 0, 1) := by decide +kernel
theorem dJ7_copyOf_6403c_30 : decode cJ7_copyOf_6403c 30 = .ok (.arraylength, 1) := by decide +kernel
theorem dJ7_copyOf_6403c_31 : decode cJ7_copyOf_6403c 31 = .ok (.iload_n 1, 1) := by decide +kernel
theorem dJ7_copyOf_6403c_32 : decode cJ7_copyOf_6403c 32 = .ok (.invokestatic 304, 3) := by decide +kernel
theorem dJ7_copyOf_6403c_35 : decode cJ7_copyOf_6403c 35 = .ok (.invokestatic 150, 3) := by decide +kernel
theorem dJ7_copyOf_6403c_38 : decode cJ7_copyOf_6403c 38 = .ok (.aload_n 3, 1) := by decide +kernel
theorem dJ7_copyOf_6403c_39 : decode cJ7_copyOf_6403c 39 = .ok (.areturn, 1) := by decide +kernel
theorem dJ15_checkIndex_7cf53_0 : decode cJ15_checkIndex_7cf53 0 = .ok (.iload_n 0, 1) := by decide +kernel
theorem dJ15_checkIndex_7cf53_1 : decode cJ15_checkIndex_7cf53 1 = .ok (.iload_n 1, 1) := by decide +kernel
theorem dJ15_checkIndex_7cf53_2 : decode cJ15_checkIndex_7cf53 2 = .ok (.aconst_null, 1) := by decide +kernel
theorem dJ15_checkIndex_7cf53_3 : decode cJ15_checkIndex_7cf53 3 = .ok (.invokestatic 105, 3) := by decide +kernel
theorem dJ15_checkIndex_7cf53_6 : decode cJ15_checkIndex_7cf53 6 = .ok (.ireturn, 1) := by decide +kernel
theorem dJ8_newLength_cabcc_0 : decode cJ8_newLength_cabcc 0 = .ok (.iload_n 0, 1) := by decide +kernel
theorem dJ8_newLength_cabcc_1 : decode cJ8_newLength_cabcc 1 = .ok (.iload_n 1, 1) := by decide +kernel
theorem dJ8_newLength_cabcc_2 : decode cJ8_newLength_cabcc 2 = .ok (.iload_n 2, 1) := by decide +kernel
theorem dJ8_newLength_cabcc_3 : decode cJ8_newLength_cabcc 3 = .ok (.invokestatic 194, 3) := by decide +kernel
theorem dJ8_newLength_cabcc_6 : decode cJ8_newLength_cabcc 6 = .ok (.iadd, 1) := by decide +kernel
end
section
theorem dJ8_newLength_cabcc_7 : decode cJ8_newLength_cabcc 7 = .ok (.istore_n 3, 1) := by decide +kernel
theorem dJ8_newLength_cabcc_8 : decode cJ8_newLength_cabcc 8 = .ok (.iconst 0, 1) := by decide +kernel
theorem dJ8_newLength_cabcc_9 : decode cJ8_newLength_cabcc 9 = .ok (.iload_n 3, 1) := by decide +kernel
theorem dJ8_newLength_cabcc_10 : decode cJ8_newLength_cabcc 10 = .ok (.if_icmp .ge 11, 3) := by decide +kernel
theorem dJ8_newLength_cabcc_13 : decode cJ8_newLength_cabcc 13 = .ok (.iload_n 3, 1) := by decide +kernel
theorem dJ8_newLength_cabcc_14 : decode cJ8_newLength_cabcc 14 = .ok (.ldc 200, 2) := by decide +kernel
theorem dJ8_newLength_cabcc_16 : decode cJ8_newLength_cabcc 16 = .ok (.if_icmp .gt 5, 3) := by decide +kernel
theorem dJ8_newLength_cabcc_19 : decode cJ8_newLength_cabcc 19 = .ok (.iload_n 3, 1) := by decide +kernel
theorem dJ8_newLength_cabcc_20 : decode cJ8_newLength_cabcc 20 = .ok (.ireturn, 1) := by decide +kernel
theorem dJ8_newLength_cabcc_21 : decode cJ8_newLength_cabcc 21 = .ok (.iload_n 0, 1) := by decide +kernel
theorem dJ8_newLength_cabcc_22 : decode cJ8_newLength_cabcc 22 = .ok (.iload_n 1, 1) := by decide +kernel
theorem dJ8_newLength_cabcc_23 : decode cJ8_newLength_cabcc 23 = .ok (.invokestatic 201, 3) := by decide +kernel
theorem dJ8_newLength_cabcc_26 : decode cJ8_newLength_cabcc 26 = .ok (.ireturn, 1) := by decide +kernel
theorem dJ8_hugeLength_7cf53_0 : decode cJ8_hugeLength_7cf53 0 = .ok (.iload_n 0, 1) := by decide +kernel
theorem dJ8_hugeLength_7cf53_1 : decode cJ8_hugeLength_7cf53 1 = .ok (.iload_n 1, 1) := by decide +kernel
theorem dJ8_hugeLength_7cf53_2 : decode cJ8_hugeLength_7cf53 2 = .ok (.iadd, 1) := by decide +kernel
theorem dJ8_hugeLength_7cf53_3 : decode cJ8_hugeLength_7cf53 3 = .ok (.istore_n 2, 1) := by decide +kernel
theorem dJ8_hugeLength_7cf53_4 : decode cJ8_hugeLength_7cf53 4 = .ok (.iload_n 2, 1) := by decide +kernel
theorem dJ8_hugeLength_7cf53_5 : decode cJ8_hugeLength_7cf53 5 = .ok (.ifCond .ge 44, 3) := by decide +kernel
theorem dJ8_hugeLength_7cf53_8 : decode cJ8_hugeLength_7cf53 8 = .ok (.new 204, 3) := by decide +kernel
theorem dJ8_hugeLength_7cf53_11 : decode cJ8_hugeLength_7cf53 11 = .ok (.dup, 1) := by decide +kernel
theorem dJ8_hugeLength_7cf53_12 : decode cJ8_hugeLength_7cf53 12 = .ok (.new 89, 3) := by decide +kernel
theorem dJ8_hugeLength_7cf53_15 : decode cJ8_hugeLength_7cf53 15 = .ok (.dup, 1) := by decide +kernel
theorem dJ8_hugeLength_7cf53_16 : decode cJ8_hugeLength_7cf53 16 = .ok (.invokespecial 91, 3) := by decide +kernel
theorem dJ8_hugeLength_7cf53_19 : decode cJ8_hugeLength_7cf53 19 = .ok (.ldc 206, 2) := by decide +kernel
theorem dJ8_hugeLength_7cf53_21 : decode cJ8_hugeLength_7cf53 21 = .ok (.invokevirtual 94, 3) := by decide +kernel
theorem dJ8_hugeLength_7cf53_24 : decode cJ8_hugeLength_7cf53 24 = .ok (.iload_n 0, 1) := by decide +kernel
theorem dJ8_hugeLength_7cf53_25 : decode cJ8_hugeLength_7cf53 25 = .ok (.invokevirtual 98, 3) := by decide +kernel
theorem dJ8_hugeLength_7cf53_28 : decode cJ8_hugeLength_7cf53 28 = .ok (.ldc 208, 2) := by decide +kernel
theorem dJ8_hugeLength_7cf53_30 : decode cJ8_hugeLength_7cf53 30 = .ok (.invokevirtual 94, 3) := by decide +kernel
theorem dJ8_hugeLength_7cf53_33 : decode cJ8_hugeLength_7cf53 33 = .ok (.iload_n 1, 1) := by decide +kernel
theorem dJ8_hugeLength_7cf53_34 : decode cJ8_hugeLength_7cf53 34 = .ok (.invokevirtual 98, 3) := by decide +kernel
theorem dJ8_hugeLength_7cf53_37 : decode cJ8_hugeLength_7cf53 37 = .ok (.ldc 210, 2) := by decide +kernel
theorem dJ8_hugeLength_7cf53_39 : decode cJ8_hugeLength_7cf53 39 = .ok (.invokevirtual 94, 3) := by decide +kernel
theorem dJ8_hugeLength_7cf53_42 : decode cJ8_hugeLength_7cf53 42 = .ok (.invokevirtual 101, 3) := by decide +kernel
theorem dJ8_hugeLength_7cf53_45 : decode cJ8_hugeLength_7cf53 45 = .ok (.invokespecial 212, 3) := by decide +kernel
theorem dJ8_hugeLength_7cf53_48 : decode cJ8_hugeLength_7cf53 48 = .ok (.athrow, 1) := by decide +kernel
theorem dJ8_hugeLength_7cf53_49 : decode cJ8_hugeLength_7cf53 49 = .ok (.iload_n 2, 1) := by decide +kernel
theorem dJ8_hugeLength_7cf53_50 : decode cJ8_hugeLength_7cf53 50 = .ok (.ldc 200, 2) := by decide +kernel
theorem dJ8_hugeLength_7cf53_52 : decode cJ8_hugeLength_7cf53 52 = .ok (.if_icmp .gt 6, 3) := by decide +kernel
theorem dJ8_hugeLength_7cf53_55 : decode cJ8_hugeLength_7cf53 55 = .ok (.ldc 200, 2) := by decide +kernel
theorem dJ8_hugeLength_7cf53_57 : decode cJ8_hugeLength_7cf53 57 = .ok (.ireturn, 1) := by decide +kernel
theorem dJ8_hugeLength_7cf53_58 : decode cJ8_hugeLength_7cf53 58 = .ok (.iload_n 2, 1) := by decide +kernel
theorem dJ8_hugeLength_7cf53_59 : decode cJ8_hugeLength_7cf53 59 = .ok (.ireturn, 1) := by decide +kernel
theorem dJ3_checkIndex_8e157_0 : decode cJ3_checkIndex_8e157 0 = .ok (.iload_n 0, 1) := by decide +kernel
theorem dJ3_checkIndex_8e157_1 : decode cJ3_checkIndex_8e157 1 = .ok (.ifCond .lt 8, 3) := by decide +kernel
theorem dJ3_checkIndex_8e157_4 : decode cJ3_checkIndex_8e157 4 = .ok (.iload_n 0, 1) := by decide +kernel
theorem dJ3_checkIndex_8e157_5 : decode cJ3_checkIndex_8e157 5 = .ok (.iload_n 1, 1) := by decide +kernel
theorem dJ3_checkIndex_8e157_6 : decode cJ3_checkIndex_8e157 6 = .ok (.if_icmp .lt 10, 3) := by decide +kernel
theorem dJ3_checkIndex_8e157_9 : decode cJ3_checkIndex_8e157 9 = .ok (.aload_n 2, 1) := by decide +kernel
theorem dJ3_checkIndex_8e157_10 : decode cJ3_checkIndex_8e157 10 = .ok (.iload_n 0, 1) := by decide +kernel
theorem dJ3_checkIndex_8e157_11 : decode cJ3_checkIndex_8e157 11 = .ok (.iload_n 1, 1) := by decide +kernel
theorem dJ3_checkIndex_8e157_12 : decode cJ3_checkIndex_8e157 12 = .ok (.invokestatic 95, 3) := by decide +kernel
theorem dJ3_checkIndex_8e157_15 : decode cJ3_checkIndex_8e157 15 = .ok (.athrow, 1) := by decide +kernel
theorem dJ3_checkIndex_8e157_16 : decode cJ3_checkIndex_8e157 16 = .ok (.iload_n 0, 1) := by decide +kernel
theorem dJ3_checkIndex_8e157_17 : decode cJ3_checkIndex_8e157 17 = .ok (.ireturn, 1) := by decide +kernel
theorem dL_lock_0 : decode cL_lock 0 = .ok (.aload_n 0, 1) := by decide +kernel
theorem dL_lock_1 : decode cL_lock 1 = .ok (.iload_n 1, 1) := by decide +kernel
theorem dL_lock_2 : decode cL_lock 2 = .ok (.iload_n 2, 1) := by decide +kernel
theorem dL_lock_3 : decode cL_lock 3 = .ok (.invokevirtual 7, 3) := by decide +kernel
theorem dL_lock_6 : decode cL_lock 6 = .ok (.iconst 0, 1) := by decide +kernel
theorem dL_lock_7 : decode cL_lock 7 = .ok (.ireturn, 1) := by decide +kernel
theorem dL_lock_8 : decode cL_lock 8 = .ok (.astore_n 3, 1) := by decide +kernel
theorem dL_lock_9 : decode cL_lock 9 = .ok (.bipush (-71), 2) := by decide +kernel
theorem dL_lock_11 : decode cL_lock 11 = .ok (.ireturn, 1) := by decide +kernel
theorem dL_lock_12 : decode cL_lock 12 = .ok (.astore_n 3, 1) := by decide +kernel
theorem dL_lock_13 : decode cL_lock 13 = .ok (.bipush (-72), 2) := by decide +kernel
theorem dL_lock_15 : decode cL_lock 15 = .ok (.ireturn, 1) := by decide +kernel
theorem dL_lock_16 : decode cL_lock 16 = .ok (.astore_n 3, 1) := by decide +kernel
theorem dL_lock_17 : decode cL_lock 17 = .ok (.bipush (-73), 2) := by decide +kernel
theorem dL_lock_19 : decode cL_lock 19 = .ok (.ireturn, 1) := by decide +kernel
theorem dL_unlock_0 : decode cL_unlock 0 = .ok (.aload_n 0, 1) := by decide +kernel
theorem dL_unlock_1 : decode cL_unlock 1 = .ok (.iload_n 1, 1) := by decide +kernel
theorem dL_unlock_2 : decode cL_unlock 2 = .ok (.iload_n 2, 1) := by decide +kernel
theorem dL_unlock_3 : decode cL_unlock 3 = .ok (.invokevirtual 19, 3) := by decide +kernel
theorem dL_unlock_6 : decode cL_unlock 6 = .ok (.iconst 0, 1) := by decide +kernel
theorem dL_unlock_7 : decode cL_unlock 7 = .ok (.ireturn, 1) := by decide +kernel
theorem dL_unlock_8 : decode cL_unlock 8 = .ok (.astore_n 3, 1) := by decide +kernel
theorem dL_unlock_9 : decode cL_unlock 9 = .ok (.bipush (-71), 2) := by decide +kernel
theorem dL_unlock_11 : decode cL_unlock 11 = .ok (.ireturn, 1) := by decide +kernel
theorem dL_unlock_12 : decode cL_unlock 12 = .ok (.astore_n 3, 1) := by decide +kernel
theorem dL_unlock_13 : decode cL_unlock 13 = .ok (.bipush (-72), 2) := by decide +kernel
theorem dL_unlock_15 : decode cL_unlock 15 = .ok (.ireturn, 1) := by decide +kernel
theorem dL_unlock_16 : decode cL_unlock 16 = .ok (.astore_n 3, 1) := by decide +kernel
theorem dL_unlock_17 : decode cL_unlock 17 = .ok (.bipush (-73), 2) := by decide +kernel
theorem dL_unlock_19 : decode cL_unlock 19 = .ok (.ireturn, 1) := by decide +kernel
theorem dL_act_0 : decode cL_act 0 = .ok (.iload_n 1, 1) := by decide +kernel
theorem dL_act_1 : decode cL_act 1 = .ok (.ifCond .ne 10, 3) := by decide +kernel
theorem dL_act_4 : decode cL_act 4 = .ok (.aload_n 0, 1) := by decide +kernel
theorem dL_act_5 : decode cL_act 5 = .ok (.invokevirtual 22, 3) := by decide +kernel
theorem dL_act_8 : decode cL_act 8 = .ok (.goto 309, 3) := by decide +kernel
theorem dL_act_11 : decode cL_act 11 = .ok (.iload_n 1, 1) := by decide +kernel
theorem dL_act_12 : decode cL_act 12 = .ok (.iconst 1, 1) := by decide +kernel
theorem dL_act_13 : decode cL_act 13 = .ok (.if_icmp .ne 16, 3) := by decide +kernel
theorem dL_act_16 : decode cL_act 16 = .ok (.aload_n 0, 1) := by decide +kernel
theorem dL_act_17 : decode cL_act 17 = .ok (.iload_n 2, 1) := by decide +kernel
theorem dL_act_18 : decode cL_act 18 = .ok (.iload_n 3, 1) := by decide +kernel
theorem dL_act_19 : decode cL_act 19 = .ok (.iload 4, 2) := by decide +kernel
theorem dL_act_21 : decode cL_act 21 = .ok (.iload 5, 2) := by decide +kernel
theorem dL_act_23 : decode cL_act 23 = .ok (.invokevirtual 26, 3) := by decide +kernel
theorem dL_act_26 : decode cL_act 26 = .ok (.goto 291, 3) := by decide +kernel
theorem dL_act_29 : decode cL_act 29 = .ok (.iload_n 1, 1) := by decide +kernel
theorem dL_act_30 : decode cL_act 30 = .ok (.iconst 2, 1) := by decide +kernel
theorem dL_act_31 : decode cL_act 31 = .ok (.if_icmp .ne 33, 3) := by decide +kernel
theorem dL_act_34 : decode cL_act 34 = .ok (.aload_n 0, 1) := by decide +kernel
theorem dL_act_35 : decode cL_act 35 = .ok (.iload_n 2, 1) := by decide +kernel
theorem dL_act_36 : decode cL_act 36 = .ok (.iload_n 3, 1) := by decide +kernel
theorem dL_act_37 : decode cL_act 37 = .ok (.iload 4, 2) := by decide +kernel
theorem dL_act_39 : decode cL_act 39 = .ok (.iload 5, 2) := by decide +kernel
theorem dL_act_41 : decode cL_act 41 = .ok (.iconst 1, 1) := by decide +kernel
theorem dL_act_42 : decode cL_act 42 = .ok (.if_icmp .ne 7, 3) := by decide +kernel
theorem dL_act_45 : decode cL_act 45 = .ok (.iconst 1, 1) := by decide +kernel
theorem dL_act_46 : decode cL_act 46 = .ok (.goto 4, 3) := by decide +kernel
theorem dL_act_49 : decode cL_act 49 = .ok (.iconst 0, 1) := by decide +kernel
theorem dL_act_50 : decode cL_act 50 = .ok (.invokevirtual 30, 3) := by decide +kernel
theorem dL_act_53 : decode cL_act 53 = .ok (.ifCond .eq 7, 3) := by decide +kernel
theorem dL_act_56 : decode cL_act 56 = .ok (.iconst 1, 1) := by decide +kernel
theorem dL_act_57 : decode cL_act 57 = .ok (.goto 260, 3) := by decide +kernel
theorem dL_act_60 : decode cL_act 60 = .ok (.iconst 0, 1) := by decide +kernel
theorem dL_act_61 : decode cL_act 61 = .ok (.goto 256, 3) := by decide +kernel
theorem dL_act_64 : decode cL_act 64 = .ok (.iload_n 1, 1) := by decide +kernel
theorem dL_act_65 : decode cL_act 65 = .ok (.iconst 3, 1) := by decide +kernel
theorem dL_act_66 : decode cL_act 66 = .ok (.if_icmp .ne 33, 3) := by decide +kernel
theorem dL_act_69 : decode cL_act 69 = .ok (.aload_n 0, 1) := by decide +kernel
theorem dL_act_70 : decode cL_act 70 = .ok (.iload_n 2, 1) := by decide +kernel
theorem dL_act_71 : decode cL_act 71 = .ok (.iload_n 3, 1) := by decide +kernel
theorem dL_act_72 : decode cL_act 72 = .ok (.iload 4, 2) := by decide +kernel
theorem dL_act_74 : decode cL_act 74 = .ok (.iload 5, 2) := by decide +kernel
theorem dL_act_76 : decode cL_act 76 = .ok (.iconst 1, 1) := by decide +kernel
theorem dL_act_77 : decode cL_act 77 = .ok (.if_icmp .ne 7, 3) := by decide +kernel
theorem dL_act_80 : decode cL_act 80 = .ok (.iconst 1, 1) := by decide +kernel
theorem dL_act_81 : decode cL_act 81 = .ok (.goto 4, 3) := by decide +kernel
theorem dL_act_84 : decode cL_act 84 = .ok (.iconst 0, 1) := by decide +kernel
theorem dL_act_85 : decode cL_act 85 = .ok (.invokevirtual 34, 3) := by decide +kernel
theorem dL_act_88 : decode cL_act 88 = .ok (.ifCond .eq 7, 3) := by decide +kernel
theorem dL_act_91 : decode cL_act 91 = .ok (.iconst 1, 1) := by decide +kernel
theorem dL_act_92 : decode cL_act 92 = .ok (.goto 225, 3) := by decide +kernel
theorem dL_act_95 : decode cL_act 95 = .ok (.iconst 0, 1) := by decide +kernel
theorem dL_act_96 : decode cL_act 96 = .ok (.goto 221, 3) := by decide +kernel
theorem dL_act_99 : decode cL_act 99 = .ok (.iload_n 1, 1) := by decide +kernel
theorem dL_act_100 : decode cL_act 100 = .ok (.iconst 4, 1) := by decide +kernel
theorem dL_act_101 : decode cL_act 101 = .ok (.if_icmp .ne 12, 3) := by decide +kernel
theorem dL_act_104 : decode cL_act 104 = .ok (.aload_n 0, 1) := by decide +kernel
theorem dL_act_105 : decode cL_act 105 = .ok (.iload_n 2, 1) := by decide +kernel
theorem dL_act_106 : decode cL_act 106 = .ok (.iload_n 3, 1) := by decide +kernel
theorem dL_act_107 : decode cL_act 107 = .ok (.invokevirtual 37, 3) := by decide +kernel
theorem dL_act_110 : decode cL_act 110 = .ok (.goto 207, 3) := by decide +kernel
theorem dL_act_113 : decode cL_act 113 = .ok (.iload_n 1, 1) := by decide +kernel
theorem dL_act_114 : decode cL_act 114 = .ok (.iconst 5, 1) := by decide +kernel
theorem dL_act_115 : decode cL_act 115 = .ok (.if_icmp .ne 20, 3) := by decide +kernel
theorem dL_act_118 : decode cL_act 118 = .ok (.aload_n 0, 1) := by decide +kernel
theorem dL_act_119 : decode cL_act 119 = .ok (.iload_n 2, 1) := by decide +kernel
theorem dL_act_120 : decode cL_act 120 = .ok (.iload_n 3, 1) := by decide +kernel
theorem dL_act_121 : decode cL_act 121 = .ok (.invokevirtual 41, 3) := by decide +kernel
theorem dL_act_124 : decode cL_act 124 = .ok (.ifCond .eq 7, 3) := by decide +kernel
theorem dL_act_127 : decode cL_act 127 = .ok (.iconst 1, 1) := by decide +kernel
theorem dL_act_128 : decode cL_act 128 = .ok (.goto 189, 3) := by decide +kernel
theorem dL_act_131 : decode cL_act 131 = .ok (.iconst 0, 1) := by decide +kernel
theorem dL_act_132 : decode cL_act 132 = .ok (.goto 185, 3) := by decide +kernel
theorem dL_act_135 : decode cL_act 135 = .ok (.iload_n 1, 1) := by decide +kernel
theorem dL_act_136 : decode cL_act 136 = .ok (.bipush 6, 2) := by decide +kernel
theorem dL_act_138 : decode cL_act 138 = .ok (.if_icmp .ne 11, 3) := by decide +kernel
theorem dL_act_141 : decode cL_act 141 = .ok (.aload_n 0, 1) := by decide +kernel
theorem dL_act_142 : decode cL_act 142 = .ok (.iload_n 2, 1) := by decide +kernel
theorem dL_act_143 : decode cL_act 143 = .ok (.invokevirtual 45, 3) := by decide +kernel
theorem dL_act_146 : decode cL_act 146 = .ok (.goto 171, 3) := by decide +kernel
theorem dL_act_149 : decode cL_act 149 = .ok (.iload_n 1, 1) := by decide +kernel
theorem dL_act_150 : decode cL_act 150 = .ok (.bipush 7, 2) := by decide +kernel
theorem dL_act_152 : decode cL_act 152 = .ok (.if_icmp .ne 12, 3) := by decide +kernel
theorem dL_act_155 : decode cL_act 155 = .ok (.aload_n 0, 1) := by decide +kernel
theorem dL_act_156 : decode cL_act 156 = .ok (.iload_n 2, 1) := by decide +kernel
theorem dL_act_157 : decode cL_act 157 = .ok (.iload_n 3, 1) := by decide +kernel
theorem dL_act_158 : decode cL_act 158 = .ok (.invokevirtual 49, 3) := by decide +kernel
theorem dL_act_161 : decode cL_act 161 = .ok (.goto 156, 3) := by decide +kernel
theorem dL_act_164 : decode cL_act 164 = .ok (.iload_n 1, 1) := by decide +kernel
theorem dL_act_165 : decode cL_act 165 = .ok (.bipush 8, 2) := by decide +kernel
theorem dL_act_167 : decode cL_act 167 = .ok (.if_icmp .ne 12, 3) := by decide +kernel
theorem dL_act_170 : decode cL_act 170 = .ok (.aload_n 0, 1) := by decide +kernel
theorem dL_act_171 : decode cL_act 171 = .ok (.iload_n 2, 1) := by decide +kernel
theorem dL_act_172 : decode cL_act 172 = .ok (.iload_n 3, 1) := by decide +kernel
theorem dL_act_173 : decode cL_act 173 = .ok (.invokevirtual 52, 3) := by decide +kernel
theorem dL_act_176 : decode cL_act 176 = .ok (.goto 141, 3) := by decide +kernel
theorem dL_act_179 : decode cL_act 179 = .ok (.iload_n 1, 1) := by decide +kernel
theorem dL_act_180 : decode cL_act 180 = .ok (.bipush 9, 2) := by decide +kernel
theorem dL_act_182 : decode cL_act 182 = .ok (.if_icmp .ne 12, 3) := by decide +kernel
theorem dL_act_185 : decode cL_act 185 = .ok (.aload_n 0, 1) := by decide +kernel
theorem dL_act_186 : decode cL_act 186 = .ok (.iload_n 2, 1) := by decide +kernel
theorem dL_act_187 : decode cL_act 187 = .ok (.iload_n 3, 1) := by decide +kernel
theorem dL_act_188 : decode cL_act 188 = .ok (.invokevirtual 55, 3) := by decide +kernel
theorem dL_act_191 : decode cL_act 191 = .ok (.goto 126, 3) := by decide +kernel
theorem dL_act_194 : decode cL_act 194 = .ok (.iload_n 1, 1) := by decide +kernel
theorem dL_act_195 : decode cL_act 195 = .ok (.bipush 10, 2) := by decide +kernel
theorem dL_act_197 : decode cL_act 197 = .ok (.if_icmp .ne 12, 3) := by decide +kernel
theorem dL_act_200 : decode cL_act 200 = .ok (.aload_n 0, 1) := by decide +kernel
theorem dL_act_201 : decode cL_act 201 = .ok (.iload_n 2, 1) := by decide +kernel
theorem dL_act_202 : decode cL_act 202 = .ok (.iload_n 3, 1) := by decide +kernel
theorem dL_act_203 : decode cL_act 203 = .ok (.invokevirtual 58, 3) := by decide +kernel
theorem dL_act_206 : decode cL_act 206 = .ok (.goto 111, 3) := by decide +kernel
theorem dL_act_209 : decode cL_act 209 = .ok (.iload_n 1, 1) := by decide +kernel
theorem dL_act_210 : decode cL_act 210 = .ok (.bipush 11, 2) := by decide +kernel
theorem dL_act_212 : decode cL_act 212 = .ok (.if_icmp .ne 14, 3) := by decide +kernel
theorem dL_act_215 : decode cL_act 215 = .ok (.aload_n 0, 1) := by decide +kernel
theorem dL_act_216 : decode cL_act 216 = .ok (.iload_n 2, 1) := by decide +kernel
theorem dL_act_217 : decode cL_act 217 = .ok (.iload_n 3, 1) := by decide +kernel
theorem dL_act_218 : decode cL_act 218 = .ok (.iload 4, 2) := by decide +kernel
theorem dL_act_220 : decode cL_act 220 = .ok (.invokevirtual 61, 3) := by decide +kernel
theorem dL_act_223 : decode cL_act 223 = .ok (.goto 94, 3) := by decide +kernel
theorem dL_act_226 : decode cL_act 226 = .ok (.iload_n 1, 1) := by decide +kernel
theorem dL_act_227 : decode cL_act 227 = .ok (.bipush 12, 2) := by decide +kernel
theorem dL_act_229 : decode cL_act 229 = .ok (.if_icmp .ne 11, 3) := by decide +kernel
theorem dL_act_232 : decode cL_act 232 = .ok (.aload_n 0, 1) := by decide +kernel
theorem dL_act_233 : decode cL_act 233 = .ok (.iload_n 2, 1) := by decide +kernel
theorem dL_act_234 : decode cL_act 234 = .ok (.invokevirtual 65, 3) := by decide +kernel
theorem dL_act_237 : decode cL_act 237 = .ok (.goto 80, 3) := by decide +kernel
theorem dL_act_240 : decode cL_act 240 = .ok (.iload_n 1, 1) := by decide +kernel
theorem dL_act_241 : decode cL_act 241 = .ok (.bipush 13, 2) := by decide +kernel
theorem dL_act_243 : decode cL_act 243 = .ok (.if_icmp .ne 11, 3) := by decide +kernel
theorem dL_act_246 : decode cL_act 246 = .ok (.aload_n 0, 1) := by decide +kernel
theorem dL_act_247 : decode cL_act 247 = .ok (.iload_n 2, 1) := by decide +kernel
theorem dL_act_248 : decode cL_act 248 = .ok (.invokevirtual 68, 3) := by decide +kernel
theorem dL_act_251 : decode cL_act 251 = .ok (.goto 66, 3) := by decide +kernel
theorem dL_act_254 : decode cL_act 254 = .ok (.iload_n 1, 1) := by decide +kernel
theorem dL_act_255 : decode cL_act 255 = .ok (.bipush 14, 2) := by decide +kernel
theorem dL_act_257 : decode cL_act 257 = .ok (.if_icmp .ne 19, 3) := by decide +kernel
theorem dL_act_260 : decode cL_act 260 = .ok (.aload_n 0, 1) := by decide +kernel
theorem dL_act_261 : decode cL_act 261 = .ok (.iload_n 2, 1) := by decide +kernel
theorem dL_act_262 : decode cL_act 262 = .ok (.invokevirtual 71, 3) := by decide +kernel
theorem dL_act_265 : decode cL_act 265 = .ok (.ifCond .eq 7, 3) := by decide +kernel
theorem dL_act_268 : decode cL_act 268 = .ok (.iconst 1, 1) := by decide +kernel
theorem dL_act_269 : decode cL_act 269 = .ok (.goto 48, 3) := by decide +kernel
theorem dL_act_272 : decode cL_act 272 = .ok (.iconst 0, 1) := by decide +kernel
theorem dL_act_273 : decode cL_act 273 = .ok (.goto 44, 3) := by decide +kernel
theorem dL_act_276 : decode cL_act 276 = .ok (.iload_n 1, 1) := by decide +kernel
theorem dL_act_277 : decode cL_act 277 = .ok (.bipush 15, 2) := by decide +kernel
theorem dL_act_279 : decode cL_act 279 = .ok (.if_icmp .ne 11, 3) := by decide +kernel
theorem dL_act_282 : decode cL_act 282 = .ok (.aload_n 0, 1) := by decide +kernel
theorem dL_act_283 : decode cL_act 283 = .ok (.iload_n 2, 1) := by decide +kernel
theorem dL_act_284 : decode cL_act 284 = .ok (.invokevirtual 75, 3) := by decide +kernel
theorem dL_act_287 : decode cL_act 287 = .ok (.goto 30, 3) := by decide +kernel
theorem dL_act_290 : decode cL_act 290 = .ok (.iload_n 1, 1) := by decide +kernel
theorem dL_act_291 : decode cL_act 291 = .ok (.bipush 16, 2) := by decide +kernel
theorem dL_act_293 : decode cL_act 293 = .ok (.if_icmp .ne 11, 3) := by decide +kernel
theorem dL_act_296 : decode cL_act 296 = .ok (.aload_n 0, 1) := by decide +kernel
theorem dL_act_297 : decode cL_act 297 = .ok (.iload_n 2, 1) := by decide +kernel
theorem dL_act_298 : decode cL_act 298 = .ok (.invokevirtual 78, 3) := by decide +kernel
theorem dL_act_301 : decode cL_act 301 = .ok (.goto 16, 3) := by decide +kernel
theorem dL_act_304 : decode cL_act 304 = .ok (.aload_n 0, 1) := by decide +kernel
theorem dL_act_305 : decode cL_act 305 = .ok (.iload_n 2, 1) := by decide +kernel
theorem dL_act_306 : decode cL_act 306 = .ok (.invokevirtual 81, 3) := by decide +kernel
theorem dL_act_309 : decode cL_act 309 = .ok (.ifCond .eq 7, 3) := by decide +kernel
theorem dL_act_312 : decode cL_act 312 = .ok (.iconst 1, 1) := by decide +kernel
theorem dL_act_313 : decode cL_act 313 = .ok (.goto 4, 3) := by decide +kernel
theorem dL_act_316 : decode cL_act 316 = .ok (.iconst 0, 1) := by decide +kernel
theorem dL_act_317 : decode cL_act 317 = .ok (.ireturn, 1) := by decide +kernel
theorem dL_act_318 : decode cL_act 318 = .ok (.astore 6, 2) := by decide +kernel
theorem dL_act_320 : decode cL_act 320 = .ok (.bipush (-71), 2) := by decide +kernel
theorem dL_act_322 : decode cL_act 322 = .ok (.ireturn, 1) := by decide +kernel
theorem dL_act_323 : decode cL_act 323 = .ok (.astore 6, 2) := by decide +kernel
theorem dL_act_325 : decode cL_act 325 = .ok (.bipush (-72), 2) := by decide +kernel
theorem dL_act_327 : decode cL_act 327 = .ok (.ireturn, 1) := by decide +kernel
theorem dL_act_328 : decode cL_act 328 = .ok (.astore 6, 2) := by decide +kernel
theorem dL_act_330 : decode cL_act 330 = .ok (.bipush (-73), 2) := by decide +kernel
theorem dL_act_332 : decode cL_act 332 = .ok (.ireturn, 1) := by decide +kernel
theorem dL_refuses_0 : decode cL_refuses 0 = .ok (.aload_n 0, 1) := by decide +kernel
theorem dL_refuses_1 : decode cL_refuses 1 = .ok (.invokevirtual 84, 3) := by decide +kernel
theorem dL_refuses_4 : decode cL_refuses 4 = .ok (.istore_n 3, 1) := by decide +kernel
theorem dL_refuses_5 : decode cL_refuses 5 = .ok (.aload_n 0, 1) := by decide +kernel
theorem dL_refuses_6 : decode cL_refuses 6 = .ok (.invokevirtual 87, 3) := by decide +kernel
theorem dL_refuses_9 : decode cL_refuses 9 = .ok (.istore 4, 2) := by decide +kernel
theorem dL_refuses_11 : decode cL_refuses 11 = .ok (.ldc 90, 2) := by decide +kernel
theorem dL_refuses_13 : decode cL_refuses 13 = .ok (.istore 5, 2) := by decide +kernel
theorem dL_refuses_15 : decode cL_refuses 15 = .ok (.iconst 0, 1) := by decide +kernel
theorem dL_refuses_16 : decode cL_refuses 16 = .ok (.istore 6, 2) := by decide +kernel
theorem dL_refuses_18 : decode cL_refuses 18 = .ok (.iload 6, 2) := by decide +kernel
theorem dL_refuses_20 : decode cL_refuses 20 = .ok (.iconst 4, 1) := by decide +kernel
theorem dL_refuses_21 : decode cL_refuses 21 = .ok (.if_icmp .ge 598, 3) := by decide +kernel
theorem dL_refuses_24 : decode cL_refuses 24 = .ok (.iload 6, 2) := by decide +kernel
theorem dL_refuses_26 : decode cL_refuses 26 = .ok (.ifCond .ne 7, 3) := by decide +kernel
theorem dL_refuses_29 : decode cL_refuses 29 = .ok (.iconst (-1), 1) := by decide +kernel
theorem dL_refuses_30 : decode cL_refuses 30 = .ok (.goto 19, 3) := by decide +kernel
theorem dL_refuses_33 : decode cL_refuses 33 = .ok (.iload 6, 2) := by decide +kernel
theorem dL_refuses_35 : decode cL_refuses 35 = .ok (.iconst 2, 1) := by decide +kernel
theorem dL_refuses_36 : decode cL_refuses 36 = .ok (.if_icmp .ne 8, 3) := by decide +kernel
theorem dL_refuses_39 : decode cL_refuses 39 = .ok (.iload 5, 2) := by decide +kernel
theorem dL_refuses_41 : decode cL_refuses 41 = .ok (.goto 8, 3) := by decide +kernel
theorem dL_refuses_44 : decode cL_refuses 44 = .ok (.iload 5, 2) := by decide +kernel
theorem dL_refuses_46 : decode cL_refuses 46 = .ok (.ineg, 1) := by decide +kernel
theorem dL_refuses_47 : decode cL_refuses 47 = .ok (.iconst 1, 1) := by decide +kernel
theorem dL_refuses_48 : decode cL_refuses 48 = .ok (.isub, 1) := by decide +kernel
theorem dL_refuses_49 : decode cL_refuses 49 = .ok (.istore 7, 2) := by decide +kernel
theorem dL_refuses_51 : decode cL_refuses 51 = .ok (.iload 6, 2) := by decide +kernel
theorem dL_refuses_53 : decode cL_refuses 53 = .ok (.ifCond .ne 8, 3) := by decide +kernel
theorem dL_refuses_56 : decode cL_refuses 56 = .ok (.bipush (-2), 2) := by decide +kernel
theorem dL_refuses_58 : decode cL_refuses 58 = .ok (.goto 5, 3) := by decide +kernel
theorem dL_refuses_61 : decode cL_refuses 61 = .ok (.iload 7, 2) := by decide +kernel
theorem dL_refuses_63 : decode cL_refuses 63 = .ok (.istore 8, 2) := by decide +kernel
theorem dL_refuses_65 : decode cL_refuses 65 = .ok (.iload 6, 2) := by decide +kernel
theorem dL_refuses_67 : decode cL_refuses 67 = .ok (.iconst 1, 1) := by decide +kernel
theorem dL_refuses_68 : decode cL_refuses 68 = .ok (.if_icmp .ne 7, 3) := by decide +kernel
theorem dL_refuses_71 : decode cL_refuses 71 = .ok (.iload_n 3, 1) := by decide +kernel
theorem dL_refuses_72 : decode cL_refuses 72 = .ok (.goto 5, 3) := by decide +kernel
theorem dL_refuses_75 : decode cL_refuses 75 = .ok (.iload 7, 2) := by decide +kernel
theorem dL_refuses_77 : decode cL_refuses 77 = .ok (.istore 9, 2) := by decide +kernel
theorem dL_refuses_79 : decode cL_refuses 79 = .ok (.iload 6, 2) := by decide +kernel
theorem dL_refuses_81 : decode cL_refuses 81 = .ok (.iconst 1, 1) := by decide +kernel
theorem dL_refuses_82 : decode cL_refuses 82 = .ok (.if_icmp .ne 8, 3) := by decide +kernel
theorem dL_refuses_85 : decode cL_refuses 85 = .ok (.bipush 6, 2) := by decide +kernel
theorem dL_refuses_87 : decode cL_refuses 87 = .ok (.goto 5, 3) := by decide +kernel
theorem dL_refuses_90 : decode cL_refuses 90 = .ok (.iload 7, 2) := by decide +kernel
theorem dL_refuses_92 : decode cL_refuses 92 = .ok (.istore 10, 2) := by decide +kernel
theorem dL_refuses_94 : decode cL_refuses 94 = .ok (.iload 6, 2) := by decide +kernel
theorem dL_refuses_96 : decode cL_refuses 96 = .ok (.iconst 1, 1) := by decide +kernel
theorem dL_refuses_97 : decode cL_refuses 97 = .ok (.if_icmp .ne 8, 3) := by decide +kernel
theorem dL_refuses_100 : decode cL_refuses 100 = .ok (.bipush 25, 2) := by decide +kernel
theorem dL_refuses_102 : decode cL_refuses 102 = .ok (.goto 5, 3) := by decide +kernel
theorem dL_refuses_105 : decode cL_refuses 105 = .ok (.iload 7, 2) := by decide +kernel
theorem dL_refuses_107 : decode cL_refuses 107 = .ok (.istore 11, 2) := by decide +kernel
theorem dL_refuses_109 : decode cL_refuses 109 = .ok (.iload 6, 2) := by decide +kernel
theorem dL_refuses_111 : decode cL_refuses 111 = .ok (.iconst 1, 1) := by decide +kernel
theorem dL_refuses_112 : decode cL_refuses 112 = .ok (.if_icmp .ne 8, 3) := by decide +kernel
theorem dL_refuses_115 : decode cL_refuses 115 = .ok (.bipush 40, 2) := by decide +kernel
theorem dL_refuses_117 : decode cL_refuses 117 = .ok (.goto 5, 3) := by decide +kernel
theorem dL_refuses_120 : decode cL_refuses 120 = .ok (.iload 7, 2) := by decide +kernel
theorem dL_refuses_122 : decode cL_refuses 122 = .ok (.istore 12, 2) := by decide +kernel
theorem dL_refuses_124 : decode cL_refuses 124 = .ok (.aload_n 0, 1) := by decide +kernel
theorem dL_refuses_125 : decode cL_refuses 125 = .ok (.iconst 1, 1) := by decide +kernel
theorem dL_refuses_126 : decode cL_refuses 126 = .ok (.iload 9, 2) := by decide +kernel
theorem dL_refuses_128 : decode cL_refuses 128 = .ok (.iconst (-1), 1) := by decide +kernel
theorem dL_refuses_129 : decode cL_refuses 129 = .ok (.iconst (-1), 1) := by decide +kernel
theorem dL_refuses_130 : decode cL_refuses 130 = .ok (.iconst 5, 1) := by decide +kernel
theorem dL_refuses_131 : decode cL_refuses 131 = .ok (.invokestatic 91, 3) := by decide +kernel
theorem dL_refuses_134 : decode cL_refuses 134 = .ok (.bipush (-71), 2) := by decide +kernel
theorem dL_refuses_136 : decode cL_refuses 136 = .ok (.if_icmp .ne 77, 3) := by decide +kernel
theorem dL_refuses_139 : decode cL_refuses 139 = .ok (.aload_n 0, 1) := by decide +kernel
theorem dL_refuses_140 : decode cL_refuses 140 = .ok (.iconst 2, 1) := by decide +kernel
theorem dL_refuses_141 : decode cL_refuses 141 = .ok (.iload 9, 2) := by decide +kernel
theorem dL_refuses_143 : decode cL_refuses 143 = .ok (.iconst (-1), 1) := by decide +kernel
theorem dL_refuses_144 : decode cL_refuses 144 = .ok (.iconst (-1), 1) := by decide +kernel
theorem dL_refuses_145 : decode cL_refuses 145 = .ok (.iconst 1, 1) := by decide +kernel
theorem dL_refuses_146 : decode cL_refuses 146 = .ok (.invokestatic 91, 3) := by decide +kernel
theorem dL_refuses_149 : decode cL_refuses 149 = .ok (.bipush (-71), 2) := by decide +kernel
theorem dL_refuses_151 : decode cL_refuses 151 = .ok (.if_icmp .ne 62, 3) := by decide +kernel
theorem dL_refuses_154 : decode cL_refuses 154 = .ok (.aload_n 0, 1) := by decide +kernel
theorem dL_refuses_155 : decode cL_refuses 155 = .ok (.iconst 3, 1) := by decide +kernel
theorem dL_refuses_156 : decode cL_refuses 156 = .ok (.iload 9, 2) := by decide +kernel
theorem dL_refuses_158 : decode cL_refuses 158 = .ok (.iconst (-1), 1) := by decide +kernel
theorem dL_refuses_159 : decode cL_refuses 159 = .ok (.iconst 0, 1) := by decide +kernel
theorem dL_refuses_160 : decode cL_refuses 160 = .ok (.iconst 1, 1) := by decide +kernel
theorem dL_refuses_161 : decode cL_refuses 161 = .ok (.invokestatic 91, 3) := by decide +kernel
theorem dL_refuses_164 : decode cL_refuses 164 = .ok (.bipush (-71), 2) := by decide +kernel
theorem dL_refuses_166 : decode cL_refuses 166 = .ok (.if_icmp .ne 47, 3) := by decide +kernel
theorem dL_refuses_169 : decode cL_refuses 169 = .ok (.aload_n 0, 1) := by decide +kernel
theorem dL_refuses_170 : decode cL_refuses 170 = .ok (.bipush 11, 2) := by decide +kernel
theorem dL_refuses_172 : decode cL_refuses 172 = .ok (.iload 9, 2) := by decide +kernel
theorem dL_refuses_174 : decode cL_refuses 174 = .ok (.iconst (-1), 1) := by decide +kernel
theorem dL_refuses_175 : decode cL_refuses 175 = .ok (.iconst (-1), 1) := by decide +kernel
theorem dL_refuses_176 : decode cL_refuses 176 = .ok (.iconst 0, 1) := by decide +kernel
theorem dL_refuses_177 : decode cL_refuses 177 = .ok (.invokestatic 91, 3) := by decide +kernel
theorem dL_refuses_180 : decode cL_refuses 180 = .ok (.bipush (-71), 2) := by decide +kernel
theorem dL_refuses_182 : decode cL_refuses 182 = .ok (.if_icmp .ne 31, 3) := by decide +kernel
theorem dL_refuses_185 : decode cL_refuses 185 = .ok (.aload_n 0, 1) := by decide +kernel
theorem dL_refuses_186 : decode cL_refuses 186 = .ok (.iload 9, 2) := by decide +kernel
theorem dL_refuses_188 : decode cL_refuses 188 = .ok (.iconst (-1), 1) := by decide +kernel
theorem dL_refuses_189 : decode cL_refuses 189 = .ok (.invokestatic 97, 3) := by decide +kernel
theorem dL_refuses_192 : decode cL_refuses 192 = .ok (.bipush (-71), 2) := by decide +kernel
theorem dL_refuses_194 : decode cL_refuses 194 = .ok (.if_icmp .ne 19, 3) := by decide +kernel
theorem dL_refuses_197 : decode cL_refuses 197 = .ok (.aload_n 0, 1) := by decide +kernel
theorem dL_refuses_198 : decode cL_refuses 198 = .ok (.iload 9, 2) := by decide +kernel
theorem dL_refuses_200 : decode cL_refuses 200 = .ok (.iconst (-1), 1) := by decide +kernel
theorem dL_refuses_201 : decode cL_refuses 201 = .ok (.invokestatic 100, 3) := by decide +kernel
theorem dL_refuses_204 : decode cL_refuses 204 = .ok (.bipush (-71), 2) := by decide +kernel
theorem dL_refuses_206 : decode cL_refuses 206 = .ok (.if_icmp .ne 7, 3) := by decide +kernel
theorem dL_refuses_209 : decode cL_refuses 209 = .ok (.iconst 1, 1) := by decide +kernel
theorem dL_refuses_210 : decode cL_refuses 210 = .ok (.goto 4, 3) := by decide +kernel
theorem dL_refuses_213 : decode cL_refuses 213 = .ok (.iconst 0, 1) := by decide +kernel
theorem dL_refuses_214 : decode cL_refuses 214 = .ok (.istore 13, 2) := by decide +kernel
theorem dL_refuses_216 : decode cL_refuses 216 = .ok (.iconst 4, 1) := by decide +kernel
theorem dL_refuses_217 : decode cL_refuses 217 = .ok (.istore 14, 2) := by decide +kernel
theorem dL_refuses_219 : decode cL_refuses 219 = .ok (.iload 14, 2) := by decide +kernel
theorem dL_refuses_221 : decode cL_refuses 221 = .ok (.bipush 11, 2) := by decide +kernel
theorem dL_refuses_223 : decode cL_refuses 223 = .ok (.if_icmp .ge 75, 3) := by decide +kernel
theorem dL_refuses_226 : decode cL_refuses 226 = .ok (.iload 13, 2) := by decide +kernel
theorem dL_refuses_228 : decode cL_refuses 228 = .ok (.ifCond .eq 61, 3) := by decide +kernel
theorem dL_refuses_231 : decode cL_refuses 231 = .ok (.aload_n 0, 1) := by decide +kernel
theorem dL_refuses_232 : decode cL_refuses 232 = .ok (.iload 14, 2) := by decide +kernel
theorem dL_refuses_234 : decode cL_refuses 234 = .ok (.iload 9, 2) := by decide +kernel
theorem dL_refuses_236 : decode cL_refuses 236 = .ok (.iconst (-1), 1) := by decide +kernel
theorem dL_refuses_237 : decode cL_refuses 237 = .ok (.iconst 0, 1) := by decide +kernel
theorem dL_refuses_238 : decode cL_refuses 238 = .ok (.iconst 0, 1) := by decide +kernel
theorem dL_refuses_239 : decode cL_refuses 239 = .ok (.invokestatic 91, 3) := by decide +kernel
theorem dL_refuses_242 : decode cL_refuses 242 = .ok (.bipush (-71), 2) := by decide +kernel
theorem dL_refuses_244 : decode cL_refuses 244 = .ok (.if_icmp .ne 45, 3) := by decide +kernel
theorem dL_refuses_247 : decode cL_refuses 247 = .ok (.iload_n 3, 1) := by decide +kernel
theorem dL_refuses_248 : decode cL_refuses 248 = .ok (.ifCond .eq 37, 3) := by decide +kernel
theorem dL_refuses_251 : decode cL_refuses 251 = .ok (.iload 14, 2) := by decide +kernel
theorem dL_refuses_253 : decode cL_refuses 253 = .ok (.bipush 6, 2) := by decide +kernel
theorem dL_refuses_255 : decode cL_refuses 255 = .ok (.if_icmp .eq 30, 3) := by decide +kernel
theorem dL_refuses_258 : decode cL_refuses 258 = .ok (.aload_n 0, 1) := by decide +kernel
theorem dL_refuses_259 : decode cL_refuses 259 = .ok (.iload 14, 2) := by decide +kernel
theorem dL_refuses_261 : decode cL_refuses 261 = .ok (.iconst 0, 1) := by decide +kernel
theorem dL_refuses_262 : decode cL_refuses 262 = .ok (.iload 14, 2) := by decide +kernel
theorem dL_refuses_264 : decode cL_refuses 264 = .ok (.iconst 4, 1) := by decide +kernel
theorem dL_refuses_265 : decode cL_refuses 265 = .ok (.if_icmp .ne 8, 3) := by decide +kernel
theorem dL_refuses_268 : decode cL_refuses 268 = .ok (.iload 12, 2) := by decide +kernel
theorem dL_refuses_270 : decode cL_refuses 270 = .ok (.goto 5, 3) := by decide +kernel
theorem dL_refuses_273 : decode cL_refuses 273 = .ok (.iload 11, 2) := by decide +kernel
theorem dL_refuses_275 : decode cL_refuses 275 = .ok (.iconst 0, 1) := by decide +kernel
theorem dL_refuses_276 : decode cL_refuses 276 = .ok (.iconst 0, 1) := by decide +kernel
theorem dL_refuses_277 : decode cL_refuses 277 = .ok (.invokestatic 91, 3) := by decide +kernel
theorem dL_refuses_280 : decode cL_refuses 280 = .ok (.bipush (-72), 2) := by decide +kernel
theorem dL_refuses_282 : decode cL_refuses 282 = .ok (.if_icmp .ne 7, 3) := by decide +kernel
theorem dL_refuses_285 : decode cL_refuses 285 = .ok (.iconst 1, 1) := by decide +kernel
theorem dL_refuses_286 : decode cL_refuses 286 = .ok (.goto 4, 3) := by decide +kernel
theorem dL_refuses_289 : decode cL_refuses 289 = .ok (.iconst 0, 1) := by decide +kernel
theorem dL_refuses_290 : decode cL_refuses 290 = .ok (.istore 13, 2) := by decide +kernel
theorem dL_refuses_292 : decode cL_refuses 292 = .ok (.iinc 14 1, 3) := by decide +kernel
theorem dL_refuses_295 : decode cL_refuses 295 = .ok (.goto (-76), 3) := by decide +kernel
theorem dL_refuses_298 : decode cL_refuses 298 = .ok (.bipush 12, 2) := by decide +kernel
theorem dL_refuses_300 : decode cL_refuses 300 = .ok (.istore 14, 2) := by decide +kernel
theorem dL_refuses_302 : decode cL_refuses 302 = .ok (.iload 14, 2) := by decide +kernel
theorem dL_refuses_304 : decode cL_refuses 304 = .ok (.bipush 18, 2) := by decide +kernel
theorem dL_refuses_306 : decode cL_refuses 306 = .ok (.if_icmp .ge 73, 3) := by decide +kernel
theorem dL_refuses_309 : decode cL_refuses 309 = .ok (.iload 14, 2) := by decide +kernel
theorem dL_refuses_311 : decode cL_refuses 311 = .ok (.bipush 14, 2) := by decide +kernel
theorem dL_refuses_313 : decode cL_refuses 313 = .ok (.if_icmp .ne 7, 3) := by decide +kernel
theorem dL_refuses_316 : decode cL_refuses 316 = .ok (.iload_n 1, 1) := by decide +kernel
theorem dL_refuses_317 : decode cL_refuses 317 = .ok (.goto 15, 3) := by decide +kernel
theorem dL_refuses_320 : decode cL_refuses 320 = .ok (.iload 14, 2) := by decide +kernel
theorem dL_refuses_322 : decode cL_refuses 322 = .ok (.bipush 15, 2) := by decide +kernel
theorem dL_refuses_324 : decode cL_refuses 324 = .ok (.if_icmp .le 7, 3) := by decide +kernel
theorem dL_refuses_327 : decode cL_refuses 327 = .ok (.iload_n 2, 1) := by decide +kernel
theorem dL_refuses_328 : decode cL_refuses 328 = .ok (.goto 4, 3) := by decide +kernel
theorem dL_refuses_331 : decode cL_refuses 331 = .ok (.iload_n 3, 1) := by decide +kernel
theorem dL_refuses_332 : decode cL_refuses 332 = .ok (.istore 15, 2) := by decide +kernel
theorem dL_refuses_334 : decode cL_refuses 334 = .ok (.iload 13, 2) := by decide +kernel
theorem dL_refuses_336 : decode cL_refuses 336 = .ok (.ifCond .eq 34, 3) := by decide +kernel
theorem dL_refuses_339 : decode cL_refuses 339 = .ok (.aload_n 0, 1) := by decide +kernel
theorem dL_refuses_340 : decode cL_refuses 340 = .ok (.iload 14, 2) := by decide +kernel
theorem dL_refuses_342 : decode cL_refuses 342 = .ok (.iload 6, 2) := by decide +kernel
theorem dL_refuses_344 : decode cL_refuses 344 = .ok (.iconst 1, 1) := by decide +kernel
theorem dL_refuses_345 : decode cL_refuses 345 = .ok (.if_icmp .ne 8, 3) := by decide +kernel
theorem dL_refuses_348 : decode cL_refuses 348 = .ok (.iload 15, 2) := by decide +kernel
theorem dL_refuses_350 : decode cL_refuses 350 = .ok (.goto 5, 3) := by decide +kernel
theorem dL_refuses_353 : decode cL_refuses 353 = .ok (.iload 7, 2) := by decide +kernel
theorem dL_refuses_355 : decode cL_refuses 355 = .ok (.iconst 0, 1) := by decide +kernel
theorem dL_refuses_356 : decode cL_refuses 356 = .ok (.iconst 0, 1) := by decide +kernel
theorem dL_refuses_357 : decode cL_refuses 357 = .ok (.iconst 0, 1) := by decide +kernel
theorem dL_refuses_358 : decode cL_refuses 358 = .ok (.invokestatic 91, 3) := by decide +kernel
theorem dL_refuses_361 : decode cL_refuses 361 = .ok (.bipush (-71), 2) := by decide +kernel
theorem dL_refuses_363 : decode cL_refuses 363 = .ok (.if_icmp .ne 7, 3) := by decide +kernel
theorem dL_refuses_366 : decode cL_refuses 366 = .ok (.iconst 1, 1) := by decide +kernel
theorem dL_refuses_367 : decode cL_refuses 367 = .ok (.goto 4, 3) := by decide +kernel
theorem dL_refuses_370 : decode cL_refuses 370 = .ok (.iconst 0, 1) := by decide +kernel
theorem dL_refuses_371 : decode cL_refuses 371 = .ok (.istore 13, 2) := by decide +kernel
theorem dL_refuses_373 : decode cL_refuses 373 = .ok (.iinc 14 1, 3) := by decide +kernel
theorem dL_refuses_376 : decode cL_refuses 376 = .ok (.goto (-74), 3) := by decide +kernel
theorem dL_refuses_379 : decode cL_refuses 379 = .ok (.iload_n 3, 1) := by decide +kernel
theorem dL_refuses_380 : decode cL_refuses 380 = .ok (.ifCond .le 226, 3) := by decide +kernel
theorem dL_refuses_383 : decode cL_refuses 383 = .ok (.iload 13, 2) := by decide +kernel
theorem dL_refuses_385 : decode cL_refuses 385 = .ok (.ifCond .eq 122, 3) := by decide +kernel
theorem dL_refuses_388 : decode cL_refuses 388 = .ok (.aload_n 0, 1) := by decide +kernel
theorem dL_refuses_389 : decode cL_refuses 389 = .ok (.iconst 1, 1) := by decide +kernel
theorem dL_refuses_390 : decode cL_refuses 390 = .ok (.iconst 0, 1) := by decide +kernel
theorem dL_refuses_391 : decode cL_refuses 391 = .ok (.iload 10, 2) := by decide +kernel
theorem dL_refuses_393 : decode cL_refuses 393 = .ok (.iconst 0, 1) := by decide +kernel
theorem dL_refuses_394 : decode cL_refuses 394 = .ok (.iconst 0, 1) := by decide +kernel
theorem dL_refuses_395 : decode cL_refuses 395 = .ok (.invokestatic 91, 3) := by decide +kernel
theorem dL_refuses_398 : decode cL_refuses 398 = .ok (.bipush (-72), 2) := by decide +kernel
theorem dL_refuses_400 : decode cL_refuses 400 = .ok (.if_icmp .ne 107, 3) := by decide +kernel
theorem dL_refuses_403 : decode cL_refuses 403 = .ok (.aload_n 0, 1) := by decide +kernel
theorem dL_refuses_404 : decode cL_refuses 404 = .ok (.iconst 1, 1) := by decide +kernel
theorem dL_refuses_405 : decode cL_refuses 405 = .ok (.iconst 0, 1) := by decide +kernel
theorem dL_refuses_406 : decode cL_refuses 406 = .ok (.iconst 0, 1) := by decide +kernel
theorem dL_refuses_407 : decode cL_refuses 407 = .ok (.iload 12, 2) := by decide +kernel
theorem dL_refuses_409 : decode cL_refuses 409 = .ok (.iconst 0, 1) := by decide +kernel
theorem dL_refuses_410 : decode cL_refuses 410 = .ok (.invokestatic 91, 3) := by decide +kernel
theorem dL_refuses_413 : decode cL_refuses 413 = .ok (.bipush (-72), 2) := by decide +kernel
theorem dL_refuses_415 : decode cL_refuses 415 = .ok (.if_icmp .ne 92, 3) := by decide +kernel
theorem dL_refuses_418 : decode cL_refuses 418 = .ok (.aload_n 0, 1) := by decide +kernel
theorem dL_refuses_419 : decode cL_refuses 419 = .ok (.iconst 1, 1) := by decide +kernel
theorem dL_refuses_420 : decode cL_refuses 420 = .ok (.iconst 0, 1) := by decide +kernel
theorem dL_refuses_421 : decode cL_refuses 421 = .ok (.iconst 0, 1) := by decide +kernel
theorem dL_refuses_422 : decode cL_refuses 422 = .ok (.iconst 0, 1) := by decide +kernel
theorem dL_refuses_423 : decode cL_refuses 423 = .ok (.iload 6, 2) := by decide +kernel
theorem dL_refuses_425 : decode cL_refuses 425 = .ok (.iconst 1, 1) := by decide +kernel
theorem dL_refuses_426 : decode cL_refuses 426 = .ok (.if_icmp .ne 7, 3) := by decide +kernel
theorem dL_refuses_429 : decode cL_refuses 429 = .ok (.iconst 3, 1) := by decide +kernel
theorem dL_refuses_430 : decode cL_refuses 430 = .ok (.goto 5, 3) := by decide +kernel
theorem dL_refuses_433 : decode cL_refuses 433 = .ok (.iload 8, 2) := by decide +kernel
theorem dL_refuses_435 : decode cL_refuses 435 = .ok (.invokestatic 91, 3) := by decide +kernel
theorem dL_refuses_438 : decode cL_refuses 438 = .ok (.bipush (-72), 2) := by decide +kernel
theorem dL_refuses_440 : decode cL_refuses 440 = .ok (.if_icmp .ne 67, 3) := by decide +kernel
theorem dL_refuses_443 : decode cL_refuses 443 = .ok (.aload_n 0, 1) := by decide +kernel
theorem dL_refuses_444 : decode cL_refuses 444 = .ok (.iconst 2, 1) := by decide +kernel
theorem dL_refuses_445 : decode cL_refuses 445 = .ok (.iconst 0, 1) := by decide +kernel
theorem dL_refuses_446 : decode cL_refuses 446 = .ok (.iload 10, 2) := by decide +kernel
theorem dL_refuses_448 : decode cL_refuses 448 = .ok (.iconst 0, 1) := by decide +kernel
theorem dL_refuses_449 : decode cL_refuses 449 = .ok (.iconst 1, 1) := by decide +kernel
theorem dL_refuses_450 : decode cL_refuses 450 = .ok (.invokestatic 91, 3) := by decide +kernel
theorem dL_refuses_453 : decode cL_refuses 453 = .ok (.bipush (-72), 2) := by decide +kernel
theorem dL_refuses_455 : decode cL_refuses 455 = .ok (.if_icmp .ne 52, 3) := by decide +kernel
theorem dL_refuses_458 : decode cL_refuses 458 = .ok (.aload_n 0, 1) := by decide +kernel
theorem dL_refuses_459 : decode cL_refuses 459 = .ok (.iconst 2, 1) := by decide +kernel
theorem dL_refuses_460 : decode cL_refuses 460 = .ok (.iconst 0, 1) := by decide +kernel
theorem dL_refuses_461 : decode cL_refuses 461 = .ok (.iconst 0, 1) := by decide +kernel
theorem dL_refuses_462 : decode cL_refuses 462 = .ok (.iload 11, 2) := by decide +kernel
theorem dL_refuses_464 : decode cL_refuses 464 = .ok (.iconst 1, 1) := by decide +kernel
theorem dL_refuses_465 : decode cL_refuses 465 = .ok (.invokestatic 91, 3) := by decide +kernel
theorem dL_refuses_468 : decode cL_refuses 468 = .ok (.bipush (-72), 2) := by decide +kernel
theorem dL_refuses_470 : decode cL_refuses 470 = .ok (.if_icmp .ne 37, 3) := by decide +kernel
theorem dL_refuses_473 : decode cL_refuses 473 = .ok (.aload_n 0, 1) := by decide +kernel
theorem dL_refuses_474 : decode cL_refuses 474 = .ok (.iconst 3, 1) := by decide +kernel
theorem dL_refuses_475 : decode cL_refuses 475 = .ok (.iconst 0, 1) := by decide +kernel
theorem dL_refuses_476 : decode cL_refuses 476 = .ok (.iconst 0, 1) := by decide +kernel
theorem dL_refuses_477 : decode cL_refuses 477 = .ok (.iload 9, 2) := by decide +kernel
theorem dL_refuses_479 : decode cL_refuses 479 = .ok (.iconst 1, 1) := by decide +kernel
theorem dL_refuses_480 : decode cL_refuses 480 = .ok (.invokestatic 91, 3) := by decide +kernel
theorem dL_refuses_483 : decode cL_refuses 483 = .ok (.bipush (-71), 2) := by decide +kernel
theorem dL_refuses_485 : decode cL_refuses 485 = .ok (.if_icmp .ne 22, 3) := by decide +kernel
theorem dL_refuses_488 : decode cL_refuses 488 = .ok (.aload_n 0, 1) := by decide +kernel
theorem dL_refuses_489 : decode cL_refuses 489 = .ok (.iconst 3, 1) := by decide +kernel
theorem dL_refuses_490 : decode cL_refuses 490 = .ok (.iconst 0, 1) := by decide +kernel
theorem dL_refuses_491 : decode cL_refuses 491 = .ok (.iload 10, 2) := by decide +kernel
theorem dL_refuses_493 : decode cL_refuses 493 = .ok (.iconst 0, 1) := by decide +kernel
theorem dL_refuses_494 : decode cL_refuses 494 = .ok (.iconst 1, 1) := by decide +kernel
theorem dL_refuses_495 : decode cL_refuses 495 = .ok (.invokestatic 91, 3) := by decide +kernel
theorem dL_refuses_498 : decode cL_refuses 498 = .ok (.bipush (-72), 2) := by decide +kernel
theorem dL_refuses_500 : decode cL_refuses 500 = .ok (.if_icmp .ne 7, 3) := by decide +kernel
theorem dL_refuses_503 : decode cL_refuses 503 = .ok (.iconst 1, 1) := by decide +kernel
theorem dL_refuses_504 : decode cL_refuses 504 = .ok (.goto 4, 3) := by decide +kernel
theorem dL_refuses_507 : decode cL_refuses 507 = .ok (.iconst 0, 1) := by decide +kernel
theorem dL_refuses_508 : decode cL_refuses 508 = .ok (.istore 13, 2) := by decide +kernel
theorem dL_refuses_510 : decode cL_refuses 510 = .ok (.iload 13, 2) := by decide +kernel
theorem dL_refuses_512 : decode cL_refuses 512 = .ok (.ifCond .eq 91, 3) := by decide +kernel
theorem dL_refuses_515 : decode cL_refuses 515 = .ok (.aload_n 0, 1) := by decide +kernel
theorem dL_refuses_516 : decode cL_refuses 516 = .ok (.iconst 0, 1) := by decide +kernel
theorem dL_refuses_517 : decode cL_refuses 517 = .ok (.iload 10, 2) := by decide +kernel
theorem dL_refuses_519 : decode cL_refuses 519 = .ok (.invokestatic 97, 3) := by decide +kernel
theorem dL_refuses_522 : decode cL_refuses 522 = .ok (.bipush (-72), 2) := by decide +kernel
theorem dL_refuses_524 : decode cL_refuses 524 = .ok (.if_icmp .ne 79, 3) := by decide +kernel
theorem dL_refuses_527 : decode cL_refuses 527 = .ok (.aload_n 0, 1) := by decide +kernel
theorem dL_refuses_528 : decode cL_refuses 528 = .ok (.iconst 0, 1) := by decide +kernel
theorem dL_refuses_529 : decode cL_refuses 529 = .ok (.iload 10, 2) := by decide +kernel
theorem dL_refuses_531 : decode cL_refuses 531 = .ok (.invokestatic 100, 3) := by decide +kernel
theorem dL_refuses_534 : decode cL_refuses 534 = .ok (.bipush (-72), 2) := by decide +kernel
theorem dL_refuses_536 : decode cL_refuses 536 = .ok (.if_icmp .ne 67, 3) := by decide +kernel
theorem dL_refuses_539 : decode cL_refuses 539 = .ok (.aload_n 0, 1) := by decide +kernel
theorem dL_refuses_540 : decode cL_refuses 540 = .ok (.bipush 11, 2) := by decide +kernel
theorem dL_refuses_542 : decode cL_refuses 542 = .ok (.iconst 0, 1) := by decide +kernel
theorem dL_refuses_543 : decode cL_refuses 543 = .ok (.iload 10, 2) := by decide +kernel
theorem dL_refuses_545 : decode cL_refuses 545 = .ok (.iconst (-1), 1) := by decide +kernel
theorem dL_refuses_546 : decode cL_refuses 546 = .ok (.iconst 0, 1) := by decide +kernel
theorem dL_refuses_547 : decode cL_refuses 547 = .ok (.invokestatic 91, 3) := by decide +kernel
theorem dL_refuses_550 : decode cL_refuses 550 = .ok (.bipush (-72), 2) := by decide +kernel
theorem dL_refuses_552 : decode cL_refuses 552 = .ok (.if_icmp .ne 51, 3) := by decide +kernel
theorem dL_refuses_555 : decode cL_refuses 555 = .ok (.aload_n 0, 1) := by decide +kernel
theorem dL_refuses_556 : decode cL_refuses 556 = .ok (.bipush 11, 2) := by decide +kernel
theorem dL_refuses_558 : decode cL_refuses 558 = .ok (.iconst 0, 1) := by decide +kernel
theorem dL_refuses_559 : decode cL_refuses 559 = .ok (.iconst 0, 1) := by decide +kernel
theorem dL_refuses_560 : decode cL_refuses 560 = .ok (.iload 6, 2) := by decide +kernel
theorem dL_refuses_562 : decode cL_refuses 562 = .ok (.iconst 1, 1) := by decide +kernel
theorem dL_refuses_563 : decode cL_refuses 563 = .ok (.if_icmp .ne 8, 3) := by decide +kernel
theorem dL_refuses_566 : decode cL_refuses 566 = .ok (.bipush 6, 2) := by decide +kernel
theorem dL_refuses_568 : decode cL_refuses 568 = .ok (.goto 5, 3) := by decide +kernel
theorem dL_refuses_571 : decode cL_refuses 571 = .ok (.iload 8, 2) := by decide +kernel
theorem dL_refuses_573 : decode cL_refuses 573 = .ok (.iconst 0, 1) := by decide +kernel
theorem dL_refuses_574 : decode cL_refuses 574 = .ok (.invokestatic 91, 3) := by decide +kernel
theorem dL_refuses_577 : decode cL_refuses 577 = .ok (.bipush (-72), 2) := by decide +kernel
theorem dL_refuses_579 : decode cL_refuses 579 = .ok (.if_icmp .ne 24, 3) := by decide +kernel
theorem dL_refuses_582 : decode cL_refuses 582 = .ok (.aload_n 0, 1) := by decide +kernel
theorem dL_refuses_583 : decode cL_refuses 583 = .ok (.bipush 11, 2) := by decide +kernel
theorem dL_refuses_585 : decode cL_refuses 585 = .ok (.iconst 0, 1) := by decide +kernel
theorem dL_refuses_586 : decode cL_refuses 586 = .ok (.iload 6, 2) := by decide +kernel
theorem dL_refuses_588 : decode cL_refuses 588 = .ok (.iload 6, 2) := by decide +kernel
theorem dL_refuses_590 : decode cL_refuses 590 = .ok (.iconst 0, 1) := by decide +kernel
theorem dL_refuses_591 : decode cL_refuses 591 = .ok (.invokestatic 91, 3) := by decide +kernel
theorem dL_refuses_594 : decode cL_refuses 594 = .ok (.bipush (-72), 2) := by decide +kernel
theorem dL_refuses_596 : decode cL_refuses 596 = .ok (.if_icmp .ne 7, 3) := by decide +kernel
theorem dL_refuses_599 : decode cL_refuses 599 = .ok (.iconst 1, 1) := by decide +kernel
theorem dL_refuses_600 : decode cL_refuses 600 = .ok (.goto 4, 3) := by decide +kernel
theorem dL_refuses_603 : decode cL_refuses 603 = .ok (.iconst 0, 1) := by decide +kernel
theorem dL_refuses_604 : decode cL_refuses 604 = .ok (.istore 13, 2) := by decide +kernel
theorem dL_refuses_606 : decode cL_refuses 606 = .ok (.iload 13, 2) := by decide +kernel
theorem dL_refuses_608 : decode cL_refuses 608 = .ok (.ifCond .ne 5, 3) := by decide +kernel
theorem dL_refuses_611 : decode cL_refuses 611 = .ok (.iconst 0, 1) := by decide +kernel
theorem dL_refuses_612 : decode cL_refuses 612 = .ok (.ireturn, 1) := by decide +kernel
theorem dL_refuses_613 : decode cL_refuses 613 = .ok (.iinc 6 1, 3) := by decide +kernel
theorem dL_refuses_616 : decode cL_refuses 616 = .ok (.goto (-598), 3) := by decide +kernel
theorem dL_refuses_619 : decode cL_refuses 619 = .ok (.aload_n 0, 1) := by decide +kernel
theorem dL_refuses_620 : decode cL_refuses 620 = .ok (.invokevirtual 84, 3) := by decide +kernel
theorem dL_refuses_623 : decode cL_refuses 623 = .ok (.iload_n 3, 1) := by decide +kernel
theorem dL_refuses_624 : decode cL_refuses 624 = .ok (.if_icmp .ne 16, 3) := by decide +kernel
theorem dL_refuses_627 : decode cL_refuses 627 = .ok (.aload_n 0, 1) := by decide +kernel
theorem dL_refuses_628 : decode cL_refuses 628 = .ok (.invokevirtual 87, 3) := by decide +kernel
theorem dL_refuses_631 : decode cL_refuses 631 = .ok (.iload 4, 2) := by decide +kernel
theorem dL_refuses_633 : decode cL_refuses 633 = .ok (.if_icmp .ne 7, 3) := by decide +kernel
theorem dL_refuses_636 : decode cL_refuses 636 = .ok (.iconst 1, 1) := by decide +kernel
theorem dL_refuses_637 : decode cL_refuses 637 = .ok (.goto 4, 3) := by decide +kernel
theorem dL_refuses_640 : decode cL_refuses 640 = .ok (.iconst 0, 1) := by decide +kernel
theorem dL_refuses_641 : decode cL_refuses 641 = .ok (.ireturn, 1) := by decide +kernel
theorem dL_cell_0 : decode cL_cell 0 = .ok (.aload_n 0, 1) := by decide +kernel
theorem dL_cell_1 : decode cL_cell 1 = .ok (.iload_n 1, 1) := by decide +kernel
theorem dL_cell_2 : decode cL_cell 2 = .ok (.iload_n 2, 1) := by decide +kernel
theorem dL_cell_3 : decode cL_cell 3 = .ok (.invokevirtual 49, 3) := by decide +kernel
theorem dL_cell_6 : decode cL_cell 6 = .ok (.iload_n 3, 1) := by decide +kernel
theorem dL_cell_7 : decode cL_cell 7 = .ok (.if_icmp .ne 40, 3) := by decide +kernel
theorem dL_cell_10 : decode cL_cell 10 = .ok (.aload_n 0, 1) := by decide +kernel
theorem dL_cell_11 : decode cL_cell 11 = .ok (.iload_n 1, 1) := by decide +kernel
theorem dL_cell_12 : decode cL_cell 12 = .ok (.iload_n 2, 1) := by decide +kernel
theorem dL_cell_13 : decode cL_cell 13 = .ok (.invokevirtual 52, 3) := by decide +kernel
theorem dL_cell_16 : decode cL_cell 16 = .ok (.iload 4, 2) := by decide +kernel
theorem dL_cell_18 : decode cL_cell 18 = .ok (.if_icmp .ne 29, 3) := by decide +kernel
theorem dL_cell_21 : decode cL_cell 21 = .ok (.aload_n 0, 1) := by decide +kernel
theorem dL_cell_22 : decode cL_cell 22 = .ok (.iload_n 1, 1) := by decide +kernel
theorem dL_cell_23 : decode cL_cell 23 = .ok (.iload_n 2, 1) := by decide +kernel
theorem dL_cell_24 : decode cL_cell 24 = .ok (.invokevirtual 55, 3) := by decide +kernel
theorem dL_cell_27 : decode cL_cell 27 = .ok (.iload 5, 2) := by decide +kernel
theorem dL_cell_29 : decode cL_cell 29 = .ok (.if_icmp .ne 18, 3) := by decide +kernel
theorem dL_cell_32 : decode cL_cell 32 = .ok (.aload_n 0, 1) := by decide +kernel
theorem dL_cell_33 : decode cL_cell 33 = .ok (.iload_n 1, 1) := by decide +kernel
theorem dL_cell_34 : decode cL_cell 34 = .ok (.iload_n 2, 1) := by decide +kernel
theorem dL_cell_35 : decode cL_cell 35 = .ok (.invokevirtual 58, 3) := by decide +kernel
theorem dL_cell_38 : decode cL_cell 38 = .ok (.iload 6, 2) := by decide +kernel
theorem dL_cell_40 : decode cL_cell 40 = .ok (.if_icmp .ne 7, 3) := by decide +kernel
theorem dL_cell_43 : decode cL_cell 43 = .ok (.iconst 1, 1) := by decide +kernel
theorem dL_cell_44 : decode cL_cell 44 = .ok (.goto 4, 3) := by decide +kernel
theorem dL_cell_47 : decode cL_cell 47 = .ok (.iconst 0, 1) := by decide +kernel
theorem dL_cell_48 : decode cL_cell 48 = .ok (.ireturn, 1) := by decide +kernel
theorem dL_floor_0 : decode cL_floor 0 = .ok (.new 8, 3) := by decide +kernel
theorem dL_floor_3 : decode cL_floor 3 = .ok (.dup, 1) := by decide +kernel
theorem dL_floor_4 : decode cL_floor 4 = .ok (.invokespecial 102, 3) := by decide +kernel
theorem dL_floor_7 : decode cL_floor 7 = .ok (.astore_n 0, 1) := by decide +kernel
theorem dL_floor_8 : decode cL_floor 8 = .ok (.bipush (-73), 2) := by decide +kernel
theorem dL_floor_10 : decode cL_floor 10 = .ok (.istore_n 1, 1) := by decide +kernel
theorem dL_floor_11 : decode cL_floor 11 = .ok (.aload_n 0, 1) := by decide +kernel
theorem dL_floor_12 : decode cL_floor 12 = .ok (.invokevirtual 84, 3) := by decide +kernel
theorem dL_floor_15 : decode cL_floor 15 = .ok (.ifCond .ne 180, 3) := by decide +kernel
theorem dL_floor_18 : decode cL_floor 18 = .ok (.aload_n 0, 1) := by decide +kernel
theorem dL_floor_19 : decode cL_floor 19 = .ok (.invokevirtual 87, 3) := by decide +kernel
theorem dL_floor_22 : decode cL_floor 22 = .ok (.ifCond .ne 173, 3) := by decide +kernel
theorem dL_floor_25 : decode cL_floor 25 = .ok (.aload_n 0, 1) := by decide +kernel
theorem dL_floor_26 : decode cL_floor 26 = .ok (.iconst 0, 1) := by decide +kernel
theorem dL_floor_27 : decode cL_floor 27 = .ok (.iconst 0, 1) := by decide +kernel
theorem dL_floor_28 : decode cL_floor 28 = .ok (.invokestatic 103, 3) := by decide +kernel
theorem dL_floor_31 : decode cL_floor 31 = .ok (.ifCond .eq 164, 3) := by decide +kernel
theorem dL_floor_34 : decode cL_floor 34 = .ok (.aload_n 0, 1) := by decide +kernel
theorem dL_floor_35 : decode cL_floor 35 = .ok (.invokevirtual 22, 3) := by decide +kernel
theorem dL_floor_38 : decode cL_floor 38 = .ok (.ifCond .ne 157, 3) := by decide +kernel
theorem dL_floor_41 : decode cL_floor 41 = .ok (.aload_n 0, 1) := by decide +kernel
theorem dL_floor_42 : decode cL_floor 42 = .ok (.iconst 0, 1) := by decide +kernel
theorem dL_floor_43 : decode cL_floor 43 = .ok (.invokevirtual 45, 3) := by decide +kernel
theorem dL_floor_46 : decode cL_floor 46 = .ok (.iconst 1, 1) := by decide +kernel
theorem dL_floor_47 : decode cL_floor 47 = .ok (.if_icmp .ne 148, 3) := by decide +kernel
theorem dL_floor_50 : decode cL_floor 50 = .ok (.aload_n 0, 1) := by decide +kernel
theorem dL_floor_51 : decode cL_floor 51 = .ok (.iconst 0, 1) := by decide +kernel
theorem dL_floor_52 : decode cL_floor 52 = .ok (.bipush 24, 2) := by decide +kernel
theorem dL_floor_54 : decode cL_floor 54 = .ok (.iconst 0, 1) := by decide +kernel
theorem dL_floor_55 : decode cL_floor 55 = .ok (.bipush 25, 2) := by decide +kernel
theorem dL_floor_57 : decode cL_floor 57 = .ok (.iconst (-1), 1) := by decide +kernel
theorem dL_floor_58 : decode cL_floor 58 = .ok (.iconst (-1), 1) := by decide +kernel
theorem dL_floor_59 : decode cL_floor 59 = .ok (.invokestatic 107, 3) := by decide +kernel
theorem dL_floor_62 : decode cL_floor 62 = .ok (.ifCond .eq 133, 3) := by decide +kernel
theorem dL_floor_65 : decode cL_floor 65 = .ok (.aload_n 0, 1) := by decide +kernel
theorem dL_floor_66 : decode cL_floor 66 = .ok (.iconst 0, 1) := by decide +kernel
theorem dL_floor_67 : decode cL_floor 67 = .ok (.bipush 39, 2) := by decide +kernel
theorem dL_floor_69 : decode cL_floor 69 = .ok (.invokevirtual 37, 3) := by decide +kernel
theorem dL_floor_72 : decode cL_floor 72 = .ok (.iconst (-1), 1) := by decide +kernel
theorem dL_floor_73 : decode cL_floor 73 = .ok (.if_icmp .ne 122, 3) := by decide +kernel
theorem dL_floor_76 : decode cL_floor 76 = .ok (.aload_n 0, 1) := by decide +kernel
theorem dL_floor_77 : decode cL_floor 77 = .ok (.iconst 0, 1) := by decide +kernel
theorem dL_floor_78 : decode cL_floor 78 = .ok (.iconst 0, 1) := by decide +kernel
theorem dL_floor_79 : decode cL_floor 79 = .ok (.invokevirtual 41, 3) := by decide +kernel
theorem dL_floor_82 : decode cL_floor 82 = .ok (.ifCond .ne 113, 3) := by decide +kernel
theorem dL_floor_85 : decode cL_floor 85 = .ok (.aload_n 0, 1) := by decide +kernel
theorem dL_floor_86 : decode cL_floor 86 = .ok (.iconst 0, 1) := by decide +kernel
theorem dL_floor_87 : decode cL_floor 87 = .ok (.invokevirtual 65, 3) := by decide +kernel
theorem dL_floor_90 : decode cL_floor 90 = .ok (.iconst (-1), 1) := by decide +kernel
theorem dL_floor_91 : decode cL_floor 91 = .ok (.if_icmp .ne 104, 3) := by decide +kernel
theorem dL_floor_94 : decode cL_floor 94 = .ok (.aload_n 0, 1) := by decide +kernel
theorem dL_floor_95 : decode cL_floor 95 = .ok (.iconst 1, 1) := by decide +kernel
theorem dL_floor_96 : decode cL_floor 96 = .ok (.iconst 0, 1) := by decide +kernel
theorem dL_floor_97 : decode cL_floor 97 = .ok (.iconst 0, 1) := by decide +kernel
theorem dL_floor_98 : decode cL_floor 98 = .ok (.iconst 0, 1) := by decide +kernel
theorem dL_floor_99 : decode cL_floor 99 = .ok (.iconst 1, 1) := by decide +kernel
theorem dL_floor_100 : decode cL_floor 100 = .ok (.invokestatic 91, 3) := by decide +kernel
theorem dL_floor_103 : decode cL_floor 103 = .ok (.iload_n 1, 1) := by decide +kernel
theorem dL_floor_104 : decode cL_floor 104 = .ok (.if_icmp .ne 91, 3) := by decide +kernel
theorem dL_floor_107 : decode cL_floor 107 = .ok (.aload_n 0, 1) := by decide +kernel
theorem dL_floor_108 : decode cL_floor 108 = .ok (.bipush 13, 2) := by decide +kernel
theorem dL_floor_110 : decode cL_floor 110 = .ok (.iconst 0, 1) := by decide +kernel
theorem dL_floor_111 : decode cL_floor 111 = .ok (.iconst 0, 1) := by decide +kernel
theorem dL_floor_112 : decode cL_floor 112 = .ok (.iconst 0, 1) := by decide +kernel
theorem dL_floor_113 : decode cL_floor 113 = .ok (.iconst 0, 1) := by decide +kernel
theorem dL_floor_114 : decode cL_floor 114 = .ok (.invokestatic 91, 3) := by decide +kernel
theorem dL_floor_117 : decode cL_floor 117 = .ok (.iload_n 1, 1) := by decide +kernel
theorem dL_floor_118 : decode cL_floor 118 = .ok (.if_icmp .ne 77, 3) := by decide +kernel
theorem dL_floor_121 : decode cL_floor 121 = .ok (.aload_n 0, 1) := by decide +kernel
theorem dL_floor_122 : decode cL_floor 122 = .ok (.iconst 0, 1) := by decide +kernel
theorem dL_floor_123 : decode cL_floor 123 = .ok (.iconst 0, 1) := by decide +kernel
theorem dL_floor_124 : decode cL_floor 124 = .ok (.invokestatic 100, 3) := by decide +kernel
theorem dL_floor_127 : decode cL_floor 127 = .ok (.iload_n 1, 1) := by decide +kernel
theorem dL_floor_128 : decode cL_floor 128 = .ok (.if_icmp .ne 67, 3) := by decide +kernel
theorem dL_floor_131 : decode cL_floor 131 = .ok (.aload_n 0, 1) := by decide +kernel
theorem dL_floor_132 : decode cL_floor 132 = .ok (.iconst 0, 1) := by decide +kernel
theorem dL_floor_133 : decode cL_floor 133 = .ok (.iconst 2, 1) := by decide +kernel
theorem dL_floor_134 : decode cL_floor 134 = .ok (.invokestatic 97, 3) := by decide +kernel
theorem dL_floor_137 : decode cL_floor 137 = .ok (.ifCond .ne 58, 3) := by decide +kernel
theorem dL_floor_140 : decode cL_floor 140 = .ok (.aload_n 0, 1) := by decide +kernel
theorem dL_floor_141 : decode cL_floor 141 = .ok (.iconst 0, 1) := by decide +kernel
theorem dL_floor_142 : decode cL_floor 142 = .ok (.iconst 2, 1) := by decide +kernel
theorem dL_floor_143 : decode cL_floor 143 = .ok (.invokestatic 97, 3) := by decide +kernel
end
section
theorem dL_floor_146 : decode cL_floor 146 = .ok (.iload_n 1, 1) := by decide +kernel
theorem dL_floor_147 : decode cL_floor 147 = .ok (.if_icmp .ne 48, 3) := by decide +kernel
theorem dL_floor_150 : decode cL_floor 150 = .ok (.aload_n 0, 1) := by decide +kernel
theorem dL_floor_151 : decode cL_floor 151 = .ok (.iconst 0, 1) := by decide +kernel
theorem dL_floor_152 : decode cL_floor 152 = .ok (.iconst 3, 1) := by decide +kernel
theorem dL_floor_153 : decode cL_floor 153 = .ok (.invokestatic 97, 3) := by decide +kernel
theorem dL_floor_156 : decode cL_floor 156 = .ok (.iload_n 1, 1) := by decide +kernel
theorem dL_floor_157 : decode cL_floor 157 = .ok (.if_icmp .ne 38, 3) := by decide +kernel
theorem dL_floor_160 : decode cL_floor 160 = .ok (.aload_n 0, 1) := by decide +kernel
theorem dL_floor_161 : decode cL_floor 161 = .ok (.iconst 0, 1) := by decide +kernel
theorem dL_floor_162 : decode cL_floor 162 = .ok (.invokevirtual 65, 3) := by decide +kernel
theorem dL_floor_165 : decode cL_floor 165 = .ok (.iconst 2, 1) := by decide +kernel
theorem dL_floor_166 : decode cL_floor 166 = .ok (.if_icmp .ne 29, 3) := by decide +kernel
theorem dL_floor_169 : decode cL_floor 169 = .ok (.aload_n 0, 1) := by decide +kernel
theorem dL_floor_170 : decode cL_floor 170 = .ok (.iconst 1, 1) := by decide +kernel
theorem dL_floor_171 : decode cL_floor 171 = .ok (.iconst 0, 1) := by decide +kernel
theorem dL_floor_172 : decode cL_floor 172 = .ok (.iconst 0, 1) := by decide +kernel
theorem dL_floor_173 : decode cL_floor 173 = .ok (.iconst 0, 1) := by decide +kernel
theorem dL_floor_174 : decode cL_floor 174 = .ok (.iconst 1, 1) := by decide +kernel
theorem dL_floor_175 : decode cL_floor 175 = .ok (.invokestatic 91, 3) := by decide +kernel
theorem dL_floor_178 : decode cL_floor 178 = .ok (.iload_n 1, 1) := by decide +kernel
theorem dL_floor_179 : decode cL_floor 179 = .ok (.if_icmp .ne 16, 3) := by decide +kernel
theorem dL_floor_182 : decode cL_floor 182 = .ok (.aload_n 0, 1) := by decide +kernel
theorem dL_floor_183 : decode cL_floor 183 = .ok (.iconst 2, 1) := by decide +kernel
theorem dL_floor_184 : decode cL_floor 184 = .ok (.iconst 0, 1) := by decide +kernel
theorem dL_floor_185 : decode cL_floor 185 = .ok (.iconst 3, 1) := by decide +kernel
theorem dL_floor_186 : decode cL_floor 186 = .ok (.iconst 0, 1) := by decide +kernel
theorem dL_floor_187 : decode cL_floor 187 = .ok (.iconst 1, 1) := by decide +kernel
theorem dL_floor_188 : decode cL_floor 188 = .ok (.invokestatic 91, 3) := by decide +kernel
theorem dL_floor_191 : decode cL_floor 191 = .ok (.iload_n 1, 1) := by decide +kernel
theorem dL_floor_192 : decode cL_floor 192 = .ok (.if_icmp .eq 5, 3) := by decide +kernel
theorem dL_floor_195 : decode cL_floor 195 = .ok (.iconst 0, 1) := by decide +kernel
theorem dL_floor_196 : decode cL_floor 196 = .ok (.ireturn, 1) := by decide +kernel
theorem dL_floor_197 : decode cL_floor 197 = .ok (.iconst 0, 1) := by decide +kernel
theorem dL_floor_198 : decode cL_floor 198 = .ok (.istore_n 2, 1) := by decide +kernel
theorem dL_floor_199 : decode cL_floor 199 = .ok (.iload_n 2, 1) := by decide +kernel
theorem dL_floor_200 : decode cL_floor 200 = .ok (.iconst 5, 1) := by decide +kernel
theorem dL_floor_201 : decode cL_floor 201 = .ok (.if_icmp .ge 43, 3) := by decide +kernel
theorem dL_floor_204 : decode cL_floor 204 = .ok (.aload_n 0, 1) := by decide +kernel
theorem dL_floor_205 : decode cL_floor 205 = .ok (.iconst 0, 1) := by decide +kernel
theorem dL_floor_206 : decode cL_floor 206 = .ok (.iconst 2, 1) := by decide +kernel
theorem dL_floor_207 : decode cL_floor 207 = .ok (.iconst 4, 1) := by decide +kernel
theorem dL_floor_208 : decode cL_floor 208 = .ok (.iload_n 2, 1) := by decide +kernel
theorem dL_floor_209 : decode cL_floor 209 = .ok (.imul, 1) := by decide +kernel
theorem dL_floor_210 : decode cL_floor 210 = .ok (.iconst 1, 1) := by decide +kernel
theorem dL_floor_211 : decode cL_floor 211 = .ok (.invokevirtual 26, 3) := by decide +kernel
theorem dL_floor_214 : decode cL_floor 214 = .ok (.iconst (-1), 1) := by decide +kernel
theorem dL_floor_215 : decode cL_floor 215 = .ok (.if_icmp .ne 21, 3) := by decide +kernel
theorem dL_floor_218 : decode cL_floor 218 = .ok (.aload_n 0, 1) := by decide +kernel
theorem dL_floor_219 : decode cL_floor 219 = .ok (.iconst 0, 1) := by decide +kernel
theorem dL_floor_220 : decode cL_floor 220 = .ok (.invokevirtual 45, 3) := by decide +kernel
theorem dL_floor_223 : decode cL_floor 223 = .ok (.iload_n 2, 1) := by decide +kernel
theorem dL_floor_224 : decode cL_floor 224 = .ok (.iconst 4, 1) := by decide +kernel
theorem dL_floor_225 : decode cL_floor 225 = .ok (.if_icmp .ge 7, 3) := by decide +kernel
theorem dL_floor_228 : decode cL_floor 228 = .ok (.iconst 1, 1) := by decide +kernel
theorem dL_floor_229 : decode cL_floor 229 = .ok (.goto 4, 3) := by decide +kernel
theorem dL_floor_232 : decode cL_floor 232 = .ok (.iconst 2, 1) := by decide +kernel
theorem dL_floor_233 : decode cL_floor 233 = .ok (.if_icmp .eq 5, 3) := by decide +kernel
theorem dL_floor_236 : decode cL_floor 236 = .ok (.iconst 0, 1) := by decide +kernel
theorem dL_floor_237 : decode cL_floor 237 = .ok (.ireturn, 1) := by decide +kernel
theorem dL_floor_238 : decode cL_floor 238 = .ok (.iinc 2 1, 3) := by decide +kernel
theorem dL_floor_241 : decode cL_floor 241 = .ok (.goto (-42), 3) := by decide +kernel
theorem dL_floor_244 : decode cL_floor 244 = .ok (.aload_n 0, 1) := by decide +kernel
theorem dL_floor_245 : decode cL_floor 245 = .ok (.iconst 0, 1) := by decide +kernel
theorem dL_floor_246 : decode cL_floor 246 = .ok (.bipush 20, 2) := by decide +kernel
theorem dL_floor_248 : decode cL_floor 248 = .ok (.iconst 0, 1) := by decide +kernel
theorem dL_floor_249 : decode cL_floor 249 = .ok (.iconst 5, 1) := by decide +kernel
theorem dL_floor_250 : decode cL_floor 250 = .ok (.iconst (-1), 1) := by decide +kernel
theorem dL_floor_251 : decode cL_floor 251 = .ok (.iconst (-1), 1) := by decide +kernel
theorem dL_floor_252 : decode cL_floor 252 = .ok (.invokestatic 107, 3) := by decide +kernel
theorem dL_floor_255 : decode cL_floor 255 = .ok (.ifCond .eq 364, 3) := by decide +kernel
theorem dL_floor_258 : decode cL_floor 258 = .ok (.aload_n 0, 1) := by decide +kernel
theorem dL_floor_259 : decode cL_floor 259 = .ok (.iconst 0, 1) := by decide +kernel
theorem dL_floor_260 : decode cL_floor 260 = .ok (.bipush 24, 2) := by decide +kernel
theorem dL_floor_262 : decode cL_floor 262 = .ok (.iconst 1, 1) := by decide +kernel
theorem dL_floor_263 : decode cL_floor 263 = .ok (.bipush 20, 2) := by decide +kernel
theorem dL_floor_265 : decode cL_floor 265 = .ok (.iconst (-1), 1) := by decide +kernel
theorem dL_floor_266 : decode cL_floor 266 = .ok (.iconst (-1), 1) := by decide +kernel
theorem dL_floor_267 : decode cL_floor 267 = .ok (.invokestatic 107, 3) := by decide +kernel
theorem dL_floor_270 : decode cL_floor 270 = .ok (.ifCond .eq 349, 3) := by decide +kernel
theorem dL_floor_273 : decode cL_floor 273 = .ok (.aload_n 0, 1) := by decide +kernel
theorem dL_floor_274 : decode cL_floor 274 = .ok (.iconst 0, 1) := by decide +kernel
theorem dL_floor_275 : decode cL_floor 275 = .ok (.iconst 2, 1) := by decide +kernel
theorem dL_floor_276 : decode cL_floor 276 = .ok (.bipush 15, 2) := by decide +kernel
theorem dL_floor_278 : decode cL_floor 278 = .ok (.iconst 1, 1) := by decide +kernel
theorem dL_floor_279 : decode cL_floor 279 = .ok (.invokevirtual 30, 3) := by decide +kernel
theorem dL_floor_282 : decode cL_floor 282 = .ok (.ifCond .ne 337, 3) := by decide +kernel
theorem dL_floor_285 : decode cL_floor 285 = .ok (.aload_n 0, 1) := by decide +kernel
theorem dL_floor_286 : decode cL_floor 286 = .ok (.iconst 0, 1) := by decide +kernel
theorem dL_floor_287 : decode cL_floor 287 = .ok (.iconst 0, 1) := by decide +kernel
theorem dL_floor_288 : decode cL_floor 288 = .ok (.iconst 0, 1) := by decide +kernel
theorem dL_floor_289 : decode cL_floor 289 = .ok (.iconst 5, 1) := by decide +kernel
theorem dL_floor_290 : decode cL_floor 290 = .ok (.iconst 0, 1) := by decide +kernel
theorem dL_floor_291 : decode cL_floor 291 = .ok (.iconst (-1), 1) := by decide +kernel
theorem dL_floor_292 : decode cL_floor 292 = .ok (.invokestatic 107, 3) := by decide +kernel
theorem dL_floor_295 : decode cL_floor 295 = .ok (.ifCond .eq 324, 3) := by decide +kernel
theorem dL_floor_298 : decode cL_floor 298 = .ok (.aload_n 0, 1) := by decide +kernel
theorem dL_floor_299 : decode cL_floor 299 = .ok (.iconst 0, 1) := by decide +kernel
theorem dL_floor_300 : decode cL_floor 300 = .ok (.bipush 24, 2) := by decide +kernel
theorem dL_floor_302 : decode cL_floor 302 = .ok (.iconst 1, 1) := by decide +kernel
theorem dL_floor_303 : decode cL_floor 303 = .ok (.bipush 20, 2) := by decide +kernel
theorem dL_floor_305 : decode cL_floor 305 = .ok (.iconst (-1), 1) := by decide +kernel
theorem dL_floor_306 : decode cL_floor 306 = .ok (.iconst 0, 1) := by decide +kernel
theorem dL_floor_307 : decode cL_floor 307 = .ok (.invokestatic 107, 3) := by decide +kernel
theorem dL_floor_310 : decode cL_floor 310 = .ok (.ifCond .eq 309, 3) := by decide +kernel
theorem dL_floor_313 : decode cL_floor 313 = .ok (.aload_n 0, 1) := by decide +kernel
theorem dL_floor_314 : decode cL_floor 314 = .ok (.bipush 13, 2) := by decide +kernel
theorem dL_floor_316 : decode cL_floor 316 = .ok (.iconst 0, 1) := by decide +kernel
theorem dL_floor_317 : decode cL_floor 317 = .ok (.iconst 0, 1) := by decide +kernel
theorem dL_floor_318 : decode cL_floor 318 = .ok (.iconst 0, 1) := by decide +kernel
theorem dL_floor_319 : decode cL_floor 319 = .ok (.iconst 0, 1) := by decide +kernel
theorem dL_floor_320 : decode cL_floor 320 = .ok (.invokestatic 91, 3) := by decide +kernel
theorem dL_floor_323 : decode cL_floor 323 = .ok (.iload_n 1, 1) := by decide +kernel
theorem dL_floor_324 : decode cL_floor 324 = .ok (.if_icmp .ne 295, 3) := by decide +kernel
theorem dL_floor_327 : decode cL_floor 327 = .ok (.aload_n 0, 1) := by decide +kernel
theorem dL_floor_328 : decode cL_floor 328 = .ok (.iconst 0, 1) := by decide +kernel
theorem dL_floor_329 : decode cL_floor 329 = .ok (.iconst 2, 1) := by decide +kernel
theorem dL_floor_330 : decode cL_floor 330 = .ok (.bipush 8, 2) := by decide +kernel
theorem dL_floor_332 : decode cL_floor 332 = .ok (.iconst 2, 1) := by decide +kernel
theorem dL_floor_333 : decode cL_floor 333 = .ok (.invokevirtual 26, 3) := by decide +kernel
theorem dL_floor_336 : decode cL_floor 336 = .ok (.iconst 1, 1) := by decide +kernel
theorem dL_floor_337 : decode cL_floor 337 = .ok (.if_icmp .ne 282, 3) := by decide +kernel
theorem dL_floor_340 : decode cL_floor 340 = .ok (.aload_n 0, 1) := by decide +kernel
theorem dL_floor_341 : decode cL_floor 341 = .ok (.iconst 0, 1) := by decide +kernel
theorem dL_floor_342 : decode cL_floor 342 = .ok (.invokevirtual 45, 3) := by decide +kernel
theorem dL_floor_345 : decode cL_floor 345 = .ok (.iconst 2, 1) := by decide +kernel
theorem dL_floor_346 : decode cL_floor 346 = .ok (.if_icmp .ne 273, 3) := by decide +kernel
theorem dL_floor_349 : decode cL_floor 349 = .ok (.aload_n 0, 1) := by decide +kernel
theorem dL_floor_350 : decode cL_floor 350 = .ok (.iconst 0, 1) := by decide +kernel
theorem dL_floor_351 : decode cL_floor 351 = .ok (.bipush 24, 2) := by decide +kernel
theorem dL_floor_353 : decode cL_floor 353 = .ok (.iconst 1, 1) := by decide +kernel
theorem dL_floor_354 : decode cL_floor 354 = .ok (.bipush 20, 2) := by decide +kernel
theorem dL_floor_356 : decode cL_floor 356 = .ok (.iconst 1, 1) := by decide +kernel
theorem dL_floor_357 : decode cL_floor 357 = .ok (.iconst (-1), 1) := by decide +kernel
theorem dL_floor_358 : decode cL_floor 358 = .ok (.invokestatic 107, 3) := by decide +kernel
theorem dL_floor_361 : decode cL_floor 361 = .ok (.ifCond .eq 258, 3) := by decide +kernel
theorem dL_floor_364 : decode cL_floor 364 = .ok (.aload_n 0, 1) := by decide +kernel
theorem dL_floor_365 : decode cL_floor 365 = .ok (.iconst 0, 1) := by decide +kernel
theorem dL_floor_366 : decode cL_floor 366 = .ok (.invokevirtual 75, 3) := by decide +kernel
theorem dL_floor_369 : decode cL_floor 369 = .ok (.ifCond .ne 250, 3) := by decide +kernel
theorem dL_floor_372 : decode cL_floor 372 = .ok (.aload_n 0, 1) := by decide +kernel
theorem dL_floor_373 : decode cL_floor 373 = .ok (.iconst 0, 1) := by decide +kernel
theorem dL_floor_374 : decode cL_floor 374 = .ok (.invokevirtual 78, 3) := by decide +kernel
theorem dL_floor_377 : decode cL_floor 377 = .ok (.iconst (-1), 1) := by decide +kernel
theorem dL_floor_378 : decode cL_floor 378 = .ok (.if_icmp .ne 241, 3) := by decide +kernel
theorem dL_floor_381 : decode cL_floor 381 = .ok (.aload_n 0, 1) := by decide +kernel
theorem dL_floor_382 : decode cL_floor 382 = .ok (.iconst 0, 1) := by decide +kernel
theorem dL_floor_383 : decode cL_floor 383 = .ok (.invokevirtual 81, 3) := by decide +kernel
theorem dL_floor_386 : decode cL_floor 386 = .ok (.ifCond .ne 233, 3) := by decide +kernel
theorem dL_floor_389 : decode cL_floor 389 = .ok (.aload_n 0, 1) := by decide +kernel
theorem dL_floor_390 : decode cL_floor 390 = .ok (.invokevirtual 87, 3) := by decide +kernel
theorem dL_floor_393 : decode cL_floor 393 = .ok (.ifCond .ne 226, 3) := by decide +kernel
theorem dL_floor_396 : decode cL_floor 396 = .ok (.aload_n 0, 1) := by decide +kernel
theorem dL_floor_397 : decode cL_floor 397 = .ok (.iconst 0, 1) := by decide +kernel
theorem dL_floor_398 : decode cL_floor 398 = .ok (.invokevirtual 68, 3) := by decide +kernel
theorem dL_floor_401 : decode cL_floor 401 = .ok (.ifCond .ne 218, 3) := by decide +kernel
theorem dL_floor_404 : decode cL_floor 404 = .ok (.aload_n 0, 1) := by decide +kernel
theorem dL_floor_405 : decode cL_floor 405 = .ok (.iconst 0, 1) := by decide +kernel
theorem dL_floor_406 : decode cL_floor 406 = .ok (.invokevirtual 71, 3) := by decide +kernel
theorem dL_floor_409 : decode cL_floor 409 = .ok (.ifCond .eq 210, 3) := by decide +kernel
theorem dL_floor_412 : decode cL_floor 412 = .ok (.aload_n 0, 1) := by decide +kernel
theorem dL_floor_413 : decode cL_floor 413 = .ok (.iconst 0, 1) := by decide +kernel
theorem dL_floor_414 : decode cL_floor 414 = .ok (.invokevirtual 78, 3) := by decide +kernel
theorem dL_floor_417 : decode cL_floor 417 = .ok (.iconst (-1), 1) := by decide +kernel
theorem dL_floor_418 : decode cL_floor 418 = .ok (.if_icmp .ne 201, 3) := by decide +kernel
theorem dL_floor_421 : decode cL_floor 421 = .ok (.aload_n 0, 1) := by decide +kernel
theorem dL_floor_422 : decode cL_floor 422 = .ok (.iconst 0, 1) := by decide +kernel
theorem dL_floor_423 : decode cL_floor 423 = .ok (.invokevirtual 75, 3) := by decide +kernel
theorem dL_floor_426 : decode cL_floor 426 = .ok (.iconst 1, 1) := by decide +kernel
theorem dL_floor_427 : decode cL_floor 427 = .ok (.if_icmp .ne 192, 3) := by decide +kernel
theorem dL_floor_430 : decode cL_floor 430 = .ok (.aload_n 0, 1) := by decide +kernel
theorem dL_floor_431 : decode cL_floor 431 = .ok (.iconst 1, 1) := by decide +kernel
theorem dL_floor_432 : decode cL_floor 432 = .ok (.invokevirtual 78, 3) := by decide +kernel
theorem dL_floor_435 : decode cL_floor 435 = .ok (.ifCond .ne 184, 3) := by decide +kernel
theorem dL_floor_438 : decode cL_floor 438 = .ok (.aload_n 0, 1) := by decide +kernel
theorem dL_floor_439 : decode cL_floor 439 = .ok (.iconst 1, 1) := by decide +kernel
theorem dL_floor_440 : decode cL_floor 440 = .ok (.invokevirtual 81, 3) := by decide +kernel
theorem dL_floor_443 : decode cL_floor 443 = .ok (.ifCond .eq 176, 3) := by decide +kernel
theorem dL_floor_446 : decode cL_floor 446 = .ok (.aload_n 0, 1) := by decide +kernel
theorem dL_floor_447 : decode cL_floor 447 = .ok (.iconst 0, 1) := by decide +kernel
theorem dL_floor_448 : decode cL_floor 448 = .ok (.invokevirtual 68, 3) := by decide +kernel
theorem dL_floor_451 : decode cL_floor 451 = .ok (.iconst 1, 1) := by decide +kernel
theorem dL_floor_452 : decode cL_floor 452 = .ok (.if_icmp .ne 167, 3) := by decide +kernel
theorem dL_floor_455 : decode cL_floor 455 = .ok (.aload_n 0, 1) := by decide +kernel
theorem dL_floor_456 : decode cL_floor 456 = .ok (.iconst 0, 1) := by decide +kernel
theorem dL_floor_457 : decode cL_floor 457 = .ok (.invokevirtual 75, 3) := by decide +kernel
theorem dL_floor_460 : decode cL_floor 460 = .ok (.iconst 2, 1) := by decide +kernel
theorem dL_floor_461 : decode cL_floor 461 = .ok (.if_icmp .ne 158, 3) := by decide +kernel
theorem dL_floor_464 : decode cL_floor 464 = .ok (.aload_n 0, 1) := by decide +kernel
theorem dL_floor_465 : decode cL_floor 465 = .ok (.iconst 2, 1) := by decide +kernel
theorem dL_floor_466 : decode cL_floor 466 = .ok (.invokevirtual 78, 3) := by decide +kernel
theorem dL_floor_469 : decode cL_floor 469 = .ok (.iconst 1, 1) := by decide +kernel
theorem dL_floor_470 : decode cL_floor 470 = .ok (.if_icmp .ne 149, 3) := by decide +kernel
theorem dL_floor_473 : decode cL_floor 473 = .ok (.aload_n 0, 1) := by decide +kernel
theorem dL_floor_474 : decode cL_floor 474 = .ok (.iconst 2, 1) := by decide +kernel
theorem dL_floor_475 : decode cL_floor 475 = .ok (.iconst 3, 1) := by decide +kernel
theorem dL_floor_476 : decode cL_floor 476 = .ok (.invokestatic 103, 3) := by decide +kernel
theorem dL_floor_479 : decode cL_floor 479 = .ok (.ifCond .eq 140, 3) := by decide +kernel
theorem dL_floor_482 : decode cL_floor 482 = .ok (.aload_n 0, 1) := by decide +kernel
theorem dL_floor_483 : decode cL_floor 483 = .ok (.iconst 0, 1) := by decide +kernel
theorem dL_floor_484 : decode cL_floor 484 = .ok (.iconst 2, 1) := by decide +kernel
theorem dL_floor_485 : decode cL_floor 485 = .ok (.iconst 4, 1) := by decide +kernel
theorem dL_floor_486 : decode cL_floor 486 = .ok (.iconst 0, 1) := by decide +kernel
theorem dL_floor_487 : decode cL_floor 487 = .ok (.invokevirtual 26, 3) := by decide +kernel
theorem dL_floor_490 : decode cL_floor 490 = .ok (.iconst 1, 1) := by decide +kernel
theorem dL_floor_491 : decode cL_floor 491 = .ok (.if_icmp .ne 128, 3) := by decide +kernel
theorem dL_floor_494 : decode cL_floor 494 = .ok (.aload_n 0, 1) := by decide +kernel
theorem dL_floor_495 : decode cL_floor 495 = .ok (.iconst 0, 1) := by decide +kernel
theorem dL_floor_496 : decode cL_floor 496 = .ok (.invokevirtual 45, 3) := by decide +kernel
theorem dL_floor_499 : decode cL_floor 499 = .ok (.iconst 1, 1) := by decide +kernel
theorem dL_floor_500 : decode cL_floor 500 = .ok (.if_icmp .ne 119, 3) := by decide +kernel
theorem dL_floor_503 : decode cL_floor 503 = .ok (.aload_n 0, 1) := by decide +kernel
theorem dL_floor_504 : decode cL_floor 504 = .ok (.iconst 0, 1) := by decide +kernel
theorem dL_floor_505 : decode cL_floor 505 = .ok (.bipush 24, 2) := by decide +kernel
theorem dL_floor_507 : decode cL_floor 507 = .ok (.iconst 0, 1) := by decide +kernel
theorem dL_floor_508 : decode cL_floor 508 = .ok (.bipush 25, 2) := by decide +kernel
theorem dL_floor_510 : decode cL_floor 510 = .ok (.iconst 0, 1) := by decide +kernel
theorem dL_floor_511 : decode cL_floor 511 = .ok (.iconst (-1), 1) := by decide +kernel
theorem dL_floor_512 : decode cL_floor 512 = .ok (.invokestatic 107, 3) := by decide +kernel
theorem dL_floor_515 : decode cL_floor 515 = .ok (.ifCond .eq 104, 3) := by decide +kernel
theorem dL_floor_518 : decode cL_floor 518 = .ok (.aload_n 0, 1) := by decide +kernel
theorem dL_floor_519 : decode cL_floor 519 = .ok (.iconst 0, 1) := by decide +kernel
theorem dL_floor_520 : decode cL_floor 520 = .ok (.invokevirtual 71, 3) := by decide +kernel
theorem dL_floor_523 : decode cL_floor 523 = .ok (.ifCond .ne 96, 3) := by decide +kernel
theorem dL_floor_526 : decode cL_floor 526 = .ok (.aload_n 0, 1) := by decide +kernel
theorem dL_floor_527 : decode cL_floor 527 = .ok (.iconst 1, 1) := by decide +kernel
theorem dL_floor_528 : decode cL_floor 528 = .ok (.invokevirtual 81, 3) := by decide +kernel
theorem dL_floor_531 : decode cL_floor 531 = .ok (.ifCond .ne 88, 3) := by decide +kernel
theorem dL_floor_534 : decode cL_floor 534 = .ok (.aload_n 0, 1) := by decide +kernel
theorem dL_floor_535 : decode cL_floor 535 = .ok (.invokevirtual 87, 3) := by decide +kernel
theorem dL_floor_538 : decode cL_floor 538 = .ok (.iconst 3, 1) := by decide +kernel
theorem dL_floor_539 : decode cL_floor 539 = .ok (.if_icmp .ne 80, 3) := by decide +kernel
theorem dL_floor_542 : decode cL_floor 542 = .ok (.aload_n 0, 1) := by decide +kernel
theorem dL_floor_543 : decode cL_floor 543 = .ok (.iconst 0, 1) := by decide +kernel
theorem dL_floor_544 : decode cL_floor 544 = .ok (.invokevirtual 75, 3) := by decide +kernel
theorem dL_floor_547 : decode cL_floor 547 = .ok (.iconst 3, 1) := by decide +kernel
theorem dL_floor_548 : decode cL_floor 548 = .ok (.if_icmp .ne 71, 3) := by decide +kernel
theorem dL_floor_551 : decode cL_floor 551 = .ok (.aload_n 0, 1) := by decide +kernel
theorem dL_floor_552 : decode cL_floor 552 = .ok (.iconst 3, 1) := by decide +kernel
theorem dL_floor_553 : decode cL_floor 553 = .ok (.invokevirtual 78, 3) := by decide +kernel
theorem dL_floor_556 : decode cL_floor 556 = .ok (.iconst (-1), 1) := by decide +kernel
theorem dL_floor_557 : decode cL_floor 557 = .ok (.if_icmp .ne 62, 3) := by decide +kernel
theorem dL_floor_560 : decode cL_floor 560 = .ok (.aload_n 0, 1) := by decide +kernel
theorem dL_floor_561 : decode cL_floor 561 = .ok (.iconst 0, 1) := by decide +kernel
theorem dL_floor_562 : decode cL_floor 562 = .ok (.iconst 2, 1) := by decide +kernel
theorem dL_floor_563 : decode cL_floor 563 = .ok (.iconst 4, 1) := by decide +kernel
theorem dL_floor_564 : decode cL_floor 564 = .ok (.iconst 1, 1) := by decide +kernel
theorem dL_floor_565 : decode cL_floor 565 = .ok (.invokevirtual 26, 3) := by decide +kernel
theorem dL_floor_568 : decode cL_floor 568 = .ok (.ifCond .ne 51, 3) := by decide +kernel
theorem dL_floor_571 : decode cL_floor 571 = .ok (.aload_n 0, 1) := by decide +kernel
theorem dL_floor_572 : decode cL_floor 572 = .ok (.iconst 0, 1) := by decide +kernel
theorem dL_floor_573 : decode cL_floor 573 = .ok (.invokevirtual 71, 3) := by decide +kernel
theorem dL_floor_576 : decode cL_floor 576 = .ok (.ifCond .eq 43, 3) := by decide +kernel
theorem dL_floor_579 : decode cL_floor 579 = .ok (.aload_n 0, 1) := by decide +kernel
theorem dL_floor_580 : decode cL_floor 580 = .ok (.iconst 1, 1) := by decide +kernel
theorem dL_floor_581 : decode cL_floor 581 = .ok (.invokevirtual 81, 3) := by decide +kernel
theorem dL_floor_584 : decode cL_floor 584 = .ok (.ifCond .eq 35, 3) := by decide +kernel
theorem dL_floor_587 : decode cL_floor 587 = .ok (.aload_n 0, 1) := by decide +kernel
theorem dL_floor_588 : decode cL_floor 588 = .ok (.iconst 2, 1) := by decide +kernel
theorem dL_floor_589 : decode cL_floor 589 = .ok (.invokevirtual 81, 3) := by decide +kernel
theorem dL_floor_592 : decode cL_floor 592 = .ok (.ifCond .eq 27, 3) := by decide +kernel
theorem dL_floor_595 : decode cL_floor 595 = .ok (.aload_n 0, 1) := by decide +kernel
theorem dL_floor_596 : decode cL_floor 596 = .ok (.iconst 0, 1) := by decide +kernel
theorem dL_floor_597 : decode cL_floor 597 = .ok (.invokevirtual 81, 3) := by decide +kernel
theorem dL_floor_600 : decode cL_floor 600 = .ok (.ifCond .ne 19, 3) := by decide +kernel
theorem dL_floor_603 : decode cL_floor 603 = .ok (.aload_n 0, 1) := by decide +kernel
theorem dL_floor_604 : decode cL_floor 604 = .ok (.iconst 3, 1) := by decide +kernel
theorem dL_floor_605 : decode cL_floor 605 = .ok (.invokevirtual 81, 3) := by decide +kernel
theorem dL_floor_608 : decode cL_floor 608 = .ok (.ifCond .ne 11, 3) := by decide +kernel
theorem dL_floor_611 : decode cL_floor 611 = .ok (.aload_n 0, 1) := by decide +kernel
theorem dL_floor_612 : decode cL_floor 612 = .ok (.invokevirtual 87, 3) := by decide +kernel
theorem dL_floor_615 : decode cL_floor 615 = .ok (.iconst 1, 1) := by decide +kernel
theorem dL_floor_616 : decode cL_floor 616 = .ok (.if_icmp .eq 5, 3) := by decide +kernel
theorem dL_floor_619 : decode cL_floor 619 = .ok (.iconst 0, 1) := by decide +kernel
theorem dL_floor_620 : decode cL_floor 620 = .ok (.ireturn, 1) := by decide +kernel
theorem dL_floor_621 : decode cL_floor 621 = .ok (.aload_n 0, 1) := by decide +kernel
theorem dL_floor_622 : decode cL_floor 622 = .ok (.iconst 0, 1) := by decide +kernel
theorem dL_floor_623 : decode cL_floor 623 = .ok (.iconst 2, 1) := by decide +kernel
theorem dL_floor_624 : decode cL_floor 624 = .ok (.bipush 24, 2) := by decide +kernel
theorem dL_floor_626 : decode cL_floor 626 = .ok (.iconst 1, 1) := by decide +kernel
theorem dL_floor_627 : decode cL_floor 627 = .ok (.invokevirtual 30, 3) := by decide +kernel
theorem dL_floor_630 : decode cL_floor 630 = .ok (.ifCond .ne 174, 3) := by decide +kernel
theorem dL_floor_633 : decode cL_floor 633 = .ok (.aload_n 0, 1) := by decide +kernel
theorem dL_floor_634 : decode cL_floor 634 = .ok (.iconst 1, 1) := by decide +kernel
theorem dL_floor_635 : decode cL_floor 635 = .ok (.invokevirtual 71, 3) := by decide +kernel
theorem dL_floor_638 : decode cL_floor 638 = .ok (.ifCond .ne 166, 3) := by decide +kernel
theorem dL_floor_641 : decode cL_floor 641 = .ok (.aload_n 0, 1) := by decide +kernel
theorem dL_floor_642 : decode cL_floor 642 = .ok (.invokevirtual 87, 3) := by decide +kernel
theorem dL_floor_645 : decode cL_floor 645 = .ok (.iconst 4, 1) := by decide +kernel
theorem dL_floor_646 : decode cL_floor 646 = .ok (.if_icmp .ne 158, 3) := by decide +kernel
theorem dL_floor_649 : decode cL_floor 649 = .ok (.aload_n 0, 1) := by decide +kernel
theorem dL_floor_650 : decode cL_floor 650 = .ok (.iconst 0, 1) := by decide +kernel
theorem dL_floor_651 : decode cL_floor 651 = .ok (.iconst 2, 1) := by decide +kernel
theorem dL_floor_652 : decode cL_floor 652 = .ok (.bipush 24, 2) := by decide +kernel
theorem dL_floor_654 : decode cL_floor 654 = .ok (.iconst 0, 1) := by decide +kernel
theorem dL_floor_655 : decode cL_floor 655 = .ok (.invokevirtual 30, 3) := by decide +kernel
theorem dL_floor_658 : decode cL_floor 658 = .ok (.ifCond .eq 146, 3) := by decide +kernel
theorem dL_floor_661 : decode cL_floor 661 = .ok (.aload_n 0, 1) := by decide +kernel
theorem dL_floor_662 : decode cL_floor 662 = .ok (.iconst 1, 1) := by decide +kernel
theorem dL_floor_663 : decode cL_floor 663 = .ok (.invokevirtual 71, 3) := by decide +kernel
theorem dL_floor_666 : decode cL_floor 666 = .ok (.ifCond .eq 138, 3) := by decide +kernel
theorem dL_floor_669 : decode cL_floor 669 = .ok (.aload_n 0, 1) := by decide +kernel
theorem dL_floor_670 : decode cL_floor 670 = .ok (.iconst 0, 1) := by decide +kernel
theorem dL_floor_671 : decode cL_floor 671 = .ok (.iconst 2, 1) := by decide +kernel
theorem dL_floor_672 : decode cL_floor 672 = .ok (.bipush 39, 2) := by decide +kernel
theorem dL_floor_674 : decode cL_floor 674 = .ok (.iconst 0, 1) := by decide +kernel
theorem dL_floor_675 : decode cL_floor 675 = .ok (.invokevirtual 26, 3) := by decide +kernel
theorem dL_floor_678 : decode cL_floor 678 = .ok (.iconst (-1), 1) := by decide +kernel
theorem dL_floor_679 : decode cL_floor 679 = .ok (.if_icmp .ne 125, 3) := by decide +kernel
theorem dL_floor_682 : decode cL_floor 682 = .ok (.aload_n 0, 1) := by decide +kernel
theorem dL_floor_683 : decode cL_floor 683 = .ok (.iconst 1, 1) := by decide +kernel
theorem dL_floor_684 : decode cL_floor 684 = .ok (.invokevirtual 71, 3) := by decide +kernel
theorem dL_floor_687 : decode cL_floor 687 = .ok (.ifCond .ne 117, 3) := by decide +kernel
theorem dL_floor_690 : decode cL_floor 690 = .ok (.aload_n 0, 1) := by decide +kernel
theorem dL_floor_691 : decode cL_floor 691 = .ok (.iconst 0, 1) := by decide +kernel
theorem dL_floor_692 : decode cL_floor 692 = .ok (.iconst 2, 1) := by decide +kernel
theorem dL_floor_693 : decode cL_floor 693 = .ok (.bipush 39, 2) := by decide +kernel
theorem dL_floor_695 : decode cL_floor 695 = .ok (.iconst (-1), 1) := by decide +kernel
theorem dL_floor_696 : decode cL_floor 696 = .ok (.invokevirtual 26, 3) := by decide +kernel
theorem dL_floor_699 : decode cL_floor 699 = .ok (.ifCond .ne 105, 3) := by decide +kernel
theorem dL_floor_702 : decode cL_floor 702 = .ok (.aload_n 0, 1) := by decide +kernel
theorem dL_floor_703 : decode cL_floor 703 = .ok (.iconst 1, 1) := by decide +kernel
theorem dL_floor_704 : decode cL_floor 704 = .ok (.invokevirtual 71, 3) := by decide +kernel
theorem dL_floor_707 : decode cL_floor 707 = .ok (.ifCond .eq 97, 3) := by decide +kernel
theorem dL_floor_710 : decode cL_floor 710 = .ok (.aload_n 0, 1) := by decide +kernel
theorem dL_floor_711 : decode cL_floor 711 = .ok (.iconst 0, 1) := by decide +kernel
theorem dL_floor_712 : decode cL_floor 712 = .ok (.iconst 2, 1) := by decide +kernel
theorem dL_floor_713 : decode cL_floor 713 = .ok (.bipush 39, 2) := by decide +kernel
theorem dL_floor_715 : decode cL_floor 715 = .ok (.iconst 2, 1) := by decide +kernel
theorem dL_floor_716 : decode cL_floor 716 = .ok (.invokevirtual 26, 3) := by decide +kernel
theorem dL_floor_719 : decode cL_floor 719 = .ok (.iconst (-1), 1) := by decide +kernel
theorem dL_floor_720 : decode cL_floor 720 = .ok (.if_icmp .ne 84, 3) := by decide +kernel
theorem dL_floor_723 : decode cL_floor 723 = .ok (.aload_n 0, 1) := by decide +kernel
theorem dL_floor_724 : decode cL_floor 724 = .ok (.iconst 0, 1) := by decide +kernel
theorem dL_floor_725 : decode cL_floor 725 = .ok (.invokevirtual 45, 3) := by decide +kernel
theorem dL_floor_728 : decode cL_floor 728 = .ok (.iconst 2, 1) := by decide +kernel
theorem dL_floor_729 : decode cL_floor 729 = .ok (.if_icmp .ne 75, 3) := by decide +kernel
theorem dL_floor_732 : decode cL_floor 732 = .ok (.aload_n 0, 1) := by decide +kernel
theorem dL_floor_733 : decode cL_floor 733 = .ok (.iconst 0, 1) := by decide +kernel
theorem dL_floor_734 : decode cL_floor 734 = .ok (.bipush 24, 2) := by decide +kernel
theorem dL_floor_736 : decode cL_floor 736 = .ok (.iconst 1, 1) := by decide +kernel
theorem dL_floor_737 : decode cL_floor 737 = .ok (.bipush 20, 2) := by decide +kernel
theorem dL_floor_739 : decode cL_floor 739 = .ok (.iconst 1, 1) := by decide +kernel
theorem dL_floor_740 : decode cL_floor 740 = .ok (.iconst (-1), 1) := by decide +kernel
theorem dL_floor_741 : decode cL_floor 741 = .ok (.invokestatic 107, 3) := by decide +kernel
theorem dL_floor_744 : decode cL_floor 744 = .ok (.ifCond .eq 60, 3) := by decide +kernel
theorem dL_floor_747 : decode cL_floor 747 = .ok (.aload_n 0, 1) := by decide +kernel
theorem dL_floor_748 : decode cL_floor 748 = .ok (.iconst 0, 1) := by decide +kernel
theorem dL_floor_749 : decode cL_floor 749 = .ok (.invokevirtual 71, 3) := by decide +kernel
theorem dL_floor_752 : decode cL_floor 752 = .ok (.ifCond .ne 52, 3) := by decide +kernel
theorem dL_floor_755 : decode cL_floor 755 = .ok (.aload_n 0, 1) := by decide +kernel
theorem dL_floor_756 : decode cL_floor 756 = .ok (.iconst 0, 1) := by decide +kernel
theorem dL_floor_757 : decode cL_floor 757 = .ok (.invokevirtual 68, 3) := by decide +kernel
theorem dL_floor_760 : decode cL_floor 760 = .ok (.iconst 2, 1) := by decide +kernel
theorem dL_floor_761 : decode cL_floor 761 = .ok (.if_icmp .ne 43, 3) := by decide +kernel
theorem dL_floor_764 : decode cL_floor 764 = .ok (.aload_n 0, 1) := by decide +kernel
theorem dL_floor_765 : decode cL_floor 765 = .ok (.iconst 0, 1) := by decide +kernel
theorem dL_floor_766 : decode cL_floor 766 = .ok (.iconst 2, 1) := by decide +kernel
theorem dL_floor_767 : decode cL_floor 767 = .ok (.bipush 39, 2) := by decide +kernel
theorem dL_floor_769 : decode cL_floor 769 = .ok (.iconst (-1), 1) := by decide +kernel
theorem dL_floor_770 : decode cL_floor 770 = .ok (.invokevirtual 26, 3) := by decide +kernel
theorem dL_floor_773 : decode cL_floor 773 = .ok (.iconst 2, 1) := by decide +kernel
theorem dL_floor_774 : decode cL_floor 774 = .ok (.if_icmp .ne 30, 3) := by decide +kernel
theorem dL_floor_777 : decode cL_floor 777 = .ok (.aload_n 0, 1) := by decide +kernel
theorem dL_floor_778 : decode cL_floor 778 = .ok (.iconst 0, 1) := by decide +kernel
theorem dL_floor_779 : decode cL_floor 779 = .ok (.invokevirtual 75, 3) := by decide +kernel
theorem dL_floor_782 : decode cL_floor 782 = .ok (.iconst 4, 1) := by decide +kernel
theorem dL_floor_783 : decode cL_floor 783 = .ok (.if_icmp .ne 21, 3) := by decide +kernel
theorem dL_floor_786 : decode cL_floor 786 = .ok (.aload_n 0, 1) := by decide +kernel
theorem dL_floor_787 : decode cL_floor 787 = .ok (.iconst 4, 1) := by decide +kernel
theorem dL_floor_788 : decode cL_floor 788 = .ok (.invokevirtual 78, 3) := by decide +kernel
theorem dL_floor_791 : decode cL_floor 791 = .ok (.iconst 1, 1) := by decide +kernel
theorem dL_floor_792 : decode cL_floor 792 = .ok (.if_icmp .ne 12, 3) := by decide +kernel
theorem dL_floor_795 : decode cL_floor 795 = .ok (.aload_n 0, 1) := by decide +kernel
theorem dL_floor_796 : decode cL_floor 796 = .ok (.iconst 3, 1) := by decide +kernel
theorem dL_floor_797 : decode cL_floor 797 = .ok (.iconst 5, 1) := by decide +kernel
theorem dL_floor_798 : decode cL_floor 798 = .ok (.invokestatic 103, 3) := by decide +kernel
theorem dL_floor_801 : decode cL_floor 801 = .ok (.ifCond .ne 5, 3) := by decide +kernel
theorem dL_floor_804 : decode cL_floor 804 = .ok (.iconst 0, 1) := by decide +kernel
theorem dL_floor_805 : decode cL_floor 805 = .ok (.ireturn, 1) := by decide +kernel
theorem dL_floor_806 : decode cL_floor 806 = .ok (.aload_n 0, 1) := by decide +kernel
theorem dL_floor_807 : decode cL_floor 807 = .ok (.iconst 0, 1) := by decide +kernel
theorem dL_floor_808 : decode cL_floor 808 = .ok (.iconst 2, 1) := by decide +kernel
theorem dL_floor_809 : decode cL_floor 809 = .ok (.bipush 16, 2) := by decide +kernel
theorem dL_floor_811 : decode cL_floor 811 = .ok (.iconst 2, 1) := by decide +kernel
theorem dL_floor_812 : decode cL_floor 812 = .ok (.invokevirtual 26, 3) := by decide +kernel
theorem dL_floor_815 : decode cL_floor 815 = .ok (.iconst 1, 1) := by decide +kernel
theorem dL_floor_816 : decode cL_floor 816 = .ok (.if_icmp .ne 90, 3) := by decide +kernel
theorem dL_floor_819 : decode cL_floor 819 = .ok (.aload_n 0, 1) := by decide +kernel
theorem dL_floor_820 : decode cL_floor 820 = .ok (.iconst 0, 1) := by decide +kernel
theorem dL_floor_821 : decode cL_floor 821 = .ok (.bipush 24, 2) := by decide +kernel
theorem dL_floor_823 : decode cL_floor 823 = .ok (.iconst 1, 1) := by decide +kernel
theorem dL_floor_824 : decode cL_floor 824 = .ok (.bipush 20, 2) := by decide +kernel
theorem dL_floor_826 : decode cL_floor 826 = .ok (.iconst 1, 1) := by decide +kernel
theorem dL_floor_827 : decode cL_floor 827 = .ok (.iconst (-1), 1) := by decide +kernel
theorem dL_floor_828 : decode cL_floor 828 = .ok (.invokestatic 107, 3) := by decide +kernel
theorem dL_floor_831 : decode cL_floor 831 = .ok (.ifCond .eq 75, 3) := by decide +kernel
theorem dL_floor_834 : decode cL_floor 834 = .ok (.aload_n 0, 1) := by decide +kernel
theorem dL_floor_835 : decode cL_floor 835 = .ok (.iconst 0, 1) := by decide +kernel
theorem dL_floor_836 : decode cL_floor 836 = .ok (.iconst 2, 1) := by decide +kernel
theorem dL_floor_837 : decode cL_floor 837 = .ok (.bipush 8, 2) := by decide +kernel
theorem dL_floor_839 : decode cL_floor 839 = .ok (.iconst 1, 1) := by decide +kernel
theorem dL_floor_840 : decode cL_floor 840 = .ok (.invokevirtual 26, 3) := by decide +kernel
theorem dL_floor_843 : decode cL_floor 843 = .ok (.iconst 2, 1) := by decide +kernel
theorem dL_floor_844 : decode cL_floor 844 = .ok (.if_icmp .ne 62, 3) := by decide +kernel
theorem dL_floor_847 : decode cL_floor 847 = .ok (.aload_n 0, 1) := by decide +kernel
theorem dL_floor_848 : decode cL_floor 848 = .ok (.iconst 0, 1) := by decide +kernel
theorem dL_floor_849 : decode cL_floor 849 = .ok (.iconst 2, 1) := by decide +kernel
theorem dL_floor_850 : decode cL_floor 850 = .ok (.bipush 16, 2) := by decide +kernel
theorem dL_floor_852 : decode cL_floor 852 = .ok (.iconst 1, 1) := by decide +kernel
theorem dL_floor_853 : decode cL_floor 853 = .ok (.invokevirtual 26, 3) := by decide +kernel
theorem dL_floor_856 : decode cL_floor 856 = .ok (.iconst 2, 1) := by decide +kernel
theorem dL_floor_857 : decode cL_floor 857 = .ok (.if_icmp .ne 49, 3) := by decide +kernel
theorem dL_floor_860 : decode cL_floor 860 = .ok (.aload_n 0, 1) := by decide +kernel
theorem dL_floor_861 : decode cL_floor 861 = .ok (.iconst 0, 1) := by decide +kernel
theorem dL_floor_862 : decode cL_floor 862 = .ok (.bipush 9, 2) := by decide +kernel
theorem dL_floor_864 : decode cL_floor 864 = .ok (.iconst 1, 1) := by decide +kernel
theorem dL_floor_865 : decode cL_floor 865 = .ok (.bipush 20, 2) := by decide +kernel
theorem dL_floor_867 : decode cL_floor 867 = .ok (.iconst (-1), 1) := by decide +kernel
theorem dL_floor_868 : decode cL_floor 868 = .ok (.iconst 0, 1) := by decide +kernel
theorem dL_floor_869 : decode cL_floor 869 = .ok (.invokestatic 107, 3) := by decide +kernel
theorem dL_floor_872 : decode cL_floor 872 = .ok (.ifCond .eq 34, 3) := by decide +kernel
theorem dL_floor_875 : decode cL_floor 875 = .ok (.aload_n 0, 1) := by decide +kernel
theorem dL_floor_876 : decode cL_floor 876 = .ok (.iconst 0, 1) := by decide +kernel
theorem dL_floor_877 : decode cL_floor 877 = .ok (.iconst 2, 1) := by decide +kernel
theorem dL_floor_878 : decode cL_floor 878 = .ok (.iconst 0, 1) := by decide +kernel
theorem dL_floor_879 : decode cL_floor 879 = .ok (.iconst (-1), 1) := by decide +kernel
theorem dL_floor_880 : decode cL_floor 880 = .ok (.invokevirtual 26, 3) := by decide +kernel
theorem dL_floor_883 : decode cL_floor 883 = .ok (.iconst 1, 1) := by decide +kernel
theorem dL_floor_884 : decode cL_floor 884 = .ok (.if_icmp .ne 22, 3) := by decide +kernel
theorem dL_floor_887 : decode cL_floor 887 = .ok (.aload_n 0, 1) := by decide +kernel
theorem dL_floor_888 : decode cL_floor 888 = .ok (.iconst 0, 1) := by decide +kernel
theorem dL_floor_889 : decode cL_floor 889 = .ok (.bipush 9, 2) := by decide +kernel
theorem dL_floor_891 : decode cL_floor 891 = .ok (.iconst 0, 1) := by decide +kernel
theorem dL_floor_892 : decode cL_floor 892 = .ok (.bipush 25, 2) := by decide +kernel
theorem dL_floor_894 : decode cL_floor 894 = .ok (.iconst 0, 1) := by decide +kernel
theorem dL_floor_895 : decode cL_floor 895 = .ok (.iconst (-1), 1) := by decide +kernel
theorem dL_floor_896 : decode cL_floor 896 = .ok (.invokestatic 107, 3) := by decide +kernel
theorem dL_floor_899 : decode cL_floor 899 = .ok (.ifCond .eq 7, 3) := by decide +kernel
theorem dL_floor_902 : decode cL_floor 902 = .ok (.iconst 1, 1) := by decide +kernel
theorem dL_floor_903 : decode cL_floor 903 = .ok (.goto 4, 3) := by decide +kernel
theorem dL_floor_906 : decode cL_floor 906 = .ok (.iconst 0, 1) := by decide +kernel
theorem dL_floor_907 : decode cL_floor 907 = .ok (.ireturn, 1) := by decide +kernel
theorem dL_rows_0 : decode cL_rows 0 = .ok (.new 8, 3) := by decide +kernel
theorem dL_rows_3 : decode cL_rows 3 = .ok (.dup, 1) := by decide +kernel
theorem dL_rows_4 : decode cL_rows 4 = .ok (.invokespecial 102, 3) := by decide +kernel
theorem dL_rows_7 : decode cL_rows 7 = .ok (.astore_n 0, 1) := by decide +kernel
theorem dL_rows_8 : decode cL_rows 8 = .ok (.aload_n 0, 1) := by decide +kernel
theorem dL_rows_9 : decode cL_rows 9 = .ok (.invokevirtual 22, 3) := by decide +kernel
theorem dL_rows_12 : decode cL_rows 12 = .ok (.ifCond .ne 12, 3) := by decide +kernel
theorem dL_rows_15 : decode cL_rows 15 = .ok (.aload_n 0, 1) := by decide +kernel
theorem dL_rows_16 : decode cL_rows 16 = .ok (.iconst 0, 1) := by decide +kernel
theorem dL_rows_17 : decode cL_rows 17 = .ok (.iconst 0, 1) := by decide +kernel
theorem dL_rows_18 : decode cL_rows 18 = .ok (.invokestatic 97, 3) := by decide +kernel
theorem dL_rows_21 : decode cL_rows 21 = .ok (.ifCond .eq 5, 3) := by decide +kernel
theorem dL_rows_24 : decode cL_rows 24 = .ok (.iconst 0, 1) := by decide +kernel
theorem dL_rows_25 : decode cL_rows 25 = .ok (.ireturn, 1) := by decide +kernel
theorem dL_rows_26 : decode cL_rows 26 = .ok (.bipush 20, 2) := by decide +kernel
theorem dL_rows_28 : decode cL_rows 28 = .ok (.istore_n 1, 1) := by decide +kernel
theorem dL_rows_29 : decode cL_rows 29 = .ok (.iload_n 1, 1) := by decide +kernel
theorem dL_rows_30 : decode cL_rows 30 = .ok (.bipush 40, 2) := by decide +kernel
theorem dL_rows_32 : decode cL_rows 32 = .ok (.if_icmp .ge 44, 3) := by decide +kernel
theorem dL_rows_35 : decode cL_rows 35 = .ok (.aload_n 0, 1) := by decide +kernel
theorem dL_rows_36 : decode cL_rows 36 = .ok (.iconst 0, 1) := by decide +kernel
theorem dL_rows_37 : decode cL_rows 37 = .ok (.iconst 0, 1) := by decide +kernel
theorem dL_rows_38 : decode cL_rows 38 = .ok (.iload_n 1, 1) := by decide +kernel
theorem dL_rows_39 : decode cL_rows 39 = .ok (.iload_n 1, 1) := by decide +kernel
theorem dL_rows_40 : decode cL_rows 40 = .ok (.bipush 35, 2) := by decide +kernel
theorem dL_rows_42 : decode cL_rows 42 = .ok (.if_icmp .ge 18, 3) := by decide +kernel
theorem dL_rows_45 : decode cL_rows 45 = .ok (.iload_n 1, 1) := by decide +kernel
theorem dL_rows_46 : decode cL_rows 46 = .ok (.iconst 5, 1) := by decide +kernel
theorem dL_rows_47 : decode cL_rows 47 = .ok (.irem, 1) := by decide +kernel
theorem dL_rows_48 : decode cL_rows 48 = .ok (.iload_n 1, 1) := by decide +kernel
theorem dL_rows_49 : decode cL_rows 49 = .ok (.iconst 5, 1) := by decide +kernel
theorem dL_rows_50 : decode cL_rows 50 = .ok (.idiv, 1) := by decide +kernel
theorem dL_rows_51 : decode cL_rows 51 = .ok (.iconst 4, 1) := by decide +kernel
theorem dL_rows_52 : decode cL_rows 52 = .ok (.isub, 1) := by decide +kernel
theorem dL_rows_53 : decode cL_rows 53 = .ok (.if_icmp .ne 7, 3) := by decide +kernel
theorem dL_rows_56 : decode cL_rows 56 = .ok (.iconst 2, 1) := by decide +kernel
theorem dL_rows_57 : decode cL_rows 57 = .ok (.goto 4, 3) := by decide +kernel
theorem dL_rows_60 : decode cL_rows 60 = .ok (.iconst 1, 1) := by decide +kernel
theorem dL_rows_61 : decode cL_rows 61 = .ok (.invokevirtual 26, 3) := by decide +kernel
theorem dL_rows_64 : decode cL_rows 64 = .ok (.iconst (-1), 1) := by decide +kernel
theorem dL_rows_65 : decode cL_rows 65 = .ok (.if_icmp .eq 5, 3) := by decide +kernel
theorem dL_rows_68 : decode cL_rows 68 = .ok (.iconst 0, 1) := by decide +kernel
theorem dL_rows_69 : decode cL_rows 69 = .ok (.ireturn, 1) := by decide +kernel
theorem dL_rows_70 : decode cL_rows 70 = .ok (.iinc 1 1, 3) := by decide +kernel
theorem dL_rows_73 : decode cL_rows 73 = .ok (.goto (-44), 3) := by decide +kernel
theorem dL_rows_76 : decode cL_rows 76 = .ok (.aload_n 0, 1) := by decide +kernel
theorem dL_rows_77 : decode cL_rows 77 = .ok (.iconst 0, 1) := by decide +kernel
theorem dL_rows_78 : decode cL_rows 78 = .ok (.invokevirtual 45, 3) := by decide +kernel
theorem dL_rows_81 : decode cL_rows 81 = .ok (.iconst 5, 1) := by decide +kernel
theorem dL_rows_82 : decode cL_rows 82 = .ok (.if_icmp .ne 254, 3) := by decide +kernel
theorem dL_rows_85 : decode cL_rows 85 = .ok (.aload_n 0, 1) := by decide +kernel
theorem dL_rows_86 : decode cL_rows 86 = .ok (.iconst 0, 1) := by decide +kernel
theorem dL_rows_87 : decode cL_rows 87 = .ok (.bipush 7, 2) := by decide +kernel
theorem dL_rows_89 : decode cL_rows 89 = .ok (.iconst 5, 1) := by decide +kernel
theorem dL_rows_90 : decode cL_rows 90 = .ok (.iconst 5, 1) := by decide +kernel
theorem dL_rows_91 : decode cL_rows 91 = .ok (.iconst (-1), 1) := by decide +kernel
theorem dL_rows_92 : decode cL_rows 92 = .ok (.iconst (-1), 1) := by decide +kernel
theorem dL_rows_93 : decode cL_rows 93 = .ok (.invokestatic 107, 3) := by decide +kernel
theorem dL_rows_96 : decode cL_rows 96 = .ok (.ifCond .eq 240, 3) := by decide +kernel
theorem dL_rows_99 : decode cL_rows 99 = .ok (.aload_n 0, 1) := by decide +kernel
theorem dL_rows_100 : decode cL_rows 100 = .ok (.iconst 0, 1) := by decide +kernel
theorem dL_rows_101 : decode cL_rows 101 = .ok (.iconst 0, 1) := by decide +kernel
theorem dL_rows_102 : decode cL_rows 102 = .ok (.iconst 2, 1) := by decide +kernel
theorem dL_rows_103 : decode cL_rows 103 = .ok (.iconst 1, 1) := by decide +kernel
theorem dL_rows_104 : decode cL_rows 104 = .ok (.invokevirtual 30, 3) := by decide +kernel
theorem dL_rows_107 : decode cL_rows 107 = .ok (.ifCond .ne 229, 3) := by decide +kernel
theorem dL_rows_110 : decode cL_rows 110 = .ok (.aload_n 0, 1) := by decide +kernel
theorem dL_rows_111 : decode cL_rows 111 = .ok (.iconst 0, 1) := by decide +kernel
theorem dL_rows_112 : decode cL_rows 112 = .ok (.iconst 4, 1) := by decide +kernel
theorem dL_rows_113 : decode cL_rows 113 = .ok (.iconst 0, 1) := by decide +kernel
theorem dL_rows_114 : decode cL_rows 114 = .ok (.iconst 5, 1) := by decide +kernel
theorem dL_rows_115 : decode cL_rows 115 = .ok (.iconst 0, 1) := by decide +kernel
theorem dL_rows_116 : decode cL_rows 116 = .ok (.iconst (-1), 1) := by decide +kernel
theorem dL_rows_117 : decode cL_rows 117 = .ok (.invokestatic 107, 3) := by decide +kernel
theorem dL_rows_120 : decode cL_rows 120 = .ok (.ifCond .eq 216, 3) := by decide +kernel
theorem dL_rows_123 : decode cL_rows 123 = .ok (.aload_n 0, 1) := by decide +kernel
theorem dL_rows_124 : decode cL_rows 124 = .ok (.iconst 0, 1) := by decide +kernel
theorem dL_rows_125 : decode cL_rows 125 = .ok (.bipush 9, 2) := by decide +kernel
theorem dL_rows_127 : decode cL_rows 127 = .ok (.iconst 5, 1) := by decide +kernel
theorem dL_rows_128 : decode cL_rows 128 = .ok (.iconst 5, 1) := by decide +kernel
theorem dL_rows_129 : decode cL_rows 129 = .ok (.iconst 1, 1) := by decide +kernel
theorem dL_rows_130 : decode cL_rows 130 = .ok (.iconst (-1), 1) := by decide +kernel
theorem dL_rows_131 : decode cL_rows 131 = .ok (.invokestatic 107, 3) := by decide +kernel
theorem dL_rows_134 : decode cL_rows 134 = .ok (.ifCond .eq 202, 3) := by decide +kernel
theorem dL_rows_137 : decode cL_rows 137 = .ok (.aload_n 0, 1) := by decide +kernel
theorem dL_rows_138 : decode cL_rows 138 = .ok (.iconst 0, 1) := by decide +kernel
theorem dL_rows_139 : decode cL_rows 139 = .ok (.bipush 10, 2) := by decide +kernel
theorem dL_rows_141 : decode cL_rows 141 = .ok (.bipush 10, 2) := by decide +kernel
theorem dL_rows_143 : decode cL_rows 143 = .ok (.iconst 5, 1) := by decide +kernel
theorem dL_rows_144 : decode cL_rows 144 = .ok (.iconst 2, 1) := by decide +kernel
theorem dL_rows_145 : decode cL_rows 145 = .ok (.iconst (-1), 1) := by decide +kernel
theorem dL_rows_146 : decode cL_rows 146 = .ok (.invokestatic 107, 3) := by decide +kernel
theorem dL_rows_149 : decode cL_rows 149 = .ok (.ifCond .eq 187, 3) := by decide +kernel
theorem dL_rows_152 : decode cL_rows 152 = .ok (.aload_n 0, 1) := by decide +kernel
theorem dL_rows_153 : decode cL_rows 153 = .ok (.iconst 0, 1) := by decide +kernel
theorem dL_rows_154 : decode cL_rows 154 = .ok (.bipush 19, 2) := by decide +kernel
theorem dL_rows_156 : decode cL_rows 156 = .ok (.bipush 15, 2) := by decide +kernel
theorem dL_rows_158 : decode cL_rows 158 = .ok (.iconst 5, 1) := by decide +kernel
theorem dL_rows_159 : decode cL_rows 159 = .ok (.iconst 3, 1) := by decide +kernel
theorem dL_rows_160 : decode cL_rows 160 = .ok (.iconst (-1), 1) := by decide +kernel
theorem dL_rows_161 : decode cL_rows 161 = .ok (.invokestatic 107, 3) := by decide +kernel
theorem dL_rows_164 : decode cL_rows 164 = .ok (.ifCond .eq 172, 3) := by decide +kernel
theorem dL_rows_167 : decode cL_rows 167 = .ok (.aload_n 0, 1) := by decide +kernel
theorem dL_rows_168 : decode cL_rows 168 = .ok (.iconst 0, 1) := by decide +kernel
theorem dL_rows_169 : decode cL_rows 169 = .ok (.bipush 20, 2) := by decide +kernel
theorem dL_rows_171 : decode cL_rows 171 = .ok (.bipush 20, 2) := by decide +kernel
theorem dL_rows_173 : decode cL_rows 173 = .ok (.iconst 5, 1) := by decide +kernel
theorem dL_rows_174 : decode cL_rows 174 = .ok (.iconst (-1), 1) := by decide +kernel
theorem dL_rows_175 : decode cL_rows 175 = .ok (.bipush 35, 2) := by decide +kernel
theorem dL_rows_177 : decode cL_rows 177 = .ok (.invokestatic 107, 3) := by decide +kernel
theorem dL_rows_180 : decode cL_rows 180 = .ok (.ifCond .eq 156, 3) := by decide +kernel
theorem dL_rows_183 : decode cL_rows 183 = .ok (.aload_n 0, 1) := by decide +kernel
theorem dL_rows_184 : decode cL_rows 184 = .ok (.iconst 0, 1) := by decide +kernel
theorem dL_rows_185 : decode cL_rows 185 = .ok (.iconst 0, 1) := by decide +kernel
theorem dL_rows_186 : decode cL_rows 186 = .ok (.bipush 18, 2) := by decide +kernel
theorem dL_rows_188 : decode cL_rows 188 = .ok (.iconst 1, 1) := by decide +kernel
theorem dL_rows_189 : decode cL_rows 189 = .ok (.invokevirtual 30, 3) := by decide +kernel
theorem dL_rows_192 : decode cL_rows 192 = .ok (.ifCond .ne 144, 3) := by decide +kernel
theorem dL_rows_195 : decode cL_rows 195 = .ok (.aload_n 0, 1) := by decide +kernel
theorem dL_rows_196 : decode cL_rows 196 = .ok (.iconst 0, 1) := by decide +kernel
theorem dL_rows_197 : decode cL_rows 197 = .ok (.bipush 10, 2) := by decide +kernel
theorem dL_rows_199 : decode cL_rows 199 = .ok (.bipush 10, 2) := by decide +kernel
theorem dL_rows_201 : decode cL_rows 201 = .ok (.iconst 5, 1) := by decide +kernel
theorem dL_rows_202 : decode cL_rows 202 = .ok (.iconst 1, 1) := by decide +kernel
theorem dL_rows_203 : decode cL_rows 203 = .ok (.iconst (-1), 1) := by decide +kernel
theorem dL_rows_204 : decode cL_rows 204 = .ok (.invokestatic 107, 3) := by decide +kernel
theorem dL_rows_207 : decode cL_rows 207 = .ok (.ifCond .eq 129, 3) := by decide +kernel
theorem dL_rows_210 : decode cL_rows 210 = .ok (.aload_n 0, 1) := by decide +kernel
theorem dL_rows_211 : decode cL_rows 211 = .ok (.iconst 0, 1) := by decide +kernel
theorem dL_rows_212 : decode cL_rows 212 = .ok (.bipush 9, 2) := by decide +kernel
theorem dL_rows_214 : decode cL_rows 214 = .ok (.iconst 5, 1) := by decide +kernel
theorem dL_rows_215 : decode cL_rows 215 = .ok (.iconst 5, 1) := by decide +kernel
theorem dL_rows_216 : decode cL_rows 216 = .ok (.iconst 1, 1) := by decide +kernel
theorem dL_rows_217 : decode cL_rows 217 = .ok (.iconst (-1), 1) := by decide +kernel
theorem dL_rows_218 : decode cL_rows 218 = .ok (.invokestatic 107, 3) := by decide +kernel
theorem dL_rows_221 : decode cL_rows 221 = .ok (.ifCond .eq 115, 3) := by decide +kernel
theorem dL_rows_224 : decode cL_rows 224 = .ok (.aload_n 0, 1) := by decide +kernel
theorem dL_rows_225 : decode cL_rows 225 = .ok (.iconst 0, 1) := by decide +kernel
theorem dL_rows_226 : decode cL_rows 226 = .ok (.iconst 0, 1) := by decide +kernel
theorem dL_rows_227 : decode cL_rows 227 = .ok (.bipush 26, 2) := by decide +kernel
theorem dL_rows_229 : decode cL_rows 229 = .ok (.iconst 1, 1) := by decide +kernel
theorem dL_rows_230 : decode cL_rows 230 = .ok (.invokevirtual 26, 3) := by decide +kernel
theorem dL_rows_233 : decode cL_rows 233 = .ok (.iconst 2, 1) := by decide +kernel
theorem dL_rows_234 : decode cL_rows 234 = .ok (.if_icmp .ne 102, 3) := by decide +kernel
theorem dL_rows_237 : decode cL_rows 237 = .ok (.aload_n 0, 1) := by decide +kernel
theorem dL_rows_238 : decode cL_rows 238 = .ok (.iconst 0, 1) := by decide +kernel
theorem dL_rows_239 : decode cL_rows 239 = .ok (.iconst 0, 1) := by decide +kernel
theorem dL_rows_240 : decode cL_rows 240 = .ok (.bipush 20, 2) := by decide +kernel
theorem dL_rows_242 : decode cL_rows 242 = .ok (.iconst 1, 1) := by decide +kernel
theorem dL_rows_243 : decode cL_rows 243 = .ok (.invokevirtual 26, 3) := by decide +kernel
theorem dL_rows_246 : decode cL_rows 246 = .ok (.iconst 2, 1) := by decide +kernel
theorem dL_rows_247 : decode cL_rows 247 = .ok (.if_icmp .ne 89, 3) := by decide +kernel
theorem dL_rows_250 : decode cL_rows 250 = .ok (.aload_n 0, 1) := by decide +kernel
theorem dL_rows_251 : decode cL_rows 251 = .ok (.iconst 0, 1) := by decide +kernel
theorem dL_rows_252 : decode cL_rows 252 = .ok (.bipush 9, 2) := by decide +kernel
theorem dL_rows_254 : decode cL_rows 254 = .ok (.iconst 5, 1) := by decide +kernel
theorem dL_rows_255 : decode cL_rows 255 = .ok (.iconst 5, 1) := by decide +kernel
theorem dL_rows_256 : decode cL_rows 256 = .ok (.iconst (-1), 1) := by decide +kernel
theorem dL_rows_257 : decode cL_rows 257 = .ok (.bipush 20, 2) := by decide +kernel
theorem dL_rows_259 : decode cL_rows 259 = .ok (.invokestatic 107, 3) := by decide +kernel
theorem dL_rows_262 : decode cL_rows 262 = .ok (.ifCond .eq 74, 3) := by decide +kernel
theorem dL_rows_265 : decode cL_rows 265 = .ok (.aload_n 0, 1) := by decide +kernel
theorem dL_rows_266 : decode cL_rows 266 = .ok (.iconst 0, 1) := by decide +kernel
theorem dL_rows_267 : decode cL_rows 267 = .ok (.iconst 0, 1) := by decide +kernel
theorem dL_rows_268 : decode cL_rows 268 = .ok (.bipush 18, 2) := by decide +kernel
theorem dL_rows_270 : decode cL_rows 270 = .ok (.iconst 0, 1) := by decide +kernel
theorem dL_rows_271 : decode cL_rows 271 = .ok (.invokevirtual 30, 3) := by decide +kernel
theorem dL_rows_274 : decode cL_rows 274 = .ok (.ifCond .eq 62, 3) := by decide +kernel
theorem dL_rows_277 : decode cL_rows 277 = .ok (.aload_n 0, 1) := by decide +kernel
theorem dL_rows_278 : decode cL_rows 278 = .ok (.iconst 0, 1) := by decide +kernel
theorem dL_rows_279 : decode cL_rows 279 = .ok (.bipush 14, 2) := by decide +kernel
theorem dL_rows_281 : decode cL_rows 281 = .ok (.bipush 10, 2) := by decide +kernel
theorem dL_rows_283 : decode cL_rows 283 = .ok (.iconst 5, 1) := by decide +kernel
theorem dL_rows_284 : decode cL_rows 284 = .ok (.iconst (-1), 1) := by decide +kernel
theorem dL_rows_285 : decode cL_rows 285 = .ok (.iconst (-1), 1) := by decide +kernel
theorem dL_rows_286 : decode cL_rows 286 = .ok (.invokestatic 107, 3) := by decide +kernel
theorem dL_rows_289 : decode cL_rows 289 = .ok (.ifCond .eq 47, 3) := by decide +kernel
theorem dL_rows_292 : decode cL_rows 292 = .ok (.aload_n 0, 1) := by decide +kernel
theorem dL_rows_293 : decode cL_rows 293 = .ok (.iconst 0, 1) := by decide +kernel
theorem dL_rows_294 : decode cL_rows 294 = .ok (.bipush 15, 2) := by decide +kernel
theorem dL_rows_296 : decode cL_rows 296 = .ok (.bipush 15, 2) := by decide +kernel
theorem dL_rows_298 : decode cL_rows 298 = .ok (.iconst 5, 1) := by decide +kernel
theorem dL_rows_299 : decode cL_rows 299 = .ok (.iconst (-1), 1) := by decide +kernel
theorem dL_rows_300 : decode cL_rows 300 = .ok (.iconst (-1), 1) := by decide +kernel
theorem dL_rows_301 : decode cL_rows 301 = .ok (.invokestatic 107, 3) := by decide +kernel
theorem dL_rows_304 : decode cL_rows 304 = .ok (.ifCond .eq 32, 3) := by decide +kernel
theorem dL_rows_307 : decode cL_rows 307 = .ok (.aload_n 0, 1) := by decide +kernel
theorem dL_rows_308 : decode cL_rows 308 = .ok (.iconst 0, 1) := by decide +kernel
theorem dL_rows_309 : decode cL_rows 309 = .ok (.bipush 24, 2) := by decide +kernel
theorem dL_rows_311 : decode cL_rows 311 = .ok (.bipush 20, 2) := by decide +kernel
theorem dL_rows_313 : decode cL_rows 313 = .ok (.iconst 5, 1) := by decide +kernel
theorem dL_rows_314 : decode cL_rows 314 = .ok (.iconst (-1), 1) := by decide +kernel
theorem dL_rows_315 : decode cL_rows 315 = .ok (.iconst (-1), 1) := by decide +kernel
theorem dL_rows_316 : decode cL_rows 316 = .ok (.invokestatic 107, 3) := by decide +kernel
theorem dL_rows_319 : decode cL_rows 319 = .ok (.ifCond .eq 17, 3) := by decide +kernel
theorem dL_rows_322 : decode cL_rows 322 = .ok (.aload_n 0, 1) := by decide +kernel
theorem dL_rows_323 : decode cL_rows 323 = .ok (.iconst 0, 1) := by decide +kernel
theorem dL_rows_324 : decode cL_rows 324 = .ok (.iconst 5, 1) := by decide +kernel
theorem dL_rows_325 : decode cL_rows 325 = .ok (.iconst 5, 1) := by decide +kernel
theorem dL_rows_326 : decode cL_rows 326 = .ok (.iconst 5, 1) := by decide +kernel
theorem dL_rows_327 : decode cL_rows 327 = .ok (.iconst (-1), 1) := by decide +kernel
theorem dL_rows_328 : decode cL_rows 328 = .ok (.bipush 20, 2) := by decide +kernel
theorem dL_rows_330 : decode cL_rows 330 = .ok (.invokestatic 107, 3) := by decide +kernel
theorem dL_rows_333 : decode cL_rows 333 = .ok (.ifCond .ne 5, 3) := by decide +kernel
theorem dL_rows_336 : decode cL_rows 336 = .ok (.iconst 0, 1) := by decide +kernel
theorem dL_rows_337 : decode cL_rows 337 = .ok (.ireturn, 1) := by decide +kernel
theorem dL_rows_338 : decode cL_rows 338 = .ok (.aload_n 0, 1) := by decide +kernel
theorem dL_rows_339 : decode cL_rows 339 = .ok (.iconst 0, 1) := by decide +kernel
theorem dL_rows_340 : decode cL_rows 340 = .ok (.iconst 0, 1) := by decide +kernel
theorem dL_rows_341 : decode cL_rows 341 = .ok (.bipush 24, 2) := by decide +kernel
theorem dL_rows_343 : decode cL_rows 343 = .ok (.iconst 1, 1) := by decide +kernel
theorem dL_rows_344 : decode cL_rows 344 = .ok (.invokevirtual 30, 3) := by decide +kernel
theorem dL_rows_347 : decode cL_rows 347 = .ok (.ifCond .ne 98, 3) := by decide +kernel
theorem dL_rows_350 : decode cL_rows 350 = .ok (.aload_n 0, 1) := by decide +kernel
theorem dL_rows_351 : decode cL_rows 351 = .ok (.iconst 0, 1) := by decide +kernel
theorem dL_rows_352 : decode cL_rows 352 = .ok (.bipush 14, 2) := by decide +kernel
theorem dL_rows_354 : decode cL_rows 354 = .ok (.bipush 10, 2) := by decide +kernel
theorem dL_rows_356 : decode cL_rows 356 = .ok (.iconst 5, 1) := by decide +kernel
theorem dL_rows_357 : decode cL_rows 357 = .ok (.iconst (-1), 1) := by decide +kernel
theorem dL_rows_358 : decode cL_rows 358 = .ok (.bipush 35, 2) := by decide +kernel
theorem dL_rows_360 : decode cL_rows 360 = .ok (.invokestatic 107, 3) := by decide +kernel
theorem dL_rows_363 : decode cL_rows 363 = .ok (.ifCond .eq 82, 3) := by decide +kernel
theorem dL_rows_366 : decode cL_rows 366 = .ok (.aload_n 0, 1) := by decide +kernel
theorem dL_rows_367 : decode cL_rows 367 = .ok (.iconst 0, 1) := by decide +kernel
theorem dL_rows_368 : decode cL_rows 368 = .ok (.iconst 5, 1) := by decide +kernel
theorem dL_rows_369 : decode cL_rows 369 = .ok (.iconst 5, 1) := by decide +kernel
theorem dL_rows_370 : decode cL_rows 370 = .ok (.iconst 5, 1) := by decide +kernel
theorem dL_rows_371 : decode cL_rows 371 = .ok (.iconst (-1), 1) := by decide +kernel
theorem dL_rows_372 : decode cL_rows 372 = .ok (.bipush 20, 2) := by decide +kernel
theorem dL_rows_374 : decode cL_rows 374 = .ok (.invokestatic 107, 3) := by decide +kernel
theorem dL_rows_377 : decode cL_rows 377 = .ok (.ifCond .eq 68, 3) := by decide +kernel
theorem dL_rows_380 : decode cL_rows 380 = .ok (.aload_n 0, 1) := by decide +kernel
theorem dL_rows_381 : decode cL_rows 381 = .ok (.iconst 0, 1) := by decide +kernel
theorem dL_rows_382 : decode cL_rows 382 = .ok (.iconst 0, 1) := by decide +kernel
theorem dL_rows_383 : decode cL_rows 383 = .ok (.bipush 20, 2) := by decide +kernel
theorem dL_rows_385 : decode cL_rows 385 = .ok (.iconst 0, 1) := by decide +kernel
theorem dL_rows_386 : decode cL_rows 386 = .ok (.invokevirtual 26, 3) := by decide +kernel
theorem dL_rows_389 : decode cL_rows 389 = .ok (.iconst 1, 1) := by decide +kernel
theorem dL_rows_390 : decode cL_rows 390 = .ok (.if_icmp .ne 55, 3) := by decide +kernel
theorem dL_rows_393 : decode cL_rows 393 = .ok (.aload_n 0, 1) := by decide +kernel
theorem dL_rows_394 : decode cL_rows 394 = .ok (.iconst 0, 1) := by decide +kernel
theorem dL_rows_395 : decode cL_rows 395 = .ok (.invokevirtual 45, 3) := by decide +kernel
theorem dL_rows_398 : decode cL_rows 398 = .ok (.iconst 4, 1) := by decide +kernel
theorem dL_rows_399 : decode cL_rows 399 = .ok (.if_icmp .ne 46, 3) := by decide +kernel
theorem dL_rows_402 : decode cL_rows 402 = .ok (.aload_n 0, 1) := by decide +kernel
theorem dL_rows_403 : decode cL_rows 403 = .ok (.iconst 0, 1) := by decide +kernel
theorem dL_rows_404 : decode cL_rows 404 = .ok (.iconst 5, 1) := by decide +kernel
theorem dL_rows_405 : decode cL_rows 405 = .ok (.iconst 0, 1) := by decide +kernel
theorem dL_rows_406 : decode cL_rows 406 = .ok (.bipush 10, 2) := by decide +kernel
theorem dL_rows_408 : decode cL_rows 408 = .ok (.iconst 0, 1) := by decide +kernel
theorem dL_rows_409 : decode cL_rows 409 = .ok (.iconst (-1), 1) := by decide +kernel
theorem dL_rows_410 : decode cL_rows 410 = .ok (.invokestatic 107, 3) := by decide +kernel
theorem dL_rows_413 : decode cL_rows 413 = .ok (.ifCond .eq 32, 3) := by decide +kernel
theorem dL_rows_416 : decode cL_rows 416 = .ok (.aload_n 0, 1) := by decide +kernel
theorem dL_rows_417 : decode cL_rows 417 = .ok (.iconst 0, 1) := by decide +kernel
theorem dL_rows_418 : decode cL_rows 418 = .ok (.bipush 10, 2) := by decide +kernel
theorem dL_rows_420 : decode cL_rows 420 = .ok (.bipush 10, 2) := by decide +kernel
theorem dL_rows_422 : decode cL_rows 422 = .ok (.iconst 5, 1) := by decide +kernel
theorem dL_rows_423 : decode cL_rows 423 = .ok (.iconst (-1), 1) := by decide +kernel
theorem dL_rows_424 : decode cL_rows 424 = .ok (.bipush 25, 2) := by decide +kernel
theorem dL_rows_426 : decode cL_rows 426 = .ok (.invokestatic 107, 3) := by decide +kernel
theorem dL_rows_429 : decode cL_rows 429 = .ok (.ifCond .eq 16, 3) := by decide +kernel
theorem dL_rows_432 : decode cL_rows 432 = .ok (.aload_n 0, 1) := by decide +kernel
theorem dL_rows_433 : decode cL_rows 433 = .ok (.iconst 0, 1) := by decide +kernel
theorem dL_rows_434 : decode cL_rows 434 = .ok (.iconst 0, 1) := by decide +kernel
theorem dL_rows_435 : decode cL_rows 435 = .ok (.invokestatic 103, 3) := by decide +kernel
theorem dL_rows_438 : decode cL_rows 438 = .ok (.ifCond .eq 7, 3) := by decide +kernel
theorem dL_rows_441 : decode cL_rows 441 = .ok (.iconst 1, 1) := by decide +kernel
end
section
theorem dL_rows_442 : decode cL_rows 442 = .ok (.goto 4, 3) := by decide +kernel
theorem dL_rows_445 : decode cL_rows 445 = .ok (.iconst 0, 1) := by decide +kernel
theorem dL_rows_446 : decode cL_rows 446 = .ok (.ireturn, 1) := by decide +kernel
theorem dL_hands_0 : decode cL_hands 0 = .ok (.new 8, 3) := by decide +kernel
theorem dL_hands_3 : decode cL_hands 3 = .ok (.dup, 1) := by decide +kernel
theorem dL_hands_4 : decode cL_hands 4 = .ok (.invokespecial 102, 3) := by decide +kernel
theorem dL_hands_7 : decode cL_hands 7 = .ok (.astore_n 0, 1) := by decide +kernel
theorem dL_hands_8 : decode cL_hands 8 = .ok (.bipush (-73), 2) := by decide +kernel
theorem dL_hands_10 : decode cL_hands 10 = .ok (.istore_n 1, 1) := by decide +kernel
theorem dL_hands_11 : decode cL_hands 11 = .ok (.iconst 0, 1) := by decide +kernel
theorem dL_hands_12 : decode cL_hands 12 = .ok (.istore_n 2, 1) := by decide +kernel
theorem dL_hands_13 : decode cL_hands 13 = .ok (.iload_n 2, 1) := by decide +kernel
theorem dL_hands_14 : decode cL_hands 14 = .ok (.bipush 7, 2) := by decide +kernel
theorem dL_hands_16 : decode cL_hands 16 = .ok (.if_icmp .ge 51, 3) := by decide +kernel
theorem dL_hands_19 : decode cL_hands 19 = .ok (.aload_n 0, 1) := by decide +kernel
theorem dL_hands_20 : decode cL_hands 20 = .ok (.iconst 0, 1) := by decide +kernel
theorem dL_hands_21 : decode cL_hands 21 = .ok (.iconst 0, 1) := by decide +kernel
theorem dL_hands_22 : decode cL_hands 22 = .ok (.iconst 0, 1) := by decide +kernel
theorem dL_hands_23 : decode cL_hands 23 = .ok (.iconst 0, 1) := by decide +kernel
theorem dL_hands_24 : decode cL_hands 24 = .ok (.iconst 0, 1) := by decide +kernel
theorem dL_hands_25 : decode cL_hands 25 = .ok (.invokestatic 91, 3) := by decide +kernel
theorem dL_hands_28 : decode cL_hands 28 = .ok (.iload_n 2, 1) := by decide +kernel
theorem dL_hands_29 : decode cL_hands 29 = .ok (.bipush 6, 2) := by decide +kernel
theorem dL_hands_31 : decode cL_hands 31 = .ok (.if_icmp .ge 7, 3) := by decide +kernel
theorem dL_hands_34 : decode cL_hands 34 = .ok (.iload_n 2, 1) := by decide +kernel
theorem dL_hands_35 : decode cL_hands 35 = .ok (.goto 4, 3) := by decide +kernel
theorem dL_hands_38 : decode cL_hands 38 = .ok (.iload_n 1, 1) := by decide +kernel
theorem dL_hands_39 : decode cL_hands 39 = .ok (.if_icmp .ne 20, 3) := by decide +kernel
theorem dL_hands_42 : decode cL_hands 42 = .ok (.iload_n 2, 1) := by decide +kernel
theorem dL_hands_43 : decode cL_hands 43 = .ok (.bipush 6, 2) := by decide +kernel
theorem dL_hands_45 : decode cL_hands 45 = .ok (.if_icmp .ge 16, 3) := by decide +kernel
theorem dL_hands_48 : decode cL_hands 48 = .ok (.aload_n 0, 1) := by decide +kernel
theorem dL_hands_49 : decode cL_hands 49 = .ok (.iload_n 2, 1) := by decide +kernel
theorem dL_hands_50 : decode cL_hands 50 = .ok (.iload_n 2, 1) := by decide +kernel
theorem dL_hands_51 : decode cL_hands 51 = .ok (.iconst 3, 1) := by decide +kernel
theorem dL_hands_52 : decode cL_hands 52 = .ok (.irem, 1) := by decide +kernel
theorem dL_hands_53 : decode cL_hands 53 = .ok (.invokestatic 97, 3) := by decide +kernel
theorem dL_hands_56 : decode cL_hands 56 = .ok (.ifCond .eq 5, 3) := by decide +kernel
theorem dL_hands_59 : decode cL_hands 59 = .ok (.iconst 0, 1) := by decide +kernel
theorem dL_hands_60 : decode cL_hands 60 = .ok (.ireturn, 1) := by decide +kernel
theorem dL_hands_61 : decode cL_hands 61 = .ok (.iinc 2 1, 3) := by decide +kernel
theorem dL_hands_64 : decode cL_hands 64 = .ok (.goto (-51), 3) := by decide +kernel
theorem dL_hands_67 : decode cL_hands 67 = .ok (.aload_n 0, 1) := by decide +kernel
theorem dL_hands_68 : decode cL_hands 68 = .ok (.iconst 0, 1) := by decide +kernel
theorem dL_hands_69 : decode cL_hands 69 = .ok (.iconst 0, 1) := by decide +kernel
theorem dL_hands_70 : decode cL_hands 70 = .ok (.iconst 0, 1) := by decide +kernel
theorem dL_hands_71 : decode cL_hands 71 = .ok (.iconst 1, 1) := by decide +kernel
theorem dL_hands_72 : decode cL_hands 72 = .ok (.invokevirtual 26, 3) := by decide +kernel
theorem dL_hands_75 : decode cL_hands 75 = .ok (.iconst (-1), 1) := by decide +kernel
theorem dL_hands_76 : decode cL_hands 76 = .ok (.if_icmp .ne 404, 3) := by decide +kernel
theorem dL_hands_79 : decode cL_hands 79 = .ok (.aload_n 0, 1) := by decide +kernel
theorem dL_hands_80 : decode cL_hands 80 = .ok (.iconst 1, 1) := by decide +kernel
theorem dL_hands_81 : decode cL_hands 81 = .ok (.iconst 1, 1) := by decide +kernel
theorem dL_hands_82 : decode cL_hands 82 = .ok (.iconst 0, 1) := by decide +kernel
theorem dL_hands_83 : decode cL_hands 83 = .ok (.iconst 2, 1) := by decide +kernel
theorem dL_hands_84 : decode cL_hands 84 = .ok (.invokevirtual 26, 3) := by decide +kernel
theorem dL_hands_87 : decode cL_hands 87 = .ok (.iconst (-1), 1) := by decide +kernel
theorem dL_hands_88 : decode cL_hands 88 = .ok (.if_icmp .ne 392, 3) := by decide +kernel
theorem dL_hands_91 : decode cL_hands 91 = .ok (.aload_n 0, 1) := by decide +kernel
theorem dL_hands_92 : decode cL_hands 92 = .ok (.iconst 1, 1) := by decide +kernel
theorem dL_hands_93 : decode cL_hands 93 = .ok (.iconst 1, 1) := by decide +kernel
theorem dL_hands_94 : decode cL_hands 94 = .ok (.iconst 1, 1) := by decide +kernel
theorem dL_hands_95 : decode cL_hands 95 = .ok (.iconst 2, 1) := by decide +kernel
theorem dL_hands_96 : decode cL_hands 96 = .ok (.invokevirtual 26, 3) := by decide +kernel
theorem dL_hands_99 : decode cL_hands 99 = .ok (.iconst (-1), 1) := by decide +kernel
theorem dL_hands_100 : decode cL_hands 100 = .ok (.if_icmp .ne 380, 3) := by decide +kernel
theorem dL_hands_103 : decode cL_hands 103 = .ok (.aload_n 0, 1) := by decide +kernel
theorem dL_hands_104 : decode cL_hands 104 = .ok (.iconst 2, 1) := by decide +kernel
theorem dL_hands_105 : decode cL_hands 105 = .ok (.iconst 2, 1) := by decide +kernel
theorem dL_hands_106 : decode cL_hands 106 = .ok (.iconst 2, 1) := by decide +kernel
theorem dL_hands_107 : decode cL_hands 107 = .ok (.iconst 0, 1) := by decide +kernel
theorem dL_hands_108 : decode cL_hands 108 = .ok (.invokevirtual 26, 3) := by decide +kernel
theorem dL_hands_111 : decode cL_hands 111 = .ok (.iconst (-1), 1) := by decide +kernel
theorem dL_hands_112 : decode cL_hands 112 = .ok (.if_icmp .ne 368, 3) := by decide +kernel
theorem dL_hands_115 : decode cL_hands 115 = .ok (.aload_n 0, 1) := by decide +kernel
theorem dL_hands_116 : decode cL_hands 116 = .ok (.iconst 2, 1) := by decide +kernel
theorem dL_hands_117 : decode cL_hands 117 = .ok (.iconst 2, 1) := by decide +kernel
theorem dL_hands_118 : decode cL_hands 118 = .ok (.bipush 7, 2) := by decide +kernel
theorem dL_hands_120 : decode cL_hands 120 = .ok (.iconst 1, 1) := by decide +kernel
theorem dL_hands_121 : decode cL_hands 121 = .ok (.invokevirtual 30, 3) := by decide +kernel
theorem dL_hands_124 : decode cL_hands 124 = .ok (.ifCond .ne 356, 3) := by decide +kernel
theorem dL_hands_127 : decode cL_hands 127 = .ok (.aload_n 0, 1) := by decide +kernel
theorem dL_hands_128 : decode cL_hands 128 = .ok (.iconst 3, 1) := by decide +kernel
theorem dL_hands_129 : decode cL_hands 129 = .ok (.iconst 0, 1) := by decide +kernel
theorem dL_hands_130 : decode cL_hands 130 = .ok (.iconst 1, 1) := by decide +kernel
theorem dL_hands_131 : decode cL_hands 131 = .ok (.iconst 1, 1) := by decide +kernel
theorem dL_hands_132 : decode cL_hands 132 = .ok (.invokevirtual 34, 3) := by decide +kernel
theorem dL_hands_135 : decode cL_hands 135 = .ok (.ifCond .ne 345, 3) := by decide +kernel
theorem dL_hands_138 : decode cL_hands 138 = .ok (.aload_n 0, 1) := by decide +kernel
theorem dL_hands_139 : decode cL_hands 139 = .ok (.iconst 3, 1) := by decide +kernel
theorem dL_hands_140 : decode cL_hands 140 = .ok (.iconst 0, 1) := by decide +kernel
theorem dL_hands_141 : decode cL_hands 141 = .ok (.invokevirtual 37, 3) := by decide +kernel
theorem dL_hands_144 : decode cL_hands 144 = .ok (.iconst 2, 1) := by decide +kernel
theorem dL_hands_145 : decode cL_hands 145 = .ok (.if_icmp .ne 335, 3) := by decide +kernel
theorem dL_hands_148 : decode cL_hands 148 = .ok (.aload_n 0, 1) := by decide +kernel
theorem dL_hands_149 : decode cL_hands 149 = .ok (.iconst 3, 1) := by decide +kernel
theorem dL_hands_150 : decode cL_hands 150 = .ok (.iconst 0, 1) := by decide +kernel
theorem dL_hands_151 : decode cL_hands 151 = .ok (.iconst 0, 1) := by decide +kernel
theorem dL_hands_152 : decode cL_hands 152 = .ok (.iconst 1, 1) := by decide +kernel
theorem dL_hands_153 : decode cL_hands 153 = .ok (.invokevirtual 34, 3) := by decide +kernel
theorem dL_hands_156 : decode cL_hands 156 = .ok (.ifCond .ne 324, 3) := by decide +kernel
theorem dL_hands_159 : decode cL_hands 159 = .ok (.aload_n 0, 1) := by decide +kernel
theorem dL_hands_160 : decode cL_hands 160 = .ok (.iconst 3, 1) := by decide +kernel
theorem dL_hands_161 : decode cL_hands 161 = .ok (.iconst 0, 1) := by decide +kernel
theorem dL_hands_162 : decode cL_hands 162 = .ok (.invokevirtual 37, 3) := by decide +kernel
theorem dL_hands_165 : decode cL_hands 165 = .ok (.iconst 1, 1) := by decide +kernel
theorem dL_hands_166 : decode cL_hands 166 = .ok (.if_icmp .ne 314, 3) := by decide +kernel
theorem dL_hands_169 : decode cL_hands 169 = .ok (.aload_n 0, 1) := by decide +kernel
theorem dL_hands_170 : decode cL_hands 170 = .ok (.iconst 3, 1) := by decide +kernel
theorem dL_hands_171 : decode cL_hands 171 = .ok (.iconst 1, 1) := by decide +kernel
theorem dL_hands_172 : decode cL_hands 172 = .ok (.invokevirtual 37, 3) := by decide +kernel
theorem dL_hands_175 : decode cL_hands 175 = .ok (.iconst 2, 1) := by decide +kernel
theorem dL_hands_176 : decode cL_hands 176 = .ok (.if_icmp .ne 304, 3) := by decide +kernel
theorem dL_hands_179 : decode cL_hands 179 = .ok (.aload_n 0, 1) := by decide +kernel
theorem dL_hands_180 : decode cL_hands 180 = .ok (.iconst 3, 1) := by decide +kernel
theorem dL_hands_181 : decode cL_hands 181 = .ok (.iconst 2, 1) := by decide +kernel
theorem dL_hands_182 : decode cL_hands 182 = .ok (.invokevirtual 37, 3) := by decide +kernel
theorem dL_hands_185 : decode cL_hands 185 = .ok (.iconst (-1), 1) := by decide +kernel
theorem dL_hands_186 : decode cL_hands 186 = .ok (.if_icmp .ne 294, 3) := by decide +kernel
theorem dL_hands_189 : decode cL_hands 189 = .ok (.aload_n 0, 1) := by decide +kernel
theorem dL_hands_190 : decode cL_hands 190 = .ok (.iconst 0, 1) := by decide +kernel
theorem dL_hands_191 : decode cL_hands 191 = .ok (.iconst 0, 1) := by decide +kernel
theorem dL_hands_192 : decode cL_hands 192 = .ok (.iconst 2, 1) := by decide +kernel
theorem dL_hands_193 : decode cL_hands 193 = .ok (.iconst 1, 1) := by decide +kernel
theorem dL_hands_194 : decode cL_hands 194 = .ok (.invokevirtual 34, 3) := by decide +kernel
theorem dL_hands_197 : decode cL_hands 197 = .ok (.ifCond .ne 283, 3) := by decide +kernel
theorem dL_hands_200 : decode cL_hands 200 = .ok (.aload_n 0, 1) := by decide +kernel
theorem dL_hands_201 : decode cL_hands 201 = .ok (.iconst 3, 1) := by decide +kernel
theorem dL_hands_202 : decode cL_hands 202 = .ok (.iconst 2, 1) := by decide +kernel
theorem dL_hands_203 : decode cL_hands 203 = .ok (.invokevirtual 37, 3) := by decide +kernel
theorem dL_hands_206 : decode cL_hands 206 = .ok (.ifCond .ne 274, 3) := by decide +kernel
theorem dL_hands_209 : decode cL_hands 209 = .ok (.aload_n 0, 1) := by decide +kernel
theorem dL_hands_210 : decode cL_hands 210 = .ok (.iconst 3, 1) := by decide +kernel
theorem dL_hands_211 : decode cL_hands 211 = .ok (.bipush 7, 2) := by decide +kernel
theorem dL_hands_213 : decode cL_hands 213 = .ok (.invokevirtual 41, 3) := by decide +kernel
theorem dL_hands_216 : decode cL_hands 216 = .ok (.ifCond .eq 264, 3) := by decide +kernel
theorem dL_hands_219 : decode cL_hands 219 = .ok (.aload_n 0, 1) := by decide +kernel
theorem dL_hands_220 : decode cL_hands 220 = .ok (.iconst 0, 1) := by decide +kernel
theorem dL_hands_221 : decode cL_hands 221 = .ok (.bipush 7, 2) := by decide +kernel
theorem dL_hands_223 : decode cL_hands 223 = .ok (.invokevirtual 41, 3) := by decide +kernel
theorem dL_hands_226 : decode cL_hands 226 = .ok (.ifCond .eq 254, 3) := by decide +kernel
theorem dL_hands_229 : decode cL_hands 229 = .ok (.aload_n 0, 1) := by decide +kernel
theorem dL_hands_230 : decode cL_hands 230 = .ok (.iconst 1, 1) := by decide +kernel
theorem dL_hands_231 : decode cL_hands 231 = .ok (.bipush 7, 2) := by decide +kernel
theorem dL_hands_233 : decode cL_hands 233 = .ok (.invokevirtual 41, 3) := by decide +kernel
theorem dL_hands_236 : decode cL_hands 236 = .ok (.ifCond .ne 244, 3) := by decide +kernel
theorem dL_hands_239 : decode cL_hands 239 = .ok (.aload_n 0, 1) := by decide +kernel
theorem dL_hands_240 : decode cL_hands 240 = .ok (.iconst 3, 1) := by decide +kernel
theorem dL_hands_241 : decode cL_hands 241 = .ok (.iconst 2, 1) := by decide +kernel
theorem dL_hands_242 : decode cL_hands 242 = .ok (.iconst 2, 1) := by decide +kernel
theorem dL_hands_243 : decode cL_hands 243 = .ok (.iconst 3, 1) := by decide +kernel
theorem dL_hands_244 : decode cL_hands 244 = .ok (.iconst 1, 1) := by decide +kernel
theorem dL_hands_245 : decode cL_hands 245 = .ok (.invokestatic 91, 3) := by decide +kernel
theorem dL_hands_248 : decode cL_hands 248 = .ok (.iload_n 1, 1) := by decide +kernel
theorem dL_hands_249 : decode cL_hands 249 = .ok (.if_icmp .ne 231, 3) := by decide +kernel
theorem dL_hands_252 : decode cL_hands 252 = .ok (.aload_n 0, 1) := by decide +kernel
theorem dL_hands_253 : decode cL_hands 253 = .ok (.iconst 3, 1) := by decide +kernel
theorem dL_hands_254 : decode cL_hands 254 = .ok (.iconst 2, 1) := by decide +kernel
theorem dL_hands_255 : decode cL_hands 255 = .ok (.iconst 2, 1) := by decide +kernel
theorem dL_hands_256 : decode cL_hands 256 = .ok (.iconst 2, 1) := by decide +kernel
theorem dL_hands_257 : decode cL_hands 257 = .ok (.iconst 1, 1) := by decide +kernel
theorem dL_hands_258 : decode cL_hands 258 = .ok (.invokestatic 91, 3) := by decide +kernel
theorem dL_hands_261 : decode cL_hands 261 = .ok (.iload_n 1, 1) := by decide +kernel
theorem dL_hands_262 : decode cL_hands 262 = .ok (.if_icmp .ne 218, 3) := by decide +kernel
theorem dL_hands_265 : decode cL_hands 265 = .ok (.aload_n 0, 1) := by decide +kernel
theorem dL_hands_266 : decode cL_hands 266 = .ok (.iconst 3, 1) := by decide +kernel
theorem dL_hands_267 : decode cL_hands 267 = .ok (.iconst 2, 1) := by decide +kernel
theorem dL_hands_268 : decode cL_hands 268 = .ok (.iconst 2, 1) := by decide +kernel
theorem dL_hands_269 : decode cL_hands 269 = .ok (.iconst 0, 1) := by decide +kernel
theorem dL_hands_270 : decode cL_hands 270 = .ok (.iconst 1, 1) := by decide +kernel
theorem dL_hands_271 : decode cL_hands 271 = .ok (.invokestatic 91, 3) := by decide +kernel
theorem dL_hands_274 : decode cL_hands 274 = .ok (.iload_n 1, 1) := by decide +kernel
theorem dL_hands_275 : decode cL_hands 275 = .ok (.if_icmp .ne 205, 3) := by decide +kernel
theorem dL_hands_278 : decode cL_hands 278 = .ok (.aload_n 0, 1) := by decide +kernel
theorem dL_hands_279 : decode cL_hands 279 = .ok (.iconst 2, 1) := by decide +kernel
theorem dL_hands_280 : decode cL_hands 280 = .ok (.iconst 2, 1) := by decide +kernel
theorem dL_hands_281 : decode cL_hands 281 = .ok (.iconst 3, 1) := by decide +kernel
theorem dL_hands_282 : decode cL_hands 282 = .ok (.iconst 0, 1) := by decide +kernel
theorem dL_hands_283 : decode cL_hands 283 = .ok (.invokevirtual 34, 3) := by decide +kernel
theorem dL_hands_286 : decode cL_hands 286 = .ok (.ifCond .ne 194, 3) := by decide +kernel
theorem dL_hands_289 : decode cL_hands 289 = .ok (.aload_n 0, 1) := by decide +kernel
theorem dL_hands_290 : decode cL_hands 290 = .ok (.iconst 2, 1) := by decide +kernel
theorem dL_hands_291 : decode cL_hands 291 = .ok (.iconst 2, 1) := by decide +kernel
theorem dL_hands_292 : decode cL_hands 292 = .ok (.iconst 2, 1) := by decide +kernel
theorem dL_hands_293 : decode cL_hands 293 = .ok (.iconst 0, 1) := by decide +kernel
theorem dL_hands_294 : decode cL_hands 294 = .ok (.invokevirtual 34, 3) := by decide +kernel
theorem dL_hands_297 : decode cL_hands 297 = .ok (.ifCond .ne 183, 3) := by decide +kernel
theorem dL_hands_300 : decode cL_hands 300 = .ok (.aload_n 0, 1) := by decide +kernel
theorem dL_hands_301 : decode cL_hands 301 = .ok (.iconst 3, 1) := by decide +kernel
theorem dL_hands_302 : decode cL_hands 302 = .ok (.iconst 0, 1) := by decide +kernel
theorem dL_hands_303 : decode cL_hands 303 = .ok (.iconst 0, 1) := by decide +kernel
theorem dL_hands_304 : decode cL_hands 304 = .ok (.iconst 0, 1) := by decide +kernel
theorem dL_hands_305 : decode cL_hands 305 = .ok (.invokevirtual 26, 3) := by decide +kernel
theorem dL_hands_308 : decode cL_hands 308 = .ok (.iconst (-1), 1) := by decide +kernel
theorem dL_hands_309 : decode cL_hands 309 = .ok (.if_icmp .ne 171, 3) := by decide +kernel
theorem dL_hands_312 : decode cL_hands 312 = .ok (.aload_n 0, 1) := by decide +kernel
theorem dL_hands_313 : decode cL_hands 313 = .ok (.iconst 3, 1) := by decide +kernel
theorem dL_hands_314 : decode cL_hands 314 = .ok (.iconst 0, 1) := by decide +kernel
theorem dL_hands_315 : decode cL_hands 315 = .ok (.invokevirtual 37, 3) := by decide +kernel
theorem dL_hands_318 : decode cL_hands 318 = .ok (.ifCond .ne 162, 3) := by decide +kernel
theorem dL_hands_321 : decode cL_hands 321 = .ok (.aload_n 0, 1) := by decide +kernel
theorem dL_hands_322 : decode cL_hands 322 = .ok (.iconst 3, 1) := by decide +kernel
theorem dL_hands_323 : decode cL_hands 323 = .ok (.iconst 0, 1) := by decide +kernel
theorem dL_hands_324 : decode cL_hands 324 = .ok (.iconst 0, 1) := by decide +kernel
theorem dL_hands_325 : decode cL_hands 325 = .ok (.iconst (-1), 1) := by decide +kernel
theorem dL_hands_326 : decode cL_hands 326 = .ok (.invokevirtual 26, 3) := by decide +kernel
theorem dL_hands_329 : decode cL_hands 329 = .ok (.ifCond .ne 151, 3) := by decide +kernel
theorem dL_hands_332 : decode cL_hands 332 = .ok (.aload_n 0, 1) := by decide +kernel
theorem dL_hands_333 : decode cL_hands 333 = .ok (.iconst 3, 1) := by decide +kernel
theorem dL_hands_334 : decode cL_hands 334 = .ok (.iconst 0, 1) := by decide +kernel
theorem dL_hands_335 : decode cL_hands 335 = .ok (.invokevirtual 37, 3) := by decide +kernel
theorem dL_hands_338 : decode cL_hands 338 = .ok (.iconst 1, 1) := by decide +kernel
theorem dL_hands_339 : decode cL_hands 339 = .ok (.if_icmp .ne 141, 3) := by decide +kernel
theorem dL_hands_342 : decode cL_hands 342 = .ok (.aload_n 0, 1) := by decide +kernel
theorem dL_hands_343 : decode cL_hands 343 = .ok (.iconst 0, 1) := by decide +kernel
theorem dL_hands_344 : decode cL_hands 344 = .ok (.iconst 0, 1) := by decide +kernel
theorem dL_hands_345 : decode cL_hands 345 = .ok (.iconst 0, 1) := by decide +kernel
theorem dL_hands_346 : decode cL_hands 346 = .ok (.iconst (-1), 1) := by decide +kernel
theorem dL_hands_347 : decode cL_hands 347 = .ok (.invokevirtual 26, 3) := by decide +kernel
theorem dL_hands_350 : decode cL_hands 350 = .ok (.iconst 1, 1) := by decide +kernel
theorem dL_hands_351 : decode cL_hands 351 = .ok (.if_icmp .ne 129, 3) := by decide +kernel
theorem dL_hands_354 : decode cL_hands 354 = .ok (.aload_n 0, 1) := by decide +kernel
theorem dL_hands_355 : decode cL_hands 355 = .ok (.iconst 3, 1) := by decide +kernel
theorem dL_hands_356 : decode cL_hands 356 = .ok (.iconst 0, 1) := by decide +kernel
theorem dL_hands_357 : decode cL_hands 357 = .ok (.invokevirtual 37, 3) := by decide +kernel
theorem dL_hands_360 : decode cL_hands 360 = .ok (.iconst 2, 1) := by decide +kernel
theorem dL_hands_361 : decode cL_hands 361 = .ok (.if_icmp .ne 119, 3) := by decide +kernel
theorem dL_hands_364 : decode cL_hands 364 = .ok (.aload_n 0, 1) := by decide +kernel
theorem dL_hands_365 : decode cL_hands 365 = .ok (.iconst 2, 1) := by decide +kernel
theorem dL_hands_366 : decode cL_hands 366 = .ok (.iconst 2, 1) := by decide +kernel
theorem dL_hands_367 : decode cL_hands 367 = .ok (.iconst 1, 1) := by decide +kernel
theorem dL_hands_368 : decode cL_hands 368 = .ok (.iconst 1, 1) := by decide +kernel
theorem dL_hands_369 : decode cL_hands 369 = .ok (.invokevirtual 34, 3) := by decide +kernel
theorem dL_hands_372 : decode cL_hands 372 = .ok (.ifCond .ne 108, 3) := by decide +kernel
theorem dL_hands_375 : decode cL_hands 375 = .ok (.aload_n 0, 1) := by decide +kernel
theorem dL_hands_376 : decode cL_hands 376 = .ok (.iconst 0, 1) := by decide +kernel
theorem dL_hands_377 : decode cL_hands 377 = .ok (.iconst 0, 1) := by decide +kernel
theorem dL_hands_378 : decode cL_hands 378 = .ok (.invokevirtual 37, 3) := by decide +kernel
theorem dL_hands_381 : decode cL_hands 381 = .ok (.iconst 2, 1) := by decide +kernel
theorem dL_hands_382 : decode cL_hands 382 = .ok (.if_icmp .ne 98, 3) := by decide +kernel
theorem dL_hands_385 : decode cL_hands 385 = .ok (.aload_n 0, 1) := by decide +kernel
theorem dL_hands_386 : decode cL_hands 386 = .ok (.iconst 0, 1) := by decide +kernel
theorem dL_hands_387 : decode cL_hands 387 = .ok (.iconst 1, 1) := by decide +kernel
theorem dL_hands_388 : decode cL_hands 388 = .ok (.invokevirtual 37, 3) := by decide +kernel
theorem dL_hands_391 : decode cL_hands 391 = .ok (.iconst 2, 1) := by decide +kernel
theorem dL_hands_392 : decode cL_hands 392 = .ok (.if_icmp .ne 88, 3) := by decide +kernel
theorem dL_hands_395 : decode cL_hands 395 = .ok (.aload_n 0, 1) := by decide +kernel
theorem dL_hands_396 : decode cL_hands 396 = .ok (.iconst 3, 1) := by decide +kernel
theorem dL_hands_397 : decode cL_hands 397 = .ok (.iconst 1, 1) := by decide +kernel
theorem dL_hands_398 : decode cL_hands 398 = .ok (.iconst 1, 1) := by decide +kernel
theorem dL_hands_399 : decode cL_hands 399 = .ok (.iconst 3, 1) := by decide +kernel
theorem dL_hands_400 : decode cL_hands 400 = .ok (.iconst 1, 1) := by decide +kernel
theorem dL_hands_401 : decode cL_hands 401 = .ok (.invokestatic 91, 3) := by decide +kernel
theorem dL_hands_404 : decode cL_hands 404 = .ok (.iload_n 1, 1) := by decide +kernel
theorem dL_hands_405 : decode cL_hands 405 = .ok (.if_icmp .ne 75, 3) := by decide +kernel
theorem dL_hands_408 : decode cL_hands 408 = .ok (.aload_n 0, 1) := by decide +kernel
theorem dL_hands_409 : decode cL_hands 409 = .ok (.iconst 3, 1) := by decide +kernel
theorem dL_hands_410 : decode cL_hands 410 = .ok (.iconst 0, 1) := by decide +kernel
theorem dL_hands_411 : decode cL_hands 411 = .ok (.iconst 1, 1) := by decide +kernel
theorem dL_hands_412 : decode cL_hands 412 = .ok (.iconst 1, 1) := by decide +kernel
theorem dL_hands_413 : decode cL_hands 413 = .ok (.invokevirtual 34, 3) := by decide +kernel
theorem dL_hands_416 : decode cL_hands 416 = .ok (.ifCond .eq 64, 3) := by decide +kernel
theorem dL_hands_419 : decode cL_hands 419 = .ok (.aload_n 0, 1) := by decide +kernel
theorem dL_hands_420 : decode cL_hands 420 = .ok (.iconst 3, 1) := by decide +kernel
theorem dL_hands_421 : decode cL_hands 421 = .ok (.iconst 0, 1) := by decide +kernel
theorem dL_hands_422 : decode cL_hands 422 = .ok (.iconst 1, 1) := by decide +kernel
theorem dL_hands_423 : decode cL_hands 423 = .ok (.iconst 0, 1) := by decide +kernel
theorem dL_hands_424 : decode cL_hands 424 = .ok (.invokevirtual 34, 3) := by decide +kernel
theorem dL_hands_427 : decode cL_hands 427 = .ok (.ifCond .eq 53, 3) := by decide +kernel
theorem dL_hands_430 : decode cL_hands 430 = .ok (.aload_n 0, 1) := by decide +kernel
theorem dL_hands_431 : decode cL_hands 431 = .ok (.iconst 3, 1) := by decide +kernel
theorem dL_hands_432 : decode cL_hands 432 = .ok (.iconst 1, 1) := by decide +kernel
theorem dL_hands_433 : decode cL_hands 433 = .ok (.invokevirtual 37, 3) := by decide +kernel
theorem dL_hands_436 : decode cL_hands 436 = .ok (.iconst 2, 1) := by decide +kernel
theorem dL_hands_437 : decode cL_hands 437 = .ok (.if_icmp .ne 43, 3) := by decide +kernel
theorem dL_hands_440 : decode cL_hands 440 = .ok (.aload_n 0, 1) := by decide +kernel
theorem dL_hands_441 : decode cL_hands 441 = .ok (.iconst 0, 1) := by decide +kernel
theorem dL_hands_442 : decode cL_hands 442 = .ok (.iconst 0, 1) := by decide +kernel
theorem dL_hands_443 : decode cL_hands 443 = .ok (.iconst 2, 1) := by decide +kernel
theorem dL_hands_444 : decode cL_hands 444 = .ok (.iconst 0, 1) := by decide +kernel
theorem dL_hands_445 : decode cL_hands 445 = .ok (.invokevirtual 34, 3) := by decide +kernel
theorem dL_hands_448 : decode cL_hands 448 = .ok (.ifCond .eq 32, 3) := by decide +kernel
theorem dL_hands_451 : decode cL_hands 451 = .ok (.aload_n 0, 1) := by decide +kernel
theorem dL_hands_452 : decode cL_hands 452 = .ok (.iconst 3, 1) := by decide +kernel
theorem dL_hands_453 : decode cL_hands 453 = .ok (.iconst 1, 1) := by decide +kernel
theorem dL_hands_454 : decode cL_hands 454 = .ok (.invokevirtual 37, 3) := by decide +kernel
theorem dL_hands_457 : decode cL_hands 457 = .ok (.iconst (-1), 1) := by decide +kernel
theorem dL_hands_458 : decode cL_hands 458 = .ok (.if_icmp .ne 22, 3) := by decide +kernel
theorem dL_hands_461 : decode cL_hands 461 = .ok (.aload_n 0, 1) := by decide +kernel
theorem dL_hands_462 : decode cL_hands 462 = .ok (.iconst 3, 1) := by decide +kernel
theorem dL_hands_463 : decode cL_hands 463 = .ok (.bipush 7, 2) := by decide +kernel
theorem dL_hands_465 : decode cL_hands 465 = .ok (.invokevirtual 41, 3) := by decide +kernel
theorem dL_hands_468 : decode cL_hands 468 = .ok (.ifCond .ne 12, 3) := by decide +kernel
theorem dL_hands_471 : decode cL_hands 471 = .ok (.aload_n 0, 1) := by decide +kernel
theorem dL_hands_472 : decode cL_hands 472 = .ok (.iconst 0, 1) := by decide +kernel
theorem dL_hands_473 : decode cL_hands 473 = .ok (.iconst 0, 1) := by decide +kernel
theorem dL_hands_474 : decode cL_hands 474 = .ok (.invokestatic 103, 3) := by decide +kernel
theorem dL_hands_477 : decode cL_hands 477 = .ok (.ifCond .ne 5, 3) := by decide +kernel
theorem dL_hands_480 : decode cL_hands 480 = .ok (.iconst 0, 1) := by decide +kernel
theorem dL_hands_481 : decode cL_hands 481 = .ok (.ireturn, 1) := by decide +kernel
theorem dL_hands_482 : decode cL_hands 482 = .ok (.aload_n 0, 1) := by decide +kernel
theorem dL_hands_483 : decode cL_hands 483 = .ok (.iconst 5, 1) := by decide +kernel
theorem dL_hands_484 : decode cL_hands 484 = .ok (.iconst 2, 1) := by decide +kernel
theorem dL_hands_485 : decode cL_hands 485 = .ok (.iconst 2, 1) := by decide +kernel
theorem dL_hands_486 : decode cL_hands 486 = .ok (.iconst 1, 1) := by decide +kernel
theorem dL_hands_487 : decode cL_hands 487 = .ok (.invokevirtual 34, 3) := by decide +kernel
theorem dL_hands_490 : decode cL_hands 490 = .ok (.ifCond .ne 128, 3) := by decide +kernel
theorem dL_hands_493 : decode cL_hands 493 = .ok (.aload_n 0, 1) := by decide +kernel
theorem dL_hands_494 : decode cL_hands 494 = .ok (.iconst 5, 1) := by decide +kernel
theorem dL_hands_495 : decode cL_hands 495 = .ok (.invokevirtual 68, 3) := by decide +kernel
theorem dL_hands_498 : decode cL_hands 498 = .ok (.ifCond .ne 120, 3) := by decide +kernel
theorem dL_hands_501 : decode cL_hands 501 = .ok (.aload_n 0, 1) := by decide +kernel
theorem dL_hands_502 : decode cL_hands 502 = .ok (.iconst 5, 1) := by decide +kernel
theorem dL_hands_503 : decode cL_hands 503 = .ok (.invokevirtual 75, 3) := by decide +kernel
theorem dL_hands_506 : decode cL_hands 506 = .ok (.ifCond .ne 112, 3) := by decide +kernel
theorem dL_hands_509 : decode cL_hands 509 = .ok (.aload_n 0, 1) := by decide +kernel
theorem dL_hands_510 : decode cL_hands 510 = .ok (.iconst 0, 1) := by decide +kernel
theorem dL_hands_511 : decode cL_hands 511 = .ok (.invokevirtual 81, 3) := by decide +kernel
theorem dL_hands_514 : decode cL_hands 514 = .ok (.ifCond .eq 104, 3) := by decide +kernel
theorem dL_hands_517 : decode cL_hands 517 = .ok (.aload_n 0, 1) := by decide +kernel
theorem dL_hands_518 : decode cL_hands 518 = .ok (.iconst 1, 1) := by decide +kernel
theorem dL_hands_519 : decode cL_hands 519 = .ok (.iconst 1, 1) := by decide +kernel
theorem dL_hands_520 : decode cL_hands 520 = .ok (.iconst 1, 1) := by decide +kernel
theorem dL_hands_521 : decode cL_hands 521 = .ok (.iconst (-1), 1) := by decide +kernel
theorem dL_hands_522 : decode cL_hands 522 = .ok (.invokevirtual 26, 3) := by decide +kernel
theorem dL_hands_525 : decode cL_hands 525 = .ok (.iconst 2, 1) := by decide +kernel
theorem dL_hands_526 : decode cL_hands 526 = .ok (.if_icmp .ne 92, 3) := by decide +kernel
theorem dL_hands_529 : decode cL_hands 529 = .ok (.aload_n 0, 1) := by decide +kernel
theorem dL_hands_530 : decode cL_hands 530 = .ok (.iconst 0, 1) := by decide +kernel
theorem dL_hands_531 : decode cL_hands 531 = .ok (.invokevirtual 71, 3) := by decide +kernel
theorem dL_hands_534 : decode cL_hands 534 = .ok (.ifCond .ne 84, 3) := by decide +kernel
theorem dL_hands_537 : decode cL_hands 537 = .ok (.aload_n 0, 1) := by decide +kernel
theorem dL_hands_538 : decode cL_hands 538 = .ok (.iconst 0, 1) := by decide +kernel
theorem dL_hands_539 : decode cL_hands 539 = .ok (.invokevirtual 81, 3) := by decide +kernel
theorem dL_hands_542 : decode cL_hands 542 = .ok (.ifCond .ne 76, 3) := by decide +kernel
theorem dL_hands_545 : decode cL_hands 545 = .ok (.aload_n 0, 1) := by decide +kernel
theorem dL_hands_546 : decode cL_hands 546 = .ok (.invokevirtual 87, 3) := by decide +kernel
theorem dL_hands_549 : decode cL_hands 549 = .ok (.iconst 1, 1) := by decide +kernel
theorem dL_hands_550 : decode cL_hands 550 = .ok (.if_icmp .ne 68, 3) := by decide +kernel
theorem dL_hands_553 : decode cL_hands 553 = .ok (.aload_n 0, 1) := by decide +kernel
theorem dL_hands_554 : decode cL_hands 554 = .ok (.iconst 5, 1) := by decide +kernel
theorem dL_hands_555 : decode cL_hands 555 = .ok (.iconst 2, 1) := by decide +kernel
theorem dL_hands_556 : decode cL_hands 556 = .ok (.iconst 1, 1) := by decide +kernel
theorem dL_hands_557 : decode cL_hands 557 = .ok (.iconst 2, 1) := by decide +kernel
theorem dL_hands_558 : decode cL_hands 558 = .ok (.invokevirtual 26, 3) := by decide +kernel
theorem dL_hands_561 : decode cL_hands 561 = .ok (.iconst (-1), 1) := by decide +kernel
theorem dL_hands_562 : decode cL_hands 562 = .ok (.if_icmp .ne 56, 3) := by decide +kernel
theorem dL_hands_565 : decode cL_hands 565 = .ok (.aload_n 0, 1) := by decide +kernel
theorem dL_hands_566 : decode cL_hands 566 = .ok (.iconst 0, 1) := by decide +kernel
theorem dL_hands_567 : decode cL_hands 567 = .ok (.invokevirtual 71, 3) := by decide +kernel
theorem dL_hands_570 : decode cL_hands 570 = .ok (.ifCond .eq 48, 3) := by decide +kernel
theorem dL_hands_573 : decode cL_hands 573 = .ok (.aload_n 0, 1) := by decide +kernel
theorem dL_hands_574 : decode cL_hands 574 = .ok (.invokevirtual 87, 3) := by decide +kernel
theorem dL_hands_577 : decode cL_hands 577 = .ok (.ifCond .ne 41, 3) := by decide +kernel
theorem dL_hands_580 : decode cL_hands 580 = .ok (.aload_n 0, 1) := by decide +kernel
theorem dL_hands_581 : decode cL_hands 581 = .ok (.iconst 4, 1) := by decide +kernel
theorem dL_hands_582 : decode cL_hands 582 = .ok (.iconst 1, 1) := by decide +kernel
theorem dL_hands_583 : decode cL_hands 583 = .ok (.iconst 5, 1) := by decide +kernel
theorem dL_hands_584 : decode cL_hands 584 = .ok (.iconst 1, 1) := by decide +kernel
theorem dL_hands_585 : decode cL_hands 585 = .ok (.invokevirtual 34, 3) := by decide +kernel
theorem dL_hands_588 : decode cL_hands 588 = .ok (.ifCond .ne 30, 3) := by decide +kernel
theorem dL_hands_591 : decode cL_hands 591 = .ok (.aload_n 0, 1) := by decide +kernel
theorem dL_hands_592 : decode cL_hands 592 = .ok (.iconst 4, 1) := by decide +kernel
theorem dL_hands_593 : decode cL_hands 593 = .ok (.invokevirtual 75, 3) := by decide +kernel
theorem dL_hands_596 : decode cL_hands 596 = .ok (.iconst 1, 1) := by decide +kernel
theorem dL_hands_597 : decode cL_hands 597 = .ok (.if_icmp .ne 21, 3) := by decide +kernel
theorem dL_hands_600 : decode cL_hands 600 = .ok (.aload_n 0, 1) := by decide +kernel
theorem dL_hands_601 : decode cL_hands 601 = .ok (.iconst 1, 1) := by decide +kernel
theorem dL_hands_602 : decode cL_hands 602 = .ok (.invokevirtual 78, 3) := by decide +kernel
theorem dL_hands_605 : decode cL_hands 605 = .ok (.iconst (-1), 1) := by decide +kernel
theorem dL_hands_606 : decode cL_hands 606 = .ok (.if_icmp .ne 12, 3) := by decide +kernel
theorem dL_hands_609 : decode cL_hands 609 = .ok (.aload_n 0, 1) := by decide +kernel
theorem dL_hands_610 : decode cL_hands 610 = .ok (.iconst 1, 1) := by decide +kernel
theorem dL_hands_611 : decode cL_hands 611 = .ok (.iconst 2, 1) := by decide +kernel
theorem dL_hands_612 : decode cL_hands 612 = .ok (.invokestatic 103, 3) := by decide +kernel
theorem dL_hands_615 : decode cL_hands 615 = .ok (.ifCond .ne 5, 3) := by decide +kernel
theorem dL_hands_618 : decode cL_hands 618 = .ok (.iconst 0, 1) := by decide +kernel
theorem dL_hands_619 : decode cL_hands 619 = .ok (.ireturn, 1) := by decide +kernel
theorem dL_hands_620 : decode cL_hands 620 = .ok (.aload_n 0, 1) := by decide +kernel
theorem dL_hands_621 : decode cL_hands 621 = .ok (.iconst 4, 1) := by decide +kernel
theorem dL_hands_622 : decode cL_hands 622 = .ok (.iconst 1, 1) := by decide +kernel
theorem dL_hands_623 : decode cL_hands 623 = .ok (.iconst 5, 1) := by decide +kernel
theorem dL_hands_624 : decode cL_hands 624 = .ok (.invokevirtual 61, 3) := by decide +kernel
theorem dL_hands_627 : decode cL_hands 627 = .ok (.iconst (-1), 1) := by decide +kernel
theorem dL_hands_628 : decode cL_hands 628 = .ok (.if_icmp .ne 236, 3) := by decide +kernel
theorem dL_hands_631 : decode cL_hands 631 = .ok (.aload_n 0, 1) := by decide +kernel
theorem dL_hands_632 : decode cL_hands 632 = .ok (.iconst 4, 1) := by decide +kernel
theorem dL_hands_633 : decode cL_hands 633 = .ok (.invokevirtual 65, 3) := by decide +kernel
theorem dL_hands_636 : decode cL_hands 636 = .ok (.iconst 5, 1) := by decide +kernel
theorem dL_hands_637 : decode cL_hands 637 = .ok (.if_icmp .ne 227, 3) := by decide +kernel
theorem dL_hands_640 : decode cL_hands 640 = .ok (.aload_n 0, 1) := by decide +kernel
theorem dL_hands_641 : decode cL_hands 641 = .ok (.iconst 1, 1) := by decide +kernel
theorem dL_hands_642 : decode cL_hands 642 = .ok (.iconst 4, 1) := by decide +kernel
theorem dL_hands_643 : decode cL_hands 643 = .ok (.iconst 1, 1) := by decide +kernel
theorem dL_hands_644 : decode cL_hands 644 = .ok (.iconst 3, 1) := by decide +kernel
theorem dL_hands_645 : decode cL_hands 645 = .ok (.iconst 1, 1) := by decide +kernel
theorem dL_hands_646 : decode cL_hands 646 = .ok (.invokestatic 91, 3) := by decide +kernel
theorem dL_hands_649 : decode cL_hands 649 = .ok (.iload_n 1, 1) := by decide +kernel
theorem dL_hands_650 : decode cL_hands 650 = .ok (.if_icmp .ne 214, 3) := by decide +kernel
theorem dL_hands_653 : decode cL_hands 653 = .ok (.aload_n 0, 1) := by decide +kernel
theorem dL_hands_654 : decode cL_hands 654 = .ok (.iconst 4, 1) := by decide +kernel
theorem dL_hands_655 : decode cL_hands 655 = .ok (.iconst 5, 1) := by decide +kernel
theorem dL_hands_656 : decode cL_hands 656 = .ok (.iconst 3, 1) := by decide +kernel
theorem dL_hands_657 : decode cL_hands 657 = .ok (.iconst 1, 1) := by decide +kernel
theorem dL_hands_658 : decode cL_hands 658 = .ok (.invokevirtual 26, 3) := by decide +kernel
theorem dL_hands_661 : decode cL_hands 661 = .ok (.iconst (-1), 1) := by decide +kernel
theorem dL_hands_662 : decode cL_hands 662 = .ok (.if_icmp .ne 202, 3) := by decide +kernel
theorem dL_hands_665 : decode cL_hands 665 = .ok (.aload_n 0, 1) := by decide +kernel
theorem dL_hands_666 : decode cL_hands 666 = .ok (.iconst 4, 1) := by decide +kernel
theorem dL_hands_667 : decode cL_hands 667 = .ok (.iconst 1, 1) := by decide +kernel
theorem dL_hands_668 : decode cL_hands 668 = .ok (.invokestatic 100, 3) := by decide +kernel
theorem dL_hands_671 : decode cL_hands 671 = .ok (.iload_n 1, 1) := by decide +kernel
theorem dL_hands_672 : decode cL_hands 672 = .ok (.if_icmp .ne 192, 3) := by decide +kernel
theorem dL_hands_675 : decode cL_hands 675 = .ok (.aload_n 0, 1) := by decide +kernel
theorem dL_hands_676 : decode cL_hands 676 = .ok (.iconst 4, 1) := by decide +kernel
theorem dL_hands_677 : decode cL_hands 677 = .ok (.iconst 5, 1) := by decide +kernel
theorem dL_hands_678 : decode cL_hands 678 = .ok (.invokestatic 100, 3) := by decide +kernel
theorem dL_hands_681 : decode cL_hands 681 = .ok (.iload_n 1, 1) := by decide +kernel
theorem dL_hands_682 : decode cL_hands 682 = .ok (.if_icmp .ne 182, 3) := by decide +kernel
theorem dL_hands_685 : decode cL_hands 685 = .ok (.aload_n 0, 1) := by decide +kernel
theorem dL_hands_686 : decode cL_hands 686 = .ok (.bipush 11, 2) := by decide +kernel
theorem dL_hands_688 : decode cL_hands 688 = .ok (.iconst 4, 1) := by decide +kernel
theorem dL_hands_689 : decode cL_hands 689 = .ok (.iconst 5, 1) := by decide +kernel
theorem dL_hands_690 : decode cL_hands 690 = .ok (.iconst 0, 1) := by decide +kernel
theorem dL_hands_691 : decode cL_hands 691 = .ok (.iconst 0, 1) := by decide +kernel
theorem dL_hands_692 : decode cL_hands 692 = .ok (.invokestatic 91, 3) := by decide +kernel
theorem dL_hands_695 : decode cL_hands 695 = .ok (.iload_n 1, 1) := by decide +kernel
theorem dL_hands_696 : decode cL_hands 696 = .ok (.if_icmp .ne 168, 3) := by decide +kernel
theorem dL_hands_699 : decode cL_hands 699 = .ok (.aload_n 0, 1) := by decide +kernel
theorem dL_hands_700 : decode cL_hands 700 = .ok (.iconst 4, 1) := by decide +kernel
theorem dL_hands_701 : decode cL_hands 701 = .ok (.iconst 1, 1) := by decide +kernel
theorem dL_hands_702 : decode cL_hands 702 = .ok (.iconst 0, 1) := by decide +kernel
theorem dL_hands_703 : decode cL_hands 703 = .ok (.invokevirtual 61, 3) := by decide +kernel
theorem dL_hands_706 : decode cL_hands 706 = .ok (.iconst 5, 1) := by decide +kernel
theorem dL_hands_707 : decode cL_hands 707 = .ok (.if_icmp .ne 157, 3) := by decide +kernel
theorem dL_hands_710 : decode cL_hands 710 = .ok (.aload_n 0, 1) := by decide +kernel
theorem dL_hands_711 : decode cL_hands 711 = .ok (.iconst 4, 1) := by decide +kernel
theorem dL_hands_712 : decode cL_hands 712 = .ok (.invokevirtual 65, 3) := by decide +kernel
theorem dL_hands_715 : decode cL_hands 715 = .ok (.ifCond .ne 149, 3) := by decide +kernel
theorem dL_hands_718 : decode cL_hands 718 = .ok (.aload_n 0, 1) := by decide +kernel
theorem dL_hands_719 : decode cL_hands 719 = .ok (.iconst 2, 1) := by decide +kernel
theorem dL_hands_720 : decode cL_hands 720 = .ok (.iconst 4, 1) := by decide +kernel
theorem dL_hands_721 : decode cL_hands 721 = .ok (.iconst 5, 1) := by decide +kernel
theorem dL_hands_722 : decode cL_hands 722 = .ok (.iconst 3, 1) := by decide +kernel
theorem dL_hands_723 : decode cL_hands 723 = .ok (.iconst 1, 1) := by decide +kernel
theorem dL_hands_724 : decode cL_hands 724 = .ok (.invokestatic 91, 3) := by decide +kernel
theorem dL_hands_727 : decode cL_hands 727 = .ok (.iload_n 1, 1) := by decide +kernel
theorem dL_hands_728 : decode cL_hands 728 = .ok (.if_icmp .ne 136, 3) := by decide +kernel
theorem dL_hands_731 : decode cL_hands 731 = .ok (.aload_n 0, 1) := by decide +kernel
theorem dL_hands_732 : decode cL_hands 732 = .ok (.iconst 4, 1) := by decide +kernel
theorem dL_hands_733 : decode cL_hands 733 = .ok (.iconst 0, 1) := by decide +kernel
theorem dL_hands_734 : decode cL_hands 734 = .ok (.iconst 3, 1) := by decide +kernel
theorem dL_hands_735 : decode cL_hands 735 = .ok (.iconst 1, 1) := by decide +kernel
theorem dL_hands_736 : decode cL_hands 736 = .ok (.invokevirtual 30, 3) := by decide +kernel
theorem dL_hands_739 : decode cL_hands 739 = .ok (.ifCond .ne 125, 3) := by decide +kernel
theorem dL_hands_742 : decode cL_hands 742 = .ok (.aload_n 0, 1) := by decide +kernel
theorem dL_hands_743 : decode cL_hands 743 = .ok (.iconst 4, 1) := by decide +kernel
theorem dL_hands_744 : decode cL_hands 744 = .ok (.iconst 1, 1) := by decide +kernel
theorem dL_hands_745 : decode cL_hands 745 = .ok (.iconst (-1), 1) := by decide +kernel
theorem dL_hands_746 : decode cL_hands 746 = .ok (.invokevirtual 61, 3) := by decide +kernel
theorem dL_hands_749 : decode cL_hands 749 = .ok (.ifCond .ne 115, 3) := by decide +kernel
theorem dL_hands_752 : decode cL_hands 752 = .ok (.aload_n 0, 1) := by decide +kernel
theorem dL_hands_753 : decode cL_hands 753 = .ok (.iconst 4, 1) := by decide +kernel
theorem dL_hands_754 : decode cL_hands 754 = .ok (.iconst 1, 1) := by decide +kernel
theorem dL_hands_755 : decode cL_hands 755 = .ok (.iconst (-1), 1) := by decide +kernel
theorem dL_hands_756 : decode cL_hands 756 = .ok (.invokevirtual 61, 3) := by decide +kernel
theorem dL_hands_759 : decode cL_hands 759 = .ok (.iconst (-1), 1) := by decide +kernel
theorem dL_hands_760 : decode cL_hands 760 = .ok (.if_icmp .ne 104, 3) := by decide +kernel
theorem dL_hands_763 : decode cL_hands 763 = .ok (.aload_n 0, 1) := by decide +kernel
theorem dL_hands_764 : decode cL_hands 764 = .ok (.iconst 4, 1) := by decide +kernel
theorem dL_hands_765 : decode cL_hands 765 = .ok (.invokevirtual 65, 3) := by decide +kernel
theorem dL_hands_768 : decode cL_hands 768 = .ok (.iconst 1, 1) := by decide +kernel
theorem dL_hands_769 : decode cL_hands 769 = .ok (.if_icmp .ne 95, 3) := by decide +kernel
theorem dL_hands_772 : decode cL_hands 772 = .ok (.aload_n 0, 1) := by decide +kernel
theorem dL_hands_773 : decode cL_hands 773 = .ok (.iconst 4, 1) := by decide +kernel
theorem dL_hands_774 : decode cL_hands 774 = .ok (.iconst 0, 1) := by decide +kernel
theorem dL_hands_775 : decode cL_hands 775 = .ok (.invokestatic 100, 3) := by decide +kernel
theorem dL_hands_778 : decode cL_hands 778 = .ok (.iload_n 1, 1) := by decide +kernel
theorem dL_hands_779 : decode cL_hands 779 = .ok (.if_icmp .ne 85, 3) := by decide +kernel
theorem dL_hands_782 : decode cL_hands 782 = .ok (.aload_n 0, 1) := by decide +kernel
theorem dL_hands_783 : decode cL_hands 783 = .ok (.iconst 4, 1) := by decide +kernel
theorem dL_hands_784 : decode cL_hands 784 = .ok (.iconst 1, 1) := by decide +kernel
theorem dL_hands_785 : decode cL_hands 785 = .ok (.invokestatic 100, 3) := by decide +kernel
theorem dL_hands_788 : decode cL_hands 788 = .ok (.ifCond .ne 76, 3) := by decide +kernel
theorem dL_hands_791 : decode cL_hands 791 = .ok (.aload_n 0, 1) := by decide +kernel
theorem dL_hands_792 : decode cL_hands 792 = .ok (.iconst 4, 1) := by decide +kernel
theorem dL_hands_793 : decode cL_hands 793 = .ok (.iconst 1, 1) := by decide +kernel
theorem dL_hands_794 : decode cL_hands 794 = .ok (.invokestatic 100, 3) := by decide +kernel
theorem dL_hands_797 : decode cL_hands 797 = .ok (.iload_n 1, 1) := by decide +kernel
theorem dL_hands_798 : decode cL_hands 798 = .ok (.if_icmp .ne 66, 3) := by decide +kernel
theorem dL_hands_801 : decode cL_hands 801 = .ok (.aload_n 0, 1) := by decide +kernel
theorem dL_hands_802 : decode cL_hands 802 = .ok (.iconst 4, 1) := by decide +kernel
theorem dL_hands_803 : decode cL_hands 803 = .ok (.invokevirtual 65, 3) := by decide +kernel
theorem dL_hands_806 : decode cL_hands 806 = .ok (.iconst (-1), 1) := by decide +kernel
theorem dL_hands_807 : decode cL_hands 807 = .ok (.if_icmp .ne 57, 3) := by decide +kernel
theorem dL_hands_810 : decode cL_hands 810 = .ok (.aload_n 0, 1) := by decide +kernel
theorem dL_hands_811 : decode cL_hands 811 = .ok (.iconst 3, 1) := by decide +kernel
theorem dL_hands_812 : decode cL_hands 812 = .ok (.iconst 4, 1) := by decide +kernel
theorem dL_hands_813 : decode cL_hands 813 = .ok (.iconst 1, 1) := by decide +kernel
theorem dL_hands_814 : decode cL_hands 814 = .ok (.iconst 0, 1) := by decide +kernel
theorem dL_hands_815 : decode cL_hands 815 = .ok (.iconst 1, 1) := by decide +kernel
theorem dL_hands_816 : decode cL_hands 816 = .ok (.invokestatic 91, 3) := by decide +kernel
theorem dL_hands_819 : decode cL_hands 819 = .ok (.iload_n 1, 1) := by decide +kernel
theorem dL_hands_820 : decode cL_hands 820 = .ok (.if_icmp .ne 44, 3) := by decide +kernel
theorem dL_hands_823 : decode cL_hands 823 = .ok (.aload_n 0, 1) := by decide +kernel
theorem dL_hands_824 : decode cL_hands 824 = .ok (.iconst 4, 1) := by decide +kernel
theorem dL_hands_825 : decode cL_hands 825 = .ok (.iconst 5, 1) := by decide +kernel
theorem dL_hands_826 : decode cL_hands 826 = .ok (.invokestatic 97, 3) := by decide +kernel
theorem dL_hands_829 : decode cL_hands 829 = .ok (.ifCond .ne 35, 3) := by decide +kernel
theorem dL_hands_832 : decode cL_hands 832 = .ok (.aload_n 0, 1) := by decide +kernel
theorem dL_hands_833 : decode cL_hands 833 = .ok (.iconst 4, 1) := by decide +kernel
theorem dL_hands_834 : decode cL_hands 834 = .ok (.invokevirtual 65, 3) := by decide +kernel
theorem dL_hands_837 : decode cL_hands 837 = .ok (.iconst 5, 1) := by decide +kernel
theorem dL_hands_838 : decode cL_hands 838 = .ok (.if_icmp .ne 26, 3) := by decide +kernel
theorem dL_hands_841 : decode cL_hands 841 = .ok (.aload_n 0, 1) := by decide +kernel
theorem dL_hands_842 : decode cL_hands 842 = .ok (.iconst 4, 1) := by decide +kernel
theorem dL_hands_843 : decode cL_hands 843 = .ok (.iconst 3, 1) := by decide +kernel
theorem dL_hands_844 : decode cL_hands 844 = .ok (.invokevirtual 37, 3) := by decide +kernel
theorem dL_hands_847 : decode cL_hands 847 = .ok (.iconst 1, 1) := by decide +kernel
theorem dL_hands_848 : decode cL_hands 848 = .ok (.if_icmp .ne 16, 3) := by decide +kernel
theorem dL_hands_851 : decode cL_hands 851 = .ok (.aload_n 0, 1) := by decide +kernel
theorem dL_hands_852 : decode cL_hands 852 = .ok (.iconst 1, 1) := by decide +kernel
theorem dL_hands_853 : decode cL_hands 853 = .ok (.iconst 2, 1) := by decide +kernel
theorem dL_hands_854 : decode cL_hands 854 = .ok (.invokestatic 103, 3) := by decide +kernel
theorem dL_hands_857 : decode cL_hands 857 = .ok (.ifCond .eq 7, 3) := by decide +kernel
theorem dL_hands_860 : decode cL_hands 860 = .ok (.iconst 1, 1) := by decide +kernel
theorem dL_hands_861 : decode cL_hands 861 = .ok (.goto 4, 3) := by decide +kernel
theorem dL_hands_864 : decode cL_hands 864 = .ok (.iconst 0, 1) := by decide +kernel
theorem dL_hands_865 : decode cL_hands 865 = .ok (.ireturn, 1) := by decide +kernel
theorem dL_law_0 : decode cL_law 0 = .ok (.invokestatic 111, 3) := by decide +kernel
theorem dL_law_3 : decode cL_law 3 = .ok (.ifCond .eq 15, 3) := by decide +kernel
theorem dL_law_6 : decode cL_law 6 = .ok (.invokestatic 115, 3) := by decide +kernel
theorem dL_law_9 : decode cL_law 9 = .ok (.ifCond .eq 9, 3) := by decide +kernel
theorem dL_law_12 : decode cL_law 12 = .ok (.invokestatic 118, 3) := by decide +kernel
theorem dL_law_15 : decode cL_law 15 = .ok (.ifCond .ne 5, 3) := by decide +kernel
theorem dL_law_18 : decode cL_law 18 = .ok (.iconst 0, 1) := by decide +kernel
theorem dL_law_19 : decode cL_law 19 = .ok (.ireturn, 1) := by decide +kernel
theorem dL_law_20 : decode cL_law 20 = .ok (.new 8, 3) := by decide +kernel
theorem dL_law_23 : decode cL_law 23 = .ok (.dup, 1) := by decide +kernel
theorem dL_law_24 : decode cL_law 24 = .ok (.invokespecial 102, 3) := by decide +kernel
theorem dL_law_27 : decode cL_law 27 = .ok (.astore_n 1, 1) := by decide +kernel
theorem dL_law_28 : decode cL_law 28 = .ok (.aload_n 1, 1) := by decide +kernel
theorem dL_law_29 : decode cL_law 29 = .ok (.invokevirtual 22, 3) := by decide +kernel
theorem dL_law_32 : decode cL_law 32 = .ok (.ifCond .ne 24, 3) := by decide +kernel
theorem dL_law_35 : decode cL_law 35 = .ok (.aload_n 1, 1) := by decide +kernel
theorem dL_law_36 : decode cL_law 36 = .ok (.iconst 0, 1) := by decide +kernel
theorem dL_law_37 : decode cL_law 37 = .ok (.iconst 5, 1) := by decide +kernel
theorem dL_law_38 : decode cL_law 38 = .ok (.invokestatic 97, 3) := by decide +kernel
theorem dL_law_41 : decode cL_law 41 = .ok (.ifCond .ne 15, 3) := by decide +kernel
theorem dL_law_44 : decode cL_law 44 = .ok (.aload_n 1, 1) := by decide +kernel
theorem dL_law_45 : decode cL_law 45 = .ok (.iconst 0, 1) := by decide +kernel
theorem dL_law_46 : decode cL_law 46 = .ok (.iconst 5, 1) := by decide +kernel
theorem dL_law_47 : decode cL_law 47 = .ok (.bipush 12, 2) := by decide +kernel
theorem dL_law_49 : decode cL_law 49 = .ok (.iconst 1, 1) := by decide +kernel
theorem dL_law_50 : decode cL_law 50 = .ok (.invokevirtual 30, 3) := by decide +kernel
theorem dL_law_53 : decode cL_law 53 = .ok (.ifCond .eq 5, 3) := by decide +kernel
theorem dL_law_56 : decode cL_law 56 = .ok (.iconst 0, 1) := by decide +kernel
theorem dL_law_57 : decode cL_law 57 = .ok (.ireturn, 1) := by decide +kernel
theorem dL_law_58 : decode cL_law 58 = .ok (.iconst 0, 1) := by decide +kernel
theorem dL_law_59 : decode cL_law 59 = .ok (.istore_n 2, 1) := by decide +kernel
theorem dL_law_60 : decode cL_law 60 = .ok (.iload_n 2, 1) := by decide +kernel
theorem dL_law_61 : decode cL_law 61 = .ok (.bipush 31, 2) := by decide +kernel
theorem dL_law_63 : decode cL_law 63 = .ok (.if_icmp .ge 87, 3) := by decide +kernel
theorem dL_law_66 : decode cL_law 66 = .ok (.aload_n 1, 1) := by decide +kernel
theorem dL_law_67 : decode cL_law 67 = .ok (.bipush 13, 2) := by decide +kernel
theorem dL_law_69 : decode cL_law 69 = .ok (.iconst 0, 1) := by decide +kernel
theorem dL_law_70 : decode cL_law 70 = .ok (.iconst 0, 1) := by decide +kernel
theorem dL_law_71 : decode cL_law 71 = .ok (.iconst 0, 1) := by decide +kernel
theorem dL_law_72 : decode cL_law 72 = .ok (.iconst 0, 1) := by decide +kernel
theorem dL_law_73 : decode cL_law 73 = .ok (.invokestatic 91, 3) := by decide +kernel
theorem dL_law_76 : decode cL_law 76 = .ok (.iload_n 2, 1) := by decide +kernel
theorem dL_law_77 : decode cL_law 77 = .ok (.bipush 20, 2) := by decide +kernel
theorem dL_law_79 : decode cL_law 79 = .ok (.if_icmp .ge 7, 3) := by decide +kernel
theorem dL_law_82 : decode cL_law 82 = .ok (.iload_n 2, 1) := by decide +kernel
theorem dL_law_83 : decode cL_law 83 = .ok (.goto 5, 3) := by decide +kernel
theorem dL_law_86 : decode cL_law 86 = .ok (.bipush (-73), 2) := by decide +kernel
theorem dL_law_88 : decode cL_law 88 = .ok (.if_icmp .ne 54, 3) := by decide +kernel
theorem dL_law_91 : decode cL_law 91 = .ok (.aload_n 1, 1) := by decide +kernel
theorem dL_law_92 : decode cL_law 92 = .ok (.bipush 15, 2) := by decide +kernel
theorem dL_law_94 : decode cL_law 94 = .ok (.iconst 0, 1) := by decide +kernel
theorem dL_law_95 : decode cL_law 95 = .ok (.iconst 0, 1) := by decide +kernel
theorem dL_law_96 : decode cL_law 96 = .ok (.iconst 0, 1) := by decide +kernel
theorem dL_law_97 : decode cL_law 97 = .ok (.iconst 0, 1) := by decide +kernel
theorem dL_law_98 : decode cL_law 98 = .ok (.invokestatic 91, 3) := by decide +kernel
theorem dL_law_101 : decode cL_law 101 = .ok (.iload_n 2, 1) := by decide +kernel
theorem dL_law_102 : decode cL_law 102 = .ok (.bipush 30, 2) := by decide +kernel
theorem dL_law_104 : decode cL_law 104 = .ok (.if_icmp .ge 7, 3) := by decide +kernel
theorem dL_law_107 : decode cL_law 107 = .ok (.iload_n 2, 1) := by decide +kernel
theorem dL_law_108 : decode cL_law 108 = .ok (.goto 5, 3) := by decide +kernel
theorem dL_law_111 : decode cL_law 111 = .ok (.bipush (-73), 2) := by decide +kernel
theorem dL_law_113 : decode cL_law 113 = .ok (.if_icmp .ne 29, 3) := by decide +kernel
theorem dL_law_116 : decode cL_law 116 = .ok (.iload_n 2, 1) := by decide +kernel
theorem dL_law_117 : decode cL_law 117 = .ok (.bipush 30, 2) := by decide +kernel
theorem dL_law_119 : decode cL_law 119 = .ok (.if_icmp .ge 25, 3) := by decide +kernel
theorem dL_law_122 : decode cL_law 122 = .ok (.aload_n 1, 1) := by decide +kernel
theorem dL_law_123 : decode cL_law 123 = .ok (.iload_n 2, 1) := by decide +kernel
theorem dL_law_124 : decode cL_law 124 = .ok (.invokevirtual 78, 3) := by decide +kernel
theorem dL_law_127 : decode cL_law 127 = .ok (.iload_n 2, 1) := by decide +kernel
theorem dL_law_128 : decode cL_law 128 = .ok (.bipush 20, 2) := by decide +kernel
theorem dL_law_130 : decode cL_law 130 = .ok (.if_icmp .ge 7, 3) := by decide +kernel
theorem dL_law_133 : decode cL_law 133 = .ok (.iload_n 2, 1) := by decide +kernel
theorem dL_law_134 : decode cL_law 134 = .ok (.goto 5, 3) := by decide +kernel
theorem dL_law_137 : decode cL_law 137 = .ok (.bipush 19, 2) := by decide +kernel
theorem dL_law_139 : decode cL_law 139 = .ok (.if_icmp .eq 5, 3) := by decide +kernel
theorem dL_law_142 : decode cL_law 142 = .ok (.iconst 0, 1) := by decide +kernel
theorem dL_law_143 : decode cL_law 143 = .ok (.ireturn, 1) := by decide +kernel
theorem dL_law_144 : decode cL_law 144 = .ok (.iinc 2 1, 3) := by decide +kernel
theorem dL_law_147 : decode cL_law 147 = .ok (.goto (-87), 3) := by decide +kernel
theorem dL_law_150 : decode cL_law 150 = .ok (.iconst 0, 1) := by decide +kernel
theorem dL_law_151 : decode cL_law 151 = .ok (.istore_n 2, 1) := by decide +kernel
theorem dL_law_152 : decode cL_law 152 = .ok (.iload_n 2, 1) := by decide +kernel
theorem dL_law_153 : decode cL_law 153 = .ok (.bipush 30, 2) := by decide +kernel
theorem dL_law_155 : decode cL_law 155 = .ok (.if_icmp .ge 138, 3) := by decide +kernel
theorem dL_law_158 : decode cL_law 158 = .ok (.aload_n 0, 1) := by decide +kernel
theorem dL_law_159 : decode cL_law 159 = .ok (.arraylength, 1) := by decide +kernel
theorem dL_law_160 : decode cL_law 160 = .ok (.ifCond .ne 10, 3) := by decide +kernel
theorem dL_law_163 : decode cL_law 163 = .ok (.bipush 61, 2) := by decide +kernel
theorem dL_law_165 : decode cL_law 165 = .ok (.iload_n 2, 1) := by decide +kernel
theorem dL_law_166 : decode cL_law 166 = .ok (.imul, 1) := by decide +kernel
theorem dL_law_167 : decode cL_law 167 = .ok (.goto 12, 3) := by decide +kernel
theorem dL_law_170 : decode cL_law 170 = .ok (.aload_n 0, 1) := by decide +kernel
theorem dL_law_171 : decode cL_law 171 = .ok (.iload_n 2, 1) := by decide +kernel
theorem dL_law_172 : decode cL_law 172 = .ok (.aload_n 0, 1) := by decide +kernel
theorem dL_law_173 : decode cL_law 173 = .ok (.arraylength, 1) := by decide +kernel
theorem dL_law_174 : decode cL_law 174 = .ok (.irem, 1) := by decide +kernel
theorem dL_law_175 : decode cL_law 175 = .ok (.iaload, 1) := by decide +kernel
theorem dL_law_176 : decode cL_law 176 = .ok (.bipush 8, 2) := by decide +kernel
theorem dL_law_178 : decode cL_law 178 = .ok (.iushr, 1) := by decide +kernel
theorem dL_law_179 : decode cL_law 179 = .ok (.istore_n 3, 1) := by decide +kernel
theorem dL_law_180 : decode cL_law 180 = .ok (.aload_n 1, 1) := by decide +kernel
theorem dL_law_181 : decode cL_law 181 = .ok (.iconst 0, 1) := by decide +kernel
theorem dL_law_182 : decode cL_law 182 = .ok (.iload_n 3, 1) := by decide +kernel
theorem dL_law_183 : decode cL_law 183 = .ok (.bipush 40, 2) := by decide +kernel
theorem dL_law_185 : decode cL_law 185 = .ok (.irem, 1) := by decide +kernel
theorem dL_law_186 : decode cL_law 186 = .ok (.invokevirtual 37, 3) := by decide +kernel
theorem dL_law_189 : decode cL_law 189 = .ok (.istore 4, 2) := by decide +kernel
theorem dL_law_191 : decode cL_law 191 = .ok (.aload_n 1, 1) := by decide +kernel
theorem dL_law_192 : decode cL_law 192 = .ok (.iconst 0, 1) := by decide +kernel
theorem dL_law_193 : decode cL_law 193 = .ok (.iconst 5, 1) := by decide +kernel
theorem dL_law_194 : decode cL_law 194 = .ok (.iload_n 3, 1) := by decide +kernel
theorem dL_law_195 : decode cL_law 195 = .ok (.bipush 40, 2) := by decide +kernel
theorem dL_law_197 : decode cL_law 197 = .ok (.irem, 1) := by decide +kernel
theorem dL_law_198 : decode cL_law 198 = .ok (.iload_n 3, 1) := by decide +kernel
theorem dL_law_199 : decode cL_law 199 = .ok (.bipush 40, 2) := by decide +kernel
theorem dL_law_201 : decode cL_law 201 = .ok (.idiv, 1) := by decide +kernel
theorem dL_law_202 : decode cL_law 202 = .ok (.iconst 4, 1) := by decide +kernel
theorem dL_law_203 : decode cL_law 203 = .ok (.irem, 1) := by decide +kernel
theorem dL_law_204 : decode cL_law 204 = .ok (.iconst 1, 1) := by decide +kernel
theorem dL_law_205 : decode cL_law 205 = .ok (.isub, 1) := by decide +kernel
theorem dL_law_206 : decode cL_law 206 = .ok (.invokevirtual 26, 3) := by decide +kernel
theorem dL_law_209 : decode cL_law 209 = .ok (.iload 4, 2) := by decide +kernel
theorem dL_law_211 : decode cL_law 211 = .ok (.if_icmp .ne 74, 3) := by decide +kernel
theorem dL_law_214 : decode cL_law 214 = .ok (.aload_n 1, 1) := by decide +kernel
theorem dL_law_215 : decode cL_law 215 = .ok (.iconst 0, 1) := by decide +kernel
theorem dL_law_216 : decode cL_law 216 = .ok (.iload_n 3, 1) := by decide +kernel
theorem dL_law_217 : decode cL_law 217 = .ok (.bipush 40, 2) := by decide +kernel
theorem dL_law_219 : decode cL_law 219 = .ok (.irem, 1) := by decide +kernel
theorem dL_law_220 : decode cL_law 220 = .ok (.invokevirtual 37, 3) := by decide +kernel
theorem dL_law_223 : decode cL_law 223 = .ok (.iload_n 3, 1) := by decide +kernel
theorem dL_law_224 : decode cL_law 224 = .ok (.bipush 40, 2) := by decide +kernel
theorem dL_law_226 : decode cL_law 226 = .ok (.idiv, 1) := by decide +kernel
theorem dL_law_227 : decode cL_law 227 = .ok (.iconst 4, 1) := by decide +kernel
theorem dL_law_228 : decode cL_law 228 = .ok (.irem, 1) := by decide +kernel
theorem dL_law_229 : decode cL_law 229 = .ok (.iconst 1, 1) := by decide +kernel
theorem dL_law_230 : decode cL_law 230 = .ok (.isub, 1) := by decide +kernel
theorem dL_law_231 : decode cL_law 231 = .ok (.if_icmp .ne 54, 3) := by decide +kernel
theorem dL_law_234 : decode cL_law 234 = .ok (.aload_n 1, 1) := by decide +kernel
theorem dL_law_235 : decode cL_law 235 = .ok (.iconst 0, 1) := by decide +kernel
theorem dL_law_236 : decode cL_law 236 = .ok (.iload_n 3, 1) := by decide +kernel
theorem dL_law_237 : decode cL_law 237 = .ok (.bipush 25, 2) := by decide +kernel
theorem dL_law_239 : decode cL_law 239 = .ok (.irem, 1) := by decide +kernel
theorem dL_law_240 : decode cL_law 240 = .ok (.invokevirtual 52, 3) := by decide +kernel
theorem dL_law_243 : decode cL_law 243 = .ok (.iconst 1, 1) := by decide +kernel
theorem dL_law_244 : decode cL_law 244 = .ok (.if_icmp .lt 41, 3) := by decide +kernel
theorem dL_law_247 : decode cL_law 247 = .ok (.aload_n 1, 1) := by decide +kernel
theorem dL_law_248 : decode cL_law 248 = .ok (.iconst 0, 1) := by decide +kernel
theorem dL_law_249 : decode cL_law 249 = .ok (.iload_n 3, 1) := by decide +kernel
theorem dL_law_250 : decode cL_law 250 = .ok (.bipush 25, 2) := by decide +kernel
theorem dL_law_252 : decode cL_law 252 = .ok (.irem, 1) := by decide +kernel
theorem dL_law_253 : decode cL_law 253 = .ok (.invokevirtual 52, 3) := by decide +kernel
theorem dL_law_256 : decode cL_law 256 = .ok (.bipush 26, 2) := by decide +kernel
theorem dL_law_258 : decode cL_law 258 = .ok (.aload_n 1, 1) := by decide +kernel
theorem dL_law_259 : decode cL_law 259 = .ok (.iconst 0, 1) := by decide +kernel
theorem dL_law_260 : decode cL_law 260 = .ok (.invokevirtual 45, 3) := by decide +kernel
theorem dL_law_263 : decode cL_law 263 = .ok (.isub, 1) := by decide +kernel
theorem dL_law_264 : decode cL_law 264 = .ok (.if_icmp .gt 21, 3) := by decide +kernel
theorem dL_law_267 : decode cL_law 267 = .ok (.iload_n 2, 1) := by decide +kernel
theorem dL_law_268 : decode cL_law 268 = .ok (.bipush 8, 2) := by decide +kernel
theorem dL_law_270 : decode cL_law 270 = .ok (.irem, 1) := by decide +kernel
theorem dL_law_271 : decode cL_law 271 = .ok (.ifCond .ne 16, 3) := by decide +kernel
theorem dL_law_274 : decode cL_law 274 = .ok (.aload_n 1, 1) := by decide +kernel
theorem dL_law_275 : decode cL_law 275 = .ok (.bipush 20, 2) := by decide +kernel
theorem dL_law_277 : decode cL_law 277 = .ok (.bipush 30, 2) := by decide +kernel
theorem dL_law_279 : decode cL_law 279 = .ok (.invokestatic 103, 3) := by decide +kernel
theorem dL_law_282 : decode cL_law 282 = .ok (.ifCond .ne 5, 3) := by decide +kernel
theorem dL_law_285 : decode cL_law 285 = .ok (.iconst 0, 1) := by decide +kernel
theorem dL_law_286 : decode cL_law 286 = .ok (.ireturn, 1) := by decide +kernel
theorem dL_law_287 : decode cL_law 287 = .ok (.iinc 2 1, 3) := by decide +kernel
theorem dL_law_290 : decode cL_law 290 = .ok (.goto (-138), 3) := by decide +kernel
theorem dL_law_293 : decode cL_law 293 = .ok (.aload_n 1, 1) := by decide +kernel
theorem dL_law_294 : decode cL_law 294 = .ok (.iconst 0, 1) := by decide +kernel
theorem dL_law_295 : decode cL_law 295 = .ok (.bipush 12, 2) := by decide +kernel
theorem dL_law_297 : decode cL_law 297 = .ok (.invokevirtual 55, 3) := by decide +kernel
theorem dL_law_300 : decode cL_law 300 = .ok (.ifCond .ne 7, 3) := by decide +kernel
theorem dL_law_303 : decode cL_law 303 = .ok (.iconst 1, 1) := by decide +kernel
theorem dL_law_304 : decode cL_law 304 = .ok (.goto 4, 3) := by decide +kernel
theorem dL_law_307 : decode cL_law 307 = .ok (.iconst 0, 1) := by decide +kernel
theorem dL_law_308 : decode cL_law 308 = .ok (.ireturn, 1) := by decide +kernel
end
section
/-! ===== an abstract machine over the kit's rows: objects are roles (numbers), their contents are functions ===== -/
def am_TG : List Cond := lw_tbl.filter goodWord
theorem am_good : ∀ w ∈ am_TG, goodWord w = true := fun w h => (List.mem_filter.mp h).2
theorem am_inTG {w : Cond} (h : w ∈ lw_tbl) (g : goodWord w = true) : w ∈ am_TG := List.mem_filter.mpr ⟨h, g⟩
def am_isB : Cond → Bool
  | .methodLinkNest .. | .fieldLinkNest .. | .castable .. | .declares .. | .arrayOver (.object _) => true
  | _ => false
def am_bw : List Cond := lw_tbl.filter am_isB
theorem am_inB {w : Cond} (h : w ∈ lw_tbl) (g : am_isB w = true) : w ∈ am_bw := List.mem_filter.mpr ⟨h, g⟩
/-- kinds, lengths, ints, references, longs, by role and place -/
abbrev am_H : Type := (Nat → Nat) × (Nat → Nat) × (Nat → Nat → Int32) × (Nat → Nat → Nat) × (Nat → Nat → Int64)
def hk_ (h : am_H) (r : Nat) : Nat := h.1 r
def hn_ (h : am_H) (r : Nat) : Nat := h.2.1 r
def hi_ (h : am_H) (r k : Nat) : Int32 := h.2.2.1 r k
def hr_ (h : am_H) (r k : Nat) : Nat := h.2.2.2.1 r k
def hl_ (h : am_H) (r k : Nat) : Int64 := h.2.2.2.2 r k
def am_u2 {α : Type} (f : Nat → Nat → α) (r k : Nat) (x : α) : Nat → Nat → α := fun a b => if a = r ∧ b = k then x else f a b
def am_u1 {α : Type} (f : Nat → α) (r : Nat) (x : α) : Nat → α := fun a => if a = r then x else f a
def am_sI (h : am_H) (r k : Nat) (x : Int32) : am_H := (h.1, h.2.1, am_u2 h.2.2.1 r k x, h.2.2.2.1, h.2.2.2.2)
def am_sR (h : am_H) (r k : Nat) (x : Nat) : am_H := (h.1, h.2.1, h.2.2.1, am_u2 h.2.2.2.1 r k x, h.2.2.2.2)
def am_sL (h : am_H) (r k : Nat) (x : Int64) : am_H := (h.1, h.2.1, h.2.2.1, h.2.2.2.1, am_u2 h.2.2.2.2 r k x)
/-- a fresh thing of kind k and length n, all its places 0 and null -/
def am_new (h : am_H) (r k n : Nat) : am_H := (am_u1 h.1 r k, am_u1 h.2.1 r n, am_u1 h.2.2.1 r (fun _ => 0), am_u1 h.2.2.2.1 r (fun _ => 0), am_u1 h.2.2.2.2 r (fun _ => 0))
theorem hk_sI (h : am_H) (r k : Nat) (x : Int32) (a : Nat) : hk_ (am_sI h r k x) a = hk_ h a := rfl
theorem hk_sR (h : am_H) (r k : Nat) (x : Nat) (a : Nat) : hk_ (am_sR h r k x) a = hk_ h a := rfl
theorem hk_sL (h : am_H) (r k : Nat) (x : Int64) (a : Nat) : hk_ (am_sL h r k x) a = hk_ h a := rfl
theorem hn_sI (h : am_H) (r k : Nat) (x : Int32) (a : Nat) : hn_ (am_sI h r k x) a = hn_ h a := rfl
theorem hn_sR (h : am_H) (r k : Nat) (x : Nat) (a : Nat) : hn_ (am_sR h r k x) a = hn_ h a := rfl
theorem hn_sL (h : am_H) (r k : Nat) (x : Int64) (a : Nat) : hn_ (am_sL h r k x) a = hn_ h a := rfl
theorem hi_sI (h : am_H) (r k : Nat) (x : Int32) (a b : Nat) : hi_ (am_sI h r k x) a b = if a = r ∧ b = k then x else hi_ h a b := rfl
theorem hi_sR (h : am_H) (r k : Nat) (x : Nat) (a b : Nat) : hi_ (am_sR h r k x) a b = hi_ h a b := rfl
theorem hi_sL (h : am_H) (r k : Nat) (x : Int64) (a b : Nat) : hi_ (am_sL h r k x) a b = hi_ h a b := rfl
theorem hr_sI (h : am_H) (r k : Nat) (x : Int32) (a b : Nat) : hr_ (am_sI h r k x) a b = hr_ h a b := rfl
theorem hr_sR (h : am_H) (r k : Nat) (x : Nat) (a b : Nat) : hr_ (am_sR h r k x) a b = if a = r ∧ b = k then x else hr_ h a b := rfl
theorem hr_sL (h : am_H) (r k : Nat) (x : Int64) (a b : Nat) : hr_ (am_sL h r k x) a b = hr_ h a b := rfl
theorem hl_sI (h : am_H) (r k : Nat) (x : Int32) (a b : Nat) : hl_ (am_sI h r k x) a b = hl_ h a b := rfl
theorem hl_sR (h : am_H) (r k : Nat) (x : Nat) (a b : Nat) : hl_ (am_sR h r k x) a b = hl_ h a b := rfl
theorem hl_sL (h : am_H) (r k : Nat) (x : Int64) (a b : Nat) : hl_ (am_sL h r k x) a b = if a = r ∧ b = k then x else hl_ h a b := rfl
theorem hk_new (h : am_H) (r k n a : Nat) : hk_ (am_new h r k n) a = if a = r then k else hk_ h a := rfl
theorem hn_new (h : am_H) (r k n a : Nat) : hn_ (am_new h r k n) a = if a = r then n else hn_ h a := rfl
theorem hi_new (h : am_H) (r k n a b : Nat) : hi_ (am_new h r k n) a b = if a = r then 0 else hi_ h a b := by
  show am_u1 h.2.2.1 r (fun _ => 0) a b = _
  unfold am_u1
  split <;> rfl
theorem hr_new (h : am_H) (r k n a b : Nat) : hr_ (am_new h r k n) a b = if a = r then 0 else hr_ h a b := by
  show am_u1 h.2.2.2.1 r (fun _ => 0) a b = _
  unfold am_u1
  split <;> rfl
theorem hl_new (h : am_H) (r k n a b : Nat) : hl_ (am_new h r k n) a b = if a = r then 0 else hl_ h a b := by
  show am_u1 h.2.2.2.2 r (fun _ => 0) a b = _
  unfold am_u1
  split <;> rfl
/-- an abstract value's concrete one: references are roles, 0 is null -/
def am_rv (ad : Nat → Nat) (r : Nat) : Value := if r = 0 then .null else .ref (ad r)
def am_cv (ad : Nat → Nat) : Value → Value
  | .ref r => am_rv ad r
  | v => v
def am_V (h : am_H) : Value → Prop
  | .ref r => r = 0 ∨ hk_ h r ≠ 0
  | _ => True
def am_Vs (h : am_H) (vs : List Value) : Prop := ∀ v ∈ vs, am_V h v
theorem am_Vc {h : am_H} {v : Value} {vs : List Value} (a : am_V h v) (b : am_Vs h vs) : am_Vs h (v :: vs) := fun w hw => (List.mem_cons.mp hw).elim (fun e => by rw [e]; exact a) (b w)
theorem am_Vh {h : am_H} {v : Value} {vs : List Value} (b : am_Vs h (v :: vs)) : am_V h v := b v List.mem_cons_self
theorem am_Vt {h : am_H} {v : Value} {vs : List Value} (b : am_Vs h (v :: vs)) : am_Vs h vs := fun w hw => b w (List.mem_cons_of_mem _ hw)
def am_s1 : Value → Bool
  | .int _ | .ref _ => true
  | _ => false
def am_ll (ad : Nat → Nat) : Nat → List Value → List (Nat × Value)
  | _, [] => []
  | i, v :: vs => if am_s1 v then (i, am_cv ad v) :: am_ll ad (i + 1) vs else am_ll ad (i + 1) vs
theorem am_ll_mem (ad : Nat → Nat) : ∀ (vs : List Value) (i : Nat) (q : Nat × Value), q ∈ am_ll ad i vs ↔ ∃ (k : Nat) (v : Value), vs[k]? = some v ∧ am_s1 v = true ∧ q = (i + k, am_cv ad v)
  | [], i, q => by simp [am_ll]
  | v :: vs, i, q => by
    have ih := am_ll_mem ad vs (i + 1) q
    unfold am_ll
    constructor
    · intro h
      by_cases hv : am_s1 v = true
      · rw [if_pos hv] at h
        rcases List.mem_cons.mp h with h | h
        · exact ⟨0, v, rfl, hv, h⟩
        · obtain ⟨k, w, h1, h2, h3⟩ := ih.mp h
          exact ⟨k + 1, w, by simpa using h1, h2, by rw [h3]; congr 1; omega⟩
      · rw [if_neg hv] at h
        obtain ⟨k, w, h1, h2, h3⟩ := ih.mp h
        exact ⟨k + 1, w, by simpa using h1, h2, by rw [h3]; congr 1; omega⟩
    · rintro ⟨k, w, h1, h2, h3⟩
      cases k with
      | zero =>
        simp at h1
        subst h1
        rw [if_pos h2, h3]
        exact List.mem_cons_self
      | succ k =>
        have : q ∈ am_ll ad (i + 1) vs := ih.mpr ⟨k, w, by simpa using h1, h2, by rw [h3]; congr 1; omega⟩
        split
        · exact List.mem_cons_of_mem _ this
        · exact this
def am_L (ad : Nat → Nat) (n : Nat) (ls : List Value) (lc : Array Slot) : Prop := lv_has lc n (am_ll ad 0 ls)
theorem am_L_at {ad : Nat → Nat} {n : Nat} {ls : List Value} {lc : Array Slot} (h : am_L ad n ls lc) {i : Nat} {v : Value} (hv : ls[i]? = some v) (h1 : am_s1 v = true) : lc[i]? = some (.val (am_cv ad v)) :=
  h.2.2 (i, am_cv ad v) ((am_ll_mem ad ls 0 _).mpr ⟨i, v, hv, h1, by rw [Nat.zero_add]⟩)
theorem am_cat (ad : Nat → Nat) {v : Value} (h : am_s1 v = true) : (am_cv ad v).category = 1 := by
  cases v with
  | int x => rfl
  | ref r =>
    show (am_rv ad r).category = 1
    unfold am_rv
    split <;> rfl
  | _ => cases h
theorem am_L_to {ad : Nat → Nat} {n : Nat} {ls : List Value} {lc : Array Slot} {l : List (Nat × Value)} (h : lv_has lc n l) (hs : ∀ (i : Nat) (v : Value), ls[i]? = some v → am_s1 v = true → (i, am_cv ad v) ∈ l) : am_L ad n ls lc := by
  refine ⟨h.1, h.2.1, fun q hq => ?_⟩
  obtain ⟨k, v, h1, h2, h3⟩ := (am_ll_mem ad ls 0 q).mp hq
  rw [h3, Nat.zero_add]
  exact h.2.2 _ (hs k v h1 h2)
theorem am_L_set {ad : Nat → Nat} {n : Nat} {ls : List Value} {lc' : Array Slot} {i : Nat} {v : Value} (h' : lv_has lc' n ((i, am_cv ad v) :: (am_ll ad 0 ls).filter (fun q => !(q.1 == i) && !(q.1 + 1 == i && q.2.category == 2)))) : am_L ad n (ls.set i v) lc' := by
  refine am_L_to h' (fun j w hw h1 => ?_)
  by_cases hj : i = j
  · subst hj
    rw [List.getElem?_set] at hw
    simp only [if_true] at hw
    split at hw
    · cases hw
      exact List.mem_cons_self
    · cases hw
  · rw [List.getElem?_set_ne hj] at hw
    refine List.mem_cons_of_mem _ (List.mem_filter.mpr ⟨(am_ll_mem ad ls 0 _).mpr ⟨j, w, hw, h1, by rw [Nat.zero_add]⟩, ?_⟩)
    have hc := am_cat ad h1
    have h2 : (j == i) = false := by simpa using Ne.symm hj
    simp [h2, hc]
theorem am_Vset {h : am_H} {ls : List Value} {i : Nat} {v : Value} (hl : am_Vs h ls) (hv : am_V h v) : am_Vs h (ls.set i v) := by
  intro w hw
  rcases List.mem_or_eq_of_mem_set hw with h1 | h1
  · exact hl w h1
  · rw [h1]; exact hv
/-- addresses change, where the roles that occur don't -/
theorem am_cv_eq {h : am_H} {ad ad' : Nat → Nat} (he : ∀ r, hk_ h r ≠ 0 → ad' r = ad r) {v : Value} (hv : am_V h v) : am_cv ad' v = am_cv ad v := by
  cases v with
  | ref r =>
    show am_rv ad' r = am_rv ad r
    unfold am_rv
    rcases hv with hv | hv
    · rw [if_pos hv, if_pos hv]
    · rw [he r hv]
  | _ => rfl
theorem am_L_ad {h : am_H} {ad ad' : Nat → Nat} (he : ∀ r, hk_ h r ≠ 0 → ad' r = ad r) {n : Nat} {ls : List Value} {lc : Array Slot} (hL : am_L ad n ls lc) (hv : am_Vs h ls) : am_L ad' n ls lc := by
  refine am_L_to hL (fun i v h1 h2 => ?_)
  rw [am_cv_eq he (hv v (List.mem_of_getElem? h1))]
  exact (am_ll_mem ad ls 0 _).mpr ⟨i, v, h1, h2, by rw [Nat.zero_add]⟩
theorem am_map_ad {h : am_H} {ad ad' : Nat → Nat} (he : ∀ r, hk_ h r ≠ 0 → ad' r = ad r) : ∀ {vs : List Value}, am_Vs h vs → vs.map (am_cv ad') = vs.map (am_cv ad)
  | [], _ => rfl
  | v :: vs, hv => by
    rw [List.map_cons, List.map_cons, am_cv_eq he (am_Vh hv), am_map_ad he (am_Vt hv)]
theorem am_V_le {h h' : am_H} (hle : ∀ r, hk_ h r ≠ 0 → hk_ h' r = hk_ h r) {v : Value} (hv : am_V h v) : am_V h' v := by
  cases v with
  | ref r =>
    rcases hv with hv | hv
    · exact Or.inl hv
    · exact Or.inr (by rw [hle r hv]; exact hv)
  | _ => trivial
theorem am_Vs_le {h h' : am_H} (hle : ∀ r, hk_ h r ≠ 0 → hk_ h' r = hk_ h r) {vs : List Value} (hv : am_Vs h vs) : am_Vs h' vs := fun v hm => am_V_le hle (hv v hm)
/-! classes -/
abbrev am_cl : List vw_C := [(RJx4a65c, TJx4a65c, 3), (RX0, TX0, 5), (RX1, TX1, 4), (RX2, TX2, 2), (RX3, TX3, 3), (RX4, TX4, 2), (RX5, TX5, 4)]
/-- is a class's field an int: kinds 1 to 8 are the classes of am_cl -/
def am_fi (k j : Nat) : Bool := match k with
  | 1 => !(j == 1)
  | 2 => decide (3 ≤ j)
  | 5 => j == 2
  | 8 => j == 0 || j == 10 || j == 14 || j == 19
  | 9 => true
  | 10 => true
  | _ => false
def am_ty (ci : Nat) : Nat → FieldType := match ci with
  | 0 => tyJx4a65c
  | 1 => tyX0
  | 2 => tyX1
  | 3 => tyX2
  | 4 => tyX3
  | 5 => tyX4
  | _ => tyX5
/-- what lies at a place -/
def am_F (h : am_H) (ad : Nat → Nat) (r j : Nat) : Value := if hk_ h r = 13 then .long (hl_ h r j) else if am_fi (hk_ h r) j = true then .int (hi_ h r j) else am_rv ad (hr_ h r j)
/-- where what lies: the classes' numbers and slots, the array classes, the line below which nothing changes, the empty table, the class object -/
abbrev am_G : Type := va_G × (Nat → ClassId) × Nat × Nat × Nat
def am_atk (G : am_G) (k n : Nat) (F : Nat → Value) (a : Addr) (H : Heap) : Prop :=
  (k = 14 ∨ k = 15) ∨ (9 ≤ k ∧ k ≤ 13 ∧ H[a]? = some (arrV (G.2.1 (k - 9)) n F)) ∨ (k ≤ 8 ∧ ∃ q : vw_C, am_cl[k - 1]? = some q ∧ t_OB a (G.1.1 (k - 1)) q.2.2 (G.1.2 (k - 1)) H F)
theorem am_atk_kept {G : am_G} {k n : Nat} {F : Nat → Value} {a : Addr} {H H' : Heap} (h : am_atk G k n F a H) (oq : H'[a]? = H[a]?) : am_atk G k n F a H' := by
  rcases h with h | ⟨h1, h2, h3⟩ | ⟨h1, q, h2, h3⟩
  · exact Or.inl h
  · exact Or.inr (Or.inl ⟨h1, h2, oq.trans h3⟩)
  · exact Or.inr (Or.inr ⟨h1, q, h2, h3.kept oq⟩)
def am_at (G : am_G) (h : am_H) (ad : Nat → Nat) (r : Nat) (H : Heap) : Prop := am_atk G (hk_ h r) (hn_ h r) (am_F h ad r) (ad r) H
def am_A (G : am_G) (h : am_H) (ad : Nat → Nat) (H : Heap) : Prop :=
  (hk_ h 0 = 0 ∧ hk_ h 1 = 14 ∧ hk_ h 2 = 15 ∧ hn_ h 1 = 0 ∧ ad 1 = G.2.2.2.1 ∧ ad 2 = G.2.2.2.2) ∧
  (∀ r, hk_ h r ≠ 0 → am_at G h ad r H) ∧
  (∀ r, hk_ h r ≠ 0 → r = 1 ∨ r = 2 ∨ (G.2.2.1 ≤ ad r ∧ ad r < H.size ∧ hk_ h r < 14) ∨ (hk_ h r = 14 ∧ ad r < G.2.2.1)) ∧
  (∀ r q, hk_ h r ≠ 0 → hk_ h q ≠ 0 → r ≠ 2 → q ≠ 2 → ad r = ad q → r = q) ∧
  (∀ r k, hk_ h r ≠ 0 → hr_ h r k = 0 ∨ hk_ h (hr_ h r k) ≠ 0)
def am_le (h h' : am_H) : Prop := ∀ r, hk_ h r ≠ 0 → hk_ h' r = hk_ h r ∧ hn_ h' r = hn_ h r
def am_X (h : am_H) (ad : Nat → Nat) (h' : am_H) (ad' : Nat → Nat) : Prop := am_le h h' ∧ ∀ r, hk_ h r ≠ 0 → ad' r = ad r
theorem am_le_rf (h : am_H) : am_le h h := fun _ _ => ⟨rfl, rfl⟩
theorem am_le_tr {a b c : am_H} (h1 : am_le a b) (h2 : am_le b c) : am_le a c := fun r hr => by
  obtain ⟨e1, e2⟩ := h1 r hr
  obtain ⟨e3, e4⟩ := h2 r (by rw [e1]; exact hr)
  exact ⟨e3.trans e1, e4.trans e2⟩
theorem am_X_tr {a b c : am_H} {x y z : Nat → Nat} (h1 : am_X a x b y) (h2 : am_X b y c z) : am_X a x c z := ⟨am_le_tr h1.1 h2.1, fun r hr => (h2.2 r (by rw [(h1.1 r hr).1]; exact hr)).trans (h1.2 r hr)⟩
theorem am_X_rf (a : am_H) (x : Nat → Nat) : am_X a x a x := ⟨am_le_rf a, fun _ _ => rfl⟩
/-- the array classes -/
abbrev am_tys (G : am_G) : List (ClassId × FieldType) := [(G.2.1 0, .int), (G.2.1 1, .boolean), (G.2.1 2, .object "HousePlans$Drawing"), (G.2.1 3, .object "java/lang/Object")]
def am_nc : List (String × String) := [("java/lang/IllegalArgumentException", "java/lang/IndexOutOfBoundsException"), ("java/lang/IllegalStateException", "java/lang/IndexOutOfBoundsException"), ("java/lang/IllegalStateException", "java/lang/IllegalArgumentException")]
abbrev am_lo (G : am_G) : Nat → Prop := fun q => G.2.2.1 ≤ q
/-- what stands around every method: the tables' words that aren't in its own list, the classes, the statics -/
def am_E (G : am_G) (s : State) : Prop :=
  (∀ w ∈ am_bw, va_Nw w s) ∧ ((∀ q : String × Nat × String, Cond.stringRef q.1 q.2.1 q.2.2 ∈ lw_tbl → ∃ a, vk_R q.1 q.2.1 q.2.2 a s) ∧ ∀ q ∈ am_nc, va_Nc q.1 q.2 s) ∧ va_K G.1 am_cl (am_tys G) s ∧
  vx_Zq Bundle.tN "UNASSIGNED_STACK" Bundle.steD (am_lo G) s s.heap ∧ vx_Zq Bundle.tN "SUPPRESSED_SENTINEL" Bundle.listD (am_lo G) s s.heap ∧
  va_Z "java/util/ArrayList" "DEFAULTCAPACITY_EMPTY_ELEMENTDATA" "[Ljava/lang/Object;" (.ref G.2.2.2.1) (am_lo G) s s.heap ∧ (∃ f, va_T (.object "java/lang/Object") G.2.2.2.1 0 f (am_lo G) s s.heap) ∧ va_Mi "[Ljava/lang/Object;" G.2.2.2.2 s ∧ G.2.2.1 ≤ s.heap.size
theorem am_bw_warm {w : Cond} (hw : w ∈ am_bw) {s U : State} (hW : s.WarmedH U.vm) (h : va_Nw w s) : va_Nw w U := by
  have hb := (List.mem_filter.mp hw).2
  cases w with
  | methodLinkNest a i x h' => exact va_Nw.warmM hW h
  | fieldLinkNest a i b n d h' => exact va_Nw.warmF hW h
  | castable a b => exact va_Nw.warmC hW h
  | declares x => exact va_tabs rfl (rfl : (s.setVm U.vm).vm = U.vm) (by rw [Cond.declares_setVm hW.alike]; exact h)
  | arrayOver t => cases t with
    | object C => exact va_AO.moved hW.alike h
    | _ => cases hb
  | _ => cases hb
theorem am_E_moved {G : am_G} {s U : State} (hW : s.WarmedH U.vm) (hz : s.heap.size ≤ U.heap.size) (hq : ∀ a : Nat, a < s.heap.size → ¬ am_lo G a → U.heap[a]? = s.heap[a]?) (h : am_E G s) : am_E G U := by
  obtain ⟨h1, ⟨h2, h2'⟩, h3, h4, h5, h6, ⟨f, h7⟩, h8, h9⟩ := h
  exact ⟨fun w hw => am_bw_warm hw hW (h1 w hw), ⟨fun q hq => by
    obtain ⟨a, ha⟩ := h2 q hq
    exact ⟨a, vk_R.warm hW ha⟩, fun q hq => va_Nc.moved hW.alike (h2' q hq)⟩, va_K.moved hW.alike h3, (vx_Zq.moved hW.alike h4).kept hq, (vx_Zq.moved hW.alike h5).kept hq, (va_Z.moved hW.alike h6).kept hq, ⟨f, (va_T.moved hW.alike h7).kept hq⟩, va_Mi.moved hW.alike h8, Nat.le_trans h9 hz⟩
abbrev am_Z : Type := am_G × Program × Launch × Env × Room × State × MethodId × Array Value × List Frame × Method × Code × am_H × (Nat → Nat) × Nat × (State → Prop)
/-- the machine, at pc with these locals and this stack over this heap, comes to its end -/
def am_W (Z : am_Z) (kc ks pc : Nat) (ls st : List Value) (h : am_H) : Prop := match Z with
  | (G, p, l, e, R, s, m, args, below, meth, c, h0, ad0, n, Q) => ∀ (ad : Nat → Nat) (H : Heap) (locs : List Loc) (lc : Array Slot), am_A G h ad H → va_S (am_lo G) s.heap H locs → am_X h0 ad0 h ad → am_L ad n ls lc → am_Vs h ls → am_Vs h st →
    W p l e R s m args below meth c H locs kc ks Q (F0 m pc lc (st.map (am_cv ad)))
/-- an exception of class E flies at pc -/
def am_WX (Z : am_Z) (kc ks pc : Nat) (ls st : List Value) (h : am_H) (E : String) : Prop := match Z with
  | (G, p, l, e, R, s, m, args, below, meth, c, h0, ad0, n, Q) => ∀ (ad : Nat → Nat) (H : Heap) (locs : List Loc) (lc : Array Slot) (q : Addr) (ce : Cell), am_A G h ad H → va_S (am_lo G) s.heap H locs → am_X h0 ad0 h ad → am_L ad n ls lc → am_Vs h ls → am_Vs h st →
    H[q]? = some ce → ce.vm = .none → s.vm.findClass E = some ce.cls → vx_W p l e R s m args below meth c H locs kc ks Q (F0 m pc lc (st.map (am_cv ad))) q
def am_OK (Z : am_Z) (own : String) (cc : ByteArray) (n L mc ms : Nat) : Prop := match Z with
  | (G, p, l, _, R, s, m, args, _, meth, c, _, _, n', _) => n' = n ∧ CallFix p m c cc n s args am_TG own ∧ meth.locks = false ∧ am_E G s ∧ l.stackTraces = false ∧ L ≤ R.frames ∧ 100 * L ≤ R.locals ∧ mc ≤ R.cells ∧ ms ≤ R.slots
end
section
theorem am_iconst {Z : am_Z} {own : String} {cc : ByteArray} {n L mc ms : Nat} (hC : am_OK Z own cc n L mc ms) {kc ks pc : Nat} {ls st : List Value} {h : am_H} {a : Int} {v : Int32} (hd : decode cc pc = .ok (.iconst a, 1)) (hv : Int32.ofInt a = v) (k : am_W Z kc ks (pc + 1) ls (.int v :: st) h) : am_W Z kc ks pc ls st h := by
  obtain ⟨G, p, l, e, R, s, m, args, below, meth, c, h0, ad0, n', Q⟩ := Z
  obtain ⟨rfl, ⟨hx, hb, hml, hown, hts⟩, hlk, hE, htr, hR1, hR2, hR3, hR4⟩ := hC
  refine fun ad H locs lc hA hS hX hl hvl hvs => ?_
  exact lv_iconst hx hb hd hv (k ad H locs lc hA hS hX hl hvl (am_Vc trivial hvs))
theorem am_bipush {Z : am_Z} {own : String} {cc : ByteArray} {n L mc ms : Nat} (hC : am_OK Z own cc n L mc ms) {kc ks pc : Nat} {ls st : List Value} {h : am_H} {a : Int} {v : Int32} (hd : decode cc pc = .ok (.bipush a, 2)) (hv : (Int8.ofInt a).toInt32 = v) (k : am_W Z kc ks (pc + 2) ls (.int v :: st) h) : am_W Z kc ks pc ls st h := by
  obtain ⟨G, p, l, e, R, s, m, args, below, meth, c, h0, ad0, n', Q⟩ := Z
  obtain ⟨rfl, ⟨hx, hb, hml, hown, hts⟩, hlk, hE, htr, hR1, hR2, hR3, hR4⟩ := hC
  refine fun ad H locs lc hA hS hX hl hvl hvs => ?_
  exact lv_bipush hx hb hd hv (k ad H locs lc hA hS hX hl hvl (am_Vc trivial hvs))
theorem am_sipush {Z : am_Z} {own : String} {cc : ByteArray} {n L mc ms : Nat} (hC : am_OK Z own cc n L mc ms) {kc ks pc : Nat} {ls st : List Value} {h : am_H} {a : Int} {v : Int32} (hd : decode cc pc = .ok (.sipush a, 3)) (hv : (Int16.ofInt a).toInt32 = v) (k : am_W Z kc ks (pc + 3) ls (.int v :: st) h) : am_W Z kc ks pc ls st h := by
  obtain ⟨G, p, l, e, R, s, m, args, below, meth, c, h0, ad0, n', Q⟩ := Z
  obtain ⟨rfl, ⟨hx, hb, hml, hown, hts⟩, hlk, hE, htr, hR1, hR2, hR3, hR4⟩ := hC
  refine fun ad H locs lc hA hS hX hl hvl hvs => ?_
  exact lv_sipush hx hb hd hv (k ad H locs lc hA hS hX hl hvl (am_Vc trivial hvs))
theorem am_lconst {Z : am_Z} {own : String} {cc : ByteArray} {n L mc ms : Nat} (hC : am_OK Z own cc n L mc ms) {kc ks pc : Nat} {ls st : List Value} {h : am_H} {a : Fin 2} {v : Int64} (hd : decode cc pc = .ok (.lconst a, 1)) (hv : Int64.ofNat (a : Nat) = v) (k : am_W Z kc ks (pc + 1) ls (.long v :: st) h) : am_W Z kc ks pc ls st h := by
  obtain ⟨G, p, l, e, R, s, m, args, below, meth, c, h0, ad0, n', Q⟩ := Z
  obtain ⟨rfl, ⟨hx, hb, hml, hown, hts⟩, hlk, hE, htr, hR1, hR2, hR3, hR4⟩ := hC
  refine fun ad H locs lc hA hS hX hl hvl hvs => ?_
  exact lv_lconst hx hb hd hv (k ad H locs lc hA hS hX hl hvl (am_Vc trivial hvs))
theorem am_anull {Z : am_Z} {own : String} {cc : ByteArray} {n L mc ms : Nat} (hC : am_OK Z own cc n L mc ms) {kc ks pc : Nat} {ls st : List Value} {h : am_H} (hd : decode cc pc = .ok (.aconst_null, 1)) (k : am_W Z kc ks (pc + 1) ls (.ref 0 :: st) h) : am_W Z kc ks pc ls st h := by
  obtain ⟨G, p, l, e, R, s, m, args, below, meth, c, h0, ad0, n', Q⟩ := Z
  obtain ⟨rfl, ⟨hx, hb, hml, hown, hts⟩, hlk, hE, htr, hR1, hR2, hR3, hR4⟩ := hC
  refine fun ad H locs lc hA hS hX hl hvl hvs => ?_
  exact lv_null hx hb hd (k ad H locs lc hA hS hX hl hvl (am_Vc (Or.inl rfl) hvs))
theorem am_ldcI {Z : am_Z} {own : String} {cc : ByteArray} {n L mc ms : Nat} (hC : am_OK Z own cc n L mc ms) {kc ks pc : Nat} {ls st : List Value} {h : am_H} {ix : Nat} {v : Int32} (hw : Cond.constant own ix v ∈ am_TG) (hd : decode cc pc = .ok (.ldc ix, 2)) (k : am_W Z kc ks (pc + 2) ls (.int v :: st) h) : am_W Z kc ks pc ls st h := by
  obtain ⟨G, p, l, e, R, s, m, args, below, meth, c, h0, ad0, n', Q⟩ := Z
  obtain ⟨rfl, ⟨hx, hb, hml, hown, hts⟩, hlk, hE, htr, hR1, hR2, hR3, hR4⟩ := hC
  refine fun ad H locs lc hA hS hX hl hvl hvs => ?_
  exact lv_ldc hx hb hown (hts _ hw) hd (k ad H locs lc hA hS hX hl hvl (am_Vc trivial hvs))
theorem am_iload {Z : am_Z} {own : String} {cc : ByteArray} {n L mc ms : Nat} (hC : am_OK Z own cc n L mc ms) {kc ks pc : Nat} {ls st : List Value} {h : am_H} {i : Nat} {x : Int32} (hd : decode cc pc = .ok (.iload i, 2)) (hv : ls[i]? = some (.int x)) (k : am_W Z kc ks (pc + 2) ls (.int x :: st) h) : am_W Z kc ks pc ls st h := by
  obtain ⟨G, p, l, e, R, s, m, args, below, meth, c, h0, ad0, n', Q⟩ := Z
  obtain ⟨rfl, ⟨hx, hb, hml, hown, hts⟩, hlk, hE, htr, hR1, hR2, hR3, hR4⟩ := hC
  refine fun ad H locs lc hA hS hX hl hvl hvs => ?_
  exact lv_iload hx hb hd (am_L_at hl hv rfl) (k ad H locs lc hA hS hX hl hvl (am_Vc trivial hvs))
theorem am_iload_n {Z : am_Z} {own : String} {cc : ByteArray} {n L mc ms : Nat} (hC : am_OK Z own cc n L mc ms) {kc ks pc : Nat} {ls st : List Value} {h : am_H} {i : Fin 4} {x : Int32} (hd : decode cc pc = .ok (.iload_n i, 1)) (hv : ls[(i : Nat)]? = some (.int x)) (k : am_W Z kc ks (pc + 1) ls (.int x :: st) h) : am_W Z kc ks pc ls st h := by
  obtain ⟨G, p, l, e, R, s, m, args, below, meth, c, h0, ad0, n', Q⟩ := Z
  obtain ⟨rfl, ⟨hx, hb, hml, hown, hts⟩, hlk, hE, htr, hR1, hR2, hR3, hR4⟩ := hC
  refine fun ad H locs lc hA hS hX hl hvl hvs => ?_
  exact lv_iload_n hx hb hd rfl (am_L_at hl hv rfl) (k ad H locs lc hA hS hX hl hvl (am_Vc trivial hvs))
theorem am_aload {Z : am_Z} {own : String} {cc : ByteArray} {n L mc ms : Nat} (hC : am_OK Z own cc n L mc ms) {kc ks pc : Nat} {ls st : List Value} {h : am_H} {i : Nat} {x : Nat} (hd : decode cc pc = .ok (.aload i, 2)) (hv : ls[i]? = some (.ref x)) (k : am_W Z kc ks (pc + 2) ls (.ref x :: st) h) : am_W Z kc ks pc ls st h := by
  obtain ⟨G, p, l, e, R, s, m, args, below, meth, c, h0, ad0, n', Q⟩ := Z
  obtain ⟨rfl, ⟨hx, hb, hml, hown, hts⟩, hlk, hE, htr, hR1, hR2, hR3, hR4⟩ := hC
  refine fun ad H locs lc hA hS hX hl hvl hvs => ?_
  have hm : am_V h (.ref x) := hvl _ (List.mem_of_getElem? hv)
  have k9 := k ad H locs lc hA hS hX hl hvl (am_Vc hm hvs)
  have hc : lc[(i : Nat)]? = some (Slot.val (am_rv ad x)) := am_L_at hl hv rfl
  rw [List.map_cons] at k9
  change W p l e R s m args below meth c H locs kc ks Q (F0 m _ lc (am_rv ad x :: _)) at k9
  unfold am_rv at k9 hc
  by_cases hz : x = 0
  · rw [if_pos hz] at k9 hc
    exact lv_aloadN hx hb hd hc k9
  · rw [if_neg hz] at k9 hc
    exact lv_aload hx hb hd hc k9
theorem am_aload_n {Z : am_Z} {own : String} {cc : ByteArray} {n L mc ms : Nat} (hC : am_OK Z own cc n L mc ms) {kc ks pc : Nat} {ls st : List Value} {h : am_H} {i : Fin 4} {x : Nat} (hd : decode cc pc = .ok (.aload_n i, 1)) (hv : ls[(i : Nat)]? = some (.ref x)) (k : am_W Z kc ks (pc + 1) ls (.ref x :: st) h) : am_W Z kc ks pc ls st h := by
  obtain ⟨G, p, l, e, R, s, m, args, below, meth, c, h0, ad0, n', Q⟩ := Z
  obtain ⟨rfl, ⟨hx, hb, hml, hown, hts⟩, hlk, hE, htr, hR1, hR2, hR3, hR4⟩ := hC
  refine fun ad H locs lc hA hS hX hl hvl hvs => ?_
  have hm : am_V h (.ref x) := hvl _ (List.mem_of_getElem? hv)
  have k9 := k ad H locs lc hA hS hX hl hvl (am_Vc hm hvs)
  have hc : lc[(i : Nat)]? = some (Slot.val (am_rv ad x)) := am_L_at hl hv rfl
  rw [List.map_cons] at k9
  change W p l e R s m args below meth c H locs kc ks Q (F0 m _ lc (am_rv ad x :: _)) at k9
  unfold am_rv at k9 hc
  by_cases hz : x = 0
  · rw [if_pos hz] at k9 hc
    exact lv_aload_nN hx hb hd rfl hc k9
  · rw [if_neg hz] at k9 hc
    exact lv_aload_n hx hb hd rfl hc k9
theorem am_istore {Z : am_Z} {own : String} {cc : ByteArray} {n L mc ms : Nat} (hC : am_OK Z own cc n L mc ms) {kc ks pc : Nat} {ls st : List Value} {h : am_H} {i : Nat} {x : Int32} (hd : decode cc pc = .ok (.istore i, 2)) (hi : i < n) (k : am_W Z kc ks (pc + 2) (ls.set i (.int x)) st h) : am_W Z kc ks pc ls (.int x :: st) h := by
  obtain ⟨G, p, l, e, R, s, m, args, below, meth, c, h0, ad0, n', Q⟩ := Z
  obtain ⟨rfl, ⟨hx, hb, hml, hown, hts⟩, hlk, hE, htr, hR1, hR2, hR3, hR4⟩ := hC
  refine fun ad H locs lc hA hS hX hl hvl hvs => ?_
  exact lv_istore hx hb hd hl hi rfl (fun lc' hl' => k ad H locs lc' hA hS hX (am_L_set (v := .int x) hl') (am_Vset hvl trivial) (am_Vt hvs))
theorem am_istore_n {Z : am_Z} {own : String} {cc : ByteArray} {n L mc ms : Nat} (hC : am_OK Z own cc n L mc ms) {kc ks pc : Nat} {ls st : List Value} {h : am_H} {i : Fin 4} {x : Int32} (hd : decode cc pc = .ok (.istore_n i, 1)) (hi : (i : Nat) < n) (k : am_W Z kc ks (pc + 1) (ls.set i (.int x)) st h) : am_W Z kc ks pc ls (.int x :: st) h := by
  obtain ⟨G, p, l, e, R, s, m, args, below, meth, c, h0, ad0, n', Q⟩ := Z
  obtain ⟨rfl, ⟨hx, hb, hml, hown, hts⟩, hlk, hE, htr, hR1, hR2, hR3, hR4⟩ := hC
  refine fun ad H locs lc hA hS hX hl hvl hvs => ?_
  exact lv_istore_n hx hb hd rfl hl hi rfl (fun lc' hl' => k ad H locs lc' hA hS hX (am_L_set (v := .int x) hl') (am_Vset hvl trivial) (am_Vt hvs))
theorem am_astore {Z : am_Z} {own : String} {cc : ByteArray} {n L mc ms : Nat} (hC : am_OK Z own cc n L mc ms) {kc ks pc : Nat} {ls st : List Value} {h : am_H} {i : Nat} {x : Nat} (hd : decode cc pc = .ok (.astore i, 2)) (hi : i < n) (k : am_W Z kc ks (pc + 2) (ls.set i (.ref x)) st h) : am_W Z kc ks pc ls (.ref x :: st) h := by
  obtain ⟨G, p, l, e, R, s, m, args, below, meth, c, h0, ad0, n', Q⟩ := Z
  obtain ⟨rfl, ⟨hx, hb, hml, hown, hts⟩, hlk, hE, htr, hR1, hR2, hR3, hR4⟩ := hC
  refine fun ad H locs lc hA hS hX hl hvl hvs => ?_
  have k9 := fun lc' hl' => k ad H locs lc' hA hS hX (am_L_set (v := .ref x) hl') (am_Vset hvl (am_Vh hvs)) (am_Vt hvs)
  change W p l e R s m args below meth c H locs kc ks Q (F0 m _ lc (am_rv ad x :: _))
  change ∀ lc' : Array Slot, lv_has lc' n' (((i : Nat), am_rv ad x) :: _) → _ at k9
  unfold am_rv at k9 ⊢
  by_cases hz : x = 0
  · rw [if_pos hz] at k9 ⊢
    exact lv_astoreN hx hb hd hl hi rfl k9
  · rw [if_neg hz] at k9 ⊢
    exact lv_astore hx hb hd hl hi rfl k9
theorem am_astore_n {Z : am_Z} {own : String} {cc : ByteArray} {n L mc ms : Nat} (hC : am_OK Z own cc n L mc ms) {kc ks pc : Nat} {ls st : List Value} {h : am_H} {i : Fin 4} {x : Nat} (hd : decode cc pc = .ok (.astore_n i, 1)) (hi : (i : Nat) < n) (k : am_W Z kc ks (pc + 1) (ls.set i (.ref x)) st h) : am_W Z kc ks pc ls (.ref x :: st) h := by
  obtain ⟨G, p, l, e, R, s, m, args, below, meth, c, h0, ad0, n', Q⟩ := Z
  obtain ⟨rfl, ⟨hx, hb, hml, hown, hts⟩, hlk, hE, htr, hR1, hR2, hR3, hR4⟩ := hC
  refine fun ad H locs lc hA hS hX hl hvl hvs => ?_
  have k9 := fun lc' hl' => k ad H locs lc' hA hS hX (am_L_set (v := .ref x) hl') (am_Vset hvl (am_Vh hvs)) (am_Vt hvs)
  change W p l e R s m args below meth c H locs kc ks Q (F0 m _ lc (am_rv ad x :: _))
  change ∀ lc' : Array Slot, lv_has lc' n' (((i : Nat), am_rv ad x) :: _) → _ at k9
  unfold am_rv at k9 ⊢
  by_cases hz : x = 0
  · rw [if_pos hz] at k9 ⊢
    exact lv_astore_nN hx hb hd rfl hl hi rfl k9
  · rw [if_neg hz] at k9 ⊢
    exact lv_astore_n hx hb hd rfl hl hi rfl k9
theorem am_iinc {Z : am_Z} {own : String} {cc : ByteArray} {n L mc ms : Nat} (hC : am_OK Z own cc n L mc ms) {kc ks pc : Nat} {ls st : List Value} {h : am_H} {i : Nat} {a : Int} {x v : Int32} (hd : decode cc pc = .ok (.iinc i a, 3)) (hv : ls[i]? = some (.int x)) (hs : x + Int32.ofInt a = v) (hi : i < n) (k : am_W Z kc ks (pc + 3) (ls.set i (.int v)) st h) : am_W Z kc ks pc ls st h := by
  obtain ⟨G, p, l, e, R, s, m, args, below, meth, c, h0, ad0, n', Q⟩ := Z
  obtain ⟨rfl, ⟨hx, hb, hml, hown, hts⟩, hlk, hE, htr, hR1, hR2, hR3, hR4⟩ := hC
  refine fun ad H locs lc hA hS hX hl hvl hvs => ?_
  obtain ⟨k9, hk9⟩ := List.getElem?_of_mem ((am_ll_mem ad ls 0 (i, .int x)).mpr ⟨i, .int x, hv, rfl, by rw [Nat.zero_add]; rfl⟩)
  exact lv_iinc hx hb hd hl hk9 hs hi rfl (fun lc' hl' => k ad H locs lc' hA hS hX (am_L_set (v := .int v) hl') (am_Vset hvl trivial) hvs)
theorem am_iadd {Z : am_Z} {own : String} {cc : ByteArray} {n L mc ms : Nat} (hC : am_OK Z own cc n L mc ms) {kc ks pc : Nat} {ls st : List Value} {h : am_H} {x y : Int32} (hd : decode cc pc = .ok (.iadd, 1)) (k : am_W Z kc ks (pc + 1) ls (.int (x + y) :: st) h) : am_W Z kc ks pc ls (.int y :: .int x :: st) h := by
  obtain ⟨G, p, l, e, R, s, m, args, below, meth, c, h0, ad0, n', Q⟩ := Z
  obtain ⟨rfl, ⟨hx, hb, hml, hown, hts⟩, hlk, hE, htr, hR1, hR2, hR3, hR4⟩ := hC
  refine fun ad H locs lc hA hS hX hl hvl hvs => ?_
  exact lv_iadd hx hb hd (k ad H locs lc hA hS hX hl hvl (am_Vc trivial (am_Vt (am_Vt hvs))))
theorem am_isub {Z : am_Z} {own : String} {cc : ByteArray} {n L mc ms : Nat} (hC : am_OK Z own cc n L mc ms) {kc ks pc : Nat} {ls st : List Value} {h : am_H} {x y : Int32} (hd : decode cc pc = .ok (.isub, 1)) (k : am_W Z kc ks (pc + 1) ls (.int (x - y) :: st) h) : am_W Z kc ks pc ls (.int y :: .int x :: st) h := by
  obtain ⟨G, p, l, e, R, s, m, args, below, meth, c, h0, ad0, n', Q⟩ := Z
  obtain ⟨rfl, ⟨hx, hb, hml, hown, hts⟩, hlk, hE, htr, hR1, hR2, hR3, hR4⟩ := hC
  refine fun ad H locs lc hA hS hX hl hvl hvs => ?_
  exact lv_isub hx hb hd (k ad H locs lc hA hS hX hl hvl (am_Vc trivial (am_Vt (am_Vt hvs))))
theorem am_imul {Z : am_Z} {own : String} {cc : ByteArray} {n L mc ms : Nat} (hC : am_OK Z own cc n L mc ms) {kc ks pc : Nat} {ls st : List Value} {h : am_H} {x y : Int32} (hd : decode cc pc = .ok (.imul, 1)) (k : am_W Z kc ks (pc + 1) ls (.int (x * y) :: st) h) : am_W Z kc ks pc ls (.int y :: .int x :: st) h := by
  obtain ⟨G, p, l, e, R, s, m, args, below, meth, c, h0, ad0, n', Q⟩ := Z
  obtain ⟨rfl, ⟨hx, hb, hml, hown, hts⟩, hlk, hE, htr, hR1, hR2, hR3, hR4⟩ := hC
  refine fun ad H locs lc hA hS hX hl hvl hvs => ?_
  exact lv_imul hx hb hd (k ad H locs lc hA hS hX hl hvl (am_Vc trivial (am_Vt (am_Vt hvs))))
theorem am_iand {Z : am_Z} {own : String} {cc : ByteArray} {n L mc ms : Nat} (hC : am_OK Z own cc n L mc ms) {kc ks pc : Nat} {ls st : List Value} {h : am_H} {x y : Int32} (hd : decode cc pc = .ok (.iand, 1)) (k : am_W Z kc ks (pc + 1) ls (.int (x &&& y) :: st) h) : am_W Z kc ks pc ls (.int y :: .int x :: st) h := by
  obtain ⟨G, p, l, e, R, s, m, args, below, meth, c, h0, ad0, n', Q⟩ := Z
  obtain ⟨rfl, ⟨hx, hb, hml, hown, hts⟩, hlk, hE, htr, hR1, hR2, hR3, hR4⟩ := hC
  refine fun ad H locs lc hA hS hX hl hvl hvs => ?_
  exact lv_iand hx hb hd (k ad H locs lc hA hS hX hl hvl (am_Vc trivial (am_Vt (am_Vt hvs))))
theorem am_ior {Z : am_Z} {own : String} {cc : ByteArray} {n L mc ms : Nat} (hC : am_OK Z own cc n L mc ms) {kc ks pc : Nat} {ls st : List Value} {h : am_H} {x y : Int32} (hd : decode cc pc = .ok (.ior, 1)) (k : am_W Z kc ks (pc + 1) ls (.int (x ||| y) :: st) h) : am_W Z kc ks pc ls (.int y :: .int x :: st) h := by
  obtain ⟨G, p, l, e, R, s, m, args, below, meth, c, h0, ad0, n', Q⟩ := Z
  obtain ⟨rfl, ⟨hx, hb, hml, hown, hts⟩, hlk, hE, htr, hR1, hR2, hR3, hR4⟩ := hC
  refine fun ad H locs lc hA hS hX hl hvl hvs => ?_
  exact lv_ior hx hb hd (k ad H locs lc hA hS hX hl hvl (am_Vc trivial (am_Vt (am_Vt hvs))))
theorem am_ixor {Z : am_Z} {own : String} {cc : ByteArray} {n L mc ms : Nat} (hC : am_OK Z own cc n L mc ms) {kc ks pc : Nat} {ls st : List Value} {h : am_H} {x y : Int32} (hd : decode cc pc = .ok (.ixor, 1)) (k : am_W Z kc ks (pc + 1) ls (.int (x ^^^ y) :: st) h) : am_W Z kc ks pc ls (.int y :: .int x :: st) h := by
  obtain ⟨G, p, l, e, R, s, m, args, below, meth, c, h0, ad0, n', Q⟩ := Z
  obtain ⟨rfl, ⟨hx, hb, hml, hown, hts⟩, hlk, hE, htr, hR1, hR2, hR3, hR4⟩ := hC
  refine fun ad H locs lc hA hS hX hl hvl hvs => ?_
  exact lv_ixor hx hb hd (k ad H locs lc hA hS hX hl hvl (am_Vc trivial (am_Vt (am_Vt hvs))))
theorem am_ishl {Z : am_Z} {own : String} {cc : ByteArray} {n L mc ms : Nat} (hC : am_OK Z own cc n L mc ms) {kc ks pc : Nat} {ls st : List Value} {h : am_H} {x y : Int32} (hd : decode cc pc = .ok (.ishl, 1)) (k : am_W Z kc ks (pc + 1) ls (.int (x <<< (y &&& 31)) :: st) h) : am_W Z kc ks pc ls (.int y :: .int x :: st) h := by
  obtain ⟨G, p, l, e, R, s, m, args, below, meth, c, h0, ad0, n', Q⟩ := Z
  obtain ⟨rfl, ⟨hx, hb, hml, hown, hts⟩, hlk, hE, htr, hR1, hR2, hR3, hR4⟩ := hC
  refine fun ad H locs lc hA hS hX hl hvl hvs => ?_
  exact lv_ishl hx hb hd (k ad H locs lc hA hS hX hl hvl (am_Vc trivial (am_Vt (am_Vt hvs))))
theorem am_ishr {Z : am_Z} {own : String} {cc : ByteArray} {n L mc ms : Nat} (hC : am_OK Z own cc n L mc ms) {kc ks pc : Nat} {ls st : List Value} {h : am_H} {x y : Int32} (hd : decode cc pc = .ok (.ishr, 1)) (k : am_W Z kc ks (pc + 1) ls (.int (x >>> (y &&& 31)) :: st) h) : am_W Z kc ks pc ls (.int y :: .int x :: st) h := by
  obtain ⟨G, p, l, e, R, s, m, args, below, meth, c, h0, ad0, n', Q⟩ := Z
  obtain ⟨rfl, ⟨hx, hb, hml, hown, hts⟩, hlk, hE, htr, hR1, hR2, hR3, hR4⟩ := hC
  refine fun ad H locs lc hA hS hX hl hvl hvs => ?_
  exact lv_ishr hx hb hd (k ad H locs lc hA hS hX hl hvl (am_Vc trivial (am_Vt (am_Vt hvs))))
theorem am_idiv {Z : am_Z} {own : String} {cc : ByteArray} {n L mc ms : Nat} (hC : am_OK Z own cc n L mc ms) {kc ks pc : Nat} {ls st : List Value} {h : am_H} {x y : Int32} (hd : decode cc pc = .ok (.idiv, 1)) (hy : ¬ y = 0) (k : am_W Z kc ks (pc + 1) ls (.int (x / y) :: st) h) : am_W Z kc ks pc ls (.int y :: .int x :: st) h := by
  obtain ⟨G, p, l, e, R, s, m, args, below, meth, c, h0, ad0, n', Q⟩ := Z
  obtain ⟨rfl, ⟨hx, hb, hml, hown, hts⟩, hlk, hE, htr, hR1, hR2, hR3, hR4⟩ := hC
  refine fun ad H locs lc hA hS hX hl hvl hvs => ?_
  exact lv_idiv hx hb hd hy (k ad H locs lc hA hS hX hl hvl (am_Vc trivial (am_Vt (am_Vt hvs))))
theorem am_irem {Z : am_Z} {own : String} {cc : ByteArray} {n L mc ms : Nat} (hC : am_OK Z own cc n L mc ms) {kc ks pc : Nat} {ls st : List Value} {h : am_H} {x y : Int32} (hd : decode cc pc = .ok (.irem, 1)) (hy : ¬ y = 0) (k : am_W Z kc ks (pc + 1) ls (.int (x - x / y * y) :: st) h) : am_W Z kc ks pc ls (.int y :: .int x :: st) h := by
  obtain ⟨G, p, l, e, R, s, m, args, below, meth, c, h0, ad0, n', Q⟩ := Z
  obtain ⟨rfl, ⟨hx, hb, hml, hown, hts⟩, hlk, hE, htr, hR1, hR2, hR3, hR4⟩ := hC
  refine fun ad H locs lc hA hS hX hl hvl hvs => ?_
  exact lv_irem hx hb hd hy (k ad H locs lc hA hS hX hl hvl (am_Vc trivial (am_Vt (am_Vt hvs))))
theorem am_i2l {Z : am_Z} {own : String} {cc : ByteArray} {n L mc ms : Nat} (hC : am_OK Z own cc n L mc ms) {kc ks pc : Nat} {ls st : List Value} {h : am_H} {x : Int32} (hd : decode cc pc = .ok (.i2l, 1)) (k : am_W Z kc ks (pc + 1) ls (.long x.toInt64 :: st) h) : am_W Z kc ks pc ls (.int x :: st) h := by
  obtain ⟨G, p, l, e, R, s, m, args, below, meth, c, h0, ad0, n', Q⟩ := Z
  obtain ⟨rfl, ⟨hx, hb, hml, hown, hts⟩, hlk, hE, htr, hR1, hR2, hR3, hR4⟩ := hC
  refine fun ad H locs lc hA hS hX hl hvl hvs => ?_
  exact lv_i2l hx hb hd rfl (k ad H locs lc hA hS hX hl hvl (am_Vc trivial (am_Vt hvs)))
theorem am_lcmp {Z : am_Z} {own : String} {cc : ByteArray} {n L mc ms : Nat} (hC : am_OK Z own cc n L mc ms) {kc ks pc : Nat} {ls st : List Value} {h : am_H} {x y : Int64} (hd : decode cc pc = .ok (.lcmp, 1)) (k : am_W Z kc ks (pc + 1) ls (.int (lg_cmp x y) :: st) h) : am_W Z kc ks pc ls (.long y :: .long x :: st) h := by
  obtain ⟨G, p, l, e, R, s, m, args, below, meth, c, h0, ad0, n', Q⟩ := Z
  obtain ⟨rfl, ⟨hx, hb, hml, hown, hts⟩, hlk, hE, htr, hR1, hR2, hR3, hR4⟩ := hC
  refine fun ad H locs lc hA hS hX hl hvl hvs => ?_
  exact W.lcmp hx hb hd (k ad H locs lc hA hS hX hl hvl (am_Vc trivial (am_Vt (am_Vt hvs))))
theorem am_dup {Z : am_Z} {own : String} {cc : ByteArray} {n L mc ms : Nat} (hC : am_OK Z own cc n L mc ms) {kc ks pc : Nat} {ls st : List Value} {h : am_H} {v : Value} (hd : decode cc pc = .ok (.dup, 1)) (hv : am_s1 v = true) (k : am_W Z kc ks (pc + 1) ls (v :: v :: st) h) : am_W Z kc ks pc ls (v :: st) h := by
  obtain ⟨G, p, l, e, R, s, m, args, below, meth, c, h0, ad0, n', Q⟩ := Z
  obtain ⟨rfl, ⟨hx, hb, hml, hown, hts⟩, hlk, hE, htr, hR1, hR2, hR3, hR4⟩ := hC
  refine fun ad H locs lc hA hS hX hl hvl hvs => ?_
  exact lv_dup hx hb hd (am_cat ad hv) (k ad H locs lc hA hS hX hl hvl (am_Vc (am_Vh hvs) hvs))
theorem am_pop {Z : am_Z} {own : String} {cc : ByteArray} {n L mc ms : Nat} (hC : am_OK Z own cc n L mc ms) {kc ks pc : Nat} {ls st : List Value} {h : am_H} {v : Value} (hd : decode cc pc = .ok (.pop, 1)) (hv : am_s1 v = true) (k : am_W Z kc ks (pc + 1) ls st h) : am_W Z kc ks pc ls (v :: st) h := by
  obtain ⟨G, p, l, e, R, s, m, args, below, meth, c, h0, ad0, n', Q⟩ := Z
  obtain ⟨rfl, ⟨hx, hb, hml, hown, hts⟩, hlk, hE, htr, hR1, hR2, hR3, hR4⟩ := hC
  refine fun ad H locs lc hA hS hX hl hvl hvs => ?_
  exact lv_pop hx hb hd (am_cat ad hv) (k ad H locs lc hA hS hX hl hvl (am_Vt hvs))
theorem am_dup_x1 {Z : am_Z} {own : String} {cc : ByteArray} {n L mc ms : Nat} (hC : am_OK Z own cc n L mc ms) {kc ks pc : Nat} {ls st : List Value} {h : am_H} {v w : Value} (hd : decode cc pc = .ok (.dup_x1, 1)) (hv : am_s1 v = true) (hw : am_s1 w = true) (k : am_W Z kc ks (pc + 1) ls (v :: w :: v :: st) h) : am_W Z kc ks pc ls (v :: w :: st) h := by
  obtain ⟨G, p, l, e, R, s, m, args, below, meth, c, h0, ad0, n', Q⟩ := Z
  obtain ⟨rfl, ⟨hx, hb, hml, hown, hts⟩, hlk, hE, htr, hR1, hR2, hR3, hR4⟩ := hC
  refine fun ad H locs lc hA hS hX hl hvl hvs => ?_
  exact lv_dup_x1 hx hb hd (am_cat ad hv) (am_cat ad hw) (k ad H locs lc hA hS hX hl hvl (am_Vc (am_Vh hvs) (am_Vc (am_Vh (am_Vt hvs)) (am_Vc (am_Vh hvs) (am_Vt (am_Vt hvs))))))
theorem am_dup2 {Z : am_Z} {own : String} {cc : ByteArray} {n L mc ms : Nat} (hC : am_OK Z own cc n L mc ms) {kc ks pc : Nat} {ls st : List Value} {h : am_H} {v w : Value} (hd : decode cc pc = .ok (.dup2, 1)) (hv : am_s1 v = true) (hw : am_s1 w = true) (k : am_W Z kc ks (pc + 1) ls (v :: w :: v :: w :: st) h) : am_W Z kc ks pc ls (v :: w :: st) h := by
  obtain ⟨G, p, l, e, R, s, m, args, below, meth, c, h0, ad0, n', Q⟩ := Z
  obtain ⟨rfl, ⟨hx, hb, hml, hown, hts⟩, hlk, hE, htr, hR1, hR2, hR3, hR4⟩ := hC
  refine fun ad H locs lc hA hS hX hl hvl hvs => ?_
  exact lv_dup2_11 hx hb hd (am_cat ad hv) (am_cat ad hw) (k ad H locs lc hA hS hX hl hvl (am_Vc (am_Vh hvs) (am_Vc (am_Vh (am_Vt hvs)) hvs)))
theorem am_if_eq {Z : am_Z} {own : String} {cc : ByteArray} {n L mc ms : Nat} (hC : am_OK Z own cc n L mc ms) {kc ks pc : Nat} {ls st : List Value} {h : am_H} {x : Int32} {off : Int} {tgt : Nat} (hd : decode cc pc = .ok (.ifCond .eq off, 3)) (ht : (pc : Int) + off = (tgt : Int)) (kt : x = 0 → am_W Z kc ks tgt ls st h) (kf : ¬ x = 0 → am_W Z kc ks (pc + 3) ls st h) : am_W Z kc ks pc ls (.int x :: st) h := by
  obtain ⟨G, p, l, e, R, s, m, args, below, meth, c, h0, ad0, n', Q⟩ := Z
  obtain ⟨rfl, ⟨hx, hb, hml, hown, hts⟩, hlk, hE, htr, hR1, hR2, hR3, hR4⟩ := hC
  refine fun ad H locs lc hA hS hX hl hvl hvs => ?_
  exact lv_if_eq hx hb hd ht (fun q => kt q ad H locs lc hA hS hX hl hvl (am_Vt hvs)) (fun q => kf q ad H locs lc hA hS hX hl hvl (am_Vt hvs))
theorem am_icmp_eq {Z : am_Z} {own : String} {cc : ByteArray} {n L mc ms : Nat} (hC : am_OK Z own cc n L mc ms) {kc ks pc : Nat} {ls st : List Value} {h : am_H} {x y : Int32} {off : Int} {tgt : Nat} (hd : decode cc pc = .ok (.if_icmp .eq off, 3)) (ht : (pc : Int) + off = (tgt : Int)) (kt : x = y → am_W Z kc ks tgt ls st h) (kf : ¬ x = y → am_W Z kc ks (pc + 3) ls st h) : am_W Z kc ks pc ls (.int y :: .int x :: st) h := by
  obtain ⟨G, p, l, e, R, s, m, args, below, meth, c, h0, ad0, n', Q⟩ := Z
  obtain ⟨rfl, ⟨hx, hb, hml, hown, hts⟩, hlk, hE, htr, hR1, hR2, hR3, hR4⟩ := hC
  refine fun ad H locs lc hA hS hX hl hvl hvs => ?_
  exact lv_icmp_eq hx hb hd ht (fun q => kt q ad H locs lc hA hS hX hl hvl (am_Vt (am_Vt hvs))) (fun q => kf q ad H locs lc hA hS hX hl hvl (am_Vt (am_Vt hvs)))
theorem am_if_ne {Z : am_Z} {own : String} {cc : ByteArray} {n L mc ms : Nat} (hC : am_OK Z own cc n L mc ms) {kc ks pc : Nat} {ls st : List Value} {h : am_H} {x : Int32} {off : Int} {tgt : Nat} (hd : decode cc pc = .ok (.ifCond .ne off, 3)) (ht : (pc : Int) + off = (tgt : Int)) (kt : ¬ x = 0 → am_W Z kc ks tgt ls st h) (kf : x = 0 → am_W Z kc ks (pc + 3) ls st h) : am_W Z kc ks pc ls (.int x :: st) h := by
  obtain ⟨G, p, l, e, R, s, m, args, below, meth, c, h0, ad0, n', Q⟩ := Z
  obtain ⟨rfl, ⟨hx, hb, hml, hown, hts⟩, hlk, hE, htr, hR1, hR2, hR3, hR4⟩ := hC
  refine fun ad H locs lc hA hS hX hl hvl hvs => ?_
  exact lv_if_ne hx hb hd ht (fun q => kt q ad H locs lc hA hS hX hl hvl (am_Vt hvs)) (fun q => kf q ad H locs lc hA hS hX hl hvl (am_Vt hvs))
theorem am_icmp_ne {Z : am_Z} {own : String} {cc : ByteArray} {n L mc ms : Nat} (hC : am_OK Z own cc n L mc ms) {kc ks pc : Nat} {ls st : List Value} {h : am_H} {x y : Int32} {off : Int} {tgt : Nat} (hd : decode cc pc = .ok (.if_icmp .ne off, 3)) (ht : (pc : Int) + off = (tgt : Int)) (kt : ¬ x = y → am_W Z kc ks tgt ls st h) (kf : x = y → am_W Z kc ks (pc + 3) ls st h) : am_W Z kc ks pc ls (.int y :: .int x :: st) h := by
  obtain ⟨G, p, l, e, R, s, m, args, below, meth, c, h0, ad0, n', Q⟩ := Z
  obtain ⟨rfl, ⟨hx, hb, hml, hown, hts⟩, hlk, hE, htr, hR1, hR2, hR3, hR4⟩ := hC
  refine fun ad H locs lc hA hS hX hl hvl hvs => ?_
  exact lv_icmp_ne hx hb hd ht (fun q => kt q ad H locs lc hA hS hX hl hvl (am_Vt (am_Vt hvs))) (fun q => kf q ad H locs lc hA hS hX hl hvl (am_Vt (am_Vt hvs)))
theorem am_if_lt {Z : am_Z} {own : String} {cc : ByteArray} {n L mc ms : Nat} (hC : am_OK Z own cc n L mc ms) {kc ks pc : Nat} {ls st : List Value} {h : am_H} {x : Int32} {off : Int} {tgt : Nat} (hd : decode cc pc = .ok (.ifCond .lt off, 3)) (ht : (pc : Int) + off = (tgt : Int)) (kt : x < 0 → am_W Z kc ks tgt ls st h) (kf : ¬ x < 0 → am_W Z kc ks (pc + 3) ls st h) : am_W Z kc ks pc ls (.int x :: st) h := by
  obtain ⟨G, p, l, e, R, s, m, args, below, meth, c, h0, ad0, n', Q⟩ := Z
  obtain ⟨rfl, ⟨hx, hb, hml, hown, hts⟩, hlk, hE, htr, hR1, hR2, hR3, hR4⟩ := hC
  refine fun ad H locs lc hA hS hX hl hvl hvs => ?_
  exact lv_if_lt hx hb hd ht (fun q => kt q ad H locs lc hA hS hX hl hvl (am_Vt hvs)) (fun q => kf q ad H locs lc hA hS hX hl hvl (am_Vt hvs))
theorem am_icmp_lt {Z : am_Z} {own : String} {cc : ByteArray} {n L mc ms : Nat} (hC : am_OK Z own cc n L mc ms) {kc ks pc : Nat} {ls st : List Value} {h : am_H} {x y : Int32} {off : Int} {tgt : Nat} (hd : decode cc pc = .ok (.if_icmp .lt off, 3)) (ht : (pc : Int) + off = (tgt : Int)) (kt : x < y → am_W Z kc ks tgt ls st h) (kf : ¬ x < y → am_W Z kc ks (pc + 3) ls st h) : am_W Z kc ks pc ls (.int y :: .int x :: st) h := by
  obtain ⟨G, p, l, e, R, s, m, args, below, meth, c, h0, ad0, n', Q⟩ := Z
  obtain ⟨rfl, ⟨hx, hb, hml, hown, hts⟩, hlk, hE, htr, hR1, hR2, hR3, hR4⟩ := hC
  refine fun ad H locs lc hA hS hX hl hvl hvs => ?_
  exact lv_icmp_lt hx hb hd ht (fun q => kt q ad H locs lc hA hS hX hl hvl (am_Vt (am_Vt hvs))) (fun q => kf q ad H locs lc hA hS hX hl hvl (am_Vt (am_Vt hvs)))
theorem am_if_ge {Z : am_Z} {own : String} {cc : ByteArray} {n L mc ms : Nat} (hC : am_OK Z own cc n L mc ms) {kc ks pc : Nat} {ls st : List Value} {h : am_H} {x : Int32} {off : Int} {tgt : Nat} (hd : decode cc pc = .ok (.ifCond .ge off, 3)) (ht : (pc : Int) + off = (tgt : Int)) (kt : 0 ≤ x → am_W Z kc ks tgt ls st h) (kf : ¬ 0 ≤ x → am_W Z kc ks (pc + 3) ls st h) : am_W Z kc ks pc ls (.int x :: st) h := by
  obtain ⟨G, p, l, e, R, s, m, args, below, meth, c, h0, ad0, n', Q⟩ := Z
  obtain ⟨rfl, ⟨hx, hb, hml, hown, hts⟩, hlk, hE, htr, hR1, hR2, hR3, hR4⟩ := hC
  refine fun ad H locs lc hA hS hX hl hvl hvs => ?_
  exact lv_if_ge hx hb hd ht (fun q => kt q ad H locs lc hA hS hX hl hvl (am_Vt hvs)) (fun q => kf q ad H locs lc hA hS hX hl hvl (am_Vt hvs))
theorem am_icmp_ge {Z : am_Z} {own : String} {cc : ByteArray} {n L mc ms : Nat} (hC : am_OK Z own cc n L mc ms) {kc ks pc : Nat} {ls st : List Value} {h : am_H} {x y : Int32} {off : Int} {tgt : Nat} (hd : decode cc pc = .ok (.if_icmp .ge off, 3)) (ht : (pc : Int) + off = (tgt : Int)) (kt : y ≤ x → am_W Z kc ks tgt ls st h) (kf : ¬ y ≤ x → am_W Z kc ks (pc + 3) ls st h) : am_W Z kc ks pc ls (.int y :: .int x :: st) h := by
  obtain ⟨G, p, l, e, R, s, m, args, below, meth, c, h0, ad0, n', Q⟩ := Z
  obtain ⟨rfl, ⟨hx, hb, hml, hown, hts⟩, hlk, hE, htr, hR1, hR2, hR3, hR4⟩ := hC
  refine fun ad H locs lc hA hS hX hl hvl hvs => ?_
  exact lv_icmp_ge hx hb hd ht (fun q => kt q ad H locs lc hA hS hX hl hvl (am_Vt (am_Vt hvs))) (fun q => kf q ad H locs lc hA hS hX hl hvl (am_Vt (am_Vt hvs)))
theorem am_if_gt {Z : am_Z} {own : String} {cc : ByteArray} {n L mc ms : Nat} (hC : am_OK Z own cc n L mc ms) {kc ks pc : Nat} {ls st : List Value} {h : am_H} {x : Int32} {off : Int} {tgt : Nat} (hd : decode cc pc = .ok (.ifCond .gt off, 3)) (ht : (pc : Int) + off = (tgt : Int)) (kt : 0 < x → am_W Z kc ks tgt ls st h) (kf : ¬ 0 < x → am_W Z kc ks (pc + 3) ls st h) : am_W Z kc ks pc ls (.int x :: st) h := by
  obtain ⟨G, p, l, e, R, s, m, args, below, meth, c, h0, ad0, n', Q⟩ := Z
  obtain ⟨rfl, ⟨hx, hb, hml, hown, hts⟩, hlk, hE, htr, hR1, hR2, hR3, hR4⟩ := hC
  refine fun ad H locs lc hA hS hX hl hvl hvs => ?_
  exact lv_if_gt hx hb hd ht (fun q => kt q ad H locs lc hA hS hX hl hvl (am_Vt hvs)) (fun q => kf q ad H locs lc hA hS hX hl hvl (am_Vt hvs))
theorem am_icmp_gt {Z : am_Z} {own : String} {cc : ByteArray} {n L mc ms : Nat} (hC : am_OK Z own cc n L mc ms) {kc ks pc : Nat} {ls st : List Value} {h : am_H} {x y : Int32} {off : Int} {tgt : Nat} (hd : decode cc pc = .ok (.if_icmp .gt off, 3)) (ht : (pc : Int) + off = (tgt : Int)) (kt : y < x → am_W Z kc ks tgt ls st h) (kf : ¬ y < x → am_W Z kc ks (pc + 3) ls st h) : am_W Z kc ks pc ls (.int y :: .int x :: st) h := by
  obtain ⟨G, p, l, e, R, s, m, args, below, meth, c, h0, ad0, n', Q⟩ := Z
  obtain ⟨rfl, ⟨hx, hb, hml, hown, hts⟩, hlk, hE, htr, hR1, hR2, hR3, hR4⟩ := hC
  refine fun ad H locs lc hA hS hX hl hvl hvs => ?_
  exact lv_icmp_gt hx hb hd ht (fun q => kt q ad H locs lc hA hS hX hl hvl (am_Vt (am_Vt hvs))) (fun q => kf q ad H locs lc hA hS hX hl hvl (am_Vt (am_Vt hvs)))
theorem am_if_le {Z : am_Z} {own : String} {cc : ByteArray} {n L mc ms : Nat} (hC : am_OK Z own cc n L mc ms) {kc ks pc : Nat} {ls st : List Value} {h : am_H} {x : Int32} {off : Int} {tgt : Nat} (hd : decode cc pc = .ok (.ifCond .le off, 3)) (ht : (pc : Int) + off = (tgt : Int)) (kt : x ≤ 0 → am_W Z kc ks tgt ls st h) (kf : ¬ x ≤ 0 → am_W Z kc ks (pc + 3) ls st h) : am_W Z kc ks pc ls (.int x :: st) h := by
  obtain ⟨G, p, l, e, R, s, m, args, below, meth, c, h0, ad0, n', Q⟩ := Z
  obtain ⟨rfl, ⟨hx, hb, hml, hown, hts⟩, hlk, hE, htr, hR1, hR2, hR3, hR4⟩ := hC
  refine fun ad H locs lc hA hS hX hl hvl hvs => ?_
  exact lv_if_le hx hb hd ht (fun q => kt q ad H locs lc hA hS hX hl hvl (am_Vt hvs)) (fun q => kf q ad H locs lc hA hS hX hl hvl (am_Vt hvs))
theorem am_icmp_le {Z : am_Z} {own : String} {cc : ByteArray} {n L mc ms : Nat} (hC : am_OK Z own cc n L mc ms) {kc ks pc : Nat} {ls st : List Value} {h : am_H} {x y : Int32} {off : Int} {tgt : Nat} (hd : decode cc pc = .ok (.if_icmp .le off, 3)) (ht : (pc : Int) + off = (tgt : Int)) (kt : x ≤ y → am_W Z kc ks tgt ls st h) (kf : ¬ x ≤ y → am_W Z kc ks (pc + 3) ls st h) : am_W Z kc ks pc ls (.int y :: .int x :: st) h := by
  obtain ⟨G, p, l, e, R, s, m, args, below, meth, c, h0, ad0, n', Q⟩ := Z
  obtain ⟨rfl, ⟨hx, hb, hml, hown, hts⟩, hlk, hE, htr, hR1, hR2, hR3, hR4⟩ := hC
  refine fun ad H locs lc hA hS hX hl hvl hvs => ?_
  exact lv_icmp_le hx hb hd ht (fun q => kt q ad H locs lc hA hS hX hl hvl (am_Vt (am_Vt hvs))) (fun q => kf q ad H locs lc hA hS hX hl hvl (am_Vt (am_Vt hvs)))
theorem am_goto {Z : am_Z} {own : String} {cc : ByteArray} {n L mc ms : Nat} (hC : am_OK Z own cc n L mc ms) {kc ks pc : Nat} {ls st : List Value} {h : am_H} {off : Int} {tgt : Nat} (hd : decode cc pc = .ok (.goto off, 3)) (ht : (pc : Int) + off = (tgt : Int)) (k : am_W Z kc ks tgt ls st h) : am_W Z kc ks pc ls st h := by
  obtain ⟨G, p, l, e, R, s, m, args, below, meth, c, h0, ad0, n', Q⟩ := Z
  obtain ⟨rfl, ⟨hx, hb, hml, hown, hts⟩, hlk, hE, htr, hR1, hR2, hR3, hR4⟩ := hC
  refine fun ad H locs lc hA hS hX hl hvl hvs => ?_
  exact lv_goto hx hb hd ht (k ad H locs lc hA hS hX hl hvl hvs)
theorem am_ifnull {Z : am_Z} {own : String} {cc : ByteArray} {n L mc ms : Nat} (hC : am_OK Z own cc n L mc ms) {kc ks pc : Nat} {ls st : List Value} {h : am_H} {x : Nat} {off : Int} {tgt : Nat} (hd : decode cc pc = .ok (.ifnull off, 3)) (ht : (pc : Int) + off = (tgt : Int)) (kt : x = 0 → am_W Z kc ks tgt ls st h) (kf : ¬ x = 0 → am_W Z kc ks (pc + 3) ls st h) : am_W Z kc ks pc ls (.ref x :: st) h := by
  obtain ⟨G, p, l, e, R, s, m, args, below, meth, c, h0, ad0, n', Q⟩ := Z
  obtain ⟨rfl, ⟨hx, hb, hml, hown, hts⟩, hlk, hE, htr, hR1, hR2, hR3, hR4⟩ := hC
  refine fun ad H locs lc hA hS hX hl hvl hvs => ?_
  have k1 := fun q => kt q ad H locs lc hA hS hX hl hvl (am_Vt hvs)
  have k2 := fun q => kf q ad H locs lc hA hS hX hl hvl (am_Vt hvs)
  change W p l e R s m args below meth c H locs kc ks Q (F0 m _ lc (am_rv ad x :: _))
  unfold am_rv
  by_cases hz : x = 0
  · rw [if_pos hz]
    exact lv_ifnullN hx hb hd ht (k1 hz)
  · rw [if_neg hz]
    exact lv_ifnull hx hb hd (k2 hz)
theorem am_ifnonnull {Z : am_Z} {own : String} {cc : ByteArray} {n L mc ms : Nat} (hC : am_OK Z own cc n L mc ms) {kc ks pc : Nat} {ls st : List Value} {h : am_H} {x : Nat} {off : Int} {tgt : Nat} (hd : decode cc pc = .ok (.ifnonnull off, 3)) (ht : (pc : Int) + off = (tgt : Int)) (kt : ¬ x = 0 → am_W Z kc ks tgt ls st h) (kf : x = 0 → am_W Z kc ks (pc + 3) ls st h) : am_W Z kc ks pc ls (.ref x :: st) h := by
  obtain ⟨G, p, l, e, R, s, m, args, below, meth, c, h0, ad0, n', Q⟩ := Z
  obtain ⟨rfl, ⟨hx, hb, hml, hown, hts⟩, hlk, hE, htr, hR1, hR2, hR3, hR4⟩ := hC
  refine fun ad H locs lc hA hS hX hl hvl hvs => ?_
  have k1 := fun q => kt q ad H locs lc hA hS hX hl hvl (am_Vt hvs)
  have k2 := fun q => kf q ad H locs lc hA hS hX hl hvl (am_Vt hvs)
  change W p l e R s m args below meth c H locs kc ks Q (F0 m _ lc (am_rv ad x :: _))
  unfold am_rv
  by_cases hz : x = 0
  · rw [if_pos hz]
    exact lv_ifnonnullN hx hb hd (k2 hz)
  · rw [if_neg hz]
    exact lv_ifnonnull hx hb hd ht (k1 hz)
theorem am_acmp_eq {Z : am_Z} {own : String} {cc : ByteArray} {n L mc ms : Nat} (hC : am_OK Z own cc n L mc ms) {kc ks pc : Nat} {ls st : List Value} {h : am_H} {x y : Nat} {off : Int} {tgt : Nat} (hne : x = y ∨ (x ≠ 2 ∧ y ≠ 2)) (hd : decode cc pc = .ok (.if_acmp .eq off, 3)) (ht : (pc : Int) + off = (tgt : Int)) (kt : x = y → am_W Z kc ks tgt ls st h) (kf : ¬ x = y → am_W Z kc ks (pc + 3) ls st h) : am_W Z kc ks pc ls (.ref y :: .ref x :: st) h := by
  obtain ⟨G, p, l, e, R, s, m, args, below, meth, c, h0, ad0, n', Q⟩ := Z
  obtain ⟨rfl, ⟨hx, hb, hml, hown, hts⟩, hlk, hE, htr, hR1, hR2, hR3, hR4⟩ := hC
  refine fun ad H locs lc hA hS hX hl hvl hvs => ?_
  have k1 := fun q => kt q ad H locs lc hA hS hX hl hvl (am_Vt (am_Vt hvs))
  have k2 := fun q => kf q ad H locs lc hA hS hX hl hvl (am_Vt (am_Vt hvs))
  have hvy := am_Vh hvs
  have hvx := am_Vh (am_Vt hvs)
  have hrf : ∀ r : Nat, am_rv ad r = va_rf (if r = 0 then none else some (ad r)) := fun r => by
    unfold am_rv
    split <;> rfl
  have hq : ((if x = 0 then none else some (ad x)) = (if y = 0 then (none : Option Nat) else some (ad y))) ↔ x = y := by
    constructor
    · intro q
      by_cases hx0 : x = 0
      · by_cases hy0 : y = 0
        · rw [hx0, hy0]
        · rw [if_pos hx0, if_neg hy0] at q
          cases q
      · by_cases hy0 : y = 0
        · rw [if_neg hx0, if_pos hy0] at q
          cases q
        · rw [if_neg hx0, if_neg hy0] at q
          rcases hne with h9 | ⟨h9, h8⟩
          · exact h9
          · exact hA.2.2.2.1 x y (hvx.resolve_left hx0) (hvy.resolve_left hy0) h9 h8 (Option.some.inj q)
    · intro q
      rw [q]
  change W p l e R s m args below meth c H locs kc ks Q (F0 m _ lc (am_rv ad y :: am_rv ad x :: _))
  rw [hrf, hrf]
  exact lv_acmp_eq hx hb hd ht (fun q => k1 (hq.mp q)) (fun q => k2 (fun z => q (hq.mpr z)))
theorem am_acmp_ne {Z : am_Z} {own : String} {cc : ByteArray} {n L mc ms : Nat} (hC : am_OK Z own cc n L mc ms) {kc ks pc : Nat} {ls st : List Value} {h : am_H} {x y : Nat} {off : Int} {tgt : Nat} (hne : x = y ∨ (x ≠ 2 ∧ y ≠ 2)) (hd : decode cc pc = .ok (.if_acmp .ne off, 3)) (ht : (pc : Int) + off = (tgt : Int)) (kt : ¬ x = y → am_W Z kc ks tgt ls st h) (kf : x = y → am_W Z kc ks (pc + 3) ls st h) : am_W Z kc ks pc ls (.ref y :: .ref x :: st) h := by
  obtain ⟨G, p, l, e, R, s, m, args, below, meth, c, h0, ad0, n', Q⟩ := Z
  obtain ⟨rfl, ⟨hx, hb, hml, hown, hts⟩, hlk, hE, htr, hR1, hR2, hR3, hR4⟩ := hC
  refine fun ad H locs lc hA hS hX hl hvl hvs => ?_
  have k1 := fun q => kt q ad H locs lc hA hS hX hl hvl (am_Vt (am_Vt hvs))
  have k2 := fun q => kf q ad H locs lc hA hS hX hl hvl (am_Vt (am_Vt hvs))
  have hvy := am_Vh hvs
  have hvx := am_Vh (am_Vt hvs)
  have hrf : ∀ r : Nat, am_rv ad r = va_rf (if r = 0 then none else some (ad r)) := fun r => by
    unfold am_rv
    split <;> rfl
  have hq : ((if x = 0 then none else some (ad x)) = (if y = 0 then (none : Option Nat) else some (ad y))) ↔ x = y := by
    constructor
    · intro q
      by_cases hx0 : x = 0
      · by_cases hy0 : y = 0
        · rw [hx0, hy0]
        · rw [if_pos hx0, if_neg hy0] at q
          cases q
      · by_cases hy0 : y = 0
        · rw [if_neg hx0, if_pos hy0] at q
          cases q
        · rw [if_neg hx0, if_neg hy0] at q
          rcases hne with h9 | ⟨h9, h8⟩
          · exact h9
          · exact hA.2.2.2.1 x y (hvx.resolve_left hx0) (hvy.resolve_left hy0) h9 h8 (Option.some.inj q)
    · intro q
      rw [q]
  change W p l e R s m args below meth c H locs kc ks Q (F0 m _ lc (am_rv ad y :: am_rv ad x :: _))
  rw [hrf, hrf]
  exact lv_acmp_ne hx hb hd ht (fun q => k1 (fun z => q (hq.mpr z))) (fun q => k2 (hq.mp q))
theorem am_tabIn {Z : am_Z} {own : String} {cc : ByteArray} {n L mc ms : Nat} (hC : am_OK Z own cc n L mc ms) {kc ks pc : Nat} {ls st : List Value} {h : am_H} {dflt lo hi : Int} {offs : Array Int} {len : Nat} {x : Int32} {off : Int} {tgt : Nat} (hd : decode cc pc = .ok (.tableswitch dflt lo hi offs, len)) (h1 : ¬ x.toInt < lo) (h2 : ¬ hi < x.toInt) (ho : offs[(x.toInt - lo).toNat]? = some off) (ht : (pc : Int) + off = (tgt : Int)) (k : am_W Z kc ks tgt ls st h) : am_W Z kc ks pc ls (.int x :: st) h := by
  obtain ⟨G, p, l, e, R, s, m, args, below, meth, c, h0, ad0, n', Q⟩ := Z
  obtain ⟨rfl, ⟨hx, hb, hml, hown, hts⟩, hlk, hE, htr, hR1, hR2, hR3, hR4⟩ := hC
  refine fun ad H locs lc hA hS hX hl hvl hvs => ?_
  exact lv_tableIn hx hb hd h1 h2 ho ht (k ad H locs lc hA hS hX hl hvl (am_Vt hvs))
theorem am_tabOut {Z : am_Z} {own : String} {cc : ByteArray} {n L mc ms : Nat} (hC : am_OK Z own cc n L mc ms) {kc ks pc : Nat} {ls st : List Value} {h : am_H} {dflt lo hi : Int} {offs : Array Int} {len : Nat} {x : Int32} {tgt : Nat} (hd : decode cc pc = .ok (.tableswitch dflt lo hi offs, len)) (h1 : x.toInt < lo ∨ hi < x.toInt) (ht : (pc : Int) + dflt = (tgt : Int)) (k : am_W Z kc ks tgt ls st h) : am_W Z kc ks pc ls (.int x :: st) h := by
  obtain ⟨G, p, l, e, R, s, m, args, below, meth, c, h0, ad0, n', Q⟩ := Z
  obtain ⟨rfl, ⟨hx, hb, hml, hown, hts⟩, hlk, hE, htr, hR1, hR2, hR3, hR4⟩ := hC
  refine fun ad H locs lc hA hS hX hl hvl hvs => ?_
  exact lv_tableOut hx hb hd h1 ht (k ad H locs lc hA hS hX hl hvl (am_Vt hvs))
/-- what is known of the locals may be forgotten: a place holds the same, or nothing is said of it -/
def am_fg : List Value → List Value → Prop
  | [], [] => True
  | a :: as, b :: bs => (b = a ∨ am_s1 b = false) ∧ am_fg as bs
  | _, _ => False
theorem am_fg_at : ∀ {as bs : List Value}, am_fg as bs → ∀ (i : Nat) (v : Value), bs[i]? = some v → am_s1 v = true → as[i]? = some v
  | [], [], _, i, v, h, _ => by simp at h
  | a :: as, b :: bs, ⟨h1, h2⟩, i, v, h, hv => by
    cases i with
    | zero =>
      simp at h
      subst h
      rcases h1 with h1 | h1
      · rw [h1]; rfl
      · rw [h1] at hv; cases hv
    | succ i => exact am_fg_at h2 i v (by simpa using h) hv
theorem am_fgt {Z : am_Z} {kc ks pc : Nat} {ls ls' st : List Value} {h : am_H} (hf : am_fg ls ls') (k : am_W Z kc ks pc ls' st h) : am_W Z kc ks pc ls st h := by
  obtain ⟨G, p, l, e, R, s, m, args, below, meth, c, h0, ad0, n', Q⟩ := Z
  refine fun ad H locs lc hA hS hX hl hvl hvs => k ad H locs lc hA hS hX (am_L_to hl (fun i v h1 h2 => (am_ll_mem ad ls 0 _).mpr ⟨i, v, am_fg_at hf i v h1 h2, h2, by rw [Nat.zero_add]⟩)) (fun v hv => ?_) hvs
  obtain ⟨i, hi⟩ := List.getElem?_of_mem hv
  by_cases h1 : am_s1 v = true
  · exact hvl v (List.mem_of_getElem? (am_fg_at hf i v hi h1))
  · cases v with
    | ref r => exact absurd rfl h1
    | _ => trivial
theorem am_more {Z : am_Z} {kc ks pc kc' ks' : Nat} {ls st : List Value} {h : am_H} (h1 : kc ≤ kc') (h2 : ks ≤ ks') (k : am_W Z kc' ks' pc ls st h) : am_W Z kc ks pc ls st h := by
  obtain ⟨G, p, l, e, R, s, m, args, below, meth, c, h0, ad0, n', Q⟩ := Z
  exact fun ad H locs lc hA hS hX hl hvl hvs => W.widen h1 h2 (k ad H locs lc hA hS hX hl hvl hvs)
end
section
/-! ===== the abstract machine's heap ===== -/
theorem am_u0 : ∀ w ∈ u_ws RJx4a65c TJx4a65c 3, w ∈ lw_tbl := by decide +kernel
theorem am_u1' : ∀ w ∈ u_ws RX0 TX0 5, w ∈ lw_tbl := by decide +kernel
theorem am_u2' : ∀ w ∈ u_ws RX1 TX1 4, w ∈ lw_tbl := by decide +kernel
theorem am_u3 : ∀ w ∈ u_ws RX2 TX2 2, w ∈ lw_tbl := by decide +kernel
theorem am_u4 : ∀ w ∈ u_ws RX3 TX3 3, w ∈ lw_tbl := by decide +kernel
theorem am_u5 : ∀ w ∈ u_ws RX4 TX4 2, w ∈ lw_tbl := by decide +kernel
theorem am_u6 : ∀ w ∈ u_ws RX5 TX5 4, w ∈ lw_tbl := by decide +kernel
theorem am_ulay (C : String) (T : u_T) (N : Nat) : ∀ w ∈ u_ws C T N, goodWord w = true := by
  intro w hw
  obtain ⟨k, -, rfl⟩ := List.mem_map.mp hw
  unfold u_lay
  split <;> rfl
theorem am_cf {ci : Nat} {C : String} {T : u_T} {N : Nat} (hc : am_cl[ci]? = some (C, T, N)) : (∀ w ∈ u_ws C T N, w ∈ am_TG) ∧ (∀ k, k < N → parseFieldDescriptor (T k).2.2.1 = some (am_ty ci k)) ∧ (∀ a, a < N → ∀ b, b < N → a ≠ b → (T a).2.1 ≠ (T b).2.1) ∧ ci < 8 := by
  match ci, hc with
  | 0, hc => cases hc; exact ⟨fun w hw => am_inTG (am_u0 w hw) (am_ulay _ _ _ w hw), tyJx4a65c_ok, nmJx4a65c, by decide⟩
  | 1, hc => cases hc; exact ⟨fun w hw => am_inTG (am_u1' w hw) (am_ulay _ _ _ w hw), tyX0_ok, nmX0, by decide⟩
  | 2, hc => cases hc; exact ⟨fun w hw => am_inTG (am_u2' w hw) (am_ulay _ _ _ w hw), tyX1_ok, nmX1, by decide⟩
  | 3, hc => cases hc; exact ⟨fun w hw => am_inTG (am_u3 w hw) (am_ulay _ _ _ w hw), tyX2_ok, nmX2, by decide⟩
  | 4, hc => cases hc; exact ⟨fun w hw => am_inTG (am_u4 w hw) (am_ulay _ _ _ w hw), tyX3_ok, nmX3, by decide⟩
  | 5, hc => cases hc; exact ⟨fun w hw => am_inTG (am_u5 w hw) (am_ulay _ _ _ w hw), tyX4_ok, nmX4, by decide⟩
  | 6, hc => cases hc; exact ⟨fun w hw => am_inTG (am_u6 w hw) (am_ulay _ _ _ w hw), tyX5_ok, nmX5, by decide⟩
  | k + 7, hc => simp [am_cl] at hc
theorem am_live {h : am_H} {r k : Nat} (hk : hk_ h r = k) (h0 : 0 < k) : hk_ h r ≠ 0 := by omega
/-- a live role that isn't one of the two given ones lies above the line -/
theorem am_own {G : am_G} {h : am_H} {ad : Nat → Nat} {H : Heap} (hA : am_A G h ad H) {r k : Nat} (hk : hk_ h r = k) (h0 : 0 < k) (h1 : k < 14) : r ≠ 0 ∧ r ≠ 1 ∧ r ≠ 2 ∧ G.2.2.1 ≤ ad r ∧ ad r < H.size := by
  obtain ⟨⟨z0, z1, z2, -⟩, -, h3, -⟩ := hA
  have hr0 : r ≠ 0 := fun e => by rw [e, z0] at hk; omega
  have hr1 : r ≠ 1 := fun e => by rw [e, z1] at hk; omega
  have hr2 : r ≠ 2 := fun e => by rw [e, z2] at hk; omega
  rcases h3 r (by omega) with e | e | ⟨e, f, -⟩ | ⟨e, -⟩
  · exact absurd e hr1
  · exact absurd e hr2
  · exact ⟨hr0, hr1, hr2, e, f⟩
  · omega
theorem am_obj {G : am_G} {h : am_H} {ad : Nat → Nat} {H : Heap} (hA : am_A G h ad H) {r ci : Nat} {C : String} {T : u_T} {N : Nat} (hk : hk_ h r = ci + 1) (hc : am_cl[ci]? = some (C, T, N)) : t_OB (ad r) (G.1.1 ci) N (G.1.2 ci) H (am_F h ad r) := by
  have h8 := (am_cf hc).2.2.2
  have h1 := hA.2.1 r (by omega)
  unfold am_at at h1
  rw [hk] at h1
  rcases h1 with h | ⟨h1, -⟩ | ⟨-, q, h2, h3⟩
  · omega
  · omega
  · rw [Nat.add_sub_cancel] at h2 h3
    rw [hc] at h2
    cases h2
    exact h3
theorem am_arr {G : am_G} {h : am_H} {ad : Nat → Nat} {H : Heap} (hA : am_A G h ad H) {r k : Nat} (hk : hk_ h r = k + 9) (h4 : k ≤ 4) : H[ad r]? = some (arrV (G.2.1 k) (hn_ h r) (am_F h ad r)) := by
  have h1 := hA.2.1 r (by omega)
  unfold am_at at h1
  rw [hk] at h1
  rcases h1 with h | ⟨-, -, h1⟩ | ⟨h1, -⟩
  · omega
  · rw [Nat.add_sub_cancel] at h1
    exact h1
  · omega
theorem am_at_kept {G : am_G} {h h' : am_H} {ad ad' : Nat → Nat} {q : Nat} {H H' : Heap} (h1 : hk_ h' q = hk_ h q) (h2 : hn_ h' q = hn_ h q) (h3 : ∀ j, am_F h' ad' q j = am_F h ad q j) (ha : ad' q = ad q) (oq : H'[ad q]? = H[ad q]?) (ht : am_at G h ad q H) : am_at G h' ad' q H' := by
  unfold am_at at ht ⊢
  rw [h1, h2, ha, funext h3]
  exact am_atk_kept ht oq
/-- one live role's content changes -/
theorem am_A_upd {G : am_G} {h h' : am_H} {ad : Nat → Nat} {H H' : Heap} {r k : Nat} (hA : am_A G h ad H) (hkr : hk_ h r = k) (hk0 : 0 < k) (hk14 : k < 14) (hkk : ∀ q, hk_ h' q = hk_ h q) (hnn : ∀ q, hn_ h' q = hn_ h q)
    (hF : ∀ q, q ≠ r → ∀ j, am_F h' ad q j = am_F h ad q j) (hlv : ∀ q j, hk_ h q ≠ 0 → hr_ h' q j = 0 ∨ hk_ h (hr_ h' q j) ≠ 0) (z : H'.size = H.size) (oq : ∀ q : Nat, q ≠ ad r → H'[q]? = H[q]?) (hat : am_at G h' ad r H') : am_A G h' ad H' := by
  obtain ⟨r0, r1, r2, -, -⟩ := am_own hA hkr hk0 hk14
  obtain ⟨⟨z0, z1, z2, z3, z4, z5⟩, a1, a2, a3, a4⟩ := hA
  refine ⟨⟨(hkk 0).trans z0, (hkk 1).trans z1, (hkk 2).trans z2, (hnn 1).trans z3, z4, z5⟩, fun q hq => ?_, fun q hq => ?_, fun q p hq hp => ?_, fun q j hq => ?_⟩
  · rw [hkk] at hq
    by_cases e : q = r
    · rw [e]; exact hat
    · by_cases e2 : q = 2
      · have hk15 : hk_ h' q = 15 := by rw [hkk, e2]; exact z2
        exact Or.inl (Or.inr hk15)
      · exact am_at_kept (hkk q) (hnn q) (hF q e) rfl (oq _ (fun c => e (a3 q r hq (by omega) e2 r2 c))) (a1 q hq)
  · rw [hkk] at hq
    rw [z, hkk]
    exact a2 q hq
  · rw [hkk] at hq hp
    exact a3 q p hq hp
  · rw [hkk] at hq
    rw [hkk]
    exact hlv q j hq
theorem am_F_sI {h : am_H} {ad : Nat → Nat} {r j : Nat} {x : Int32} {q : Nat} (hq : q ≠ r) (i : Nat) : am_F (am_sI h r j x) ad q i = am_F h ad q i := by
  unfold am_F
  rw [hk_sI, hl_sI, hi_sI, hr_sI, if_neg (fun e : q = r ∧ i = j => hq e.1)]
theorem am_F_sR {h : am_H} {ad : Nat → Nat} {r j : Nat} {x : Nat} {q : Nat} (hq : q ≠ r) (i : Nat) : am_F (am_sR h r j x) ad q i = am_F h ad q i := by
  unfold am_F
  rw [hk_sR, hl_sR, hi_sR, hr_sR, if_neg (fun e : q = r ∧ i = j => hq e.1)]
theorem am_F_sL {h : am_H} {ad : Nat → Nat} {r j : Nat} {x : Int64} {q : Nat} (hq : q ≠ r) (i : Nat) : am_F (am_sL h r j x) ad q i = am_F h ad q i := by
  unfold am_F
  rw [hk_sL, hl_sL, hi_sL, hr_sL, if_neg (fun e : q = r ∧ i = j => hq e.1)]
theorem am_F_sI' {h : am_H} {ad : Nat → Nat} {r j : Nat} {x : Int32} (h13 : hk_ h r ≠ 13) (hf : am_fi (hk_ h r) j = true) (i : Nat) : am_F (am_sI h r j x) ad r i = updV (am_F h ad r) j (.int x) i := by
  unfold am_F updV
  dsimp only
  rw [hk_sI, hl_sI, hi_sI, hr_sI, if_neg h13, if_neg h13]
  by_cases e : i = j
  · subst e
    rw [if_pos hf, if_pos rfl, if_pos (And.intro rfl rfl)]
  · rw [if_neg (fun z : r = r ∧ i = j => e z.2), if_neg e]
theorem am_F_sR' {h : am_H} {ad : Nat → Nat} {r j : Nat} {x : Nat} (h13 : hk_ h r ≠ 13) (hf : am_fi (hk_ h r) j = false) (i : Nat) : am_F (am_sR h r j x) ad r i = updV (am_F h ad r) j (am_rv ad x) i := by
  unfold am_F updV
  dsimp only
  rw [hk_sR, hl_sR, hi_sR, hr_sR, if_neg h13, if_neg h13]
  by_cases e : i = j
  · subst e
    rw [if_neg (by rw [hf]; decide), if_pos rfl, if_pos (And.intro rfl rfl)]
  · rw [if_neg (fun z : r = r ∧ i = j => e z.2), if_neg e]
theorem am_F_sL' {h : am_H} {ad : Nat → Nat} {r j : Nat} {x : Int64} (h13 : hk_ h r = 13) (i : Nat) : am_F (am_sL h r j x) ad r i = updV (am_F h ad r) j (.long x) i := by
  unfold am_F updV
  dsimp only
  rw [hk_sL, hl_sL, if_pos h13, if_pos h13]
  by_cases e : i = j
  · rw [if_pos ⟨rfl, e⟩, if_pos e]
  · rw [if_neg (fun z : r = r ∧ i = j => e z.2), if_neg e]
theorem am_lv_sR {G : am_G} {h : am_H} {ad : Nat → Nat} {H : Heap} (hA : am_A G h ad H) {r j x : Nat} (hx : x = 0 ∨ hk_ h x ≠ 0) : ∀ q i, hk_ h q ≠ 0 → hr_ (am_sR h r j x) q i = 0 ∨ hk_ h (hr_ (am_sR h r j x) q i) ≠ 0 := by
  intro q i hq
  rw [hr_sR]
  by_cases e : q = r ∧ i = j
  · rw [if_pos e]; exact hx
  · rw [if_neg e]; exact hA.2.2.2.2 q i hq
theorem am_X_sI {h0 h : am_H} {ad0 ad : Nat → Nat} {r j : Nat} {x : Int32} (hX : am_X h0 ad0 h ad) : am_X h0 ad0 (am_sI h r j x) ad := ⟨fun q hq => hX.1 q hq, hX.2⟩
theorem am_X_sR {h0 h : am_H} {ad0 ad : Nat → Nat} {r j : Nat} {x : Nat} (hX : am_X h0 ad0 h ad) : am_X h0 ad0 (am_sR h r j x) ad := ⟨fun q hq => hX.1 q hq, hX.2⟩
theorem am_X_sL {h0 h : am_H} {ad0 ad : Nat → Nat} {r j : Nat} {x : Int64} (hX : am_X h0 ad0 h ad) : am_X h0 ad0 (am_sL h r j x) ad := ⟨fun q hq => hX.1 q hq, hX.2⟩
theorem am_Vs_k {h h' : am_H} (e : ∀ r, hk_ h' r = hk_ h r) {vs : List Value} (hv : am_Vs h vs) : am_Vs h' vs := am_Vs_le (fun r _ => e r) hv
theorem am_rv_ref {ad : Nat → Nat} {r : Nat} (h : r ≠ 0) : am_rv ad r = .ref (ad r) := if_neg h
theorem am_cv_F {h : am_H} {ad : Nat → Nat} {r j : Nat} (h13 : hk_ h r ≠ 13) : am_F h ad r j = am_cv ad (if am_fi (hk_ h r) j = true then Value.int (hi_ h r j) else .ref (hr_ h r j)) := by
  unfold am_F
  rw [if_neg h13]
  split <;> rfl
theorem am_VF {G : am_G} {h : am_H} {ad : Nat → Nat} {H : Heap} (hA : am_A G h ad H) {r j : Nat} (h0 : hk_ h r ≠ 0) : am_V h (if am_fi (hk_ h r) j = true then Value.int (hi_ h r j) else .ref (hr_ h r j)) := by
  split
  · trivial
  · exact hA.2.2.2.2 r j h0
theorem am_rfit {ad : Nat → Nat} {r : Nat} {ty : FieldType} (h : (∃ c, ty = .object c) ∨ ∃ t, ty = .array t) : narrow ty (am_rv ad r) = am_rv ad r ∧ fits ty (am_rv ad r) = true := by
  unfold am_rv
  rcases h with ⟨c, rfl⟩ | ⟨t, rfl⟩ <;> split <;> exact ⟨rfl, rfl⟩
theorem am_same {s : State} {args : Array Value} {T : u_T} {j : Nat} {ref : String} (hts : ∀ w ∈ am_TG, w.before args s = true) (hs : ref = (T j).1 ∨ Cond.sameField ref (T j).1 (T j).2.1 (T j).2.2.1 ∈ am_TG) : ∀ x, s.fieldFound? (T j).1 (T j).2.1 (T j).2.2.1 = some x → s.fieldFound? ref (T j).2.1 (T j).2.2.1 = some x := by
  intro x hx
  rcases hs with e | e
  · rw [e]; exact hx
  · exact u_same (hts _ e) x hx
section AMH
variable {Z : am_Z} {own : String} {cc : ByteArray} {n L mc ms : Nat} {kc ks pc : Nat} {ls st : List Value} {h : am_H}
theorem am_get (hC : am_OK Z own cc n L mc ms) {C : String} {T : u_T} {N ci idx j r : Nat} {ref : String} {v : Value} (hc : am_cl[ci]? = some (C, T, N)) (hkr : hk_ h r = ci + 1) (hj : j < N) (hw : Cond.fieldLink own idx ref (T j).2.1 (T j).2.2.1 ∈ am_TG) (hs : ref = (T j).1 ∨ Cond.sameField ref (T j).1 (T j).2.1 (T j).2.2.1 ∈ am_TG)
    (hd : decode cc pc = .ok (.getfield idx, 3)) (hv : (if am_fi (ci + 1) j = true then Value.int (hi_ h r j) else .ref (hr_ h r j)) = v) (k : am_W Z kc ks (pc + 3) ls (v :: st) h) : am_W Z kc ks pc ls (.ref r :: st) h := by
  obtain ⟨G, p, l, e, R, s, m, args, below, meth, c, h0, ad0, n', Q⟩ := Z
  obtain ⟨rfl, ⟨hx, hb, hml, hown, hts⟩, hlk, hE, htr, hR1, hR2, hR3, hR4⟩ := hC
  refine fun ad H locs lc hA hS hX hl hvl hvs => ?_
  obtain ⟨hin, hty, hnm, h8⟩ := am_cf hc
  obtain ⟨r0, -⟩ := am_own hA hkr (by omega) (by omega)
  obtain ⟨cell, q1, q2, q3, q4⟩ := am_obj hA hkr hc
  obtain ⟨hSl, hfc, kC, hkC, hkind⟩ := hE.2.2.1.1 ci _ hc
  obtain ⟨cf, kf, fi, f, hi, hsl⟩ := hSl j hj
  have hv1 : am_V h v := by rw [← hv, ← hkr]; exact am_VF hA (by omega)
  have k9 := k ad H locs lc hA hS hX hl hvl (am_Vc hv1 (am_Vt hvs))
  change W p l e R s m args below meth c H locs kc ks Q (F0 m pc lc (am_rv ad r :: _))
  rw [am_rv_ref r0]
  refine W.getf hx hb hown (hts _ hw) (am_same hts hs _ hi) (u_facts hfc hkC (u_lays hts hin hj) hi).1 q1 (by rw [q3]; exact fun h => by cases h) (v := am_cv ad v) ?_ rfl rfl hd k9
  rw [hsl, q4 j hj, am_cv_F (by omega), hkr, hv]
theorem am_getN (hC : am_OK Z own cc n L mc ms) {C host : String} {T : u_T} {N ci idx j r : Nat} {v : Value} (hc : am_cl[ci]? = some (C, T, N)) (hkr : hk_ h r = ci + 1) (hj : j < N) (hw : Cond.fieldLinkNest own idx (T j).1 (T j).2.1 (T j).2.2.1 host ∈ am_bw)
    (hd : decode cc pc = .ok (.getfield idx, 3)) (hv : (if am_fi (ci + 1) j = true then Value.int (hi_ h r j) else .ref (hr_ h r j)) = v) (k : am_W Z kc ks (pc + 3) ls (v :: st) h) : am_W Z kc ks pc ls (.ref r :: st) h := by
  obtain ⟨G, p, l, e, R, s, m, args, below, meth, c, h0, ad0, n', Q⟩ := Z
  obtain ⟨rfl, ⟨hx, hb, hml, hown, hts⟩, hlk, hE, htr, hR1, hR2, hR3, hR4⟩ := hC
  refine fun ad H locs lc hA hS hX hl hvl hvs => ?_
  obtain ⟨hin, hty, hnm, h8⟩ := am_cf hc
  obtain ⟨r0, -⟩ := am_own hA hkr (by omega) (by omega)
  obtain ⟨cell, q1, q2, q3, q4⟩ := am_obj hA hkr hc
  obtain ⟨hSl, hfc, kC, hkC, hkind⟩ := hE.2.2.1.1 ci _ hc
  obtain ⟨cf, kf, fi, f, hi, hsl⟩ := hSl j hj
  have hv1 : am_V h v := by rw [← hv, ← hkr]; exact am_VF hA (by omega)
  have k9 := k ad H locs lc hA hS hX hl hvl (am_Vc hv1 (am_Vt hvs))
  change W p l e R s m args below meth c H locs kc ks Q (F0 m pc lc (am_rv ad r :: _))
  rw [am_rv_ref r0]
  refine va_Wgetf hx hb hown (va_Nw.use rfl (hE.1 _ hw)) hi (u_facts hfc hkC (u_lays hts hin hj) hi).1 q1 (by rw [q3]; exact fun h => by cases h) (v := am_cv ad v) ?_ rfl rfl hd k9
  rw [hsl, q4 j hj, am_cv_F (by omega), hkr, hv]
/-- what a written object is -/
theorem am_objI {G : am_G} {ad : Nat → Nat} {H H' : Heap} (hA : am_A G h ad H) {s : State} {args : Array Value} (hts : ∀ w ∈ am_TG, w.before args s = true) (hK : va_K G.1 am_cl (am_tys G) s) {own' C : String} {T : u_T} {N ci j r : Nat} {x : Int32} {cell : Cell} (hc : am_cl[ci]? = some (C, T, N)) (hkr : hk_ h r = ci + 1) (hj : j < N) (hf : am_fi (ci + 1) j = true) (q2 : cell.cls = G.1.1 ci) (q3 : cell.vm = .none) (q4 : ∀ k, k < N → cell.slots[G.1.2 ci k]? = some (am_F h ad r k))
    (e1 : H'[ad r]? = some (cell.setSlot (G.1.2 ci j) (.int x))) (z : H'.size = H.size) (oq : ∀ q : Nat, q ≠ ad r → H'[q]? = H[q]?) : am_A G (am_sI h r j x) ad H' := by
  obtain ⟨hin, hty, hnm, h8⟩ := am_cf hc
  have hap := va_apart (own := own') hts hin (am_ty ci) hty hnm hK hc
  refine am_A_upd hA hkr (by omega) (by omega) (fun q => rfl) (fun q => rfl) (fun q hq i => am_F_sI hq i) (fun q i hq => hA.2.2.2.2 q i hq) z oq ?_
  unfold am_at
  rw [hk_sI, hkr]
  refine Or.inr (Or.inr ⟨by omega, _, by rw [Nat.add_sub_cancel]; exact hc, ?_⟩)
  rw [Nat.add_sub_cancel]
  refine t_OB.to (V := updV (am_F h ad r) j (.int x)) ⟨_, e1, q2, q3, t_set q4 hap hj _⟩ (fun i _ => ?_)
  rw [am_F_sI' (by omega) (by rw [hkr]; exact hf)]
theorem am_objR {G : am_G} {ad : Nat → Nat} {H H' : Heap} (hA : am_A G h ad H) {s : State} {args : Array Value} (hts : ∀ w ∈ am_TG, w.before args s = true) (hK : va_K G.1 am_cl (am_tys G) s) {own' C : String} {T : u_T} {N ci j r x : Nat} {cell : Cell} (hc : am_cl[ci]? = some (C, T, N)) (hkr : hk_ h r = ci + 1) (hj : j < N) (hf : am_fi (ci + 1) j = false) (q2 : cell.cls = G.1.1 ci) (q3 : cell.vm = .none) (q4 : ∀ k, k < N → cell.slots[G.1.2 ci k]? = some (am_F h ad r k)) (hx : x = 0 ∨ hk_ h x ≠ 0)
    (e1 : H'[ad r]? = some (cell.setSlot (G.1.2 ci j) (am_rv ad x))) (z : H'.size = H.size) (oq : ∀ q : Nat, q ≠ ad r → H'[q]? = H[q]?) : am_A G (am_sR h r j x) ad H' := by
  obtain ⟨hin, hty, hnm, h8⟩ := am_cf hc
  have hap := va_apart (own := own') hts hin (am_ty ci) hty hnm hK hc
  refine am_A_upd hA hkr (by omega) (by omega) (fun q => rfl) (fun q => rfl) (fun q hq i => am_F_sR hq i) (am_lv_sR hA hx) z oq ?_
  unfold am_at
  rw [hk_sR, hkr]
  refine Or.inr (Or.inr ⟨by omega, _, by rw [Nat.add_sub_cancel]; exact hc, ?_⟩)
  rw [Nat.add_sub_cancel]
  refine t_OB.to (V := updV (am_F h ad r) j (am_rv ad x)) ⟨_, e1, q2, q3, t_set q4 hap hj _⟩ (fun i _ => ?_)
  rw [am_F_sR' (by omega) (by rw [hkr]; exact hf)]
theorem am_lay {C : String} {T : u_T} {N j : Nat} (hin : ∀ w ∈ u_ws C T N, w ∈ am_TG) (hj : j < N) {s : State} {args : Array Value} (hts : ∀ w ∈ am_TG, w.before args s = true) : (u_lay C T j).before args s = true := hts _ (hin _ (u_in_lay hj))
theorem am_putI (hC : am_OK Z own cc n L mc ms) {C : String} {T : u_T} {N ci idx j r : Nat} {ref : String} {x : Int32} (hc : am_cl[ci]? = some (C, T, N)) (hkr : hk_ h r = ci + 1) (hj : j < N) (hf : am_fi (ci + 1) j = true) (hfin : (T j).2.2.2 = false) (hty : am_ty ci j = .int) (hw : Cond.fieldLink own idx ref (T j).2.1 (T j).2.2.1 ∈ am_TG) (hs : ref = (T j).1 ∨ Cond.sameField ref (T j).1 (T j).2.1 (T j).2.2.1 ∈ am_TG)
    (hd : decode cc pc = .ok (.putfield idx, 3)) (k : am_W Z kc ks (pc + 3) ls st (am_sI h r j x)) : am_W Z kc ks pc ls (.int x :: .ref r :: st) h := by
  obtain ⟨G, p, l, e, R, s, m, args, below, meth, c, h0, ad0, n', Q⟩ := Z
  obtain ⟨rfl, ⟨hx, hb, hml, hown, hts⟩, hlk, hE, htr, hR1, hR2, hR3, hR4⟩ := hC
  refine fun ad H locs lc hA hS hX hl hvl hvs => ?_
  obtain ⟨hin, hty2, hnm, h8⟩ := am_cf hc
  obtain ⟨r0, -, -, hlo, -⟩ := am_own hA hkr (by omega) (by omega)
  obtain ⟨cell, q1, q2, q3, q4⟩ := am_obj hA hkr hc
  obtain ⟨hSl, hfc, kC, hkC, hkind⟩ := hE.2.2.1.1 ci _ hc
  obtain ⟨cf, kf, fi, f, hi, hsl⟩ := hSl j hj
  have hlay := am_lay hin hj hts
  unfold u_lay at hlay
  rw [if_neg (by rw [hfin]; decide)] at hlay
  have hst := (u_facts hfc hkC (u_lays hts hin hj) hi).1
  have h6 := u_store (v := .int x) hfc hkC hkind hlay hi (hty ▸ hty2 j hj) rfl rfl
  change W p l e R s m args below meth c H locs kc ks Q (F0 m pc lc (.int x :: am_rv ad r :: _))
  rw [am_rv_ref r0]
  refine W.putK hx hb (f := f) ⟨hown, hts _ hw, ⟨_, _, _, am_same hts hs _ hi⟩, hst⟩ (by rw [q2]; exact h6) q1 q3 (by rw [hsl]; exact k2_hasslot (q4 j hj)) rfl rfl hd fun H' e1 e2 e3 => ?_
  rw [hsl] at e1 ⊢
  exact k ad H' _ lc (am_objI (own' := own) hA hts hE.2.2.1 hc hkr hj hf q2 q3 q4 e1 e2 e3) (hS.put e2 e3 hlo) (am_X_sI hX) hl (am_Vs_k (fun _ => rfl) hvl) (am_Vs_k (fun _ => rfl) (am_Vt (am_Vt hvs)))
theorem am_putNI (hC : am_OK Z own cc n L mc ms) {C host : String} {T : u_T} {N ci idx j r : Nat} {x : Int32} (hc : am_cl[ci]? = some (C, T, N)) (hkr : hk_ h r = ci + 1) (hj : j < N) (hf : am_fi (ci + 1) j = true) (hfin : (T j).2.2.2 = false) (hty : am_ty ci j = .int) (hw : Cond.fieldLinkNest own idx (T j).1 (T j).2.1 (T j).2.2.1 host ∈ am_bw)
    (hd : decode cc pc = .ok (.putfield idx, 3)) (k : am_W Z kc ks (pc + 3) ls st (am_sI h r j x)) : am_W Z kc ks pc ls (.int x :: .ref r :: st) h := by
  obtain ⟨G, p, l, e, R, s, m, args, below, meth, c, h0, ad0, n', Q⟩ := Z
  obtain ⟨rfl, ⟨hx, hb, hml, hown, hts⟩, hlk, hE, htr, hR1, hR2, hR3, hR4⟩ := hC
  refine fun ad H locs lc hA hS hX hl hvl hvs => ?_
  obtain ⟨hin, hty2, hnm, h8⟩ := am_cf hc
  obtain ⟨r0, -, -, hlo, -⟩ := am_own hA hkr (by omega) (by omega)
  obtain ⟨cell, q1, q2, q3, q4⟩ := am_obj hA hkr hc
  obtain ⟨hSl, hfc, kC, hkC, hkind⟩ := hE.2.2.1.1 ci _ hc
  obtain ⟨cf, kf, fi, f, hi, hsl⟩ := hSl j hj
  have hlay := am_lay hin hj hts
  unfold u_lay at hlay
  rw [if_neg (by rw [hfin]; decide)] at hlay
  have hst := (u_facts hfc hkC (u_lays hts hin hj) hi).1
  have h6 := u_store (v := .int x) hfc hkC hkind hlay hi (hty ▸ hty2 j hj) rfl rfl
  change W p l e R s m args below meth c H locs kc ks Q (F0 m pc lc (.int x :: am_rv ad r :: _))
  rw [am_rv_ref r0]
  refine va_WputK hx hb (f := f) hown (va_Nw.use rfl (hE.1 _ hw)) hi hst (by rw [q2]; exact h6) q1 q3 (by rw [hsl]; exact k2_hasslot (q4 j hj)) rfl rfl hd fun H' e1 e2 e3 => ?_
  rw [hsl] at e1 ⊢
  exact k ad H' _ lc (am_objI (own' := own) hA hts hE.2.2.1 hc hkr hj hf q2 q3 q4 e1 e2 e3) (hS.put e2 e3 hlo) (am_X_sI hX) hl (am_Vs_k (fun _ => rfl) hvl) (am_Vs_k (fun _ => rfl) (am_Vt (am_Vt hvs)))
theorem am_putR (hC : am_OK Z own cc n L mc ms) {C : String} {T : u_T} {N ci idx j r x : Nat} {ref : String} {ty : FieldType} (hc : am_cl[ci]? = some (C, T, N)) (hkr : hk_ h r = ci + 1) (hj : j < N) (hf : am_fi (ci + 1) j = false) (hfin : (T j).2.2.2 = false) (hty : am_ty ci j = ty) (hr : (∃ c, ty = .object c) ∨ ∃ t, ty = .array t) (hw : Cond.fieldLink own idx ref (T j).2.1 (T j).2.2.1 ∈ am_TG) (hs : ref = (T j).1 ∨ Cond.sameField ref (T j).1 (T j).2.1 (T j).2.2.1 ∈ am_TG)
    (hd : decode cc pc = .ok (.putfield idx, 3)) (k : am_W Z kc ks (pc + 3) ls st (am_sR h r j x)) : am_W Z kc ks pc ls (.ref x :: .ref r :: st) h := by
  obtain ⟨G, p, l, e, R, s, m, args, below, meth, c, h0, ad0, n', Q⟩ := Z
  obtain ⟨rfl, ⟨hx, hb, hml, hown, hts⟩, hlk, hE, htr, hR1, hR2, hR3, hR4⟩ := hC
  refine fun ad H locs lc hA hS hX hl hvl hvs => ?_
  obtain ⟨hin, hty2, hnm, h8⟩ := am_cf hc
  obtain ⟨r0, -, -, hlo, -⟩ := am_own hA hkr (by omega) (by omega)
  obtain ⟨cell, q1, q2, q3, q4⟩ := am_obj hA hkr hc
  obtain ⟨hSl, hfc, kC, hkC, hkind⟩ := hE.2.2.1.1 ci _ hc
  obtain ⟨cf, kf, fi, f, hi, hsl⟩ := hSl j hj
  have hlay := am_lay hin hj hts
  unfold u_lay at hlay
  rw [if_neg (by rw [hfin]; decide)] at hlay
  have hst := (u_facts hfc hkC (u_lays hts hin hj) hi).1
  have h6 := u_store (v := am_rv ad x) hfc hkC hkind hlay hi (hty ▸ hty2 j hj) (am_rfit hr).1 (am_rfit hr).2
  have hvx : x = 0 ∨ hk_ h x ≠ 0 := am_Vh hvs
  change W p l e R s m args below meth c H locs kc ks Q (F0 m pc lc (am_rv ad x :: am_rv ad r :: _))
  rw [am_rv_ref r0]
  refine W.putK hx hb (f := f) ⟨hown, hts _ hw, ⟨_, _, _, am_same hts hs _ hi⟩, hst⟩ (by rw [q2]; exact h6) q1 q3 (by rw [hsl]; exact k2_hasslot (q4 j hj)) rfl rfl hd fun H' e1 e2 e3 => ?_
  rw [hsl] at e1 ⊢
  exact k ad H' _ lc (am_objR (own' := own) hA hts hE.2.2.1 hc hkr hj hf q2 q3 q4 hvx e1 e2 e3) (hS.put e2 e3 hlo) (am_X_sR hX) hl (am_Vs_k (fun _ => rfl) hvl) (am_Vs_k (fun _ => rfl) (am_Vt (am_Vt hvs)))
/-- a constructor's own final fields -/
def am_In (Z : am_Z) : Prop := Z.2.2.2.2.2.2.2.2.2.1.name = "<init>"
theorem am_fcls {s : State} {args : Array Value} {m : MethodId} {own' C : String} {T : u_T} {j : Nat} {cf fi : Nat} {kf : Class} {f : Field} (hown : s.vm.findClass own' = some m.cls) (hlay : (Cond.laysFinal C (T j).1 (T j).2.1 (T j).2.2.1).before args s = true) (hi : s.fieldFound? (T j).1 (T j).2.1 (T j).2.2.1 = some (cf, kf, fi, f)) (hdecl : (T j).1 = own') : m.cls = cf := by
  obtain ⟨_, _, c', _, _, _, -, -, hf', -, -, -, hown2, -⟩ := Cond.laysFinal_spec hlay
  have e1 : c' = cf := by have := hi.symm.trans hf'; simp at this; exact this.1.symm
  rw [hdecl] at hown2
  rw [← e1]
  exact Option.some.inj (hown.symm.trans hown2)
theorem am_putFI (hC : am_OK Z own cc n L mc ms) (hI : am_In Z) {C : String} {T : u_T} {N ci idx j r : Nat} {x : Int32} (hc : am_cl[ci]? = some (C, T, N)) (hkr : hk_ h r = ci + 1) (hj : j < N) (hf : am_fi (ci + 1) j = true) (hfin : (T j).2.2.2 = true) (hty : am_ty ci j = .int) (hdecl : (T j).1 = own) (hw : Cond.fieldLink own idx (T j).1 (T j).2.1 (T j).2.2.1 ∈ am_TG)
    (hd : decode cc pc = .ok (.putfield idx, 3)) (k : am_W Z kc ks (pc + 3) ls st (am_sI h r j x)) : am_W Z kc ks pc ls (.int x :: .ref r :: st) h := by
  obtain ⟨G, p, l, e, R, s, m, args, below, meth, c, h0, ad0, n', Q⟩ := Z
  obtain ⟨rfl, ⟨hx, hb, hml, hown, hts⟩, hlk, hE, htr, hR1, hR2, hR3, hR4⟩ := hC
  refine fun ad H locs lc hA hS hX hl hvl hvs => ?_
  obtain ⟨hin, hty2, hnm, h8⟩ := am_cf hc
  obtain ⟨r0, -, -, hlo, -⟩ := am_own hA hkr (by omega) (by omega)
  obtain ⟨cell, q1, q2, q3, q4⟩ := am_obj hA hkr hc
  obtain ⟨hSl, hfc, kC, hkC, hkind⟩ := hE.2.2.1.1 ci _ hc
  obtain ⟨cf, kf, fi, f, hi, hsl⟩ := hSl j hj
  have hlay := am_lay hin hj hts
  unfold u_lay at hlay
  rw [if_pos hfin] at hlay
  have hst := (u_facts hfc hkC (u_lays hts hin hj) hi).1
  have h6 := u_fits (v := .int x) hfc hkC hkind (Or.inr hlay) hi (hty ▸ hty2 j hj) rfl rfl
  change W p l e R s m args below meth c H locs kc ks Q (F0 m pc lc (.int x :: am_rv ad r :: _))
  rw [am_rv_ref r0]
  refine W.putFinK hx hb hown (hts _ hw) hi hst (am_fcls hown hlay hi hdecl) hI (by rw [q2]; exact h6) q1 q3 (by rw [hsl]; exact k2_hasslot (q4 j hj)) rfl rfl hd fun H' e1 e2 e3 => ?_
  rw [hsl] at e1 ⊢
  exact k ad H' _ lc (am_objI (own' := own) hA hts hE.2.2.1 hc hkr hj hf q2 q3 q4 e1 e2 e3) (hS.put e2 e3 hlo) (am_X_sI hX) hl (am_Vs_k (fun _ => rfl) hvl) (am_Vs_k (fun _ => rfl) (am_Vt (am_Vt hvs)))
theorem am_putFR (hC : am_OK Z own cc n L mc ms) (hI : am_In Z) {C : String} {T : u_T} {N ci idx j r x : Nat} {ty : FieldType} (hc : am_cl[ci]? = some (C, T, N)) (hkr : hk_ h r = ci + 1) (hj : j < N) (hf : am_fi (ci + 1) j = false) (hfin : (T j).2.2.2 = true) (hty : am_ty ci j = ty) (hr : (∃ c, ty = .object c) ∨ ∃ t, ty = .array t) (hdecl : (T j).1 = own) (hw : Cond.fieldLink own idx (T j).1 (T j).2.1 (T j).2.2.1 ∈ am_TG)
    (hd : decode cc pc = .ok (.putfield idx, 3)) (k : am_W Z kc ks (pc + 3) ls st (am_sR h r j x)) : am_W Z kc ks pc ls (.ref x :: .ref r :: st) h := by
  obtain ⟨G, p, l, e, R, s, m, args, below, meth, c, h0, ad0, n', Q⟩ := Z
  obtain ⟨rfl, ⟨hx, hb, hml, hown, hts⟩, hlk, hE, htr, hR1, hR2, hR3, hR4⟩ := hC
  refine fun ad H locs lc hA hS hX hl hvl hvs => ?_
  obtain ⟨hin, hty2, hnm, h8⟩ := am_cf hc
  obtain ⟨r0, -, -, hlo, -⟩ := am_own hA hkr (by omega) (by omega)
  obtain ⟨cell, q1, q2, q3, q4⟩ := am_obj hA hkr hc
  obtain ⟨hSl, hfc, kC, hkC, hkind⟩ := hE.2.2.1.1 ci _ hc
  obtain ⟨cf, kf, fi, f, hi, hsl⟩ := hSl j hj
  have hlay := am_lay hin hj hts
  unfold u_lay at hlay
  rw [if_pos hfin] at hlay
  have hst := (u_facts hfc hkC (u_lays hts hin hj) hi).1
  have h6 := u_fits (v := am_rv ad x) hfc hkC hkind (Or.inr hlay) hi (hty ▸ hty2 j hj) (am_rfit hr).1 (am_rfit hr).2
  have hvx : x = 0 ∨ hk_ h x ≠ 0 := am_Vh hvs
  change W p l e R s m args below meth c H locs kc ks Q (F0 m pc lc (am_rv ad x :: am_rv ad r :: _))
  rw [am_rv_ref r0]
  refine W.putFinK hx hb hown (hts _ hw) hi hst (am_fcls hown hlay hi hdecl) hI (by rw [q2]; exact h6) q1 q3 (by rw [hsl]; exact k2_hasslot (q4 j hj)) rfl rfl hd fun H' e1 e2 e3 => ?_
  rw [hsl] at e1 ⊢
  exact k ad H' _ lc (am_objR (own' := own) hA hts hE.2.2.1 hc hkr hj hf q2 q3 q4 hvx e1 e2 e3) (hS.put e2 e3 hlo) (am_X_sR hX) hl (am_Vs_k (fun _ => rfl) hvl) (am_Vs_k (fun _ => rfl) (am_Vt (am_Vt hvs)))
end AMH
end
section
/-! ===== the abstract machine's arrays and new things ===== -/
theorem am_ix {i : Int32} {j N : Nat} (hi : i = nI j) (hj : j < N) (hN : N < 2 ^ 31) : ¬ (i < 0 ∨ N ≤ i.toNatClampNeg) ∧ i.toNatClampNeg = j := by
  subst hi
  have e := nI_clamp (n := j) (by omega)
  refine ⟨fun q => ?_, e⟩
  rcases q with q | q
  · exact nI_pos (by omega) q
  · omega
section AMA
variable {Z : am_Z} {own : String} {cc : ByteArray} {n L mc ms : Nat} {kc ks pc : Nat} {ls st : List Value} {h : am_H}
theorem am_iald (hC : am_OK Z own cc n L mc ms) {r j N : Nat} {i : Int32} (hkr : hk_ h r = 9) (hnr : hn_ h r = N) (hi : i = nI j) (hj : j < N) (hN : N < 2 ^ 31) (hd : decode cc pc = .ok (.iaload, 1)) (k : am_W Z kc ks (pc + 1) ls (.int (hi_ h r j) :: st) h) : am_W Z kc ks pc ls (.int i :: .ref r :: st) h := by
  obtain ⟨G, p, l, e, R, s, m, args, below, meth, c, h0, ad0, n', Q⟩ := Z
  obtain ⟨rfl, ⟨hx, hb, hml, hown, hts⟩, hlk, hE, htr, hR1, hR2, hR3, hR4⟩ := hC
  refine fun ad H locs lc hA hS hX hl hvl hvs => ?_
  obtain ⟨r0, -⟩ := am_own hA hkr (by omega) (by omega)
  have hc := am_arr (k := 0) hA hkr (by omega)
  obtain ⟨i1, i2⟩ := am_ix hi hj hN
  have k9 := k ad H locs lc hA hS hX hl hvl (am_Vc trivial (am_Vt (am_Vt hvs)))
  change W p l e R s m args below meth c H locs kc ks Q (F0 m pc lc (.int i :: am_rv ad r :: _))
  rw [am_rv_ref r0]
  refine W.iald (v := .int (hi_ h r j)) hx hb hc ((hE.2.2.1.2 0 _ rfl).1 _ _) (fun q => by cases q) (by rw [arrV_size, hnr]; exact i1) ?_ rfl rfl hd k9
  rw [arrV_read _ _ (by rw [i2, hnr]; exact hj), i2]
  unfold am_F
  rw [hkr]
  rfl
theorem am_zald (hC : am_OK Z own cc n L mc ms) {r j N : Nat} {i : Int32} (hkr : hk_ h r = 10) (hnr : hn_ h r = N) (hi : i = nI j) (hj : j < N) (hN : N < 2 ^ 31) (hd : decode cc pc = .ok (.baload, 1)) (k : am_W Z kc ks (pc + 1) ls (.int (hi_ h r j) :: st) h) : am_W Z kc ks pc ls (.int i :: .ref r :: st) h := by
  obtain ⟨G, p, l, e, R, s, m, args, below, meth, c, h0, ad0, n', Q⟩ := Z
  obtain ⟨rfl, ⟨hx, hb, hml, hown, hts⟩, hlk, hE, htr, hR1, hR2, hR3, hR4⟩ := hC
  refine fun ad H locs lc hA hS hX hl hvl hvs => ?_
  obtain ⟨r0, -⟩ := am_own hA hkr (by omega) (by omega)
  have hc := am_arr (k := 1) hA hkr (by omega)
  obtain ⟨i1, i2⟩ := am_ix hi hj hN
  have k9 := k ad H locs lc hA hS hX hl hvl (am_Vc trivial (am_Vt (am_Vt hvs)))
  change W p l e R s m args below meth c H locs kc ks Q (F0 m pc lc (.int i :: am_rv ad r :: _))
  rw [am_rv_ref r0]
  refine W.zald (v := .int (hi_ h r j)) hx hb hc ((hE.2.2.1.2 1 _ rfl).1 _ _) (fun q => by cases q) (by rw [arrV_size, hnr]; exact i1) ?_ rfl rfl hd k9
  rw [arrV_read _ _ (by rw [i2, hnr]; exact hj), i2]
  unfold am_F
  rw [hkr]
  rfl
theorem am_aald (hC : am_OK Z own cc n L mc ms) {r j N kk : Nat} {i : Int32} (hkk : kk = 11 ∨ kk = 12) (hkr : hk_ h r = kk) (hnr : hn_ h r = N) (hi : i = nI j) (hj : j < N) (hN : N < 2 ^ 31) (hd : decode cc pc = .ok (.aaload, 1)) (k : am_W Z kc ks (pc + 1) ls (.ref (hr_ h r j) :: st) h) : am_W Z kc ks pc ls (.int i :: .ref r :: st) h := by
  obtain ⟨G, p, l, e, R, s, m, args, below, meth, c, h0, ad0, n', Q⟩ := Z
  obtain ⟨rfl, ⟨hx, hb, hml, hown, hts⟩, hlk, hE, htr, hR1, hR2, hR3, hR4⟩ := hC
  refine fun ad H locs lc hA hS hX hl hvl hvs => ?_
  obtain ⟨r0, -⟩ := am_own hA hkr (by omega) (by omega)
  obtain ⟨i1, i2⟩ := am_ix hi hj hN
  have k9 := k ad H locs lc hA hS hX hl hvl (am_Vc (hA.2.2.2.2 r j (by omega)) (am_Vt (am_Vt hvs)))
  change W p l e R s m args below meth c H locs kc ks Q (F0 m pc lc (.int i :: am_rv ad r :: _))
  rw [am_rv_ref r0]
  rcases hkk with rfl | rfl
  · have hc := am_arr (k := 2) hA hkr (by omega)
    refine W.aald (v := am_rv ad (hr_ h r j)) (ty := .object "HousePlans$Drawing") hx hb hc ((hE.2.2.1.2 2 _ rfl).1 _ _) rfl (fun q => by cases q) (by rw [arrV_size, hnr]; exact i1) ?_ rfl rfl hd k9
    rw [arrV_read _ _ (by rw [i2, hnr]; exact hj), i2]
    unfold am_F
    rw [hkr]
    rfl
  · have hc := am_arr (k := 3) hA hkr (by omega)
    refine W.aald (v := am_rv ad (hr_ h r j)) (ty := .object "java/lang/Object") hx hb hc ((hE.2.2.1.2 3 _ rfl).1 _ _) rfl (fun q => by cases q) (by rw [arrV_size, hnr]; exact i1) ?_ rfl rfl hd k9
    rw [arrV_read _ _ (by rw [i2, hnr]; exact hj), i2]
    unfold am_F
    rw [hkr]
    rfl
theorem am_alen (hC : am_OK Z own cc n L mc ms) {r N kk : Nat} (hkk : kk = 9 ∨ kk = 10 ∨ kk = 11 ∨ kk = 12) (hkr : hk_ h r = kk) (hnr : hn_ h r = N) (hd : decode cc pc = .ok (.arraylength, 1)) (k : am_W Z kc ks (pc + 1) ls (.int (nI N) :: st) h) : am_W Z kc ks pc ls (.ref r :: st) h := by
  obtain ⟨G, p, l, e, R, s, m, args, below, meth, c, h0, ad0, n', Q⟩ := Z
  obtain ⟨rfl, ⟨hx, hb, hml, hown, hts⟩, hlk, hE, htr, hR1, hR2, hR3, hR4⟩ := hC
  refine fun ad H locs lc hA hS hX hl hvl hvs => ?_
  obtain ⟨r0, -⟩ := am_own hA hkr (by omega) (by omega)
  have k9 := k ad H locs lc hA hS hX hl hvl (am_Vc trivial (am_Vt hvs))
  change W p l e R s m args below meth c H locs kc ks Q (F0 m pc lc (am_rv ad r :: _))
  rw [am_rv_ref r0]
  subst hnr
  rcases hkk with rfl | rfl | rfl | rfl
  · exact W.alen (n := nI (hn_ h r)) hx hb (am_arr (k := 0) hA hkr (by omega)) ((hE.2.2.1.2 0 _ rfl).1 _ _) (by rw [arrV_size]; rfl) rfl rfl hd k9
  · exact W.alen (n := nI (hn_ h r)) hx hb (am_arr (k := 1) hA hkr (by omega)) ((hE.2.2.1.2 1 _ rfl).1 _ _) (by rw [arrV_size]; rfl) rfl rfl hd k9
  · exact W.alen (n := nI (hn_ h r)) hx hb (am_arr (k := 2) hA hkr (by omega)) ((hE.2.2.1.2 2 _ rfl).1 _ _) (by rw [arrV_size]; rfl) rfl rfl hd k9
  · exact W.alen (n := nI (hn_ h r)) hx hb (am_arr (k := 3) hA hkr (by omega)) ((hE.2.2.1.2 3 _ rfl).1 _ _) (by rw [arrV_size]; rfl) rfl rfl hd k9
/-- .. of the empty table -/
theorem am_alen0 (hC : am_OK Z own cc n L mc ms) (hd : decode cc pc = .ok (.arraylength, 1)) (k : am_W Z kc ks (pc + 1) ls (.int 0 :: st) h) : am_W Z kc ks pc ls (.ref 1 :: st) h := by
  obtain ⟨G, p, l, e, R, s, m, args, below, meth, c, h0, ad0, n', Q⟩ := Z
  obtain ⟨rfl, ⟨hx, hb, hml, hown, hts⟩, hlk, hE, htr, hR1, hR2, hR3, hR4⟩ := hC
  refine fun ad H locs lc hA hS hX hl hvl hvs => ?_
  have k9 := k ad H locs lc hA hS hX hl hvl (am_Vc trivial (am_Vt hvs))
  change W p l e R s m args below meth c H locs kc ks Q (F0 m pc lc (am_rv ad 1 :: _))
  rw [am_rv_ref (by decide), hA.1.2.2.2.2.1]
  obtain ⟨f, cell, g1, g2, g3, g4, g5, g6, g7⟩ := hE.2.2.2.2.2.2.1
  exact W.alen (n := 0) hx hb (by rw [hS.2.1 _ (Array.getElem?_eq_some_iff.mp g1).1 g7]; exact g1) g2 (by rw [g5]; rfl) rfl rfl hd k9
theorem am_A_arr {G : am_G} {h h' : am_H} {ad : Nat → Nat} {H H' : Heap} {r k j : Nat} {v : Value} (hA : am_A G h ad H) (hkr : hk_ h r = k + 9) (h4 : k ≤ 4) (hkk : ∀ q, hk_ h' q = hk_ h q) (hnn : ∀ q, hn_ h' q = hn_ h q) (hF : ∀ q, q ≠ r → ∀ j, am_F h' ad q j = am_F h ad q j) (hFr : ∀ i, am_F h' ad r i = updV (am_F h ad r) j v i) (hlv : ∀ q j, hk_ h q ≠ 0 → hr_ h' q j = 0 ∨ hk_ h (hr_ h' q j) ≠ 0)
    (e1 : H'[ad r]? = some ((arrV (G.2.1 k) (hn_ h r) (am_F h ad r)).setSlot j v)) (z : H'.size = H.size) (oq : ∀ q : Nat, q ≠ ad r → H'[q]? = H[q]?) : am_A G h' ad H' := by
  refine am_A_upd hA hkr (by omega) (by omega) hkk hnn hF hlv z oq ?_
  unfold am_at
  rw [hkk, hnn, hkr]
  refine Or.inr (Or.inl ⟨by omega, by omega, ?_⟩)
  rw [Nat.add_sub_cancel, e1, arrV_store, funext hFr]
theorem am_iast (hC : am_OK Z own cc n L mc ms) {r j N : Nat} {i x : Int32} (hkr : hk_ h r = 9) (hnr : hn_ h r = N) (hi : i = nI j) (hj : j < N) (hN : N < 2 ^ 31) (hd : decode cc pc = .ok (.iastore, 1)) (k : am_W Z kc ks (pc + 1) ls st (am_sI h r j x)) : am_W Z kc ks pc ls (.int x :: .int i :: .ref r :: st) h := by
  obtain ⟨G, p, l, e, R, s, m, args, below, meth, c, h0, ad0, n', Q⟩ := Z
  obtain ⟨rfl, ⟨hx, hb, hml, hown, hts⟩, hlk, hE, htr, hR1, hR2, hR3, hR4⟩ := hC
  refine fun ad H locs lc hA hS hX hl hvl hvs => ?_
  obtain ⟨r0, -, -, hlo, -⟩ := am_own hA hkr (by omega) (by omega)
  have hc := am_arr (k := 0) hA hkr (by omega)
  obtain ⟨i1, i2⟩ := am_ix hi hj hN
  change W p l e R s m args below meth c H locs kc ks Q (F0 m pc lc (.int x :: .int i :: am_rv ad r :: _))
  rw [am_rv_ref r0]
  refine W.iast hx hb hc ((hE.2.2.1.2 0 _ rfl).1 _ _) (fun q => by cases q) (by rw [arrV_size, hnr]; exact i1) rfl rfl hd fun H' e1 z oq => ?_
  rw [i2] at e1 ⊢
  exact k ad H' _ lc (am_A_arr (k := 0) hA hkr (by omega) (fun _ => rfl) (fun _ => rfl) (fun q hq t => am_F_sI hq t) (fun t => am_F_sI' (by omega) (by rw [hkr]; rfl) t) (fun q t hq => hA.2.2.2.2 q t hq) e1 z oq) (hS.put z oq hlo) (am_X_sI hX) hl (am_Vs_k (fun _ => rfl) hvl) (am_Vs_k (fun _ => rfl) (am_Vt (am_Vt (am_Vt hvs))))
theorem am_zast (hC : am_OK Z own cc n L mc ms) {r j N : Nat} {i x : Int32} (hkr : hk_ h r = 10) (hnr : hn_ h r = N) (hi : i = nI j) (hj : j < N) (hN : N < 2 ^ 31) (hx01 : narrow .boolean (.int x) = .int x) (hd : decode cc pc = .ok (.bastore, 1)) (k : am_W Z kc ks (pc + 1) ls st (am_sI h r j x)) : am_W Z kc ks pc ls (.int x :: .int i :: .ref r :: st) h := by
  obtain ⟨G, p, l, e, R, s, m, args, below, meth, c, h0, ad0, n', Q⟩ := Z
  obtain ⟨rfl, ⟨hx, hb, hml, hown, hts⟩, hlk, hE, htr, hR1, hR2, hR3, hR4⟩ := hC
  refine fun ad H locs lc hA hS hX hl hvl hvs => ?_
  obtain ⟨r0, -, -, hlo, -⟩ := am_own hA hkr (by omega) (by omega)
  have hc := am_arr (k := 1) hA hkr (by omega)
  obtain ⟨i1, i2⟩ := am_ix hi hj hN
  change W p l e R s m args below meth c H locs kc ks Q (F0 m pc lc (.int x :: .int i :: am_rv ad r :: _))
  rw [am_rv_ref r0]
  refine W.zast hx hb hc ((hE.2.2.1.2 1 _ rfl).1 _ _) (fun q => by cases q) (by rw [arrV_size, hnr]; exact i1) rfl rfl hd fun H' e1 z oq => ?_
  rw [i2] at e1 ⊢
  rw [hx01] at e1
  exact k ad H' _ lc (am_A_arr (k := 1) hA hkr (by omega) (fun _ => rfl) (fun _ => rfl) (fun q hq t => am_F_sI hq t) (fun t => am_F_sI' (by omega) (by rw [hkr]; rfl) t) (fun q t hq => hA.2.2.2.2 q t hq) e1 z oq) (hS.put z oq hlo) (am_X_sI hX) hl (am_Vs_k (fun _ => rfl) hvl) (am_Vs_k (fun _ => rfl) (am_Vt (am_Vt (am_Vt hvs))))
/-- an object of a class of ours may lie in a row of Object, a Drawing in a row of Drawing -/
theorem am_asg {G : am_G} {ad : Nat → Nat} {H : Heap} (hA : am_A G h ad H) {s : State} {args : Array Value} (hE : am_E G s) {x ci : Nat} {C : String} {T : u_T} {N : Nat} (hkx : hk_ h x = ci + 1) (hc : am_cl[ci]? = some (C, T, N)) {E : String} (hca : E = C ∨ Cond.castable C E ∈ am_bw) : va_Any E s H (ad x) := by
  obtain ⟨cell, q1, q2, q3, q4⟩ := am_obj hA hkx hc
  obtain ⟨hSl, hfc, kC, hkC, hkind⟩ := hE.2.2.1.1 ci _ hc
  refine ⟨cell, q1, by rw [q3]; rfl, ⟨kC, by rw [q2]; exact hkC⟩, fun comp hcomp => ?_⟩
  rw [q2]
  rcases hca with rfl | hca
  · rw [hfc] at hcomp
    cases hcomp
    exact va_assign ⟨hfc, kC, hkC, hkind⟩
  · obtain ⟨c0, t1, f1, f2, f3⟩ := Cond.castable_spec (va_Nw.use (A := args) rfl (hE.1 _ hca))
    cases hfc.symm.trans f1
    cases hcomp.symm.trans f2
    exact f3
theorem am_aast (hC : am_OK Z own cc n L mc ms) {r j N k' x ci : Nat} {C : String} {T : u_T} {N' : Nat} {i : Int32} (hk' : (k' = 2 ∧ C = "HousePlans$Drawing") ∨ (k' = 3 ∧ Cond.castable C "java/lang/Object" ∈ am_bw)) (hkr : hk_ h r = k' + 9) (hnr : hn_ h r = N) (hi : i = nI j) (hj : j < N) (hN : N < 2 ^ 31) (hx0 : (k' = 2 ∧ x = 0) ∨ hk_ h x = ci + 1) (hc : am_cl[ci]? = some (C, T, N')) (hd : decode cc pc = .ok (.aastore, 1)) (k : am_W Z kc ks (pc + 1) ls st (am_sR h r j x)) : am_W Z kc ks pc ls (.ref x :: .int i :: .ref r :: st) h := by
  obtain ⟨G, p, l, e, R, s, m, args, below, meth, c, h0, ad0, n', Q⟩ := Z
  obtain ⟨rfl, ⟨hx, hb, hml, hown, hts⟩, hlk, hE, htr, hR1, hR2, hR3, hR4⟩ := hC
  refine fun ad H locs lc hA hS hX hl hvl hvs => ?_
  obtain ⟨r0, -, -, hlo, -⟩ := am_own hA hkr (by omega) (by omega)
  have hcl := am_arr (k := k') hA hkr (by omega)
  obtain ⟨i1, i2⟩ := am_ix hi hj hN
  have hvx : x = 0 ∨ hk_ h x ≠ 0 := am_Vh hvs
  have fin : ∀ (H' : Heap), H'[ad r]? = some ((arrV (G.2.1 k') (hn_ h r) (am_F h ad r)).setSlot j (am_rv ad x)) → H'.size = H.size → (∀ q, q ≠ ad r → H'[q]? = H[q]?) → W p l e R s m args below meth c H' (locs ++ [⟨ad r, j⟩]) kc ks Q (F0 m (pc + 1) lc (st.map (am_cv ad))) := fun H' e1 z oq =>
    k ad H' _ lc (am_A_arr hA hkr (by omega) (fun _ => rfl) (fun _ => rfl) (fun q hq t => am_F_sR hq t) (fun t => am_F_sR' (by omega) (by rw [hkr]; rcases hk' with ⟨rfl, -⟩ | ⟨rfl, -⟩ <;> rfl) t) (am_lv_sR hA hvx) e1 z oq) (hS.put z oq hlo) (am_X_sR hX) hl (am_Vs_k (fun _ => rfl) hvl) (am_Vs_k (fun _ => rfl) (am_Vt (am_Vt (am_Vt hvs))))
  change W p l e R s m args below meth c H locs kc ks Q (F0 m pc lc (am_rv ad x :: .int i :: am_rv ad r :: _))
  rw [am_rv_ref r0]
  by_cases hxz : x = 0
  · have ex : am_rv ad x = .null := if_pos hxz
    rw [ex] at fin ⊢
    rcases hk' with ⟨rfl, -⟩ | ⟨rfl, -⟩
    · refine va_WaastN (C := "HousePlans$Drawing") hx hb hcl ((hE.2.2.1.2 2 _ rfl).1 _ _) (fun q => by cases q) (by rw [arrV_size, hnr]; exact i1) rfl rfl hd fun H' e1 z oq => ?_
      rw [i2] at e1 ⊢
      exact fin H' e1 z oq
    · rcases hx0 with ⟨hx0, -⟩ | hx0
      · omega
      · rw [hxz, hA.1.1] at hx0
        omega
  · have hkx : hk_ h x = ci + 1 := by
      rcases hx0 with ⟨-, hx0⟩ | hx0
      · exact absurd hx0 hxz
      · exact hx0
    rw [am_rv_ref hxz] at fin ⊢
    have key : ∀ (E : String) (t0 : Nat), (am_tys G)[t0]? = some (G.2.1 k', .object E) → va_Any E s H (ad x) → W p l e R s m args below meth c H locs kc ks Q (F0 m pc lc (.ref (ad x) :: .int i :: .ref (ad r) :: st.map (am_cv ad))) := by
      intro E t0 ht hany
      obtain ⟨cellV, g1, g3, ⟨kC, hkC⟩, hasg⟩ := hany
      obtain ⟨kA, comp, k1, k2, k3, -⟩ := (hE.2.2.1.2 t0 _ ht).2
      obtain ⟨kE, hkE, -⟩ := Vm.findClass_spec k3
      refine W.aast hx hb hcl (fun q h => by cases h) (fun h => by cases h) k1 k2 rfl hkE ⟨fun q => i1 (Or.inl q), by rw [arrV_size, i2, hnr]; exact hj⟩ g1 (fun q h => by rw [h] at g3; cases g3) hkC (hasg _ k3) rfl rfl hd fun H' e1 z oq => ?_
      rw [i2] at e1 ⊢
      exact fin H' e1 z oq
    rcases hk' with ⟨rfl, rfl⟩ | ⟨rfl, hca⟩
    · exact key _ 2 rfl (am_asg (args := args) hA hE hkx hc (Or.inl rfl))
    · exact key _ 3 rfl (am_asg (args := args) hA hE hkx hc (Or.inr hca))
end AMA
end
section
/-! ===== new things, statics, class objects ===== -/
theorem am_df {ci : Nat} {C : String} {T : u_T} {N : Nat} (hc : am_cl[ci]? = some (C, T, N)) : ∀ j, j < N → defaultValue (am_ty ci j) = if am_fi (ci + 1) j = true then Value.int 0 else .null := by
  match ci, hc with
  | 0, hc => cases hc; intro j hj; rcases (by omega : j = 0 ∨ j = 1 ∨ j = 2) with rfl | rfl | rfl <;> rfl
  | 1, hc => cases hc; intro j hj; rcases (by omega : j = 0 ∨ j = 1 ∨ j = 2 ∨ j = 3 ∨ j = 4) with rfl | rfl | rfl | rfl | rfl <;> rfl
  | 2, hc => cases hc; intro j hj; rcases (by omega : j = 0 ∨ j = 1 ∨ j = 2 ∨ j = 3) with rfl | rfl | rfl | rfl <;> rfl
  | 3, hc => cases hc; intro j hj; rcases (by omega : j = 0 ∨ j = 1) with rfl | rfl <;> rfl
  | 4, hc => cases hc; intro j hj; rcases (by omega : j = 0 ∨ j = 1 ∨ j = 2) with rfl | rfl | rfl <;> rfl
  | 5, hc => cases hc; intro j hj; rcases (by omega : j = 0 ∨ j = 1) with rfl | rfl <;> rfl
  | 6, hc => cases hc; intro j hj; rcases (by omega : j = 0 ∨ j = 1 ∨ j = 2 ∨ j = 3) with rfl | rfl | rfl | rfl <;> rfl
  | k + 7, hc => simp [am_cl] at hc
theorem am_le_new {h : am_H} {r k n : Nat} (h0 : hk_ h r = 0) : am_le h (am_new h r k n) := fun q hq => by
  have e : q ≠ r := fun e => hq (by rw [e]; exact h0)
  rw [hk_new, hn_new, if_neg e, if_neg e]
  exact ⟨rfl, rfl⟩
theorem am_F_new {G : am_G} {h : am_H} {ad : Nat → Nat} {H : Heap} (hA : am_A G h ad H) {r k n a q : Nat} (h0 : hk_ h r = 0) (r0 : r ≠ 0) (hq : hk_ h q ≠ 0) (j : Nat) : am_F (am_new h r k n) (am_u1 ad r a) q j = am_F h ad q j := by
  have e : q ≠ r := fun e => hq (by rw [e]; exact h0)
  unfold am_F
  rw [hk_new, hl_new, hi_new, hr_new, if_neg e, if_neg e, if_neg e, if_neg e]
  have e2 : am_rv (am_u1 ad r a) (hr_ h q j) = am_rv ad (hr_ h q j) := by
    unfold am_rv
    rcases hA.2.2.2.2 q j hq with e3 | e3
    · rw [if_pos e3, if_pos e3]
    · have e4 : hr_ h q j ≠ r := fun e => e3 (by rw [e]; exact h0)
      unfold am_u1
      rw [if_neg e4]
  rw [e2]
theorem am_F_new' {h : am_H} {ad : Nat → Nat} {r k n : Nat} (j : Nat) : am_F (am_new h r k n) ad r j = if k = 13 then .long 0 else if am_fi k j = true then .int 0 else .null := by
  unfold am_F
  rw [hk_new, hl_new, hi_new, hr_new, if_pos rfl, if_pos rfl, if_pos rfl, if_pos rfl]
  rfl
theorem am_A_new {G : am_G} {h : am_H} {ad : Nat → Nat} {H H' : Heap} {r k n : Nat} (hA : am_A G h ad H) (hlo : G.2.2.1 ≤ H.size) (he0 : G.2.2.2.1 < G.2.2.1) (h0 : hk_ h r = 0) (r0 : r ≠ 0) (hk0 : 0 < k) (hk14 : k < 14) (z : H'.size = H.size + 1) (oq : ∀ q : Nat, q < H.size → H'[q]? = H[q]?)
    (hat : am_atk G k n (fun j => if k = 13 then .long 0 else if am_fi k j = true then .int 0 else .null) H.size H') : am_A G (am_new h r k n) (am_u1 ad r H.size) H' := by
  have hA' := hA
  obtain ⟨⟨z0, z1, z2, z3, z4, z5⟩, a1, a2, a3, a4⟩ := hA
  have r1 : r ≠ 1 := fun e => by rw [e, z1] at h0; omega
  have r2 : r ≠ 2 := fun e => by rw [e, z2] at h0; omega
  have up : ∀ q, q ≠ r → am_u1 ad r H.size q = ad q := fun q e => if_neg e
  have us : am_u1 ad r H.size r = H.size := if_pos rfl
  have ne : ∀ q, hk_ h q ≠ 0 → q ≠ r := fun q hq e => hq (by rw [e]; exact h0)
  have hlt : ∀ q, hk_ h q ≠ 0 → q ≠ 2 → ad q < H.size := fun q hq e2 => by
    rcases a2 q hq with e | e | ⟨-, e, -⟩ | ⟨-, e⟩
    · rw [e, z4]; omega
    · exact absurd e e2
    · exact e
    · omega
  refine ⟨⟨?_, ?_, ?_, ?_, ?_, ?_⟩, fun q hq => ?_, fun q hq => ?_, fun q p hq hp => ?_, fun q j hq => ?_⟩
  · rw [hk_new, if_neg (Ne.symm r0)]; exact z0
  · rw [hk_new, if_neg (Ne.symm r1)]; exact z1
  · rw [hk_new, if_neg (Ne.symm r2)]; exact z2
  · rw [hn_new, if_neg (Ne.symm r1)]; exact z3
  · rw [up 1 (Ne.symm r1)]; exact z4
  · rw [up 2 (Ne.symm r2)]; exact z5
  · by_cases e : q = r
    · rw [e]
      unfold am_at
      rw [us, hk_new, hn_new, if_pos rfl, if_pos rfl]
      rw [funext (am_F_new' (h := h) (ad := am_u1 ad r H.size) (r := r) (k := k) (n := n))]
      exact hat
    · rw [hk_new, if_neg e] at hq
      by_cases e2 : q = 2
      · exact Or.inl (Or.inr (by rw [hk_new, if_neg e, e2]; exact z2))
      · exact am_at_kept (by rw [hk_new, if_neg e]) (by rw [hn_new, if_neg e]) (am_F_new hA' h0 r0 hq) (up q e) (oq _ (hlt q hq e2)) (a1 q hq)
  · by_cases e : q = r
    · refine Or.inr (Or.inr (Or.inl ?_))
      rw [e, us, hk_new, if_pos rfl, z]
      exact ⟨hlo, by omega, hk14⟩
    · rw [hk_new, if_neg e] at hq ⊢
      rw [up q e, z]
      rcases a2 q hq with h | h | ⟨h1, h2, h3⟩ | h
      · exact Or.inl h
      · exact Or.inr (Or.inl h)
      · exact Or.inr (Or.inr (Or.inl ⟨h1, by omega, h3⟩))
      · exact Or.inr (Or.inr (Or.inr h))
  · rw [hk_new] at hq hp
    intro q2 p2 e
    by_cases e1 : q = r
    · by_cases e3 : p = r
      · rw [e1, e3]
      · rw [if_neg e3] at hp
        rw [e1, us, up p e3] at e
        have := hlt p hp p2
        omega
    · rw [if_neg e1] at hq
      by_cases e3 : p = r
      · rw [e3, us, up q e1] at e
        have := hlt q hq q2
        omega
      · rw [if_neg e3] at hp
        rw [up q e1, up p e3] at e
        exact a3 q p hq hp q2 p2 e
  · rw [hr_new]
    by_cases e : q = r
    · rw [if_pos e]; exact Or.inl rfl
    · rw [hk_new, if_neg e] at hq
      rw [if_neg e]
      rcases a4 q j hq with h | h
      · exact Or.inl h
      · refine Or.inr ?_
        rw [hk_new, if_neg (ne _ h)]
        exact h
theorem am_X_new {G : am_G} {h0 h : am_H} {ad0 ad : Nat → Nat} {r k n a : Nat} (hX : am_X h0 ad0 h ad) (h0' : hk_ h r = 0) : am_X h0 ad0 (am_new h r k n) (am_u1 ad r a) := am_X_tr hX ⟨am_le_new h0', fun q hq => if_neg (fun e => hq (by rw [e]; exact h0'))⟩
theorem am_e0 {G : am_G} {s : State} (hE : am_E G s) : G.2.2.2.1 < G.2.2.1 := by
  obtain ⟨f, hT⟩ := hE.2.2.2.2.2.2.1
  exact Nat.not_le.mp hT.out
section AMN
variable {Z : am_Z} {own : String} {cc : ByteArray} {n L mc ms : Nat} {kc ks pc : Nat} {ls st : List Value} {h : am_H}
theorem am_newO (hC : am_OK Z own cc n L mc ms) {C : String} {T : u_T} {N ci idx : Nat} (r : Nat) (hc : am_cl[ci]? = some (C, T, N)) (h0' : hk_ h r = 0) (r0 : r ≠ 0) (hw1 : Cond.classLink own idx C ∈ am_TG) (hw2 : Cond.instantiable C N ∈ am_TG) (hw3 : Cond.initialized C ∈ am_TG) (hcells : kc + 1 ≤ mc) (hslots : ks + N ≤ ms)
    (hd : decode cc pc = .ok (.new idx, 3)) (k : am_W Z (kc + 1) (ks + N) (pc + 3) ls (.ref r :: st) (am_new h r (ci + 1) 0)) : am_W Z kc ks pc ls st h := by
  obtain ⟨G, p, l, e, R, s, m, args, below, meth, c, h0, ad0, n', Q⟩ := Z
  obtain ⟨rfl, ⟨hx, hb, hml, hown, hts⟩, hlk, hE, htr, hR1, hR2, hR3, hR4⟩ := hC
  refine fun ad H locs lc hA hS hX hl hvl hvs => ?_
  obtain ⟨hin, hty, hnm, h8⟩ := am_cf hc
  have hKn := hE.2.2.1.1 ci _ hc
  have hlo : G.2.2.1 ≤ H.size := Nat.le_trans hE.2.2.2.2.2.2.2.2 hS.1
  refine W.newcK hx hb hown (hts _ hw1) (hts _ hw2) (hts _ hw3) rfl hd (by omega) (by omega) hKn.2.1 rfl fun H1 kC hkC e1 z1 o1 => ?_
  have hA1 : am_A G (am_new h r (ci + 1) 0) (am_u1 ad r H.size) H1 := by
    refine am_A_new hA hlo (am_e0 hE) h0' r0 (by omega) (by omega) z1 o1 (Or.inr (Or.inr ⟨by omega, _, by rw [Nat.add_sub_cancel]; exact hc, ?_⟩))
    rw [Nat.add_sub_cancel]
    refine (u_born (am_ty ci) hts hin hKn hkC e1 hty).to (fun j hj => ?_)
    rw [am_df hc j hj, if_neg (by omega : ¬ ci + 1 = 13)]
  have hle := am_le_new (k := ci + 1) (n := 0) h0'
  have he : ∀ q, hk_ h q ≠ 0 → am_u1 ad r H.size q = ad q := fun q hq => if_neg (fun e => hq (by rw [e]; exact h0'))
  have k9 := k _ H1 locs lc hA1 ⟨Nat.le_trans hS.1 (by omega), fun q g1 g2 => (o1 q (Nat.lt_of_lt_of_le g1 hS.1)).trans (hS.2.1 q g1 g2), hS.2.2⟩ (am_X_new (G := G) hX h0') (am_L_ad he hl hvl) (am_Vs_le (fun q hq => (hle q hq).1) hvl)
    (am_Vc (Or.inr (by rw [hk_new, if_pos rfl]; omega)) (am_Vs_le (fun q hq => (hle q hq).1) hvs))
  rw [List.map_cons, am_map_ad he hvs] at k9
  change W p l e R s m args below meth c H1 locs _ _ Q (F0 m _ lc (am_rv (am_u1 ad r H.size) r :: _)) at k9
  rw [am_rv_ref r0, show am_u1 ad r H.size r = H.size from if_pos rfl] at k9
  exact k9
theorem am_newarr {G : am_G} {p : Program} {l : Launch} {e : Env} {R : Room} {s : State} {m : MethodId} {args : Array Value} {below : List Frame} {meth : Method} {c : Code} {h0 : am_H} {ad0 : Nat → Nat} {n' : Nat} {Q : State → Prop} (hE : am_E G s) {r kk N len : Nat} (h0' : hk_ h r = 0) (r0 : r ≠ 0) (hkk : 9 ≤ kk ∧ kk ≤ 13) {v0 : Value} (hv0 : ∀ j, (if kk = 13 then Value.long 0 else if am_fi kk j = true then .int 0 else .null) = v0)
    (k : am_W (G, p, l, e, R, s, m, args, below, meth, c, h0, ad0, n', Q) (kc + 1) (ks + N) (pc + len) ls (.ref r :: st) (am_new h r kk N)) {ad : Nat → Nat} {H H1 : Heap} {locs : List Loc} {lc : Array Slot} (hA : am_A G h ad H) (hS : va_S (am_lo G) s.heap H locs) (hX : am_X h0 ad0 h ad) (hl : am_L ad n' ls lc) (hvl : am_Vs h ls) (hvs : am_Vs h st)
    (z1 : H1.size = H.size + 1) (o1 : ∀ q : Nat, q < H.size → H1[q]? = H[q]?) (e1 : H1[H.size]? = some (arrV (G.2.1 (kk - 9)) N (fun _ => v0))) : W p l e R s m args below meth c H1 locs (kc + 1) (ks + N) Q (F0 m (pc + len) lc (.ref H.size :: st.map (am_cv ad))) := by
  have hlo : G.2.2.1 ≤ H.size := Nat.le_trans hE.2.2.2.2.2.2.2.2 hS.1
  have hA1 : am_A G (am_new h r kk N) (am_u1 ad r H.size) H1 := by
    refine am_A_new hA hlo (am_e0 hE) h0' r0 (by omega) (by omega) z1 o1 (Or.inr (Or.inl ⟨by omega, by omega, ?_⟩))
    rw [e1, funext hv0]
  have hle := am_le_new (k := kk) (n := N) h0'
  have he : ∀ q, hk_ h q ≠ 0 → am_u1 ad r H.size q = ad q := fun q hq => if_neg (fun e => hq (by rw [e]; exact h0'))
  have k9 := k _ H1 locs lc hA1 ⟨Nat.le_trans hS.1 (by omega), fun q g1 g2 => (o1 q (Nat.lt_of_lt_of_le g1 hS.1)).trans (hS.2.1 q g1 g2), hS.2.2⟩ (am_X_new (G := G) hX h0') (am_L_ad he hl hvl) (am_Vs_le (fun q hq => (hle q hq).1) hvl)
    (am_Vc (Or.inr (by rw [hk_new, if_pos rfl]; omega)) (am_Vs_le (fun q hq => (hle q hq).1) hvs))
  rw [List.map_cons, am_map_ad he hvs] at k9
  change W p l e R s m args below meth c H1 locs _ _ Q (F0 m _ lc (am_rv (am_u1 ad r H.size) r :: _)) at k9
  rw [am_rv_ref r0, show am_u1 ad r H.size r = H.size from if_pos rfl] at k9
  exact k9
theorem am_newA (hC : am_OK Z own cc n L mc ms) {at_ : ArrayType} {kk N : Nat} {i : Int32} (r : Nat) (hk' : (at_ = .int ∧ kk = 9) ∨ (at_ = .boolean ∧ kk = 10)) (h0' : hk_ h r = 0) (r0 : r ≠ 0) (hi : i = nI N) (hN : N ≤ 4096) (hw : Cond.arrayClass (newarray.typeOf at_) ∈ am_TG) (hcells : kc + 1 ≤ mc) (hslots : ks + N ≤ ms)
    (hd : decode cc pc = .ok (.newarray at_, 2)) (k : am_W Z (kc + 1) (ks + N) (pc + 2) ls (.ref r :: st) (am_new h r kk N)) : am_W Z kc ks pc ls (.int i :: st) h := by
  obtain ⟨G, p, l, e, R, s, m, args, below, meth, c, h0, ad0, n', Q⟩ := Z
  obtain ⟨rfl, ⟨hx, hb, hml, hown, hts⟩, hlk, hE, htr, hR1, hR2, hR3, hR4⟩ := hC
  refine fun ad H locs lc hA hS hX hl hvl hvs => ?_
  subst hi
  have hi2 : (nI N).toNatClampNeg = N := nI_clamp (by omega)
  change W p l e R s m args below meth c H locs kc ks Q (F0 m pc lc (.int (nI N) :: _))
  refine va_newaK hx hb (hts _ hw) rfl hd rfl (nI_pos (by omega)) hi2 (by rcases hk' with ⟨rfl, -⟩ | ⟨rfl, -⟩ <;> simp [newarray.typeOf, componentBytes] <;> omega) (by omega) (by omega) rfl fun H1 cA e1 z1 o1 hAr hNm => ?_
  rcases hk' with ⟨rfl, rfl⟩ | ⟨rfl, rfl⟩
  · have ec : cA = G.2.1 0 := Option.some.inj (hNm.symm.trans (hE.2.2.1.2 0 _ rfl).2)
    subst ec
    exact am_newarr hE h0' r0 (by omega) (fun _ => rfl) k hA hS hX hl hvl (am_Vt hvs) z1 o1 e1
  · have ec : cA = G.2.1 1 := Option.some.inj (hNm.symm.trans (hE.2.2.1.2 1 _ rfl).2)
    subst ec
    exact am_newarr hE h0' r0 (by omega) (fun _ => rfl) k hA hS hX hl hvl (am_Vt hvs) z1 o1 e1
theorem am_newQ (hC : am_OK Z own cc n L mc ms) {C : String} {idx kk N : Nat} {i : Int32} (r : Nat) (hk' : (C = "HousePlans$Drawing" ∧ kk = 11) ∨ (C = "java/lang/Object" ∧ kk = 12)) (h0' : hk_ h r = 0) (r0 : r ≠ 0) (hi : i = nI N) (hN : N ≤ 4096) (hw1 : Cond.classLink own idx C ∈ am_TG) (hw2 : Cond.arrayOver (.object C) ∈ am_bw) (hcells : kc + 1 ≤ mc) (hslots : ks + N ≤ ms)
    (hd : decode cc pc = .ok (.anewarray idx, 3)) (k : am_W Z (kc + 1) (ks + N) (pc + 3) ls (.ref r :: st) (am_new h r kk N)) : am_W Z kc ks pc ls (.int i :: st) h := by
  obtain ⟨G, p, l, e, R, s, m, args, below, meth, c, h0, ad0, n', Q⟩ := Z
  obtain ⟨rfl, ⟨hx, hb, hml, hown, hts⟩, hlk, hE, htr, hR1, hR2, hR3, hR4⟩ := hC
  refine fun ad H locs lc hA hS hX hl hvl hvs => ?_
  subst hi
  have hi2 : (nI N).toNatClampNeg = N := nI_clamp (by omega)
  change W p l e R s m args below meth c H locs kc ks Q (F0 m pc lc (.int (nI N) :: _))
  refine W.anew hx hb hown (hts _ hw1) (va_AO.use (hE.1 _ hw2)) rfl hd rfl (nI_pos (by omega)) (by rw [hi2]; omega) (by omega) (by rw [hi2]; omega) fun cA kA comp f1 f2 f3 f4 => ?_
  rw [hi2]
  generalize hH1 : H.push ({ cls := cA, slots := Array.replicate N .null, vm := .none } : Cell) = H1
  have z1 : H1.size = H.size + 1 := by rw [← hH1, Array.size_push]
  have e1 : H1[H.size]? = some (arrV cA N (fun _ => .null)) := by rw [← hH1, Array.getElem?_push_size, ← arrV_new]
  have o1 : ∀ q : Nat, q < H.size → H1[q]? = H[q]? := fun q hq => by rw [← hH1, Array.getElem?_push, if_neg (Nat.ne_of_lt hq)]
  rcases hk' with ⟨rfl, rfl⟩ | ⟨rfl, rfl⟩
  · obtain ⟨_, _, -, -, -, g4⟩ := (hE.2.2.1.2 2 _ rfl).2
    have ec : cA = G.2.1 2 := Option.some.inj (f1.symm.trans g4)
    subst ec
    exact am_newarr hE h0' r0 (by omega) (fun _ => rfl) k hA hS hX hl hvl (am_Vt hvs) z1 o1 e1
  · obtain ⟨_, _, -, -, -, g4⟩ := (hE.2.2.1.2 3 _ rfl).2
    have ec : cA = G.2.1 3 := Option.some.inj (f1.symm.trans g4)
    subst ec
    exact am_newarr hE h0' r0 (by omega) (fun _ => rfl) k hA hS hX hl hvl (am_Vt hvs) z1 o1 e1
/-- the empty table of lists -/
theorem am_gets (hC : am_OK Z own cc n L mc ms) {idx : Nat} (hw : Cond.fieldLink own idx "java/util/ArrayList" "DEFAULTCAPACITY_EMPTY_ELEMENTDATA" "[Ljava/lang/Object;" ∈ am_TG) (hd : decode cc pc = .ok (.getstatic idx, 3)) (k : am_W Z kc ks (pc + 3) ls (.ref 1 :: st) h) : am_W Z kc ks pc ls st h := by
  obtain ⟨G, p, l, e, R, s, m, args, below, meth, c, h0, ad0, n', Q⟩ := Z
  obtain ⟨rfl, ⟨hx, hb, hml, hown, hts⟩, hlk, hE, htr, hR1, hR2, hR3, hR4⟩ := hC
  refine fun ad H locs lc hA hS hX hl hvl hvs => ?_
  have k9 := k ad H locs lc hA hS hX hl hvl (am_Vc (Or.inr (by rw [hA.1.2.1]; decide)) hvs)
  rw [List.map_cons] at k9
  change W p l e R s m args below meth c H locs kc ks Q (F0 m _ lc (am_rv ad 1 :: _)) at k9
  rw [am_rv_ref (by decide), hA.1.2.2.2.2.1] at k9
  exact va_gets hx hb hE.2.2.2.2.2.1 hS hown (hts _ hw) (fun _ q => q) hd k9
/-- the class object of Object[] -/
theorem am_ldcM (hC : am_OK Z own cc n L mc ms) {idx : Nat} (hw : Cond.classLink own idx "[Ljava/lang/Object;" ∈ am_TG) (hd : decode cc pc = .ok (.ldc idx, 2)) (k : am_W Z kc ks (pc + 2) ls (.ref 2 :: st) h) : am_W Z kc ks pc ls st h := by
  obtain ⟨G, p, l, e, R, s, m, args, below, meth, c, h0, ad0, n', Q⟩ := Z
  obtain ⟨rfl, ⟨hx, hb, hml, hown, hts⟩, hlk, hE, htr, hR1, hR2, hR3, hR4⟩ := hC
  refine fun ad H locs lc hA hS hX hl hvl hvs => ?_
  have k9 := k ad H locs lc hA hS hX hl hvl (am_Vc (Or.inr (by rw [hA.1.2.2.1]; decide)) hvs)
  rw [List.map_cons] at k9
  change W p l e R s m args below meth c H locs kc ks Q (F0 m _ lc (am_rv ad 2 :: _)) at k9
  rw [am_rv_ref (by decide), hA.1.2.2.2.2.2] at k9
  exact va_ldcM hx hb hown (hts _ hw) hE.2.2.2.2.2.2.2.1 hd k9
theorem am_getC (hC : am_OK Z own cc n L mc ms) {idx r : Nat} (hkr : hk_ h r = 12) (hw : Cond.methodLink own idx ⟨"java/lang/Object", "getClass", "()Ljava/lang/Class;"⟩ ∈ am_TG) (hw2 : Cond.declares ⟨"java/lang/Object", "getClass", "()Ljava/lang/Class;"⟩ ∈ am_bw) (hw3 : Cond.selects "[Ljava/lang/Object;" ⟨"java/lang/Object", "getClass", "()Ljava/lang/Class;"⟩ ⟨"java/lang/Object", "getClass", "()Ljava/lang/Class;"⟩ ∈ am_TG) (hw4 : Cond.instanceMethod ⟨"java/lang/Object", "getClass", "()Ljava/lang/Class;"⟩ ∈ am_TG) (hw5 : Cond.native ⟨"java/lang/Object", "getClass", "()Ljava/lang/Class;"⟩ ∈ am_TG) (hL : 1 ≤ L) (hst : st.all am_s1 = true ∧ st.length ≤ 8)
    (hd : decode cc pc = .ok (.invokevirtual idx, 3)) (k : am_W Z kc ks (pc + 3) ls (.ref 2 :: st) h) : am_W Z kc ks pc ls (.ref r :: st) h := by
  obtain ⟨G, p, l, e, R, s, m, args, below, meth, c, h0, ad0, n', Q⟩ := Z
  obtain ⟨rfl, ⟨hx, hb, hml, hown, hts⟩, hlk, hE, htr, hR1, hR2, hR3, hR4⟩ := hC
  refine fun ad H locs lc hA hS hX hl hvl hvs => ?_
  have k9 := k ad H locs lc hA hS hX hl hvl (am_Vc (Or.inr (by rw [hA.1.2.2.1]; decide)) (am_Vt hvs))
  rw [List.map_cons] at k9
  change W p l e R s m args below meth c H locs kc ks Q (F0 m _ lc (am_rv ad 2 :: _)) at k9
  rw [am_rv_ref (by decide), hA.1.2.2.2.2.2] at k9
  obtain ⟨r0, -⟩ := am_own hA hkr (by omega) (by omega)
  have hcat : ((st.map (am_cv ad)).map fun v => v.category).sum ≤ 8 := by
    obtain ⟨g1, g2⟩ := hst
    have : ∀ vs : List Value, vs.all am_s1 = true → ((vs.map (am_cv ad)).map fun v => v.category).sum = vs.length := by
      intro vs
      induction vs with
      | nil => intro _; rfl
      | cons v vs ih =>
        intro hv
        rw [List.all_cons, Bool.and_eq_true] at hv
        rw [List.map_cons, List.map_cons, List.sum_cons, ih hv.2, am_cat ad hv.1, List.length_cons]
        omega
    rw [this st g1]
    exact g2
  change W p l e R s m args below meth c H locs kc ks Q (F0 m pc lc (am_rv ad r :: _))
  rw [am_rv_ref r0]
  exact va_getC hx hb (hml.trans hl.1.symm) hown (hts _ hw) (va_Nw.use rfl (hE.1 _ hw2)) (hts _ hw3) (hts _ hw4) (hts _ hw5) hE.2.2.2.2.2.2.2.1 ⟨_, am_arr (k := 3) hA hkr (by omega), rfl, va_nmO (hE.2.2.1.2 3 _ rfl).2 rfl⟩ (by omega) (by omega) hd k9
end AMN
end
section
/-! ===== methods of the abstract machine: contracts, entries, ends, calls, throws ===== -/
def am_rm (L mc ms : Nat) : Room := { frames := L, cells := mc, slots := ms, locals := 100 * L }
def am_Pc (G : am_G) (h0 : am_H) (ad0 : Nat → Nat) (As : List Value) : Array Value → State → Prop := fun v U => v = (As.map (am_cv ad0)).toArray ∧ am_E G U ∧ am_A G h0 ad0 U.heap ∧ am_Vs h0 As
def am_Qc (G : am_G) (h0 : am_H) (ad0 : Nat → Nat) (P : Option Value → am_H → Prop) : Array Value → State → Outcome → State → Prop := fun _ st o t =>
  ∃ (v : Option Value) (h : am_H) (ad : Nat → Nat), o = .returned (v.map (am_cv ad)) ∧ P v h ∧ am_Vs h v.toList ∧ am_X h0 ad0 h ad ∧ am_A G h ad t.heap ∧ va_F (am_lo G) st t
def am_XC (G : am_G) (h0 : am_H) (ad0 : Nat → Nat) (E : String → am_H → Prop) : String → State → State → Prop := fun x st t =>
  ∃ (h : am_H) (ad : Nat → Nat), E x h ∧ am_X h0 ad0 h ad ∧ am_A G h ad t.heap ∧ va_F (am_lo G) st t
/-- a method's contract: at launch l, over the heap h0, with the arguments As, it returns as P says, or throws as E says -/
def am_Met (G : am_G) (l : Launch) (y : MethodName) (hd : Cond) (L mc ms : Nat) (As : List Value) (h0 : am_H) (P : Option Value → am_H → Prop) (E : String → am_H → Prop) : Prop :=
  ∀ ad0 : Nat → Nat, vx_Met l y (hd :: am_TG) (am_rm L mc ms) (am_Pc G h0 ad0 As) (am_Qc G h0 ad0 P) (am_XC G h0 ad0 E) mc ms (am_lo G)
def am_no : String → am_H → Prop := fun _ _ => False
/-- what a body owes at its end -/
def am_Rt (Z : am_Z) (ret : Option FieldType) (hh : List (Nat × Nat × Nat × Nat)) (P : Option Value → am_H → Prop) (E : String → am_H → Prop) (mc ms : Nat) : Prop := match Z with
  | (G, _, _, _, _, s, _, args, below, meth, c, h0, ad0, _, Q) => meth.sig.returnType = ret ∧ Q = vx_MQ below (am_Qc G h0 ad0 P) (am_XC G h0 ad0 E) args s mc ms (am_lo G) ∧ c.exceptionTable.toList = tableOf hh
theorem am_lv_args : ∀ (vs : List Value) (i k : Nat) (v : Value), (∀ w ∈ vs, w.category = 1) → vs[k]? = some v → (i + k, v) ∈ lv_args i vs
  | [], _, _, _, _, h => by simp at h
  | w :: ws, i, k, v, hc, h => by
    have hw : w.category = 1 := hc w List.mem_cons_self
    unfold lv_args
    rw [if_neg (by omega)]
    cases k with
    | zero =>
      simp at h
      rw [h]
      exact List.mem_cons_self
    | succ k =>
      refine List.mem_cons_of_mem _ ?_
      have := am_lv_args ws (i + 1) k v (fun x hx => hc x (List.mem_cons_of_mem _ hx)) (by simpa using h)
      rw [show i + (k + 1) = i + 1 + k by omega]
      exact this
theorem am_lg_len : ∀ (vs : List Value), (∀ w ∈ vs, w.category = 1) → (lg_sl vs).length = vs.length
  | [], _ => rfl
  | w :: ws, hc => by
    have hw : w.category = 1 := hc w List.mem_cons_self
    show (List.flatMap _ (w :: ws)).length = _
    rw [List.flatMap_cons, if_neg (by omega), List.length_append, List.length_cons]
    have := am_lg_len ws (fun x hx => hc x (List.mem_cons_of_mem _ hx))
    unfold lg_sl at this
    rw [this]
    simp
    omega
theorem am_cat1 {ad : Nat → Nat} {As : List Value} (h : As.all am_s1 = true) : ∀ w ∈ As.map (am_cv ad), w.category = 1 := by
  intro w hw
  obtain ⟨v, hv, rfl⟩ := List.mem_map.mp hw
  exact am_cat ad (List.all_eq_true.mp h v hv)
theorem am_L_entry {ad : Nat → Nat} {As : List Value} {n : Nat} (h : As.all am_s1 = true) (hn : As.length ≤ n) : am_L ad n (As ++ List.replicate (n - As.length) .null) ((lg_sl (As.map (am_cv ad)) ++ List.replicate (n - (lg_sl (As.map (am_cv ad))).length) Slot.unset).toArray) := by
  have hc := am_cat1 (ad := ad) h
  have hl := am_lg_len _ hc
  refine am_L_to (lv_entry (As.map (am_cv ad)) (n := n) (by rw [hl, List.length_map]; exact hn)) (fun i v hi hv => ?_)
  have hlt : i < As.length := by
    rcases Nat.lt_or_ge i As.length with q | q
    · exact q
    · rw [List.getElem?_append_right q] at hi
      have := List.mem_of_getElem? hi
      rw [List.eq_of_mem_replicate this] at hv
      cases hv
  rw [List.getElem?_append_left hlt] at hi
  have := am_lv_args (As.map (am_cv ad)) 0 i (am_cv ad v) hc (by rw [List.getElem?_map, hi]; rfl)
  rw [Nat.zero_add] at this
  exact this
theorem am_Vs_entry {h : am_H} {As : List Value} {k : Nat} (hv : am_Vs h As) : am_Vs h (As ++ List.replicate k .null) := by
  intro v hm
  rcases List.mem_append.mp hm with q | q
  · exact hv v q
  · rw [List.eq_of_mem_replicate q]
    trivial
theorem am_body {G : am_G} {l : Launch} {y : MethodName} {ws : List Cond} {cc : ByteArray} {n L mc ms : Nat} {ret : Option FieldType} {hh : List (Nat × Nat × Nat × Nat)} {As : List Value} {h0 : am_H} {ad0 : Nat → Nat} {P : Option Value → am_H → Prop} {E : String → am_H → Prop} (htr : l.stackTraces = false) (hAs : As.all am_s1 = true) (hn : As.length ≤ n) (hws : ∀ w ∈ am_TG, w ∈ ws)
    (body : ∀ Z : am_Z, am_OK Z y.cls cc n L mc ms → am_Rt Z ret hh P E mc ms → (y.name = "<init>" → am_In Z) → am_W Z 0 0 0 (As ++ List.replicate (n - As.length) .null) [] h0)
    {p : Program} {e : Env} {s : State} {m : MethodId} {args : Array Value} {below : List Frame} {meth : Method} {c : Code} {s₁ : State} (B : BodyLoose p l y (headSpec ws (am_rm L mc ms)) cc n ret e s m args below meth c s₁) (hml : c.maxLocals = n) (htb : c.exceptionTable.toList = tableOf hh) (hP : am_Pc G h0 ad0 As args s) :
    W p l e (headSpec ws (am_rm L mc ms)).room s m args below meth c s.heap [] 0 0 (vx_MQ below (am_Qc G h0 ad0 P) (am_XC G h0 ad0 E) args s mc ms (am_lo G)) (entryFrame m args n) := by
  obtain ⟨rfl, hE, hA, hV⟩ := hP
  have hts : ∀ w ∈ am_TG, w.before (As.map (am_cv ad0)).toArray s = true := fun w hw => atoms_spec (ws := ws) B.pre w (hws w hw)
  rw [lg_entry_eq]
  exact body (G, p, l, e, am_rm L mc ms, s, m, (As.map (am_cv ad0)).toArray, below, meth, c, h0, ad0, n, vx_MQ below (am_Qc G h0 ad0 P) (am_XC G h0 ad0 E) (As.map (am_cv ad0)).toArray s mc ms (am_lo G))
    ⟨rfl, ⟨B.exec, B.bytes, hml, findClass_of_methodNamed B.named, hts⟩, B.notSynchronized, hE, htr, Nat.le_refl _, Nat.le_refl _, Nat.le_refl _, Nat.le_refl _⟩ ⟨B.returns, rfl, htb⟩ (fun e => ((name_of_methodNamed B.named B.method).1).trans e) ad0 s.heap [] _ hA va_S.rf (am_X_rf _ _) (am_L_entry hAs hn) (am_Vs_entry hV) (fun _ h => nomatch h)
theorem am_intro {G : am_G} {l : Launch} {y : MethodName} {cc : ByteArray} {n L mc ms : Nat} {ret : Option FieldType} {As : List Value} {h0 : am_H} {P : Option Value → am_H → Prop} {E : String → am_H → Prop} (hy : plainFor y = true) (htr : l.stackTraces = false) (hAs : As.all am_s1 = true) (hn : As.length ≤ n)
    (body : ∀ Z : am_Z, am_OK Z y.cls cc n L mc ms → am_Rt Z ret [] P E mc ms → (y.name = "<init>" → am_In Z) → am_W Z 0 0 0 (As ++ List.replicate (n - As.length) .null) [] h0) : am_Met G l y (.code y cc n ret) L mc ms As h0 P E := by
  intro ad0
  refine MetFree.of_bodySF (code := cc) (maxLocals := n) (ret := ret) hy ?_ ?_
  · intro args s m h hn
    obtain ⟨meth, c, h1, h2, h3, h4, h5, h6, -, -⟩ := Cond.code_spec hn (atoms_spec (ws := Cond.code y cc n ret :: am_TG) h _ List.mem_cons_self)
    exact ⟨meth, c, h1, h2, h3, h4, h5, h6⟩
  · intro p e s m args below meth c s₁ B hml hP _
    have hh0 : s₁.heap = s.heap := by rw [B.state]; rfl
    have ht : c.exceptionTable.toList = tableOf [] := by
      obtain ⟨meth9, c9, h1, h2, -, -, -, -, h7, -⟩ := Cond.code_spec B.named (atoms_spec (ws := Cond.code y cc n ret :: am_TG) B.pre _ List.mem_cons_self)
      cases Option.some.inj (h1.symm.trans B.method)
      cases Option.some.inj (h2.symm.trans (Stand.of_body B).code)
      rw [Array.isEmpty_iff.mp h7]
      rfl
    obtain ⟨t, a1, o, b1, b2, b3⟩ := am_body htr hAs hn (fun w hw => List.mem_cons_of_mem _ hw) body B hml ht hP s₁ hh0 (Stand.of_body B)
    exact ⟨t, o, a1, b1, b2, b3⟩
theorem am_introW {G : am_G} {l : Launch} {y : MethodName} {cc : ByteArray} {n L mc ms : Nat} {ret : Option FieldType} {hh : List (Nat × Nat × Nat × Nat)} {As : List Value} {h0 : am_H} {P : Option Value → am_H → Prop} {E : String → am_H → Prop} (hy : plainName y.cls = true) (htr : l.stackTraces = false) (hAs : As.all am_s1 = true) (hn : As.length ≤ n)
    (body : ∀ Z : am_Z, am_OK Z y.cls cc n L mc ms → am_Rt Z ret hh P E mc ms → (y.name = "<init>" → am_In Z) → am_W Z 0 0 0 (As ++ List.replicate (n - As.length) .null) [] h0) : am_Met G l y (.codeWith y cc n ret hh) L mc ms As h0 P E := by
  intro ad0
  refine vx_ofWH (hh := hh) (cc := cc) (maxL := n) (ret := ret) hy rfl ?_
  intro p e s m args below meth c s₁ B hml hP
  exact am_body htr hAs hn (fun w hw => List.mem_cons_of_mem _ hw) body B hml (vx_table (x := y) B (atoms_spec (ws := Cond.codeWith y cc n ret hh :: am_TG) B.pre _ List.mem_cons_self)) hP
end
section
/-! ===== BEGIN a constructor that throws (launches without stack traces) ===== -/
section VXIA
variable {p : Program} {l : Launch} {e : Env} {R : Room} {s : State} {m : MethodId} {args : Array Value} {below : List Frame} {meth : Method} {c : Code} {T : State} {locs : List Loc} {cells slots : Nat}
theorem vx_callI (X : Stand p l e R s m args below meth c T locs cells slots) (hexec : p.tables.exec = Jvm.exec) {own : String} {index : Nat} {y : MethodName} {bytes : ByteArray} {maxL : Nat}
    (hown : s.vm.findClass own = some m.cls) (hy1 : y.name = "<init>") (hlink : (Cond.methodLink own index y).before args s = true) (hinst : (Cond.instanceMethod y).before args s = true)
    (hcode : (Cond.code y bytes maxL none).before args s = true) (hy : y.cls ≠ "java/lang/invoke/MethodHandle" ∧ y.cls ≠ "java/lang/invoke/VarHandle")
    {W9 : Nat} {Pre : Pt → Array Value → Prop} {Post : Pt → Array Value → Option Value → Pt → Prop} {PostX : Pt → Array Value → Addr → Pt → Prop} (hK : vx_Back l R p e below s args y 3 W9 Pre Post PostX)
    {g : JFrame} (hg : g.method = m) (hsize : g.locals.size = c.maxLocals) {a : Addr} {argsL rest : List Value} (hlen : ∀ sig, parseMethodDescriptor y.desc = some sig → argsL.length = sig.parameters.length)
    (hstack : g.stack = argsL.reverse ++ .ref a :: rest) (hW : 2 * g.monitorRoom + (rest.map fun v => v.category).sum ≤ W9) (hdg : decode c.code g.pc = .ok (.invokespecial index, 3))
    (hpre : ∀ vm₁, s.WarmedH vm₁ → Pre ⟨T.setVm vm₁, locs, cells, slots⟩ (Value.ref a :: argsL).toArray) :
    (∃ (v : Option Value) (vm₁ : Vm) (B : Pt), s.WarmedH vm₁ ∧ Stand p l e R s m args below meth c B.U B.locs B.cells B.slots ∧ Post ⟨T.setVm vm₁, locs, cells, slots⟩ (Value.ref a :: argsL).toArray v B ∧
      ∀ target, Steps p.tables e below (B.U.setTop { g with pc := g.pc + 3, stack := v.toList ++ rest }) target → Steps p.tables e below (T.setTop g) target) ∨
    (∃ (q : Addr) (vm₁ : Vm) (B : Pt), s.WarmedH vm₁ ∧ Stand p l e R s m args below meth c B.U B.locs B.cells B.slots ∧ PostX ⟨T.setVm vm₁, locs, cells, slots⟩ (Value.ref a :: argsL).toArray q B ∧
      Steps p.tables e below (T.setTop g) ((B.U.setTop { g with stack := rest }).pushFrame (.throwing q))) := by
  subst hg
  have hpl : e.platform.magicAccessors = ({} : Platform).magicAccessors := by rw [X.admits.platform]
  obtain ⟨mk, methM, cM, kP, vm₁, hnamed, hmethM, hcodeM, -, hlocalsM, -, hkP, -, hW₁, hstep₁⟩ := Steps.initColdArgs (e := e) X.here hexec X.warmed hpl hown hy1 hy hlink hinst hcode (f := g) rfl hlen hstack hdg
  have X₁ := X.noted hW₁
  rcases hK g.method meth c ⟨T.setVm vm₁, locs, cells, slots⟩ { g with stack := rest } (.invokespecial index) mk (Value.ref a :: argsL).toArray X₁ rfl hsize hdg hW (X₁.named hnamed) (hpre vm₁ X₁.warmed) with ⟨v, B, X', hpost, hsteps⟩ | ⟨q, B, X', hpost, hsteps⟩
  · exact Or.inl ⟨v, vm₁, B, X₁.warmed, X', hpost, fun target h => hstep₁ _ fun acts => by rw [doInvoke_state]; exact hsteps.trans h⟩
  · exact Or.inr ⟨q, vm₁, B, X₁.warmed, X', hpost, hstep₁ _ fun acts => by rw [doInvoke_state]; exact hsteps⟩
end VXIA
section VXIB
variable {p : Program} {l : Launch} {e : Env} {R : Room} {s : State} {m : MethodId} {args : Array Value} {below : List Frame} {meth : Method} {c : Code} {H : Heap} {locs : List Loc} {cells slots : Nat}
variable {y : MethodName} {bytes cc : ByteArray} {maxL nL mc ms n index : Nat} {ret : Option FieldType} {ws : List Cond} {rm : Room} {Pc : Array Value → State → Prop} {Qc : Array Value → State → Outcome → State → Prop} {XC : String → State → State → Prop} {free : Addr → Prop} {Ts : List Cond} {own C : String} {b : Addr} {As rest : List Value} {g : JFrame}
theorem vx_runI (S : CallFix p m c cc nL s args Ts own) (hM : vx_Met l y ws rm Pc Qc XC mc ms free) (cw : CallB R s args own index y bytes maxL none ws rm mc ms n ∧ y.name = "<init>" ∧ (Cond.instanceMethod y).before args s = true) (hp : PreS s H Pc (.ref b :: As))
    (hg : g.method = m) (hn : As.length = n) (hsize : g.locals.size = nL) (hstack : g.stack = As.reverse ++ .ref b :: rest) (hW : 2 * g.monitorRoom + (rest.map fun v => v.category).sum ≤ 8) (hdg : decode cc g.pc = .ok (.invokespecial index, 3)) (hf : cells + mc ≤ R.cells ∧ slots + ms ≤ R.slots) :
    vx_Run p l e R s m args below meth c H locs cells slots mc ms g rest (Qc (Value.ref b :: As).toArray) XC free := by
  have hK : vx_Back l R p e below s args y 3 8 (PreOf R mc ms Pc) (PostOf Qc mc ms free) (vx_Post XC mc ms free) := vx_callBack cw.1 hM hp.1
  obtain ⟨⟨-, -, -, -, -, -, hcode, -, hy, hlen, hl⟩, hy1, hin⟩ := cw
  obtain ⟨hx, hb, hml, ho, -⟩ := S
  have hPc := hp.2
  intro T hT X
  rcases vx_callI X hx (bytes := bytes) (maxL := maxL) ho hy1 hl hin hcode hy hK hg (hsize.trans hml.symm) (a := b) (argsL := As) (rest := rest) (fun sig h => hn.trans (hlen sig h)) hstack hW (by rw [hb]; exact hdg)
    (fun vm₁ hW₁ => ⟨hf.1, hf.2, hPc (T.setVm vm₁) hT hW₁⟩) with ⟨v, vm₁, ⟨U', l2, c2, s2⟩, hW₁, X', ⟨g', mk, t, L, e1, e2, hq, h1, hL, h2, h3⟩, st⟩ | ⟨q, vm₁, ⟨U', l2, c2, s2⟩, hW₁, X', ⟨g', mk, t, L, E, ce, e1, e2, hq, hce, hcv, hcl, h1, hL, h2, h3⟩, st⟩
  · dsimp only [Pt.U, Pt.locs, Pt.cells, Pt.slots] at X' e1 e2 h1 h2 h3 st
    subst h1; subst h2; subst h3
    exact Or.inl ⟨v, (T.setVm vm₁).calling g' mk (Value.ref b :: As).toArray, t, U', L, hT, X', hL, e1, e2, hq, st⟩
  · dsimp only [Pt.U, Pt.locs, Pt.cells, Pt.slots] at X' e1 e2 h1 h2 h3 st hcl
    subst h1; subst h2; subst h3
    exact Or.inr ⟨q, (T.setVm vm₁).calling g' mk (Value.ref b :: As).toArray, t, U', L, E, ce, hT, X', hL, e1, e2, hq, hce, hcv, vx_cls hW₁ hcl, st⟩
end VXIB
/-! ===== END ===== -/
/-! ===== BEGIN a private constructor of a nest mate that throws ===== -/
section VXIC
variable {p : Program} {l : Launch} {e : Env} {R : Room} {s : State} {m : MethodId} {args : Array Value} {below : List Frame} {meth : Method} {c : Code} {T : State} {locs : List Loc} {cells slots : Nat}
theorem vx_callIN (X : Stand p l e R s m args below meth c T locs cells slots) (hexec : p.tables.exec = Jvm.exec) {own : String} {index : Nat} {host : String} {y : MethodName} {bytes : ByteArray} {maxL : Nat}
    (hown : s.vm.findClass own = some m.cls) (hy1 : y.name = "<init>") (hlink : (Cond.methodLinkNest own index y host).before args s = true) (hinst : (Cond.instanceMethod y).before args s = true)
    (hcode : (Cond.code y bytes maxL none).before args s = true) (hy : y.cls ≠ "java/lang/invoke/MethodHandle" ∧ y.cls ≠ "java/lang/invoke/VarHandle")
    {W9 : Nat} {Pre : Pt → Array Value → Prop} {Post : Pt → Array Value → Option Value → Pt → Prop} {PostX : Pt → Array Value → Addr → Pt → Prop} (hK : vx_Back l R p e below s args y 3 W9 Pre Post PostX)
    {g : JFrame} (hg : g.method = m) (hsize : g.locals.size = c.maxLocals) {a : Addr} {argsL rest : List Value} (hlen : ∀ sig, parseMethodDescriptor y.desc = some sig → argsL.length = sig.parameters.length)
    (hstack : g.stack = argsL.reverse ++ .ref a :: rest) (hW : 2 * g.monitorRoom + (rest.map fun v => v.category).sum ≤ W9) (hdg : decode c.code g.pc = .ok (.invokespecial index, 3))
    (hpre : ∀ vm₁, s.WarmedH vm₁ → Pre ⟨T.setVm vm₁, locs, cells, slots⟩ (Value.ref a :: argsL).toArray) :
    (∃ (v : Option Value) (vm₁ : Vm) (B : Pt), s.WarmedH vm₁ ∧ Stand p l e R s m args below meth c B.U B.locs B.cells B.slots ∧ Post ⟨T.setVm vm₁, locs, cells, slots⟩ (Value.ref a :: argsL).toArray v B ∧
      ∀ target, Steps p.tables e below (B.U.setTop { g with pc := g.pc + 3, stack := v.toList ++ rest }) target → Steps p.tables e below (T.setTop g) target) ∨
    (∃ (q : Addr) (vm₁ : Vm) (B : Pt), s.WarmedH vm₁ ∧ Stand p l e R s m args below meth c B.U B.locs B.cells B.slots ∧ PostX ⟨T.setVm vm₁, locs, cells, slots⟩ (Value.ref a :: argsL).toArray q B ∧
      Steps p.tables e below (T.setTop g) ((B.U.setTop { g with stack := rest }).pushFrame (.throwing q))) := by
  subst hg
  have hpl : e.platform.magicAccessors = ({} : Platform).magicAccessors := by rw [X.admits.platform]
  obtain ⟨mk, methM, cM, kP, vm₁, hnamed, hmethM, hcodeM, -, hlocalsM, -, hkP, -, hW₁, hstep₁⟩ := Steps.initColdArgsNest (e := e) X.here hexec X.warmed hpl hown hy1 hy hlink hinst hcode (f := g) rfl hlen hstack hdg
  have X₁ := X.noted hW₁
  rcases hK g.method meth c ⟨T.setVm vm₁, locs, cells, slots⟩ { g with stack := rest } (.invokespecial index) mk (Value.ref a :: argsL).toArray X₁ rfl hsize hdg hW (X₁.named hnamed) (hpre vm₁ X₁.warmed) with ⟨v, B, X', hpost, hsteps⟩ | ⟨q, B, X', hpost, hsteps⟩
  · exact Or.inl ⟨v, vm₁, B, X₁.warmed, X', hpost, fun target h => hstep₁ _ fun acts => by rw [doInvoke_state]; exact hsteps.trans h⟩
  · exact Or.inr ⟨q, vm₁, B, X₁.warmed, X', hpost, hstep₁ _ fun acts => by rw [doInvoke_state]; exact hsteps⟩
end VXIC
section VXID
variable {p : Program} {l : Launch} {e : Env} {R : Room} {s : State} {m : MethodId} {args : Array Value} {below : List Frame} {meth : Method} {c : Code} {H : Heap} {locs : List Loc} {cells slots : Nat}
theorem vx_runIN {y : MethodName} {bytes cc : ByteArray} {maxL nL mc ms n index : Nat} {ws : List Cond} {rm : Room} {Pc : Array Value → State → Prop} {Qc : Array Value → State → Outcome → State → Prop} {XC : String → State → State → Prop} {free : Addr → Prop} {Ts : List Cond} {own host : String} {b : Addr} {As rest : List Value} {g : JFrame}
    (S : CallFix p m c cc nL s args Ts own) (hM : vx_Met l y ws rm Pc Qc XC mc ms free) (cw : va_CN R s args own index y host bytes maxL none ws rm mc ms n ∧ y.name = "<init>" ∧ (Cond.instanceMethod y).before args s = true) (hp : PreS s H Pc (.ref b :: As))
    (hg : g.method = m) (hn : As.length = n) (hsize : g.locals.size = nL) (hstack : g.stack = As.reverse ++ .ref b :: rest) (hW : 2 * g.monitorRoom + (rest.map fun v => v.category).sum ≤ 8) (hdg : decode cc g.pc = .ok (.invokespecial index, 3)) (hf : cells + mc ≤ R.cells ∧ slots + ms ≤ R.slots) :
    vx_Run p l e R s m args below meth c H locs cells slots mc ms g rest (Qc (Value.ref b :: As).toArray) XC free := by
  obtain ⟨⟨⟨hrc, hrs, hfr, hlo, hws, hcw⟩, hcode, hini, hy, hlen, hl⟩, hx1, hx2⟩ := cw
  have hK : vx_Back l R p e below s args y 3 8 (PreOf R mc ms Pc) (PostOf Qc mc ms free) (vx_Post XC mc ms free) := vx_back (bytes := bytes) (maxL := maxL) (ret := none) hM hp.1 hrc hrs hfr hlo hws hcw (fun a' U hW => word_at hW (Or.inl (by first | rfl | simp [Cond.onTables, Cond.keeps, Cond.steady])) hini)
  obtain ⟨hx, hb, hml, ho, -⟩ := S
  have hPc := hp.2
  intro T hT X
  rcases vx_callIN X hx (bytes := bytes) (maxL := maxL) ho hx1 hl hx2 hcode hy hK hg (hsize.trans hml.symm) (a := b) (argsL := As) (rest := rest) (fun sig h => hn.trans (hlen sig h)) hstack hW (by rw [hb]; exact hdg)
    (fun vm₁ hW₁ => ⟨hf.1, hf.2, hPc (T.setVm vm₁) hT hW₁⟩) with ⟨v, vm₁, ⟨U', l2, c2, s2⟩, hW₁, X', ⟨g', mk, t, L, e1, e2, hq, h1, hL, h2, h3⟩, st⟩ | ⟨q, vm₁, ⟨U', l2, c2, s2⟩, hW₁, X', ⟨g', mk, t, L, E, ce, e1, e2, hq, hce, hcv, hcl, h1, hL, h2, h3⟩, st⟩
  · dsimp only [Pt.U, Pt.locs, Pt.cells, Pt.slots] at X' e1 e2 h1 h2 h3 st
    subst h1; subst h2; subst h3
    exact Or.inl ⟨v, (T.setVm vm₁).calling g' mk (Value.ref b :: As).toArray, t, U', L, hT, X', hL, e1, e2, hq, st⟩
  · dsimp only [Pt.U, Pt.locs, Pt.cells, Pt.slots] at X' e1 e2 h1 h2 h3 st hcl
    subst h1; subst h2; subst h3
    exact Or.inr ⟨q, (T.setVm vm₁).calling g' mk (Value.ref b :: As).toArray, t, U', L, E, ce, hT, X', hL, e1, e2, hq, hce, hcv, vx_cls hW₁ hcl, st⟩
end VXID
/-! ===== END ===== -/
/-! ===== BEGIN a private method of a nest mate that may throw (follows va_callVN, va_callSN, va_runVN, va_runSN) ===== -/
section
variable {p : Program} {l : Launch} {e : Env} {R : Room} {s : State} {m : MethodId} {args : Array Value} {below : List Frame} {meth : Method} {c : Code} {H : Heap} {locs : List Loc} {cells slots : Nat}
variable {T : State}
theorem vx_callVN (X : Stand p l e R s m args below meth c T locs cells slots) (hexec : p.tables.exec = Jvm.exec) {own C : String} {index : Nat} {host : String} {y : MethodName} {bytes : ByteArray} {maxL : Nat} {ret : Option FieldType}
    (hown : s.vm.findClass own = some m.cls) (hlink : (Cond.methodLinkNest own index y host).before args s = true) (hinst : (Cond.instanceMethod y).before args s = true) (hsel : (Cond.selects C y y).before args s = true)
    (hcode : (Cond.code y bytes maxL ret).before args s = true) (hy : y.cls ≠ "java/lang/invoke/MethodHandle" ∧ y.cls ≠ "java/lang/invoke/VarHandle")
    {W : Nat} {Pre : Pt → Array Value → Prop} {Post : Pt → Array Value → Option Value → Pt → Prop} {PostX : Pt → Array Value → Addr → Pt → Prop} (hK : vx_Back l R p e below s args y 3 W Pre Post PostX)
    {b : Addr} {cellB : Cell} (hcell : T.heap[b]? = some cellB) (hobj : cellB.vm.isStatics = false) (hcls : s.vm.findClass C = some cellB.cls)
    {g : JFrame} (hg : g.method = m) (hsize : g.locals.size = c.maxLocals) {argsL rest : List Value} (hlen : ∀ sig, parseMethodDescriptor y.desc = some sig → argsL.length = sig.parameters.length)
    (hstack : g.stack = argsL.reverse ++ .ref b :: rest) (hW : 2 * g.monitorRoom + (rest.map fun v => v.category).sum ≤ W) (hdg : decode c.code g.pc = .ok (.invokevirtual index, 3))
    (hpre : ∀ vm₁, s.WarmedH vm₁ → Pre ⟨T.setVm vm₁, locs, cells, slots⟩ (Value.ref b :: argsL).toArray) :
    (∃ (v : Option Value) (vm₁ : Vm) (B : Pt), s.WarmedH vm₁ ∧ Stand p l e R s m args below meth c B.U B.locs B.cells B.slots ∧ Post ⟨T.setVm vm₁, locs, cells, slots⟩ (Value.ref b :: argsL).toArray v B ∧
      ∀ target, Steps p.tables e below (B.U.setTop { g with pc := g.pc + 3, stack := v.toList ++ rest }) target → Steps p.tables e below (T.setTop g) target) ∨
    (∃ (q : Addr) (vm₁ : Vm) (B : Pt), s.WarmedH vm₁ ∧ Stand p l e R s m args below meth c B.U B.locs B.cells B.slots ∧ PostX ⟨T.setVm vm₁, locs, cells, slots⟩ (Value.ref b :: argsL).toArray q B ∧
      Steps p.tables e below (T.setTop g) ((B.U.setTop { g with stack := rest }).pushFrame (.throwing q))) := by
  obtain ⟨mk, methM, hnamed, hmethM, hstM, habM⟩ := Cond.instanceMethod_spec hinst
  obtain ⟨methM', cM, hmethM', -, -, -, -, -, -, hsigM⟩ := Cond.code_spec hnamed hcode
  cases hmethM.symm.trans hmethM'
  obtain ⟨c2, r2, m2, q1, q2, q3, q4, kP, hkP, hkPi⟩ := Cond.selects_spec hsel
  cases hcls.symm.trans q1
  cases (State.methodFound?_of_named hnamed hy).symm.trans q2
  cases hnamed.symm.trans q3
  have hselP : selectMethod e.platform s.vm cellB.cls mk = .method mk := by rw [Launch.admits_selectMethod X.admits]; exact q4
  obtain ⟨vm₁, X₁, hstep₁⟩ := X.invokevirtualNest hexec hown hlink hnamed hmethM hstM hkP hkPi hy (a := b) (cell := cellB) hcell
    (fun z h => by rw [h] at hobj; cases hobj) hselP hmethM habM hkP hkPi (g := g) hg (argsL := argsL) (rest := rest) (hlen _ hsigM) hstack hdg
  rcases hK m meth c ⟨T.setVm vm₁, locs, cells, slots⟩ { g with stack := rest } (.invokevirtual index) mk (Value.ref b :: argsL).toArray X₁ hg hsize hdg hW (X₁.named hnamed) (hpre vm₁ X₁.warmed) with ⟨v, B, X', hpost, hsteps⟩ | ⟨q, B, X', hpost, hsteps⟩
  · exact Or.inl ⟨v, vm₁, B, X₁.warmed, X', hpost, fun target h => hstep₁ _ fun acts => by rw [doInvoke_state]; exact hsteps.trans h⟩
  · exact Or.inr ⟨q, vm₁, B, X₁.warmed, X', hpost, hstep₁ _ fun acts => by rw [doInvoke_state]; exact hsteps⟩
theorem vx_callSN (X : Stand p l e R s m args below meth c T locs cells slots) (hexec : p.tables.exec = Jvm.exec) {own : String} {index : Nat} {host : String} {y : MethodName} {bytes : ByteArray} {maxL : Nat} {ret : Option FieldType}
    (hown : s.vm.findClass own = some m.cls) (hlink : (Cond.methodLinkNest own index y host).before args s = true) (hstat : (Cond.static y).before args s = true) (hinit : (Cond.initialized y.cls).before args s = true)
    (hcode : (Cond.code y bytes maxL ret).before args s = true) (hy : y.cls ≠ "java/lang/invoke/MethodHandle" ∧ y.cls ≠ "java/lang/invoke/VarHandle")
    {W : Nat} {Pre : Pt → Array Value → Prop} {Post : Pt → Array Value → Option Value → Pt → Prop} {PostX : Pt → Array Value → Addr → Pt → Prop} (hK : vx_Back l R p e below s args y 3 W Pre Post PostX)
    {g : JFrame} (hg : g.method = m) (hsize : g.locals.size = c.maxLocals) {argsL rest : List Value} (hlen : ∀ sig, parseMethodDescriptor y.desc = some sig → argsL.length = sig.parameters.length)
    (hstack : g.stack = argsL.reverse ++ rest) (hW : 2 * g.monitorRoom + (rest.map fun v => v.category).sum ≤ W) (hdg : decode c.code g.pc = .ok (.invokestatic index, 3))
    (hpre : ∀ vm₁, s.WarmedH vm₁ → Pre ⟨T.setVm vm₁, locs, cells, slots⟩ argsL.toArray) :
    (∃ (v : Option Value) (vm₁ : Vm) (B : Pt), s.WarmedH vm₁ ∧ Stand p l e R s m args below meth c B.U B.locs B.cells B.slots ∧ Post ⟨T.setVm vm₁, locs, cells, slots⟩ argsL.toArray v B ∧
      ∀ target, Steps p.tables e below (B.U.setTop { g with pc := g.pc + 3, stack := v.toList ++ rest }) target → Steps p.tables e below (T.setTop g) target) ∨
    (∃ (q : Addr) (vm₁ : Vm) (B : Pt), s.WarmedH vm₁ ∧ Stand p l e R s m args below meth c B.U B.locs B.cells B.slots ∧ PostX ⟨T.setVm vm₁, locs, cells, slots⟩ argsL.toArray q B ∧
      Steps p.tables e below (T.setTop g) ((B.U.setTop { g with stack := rest }).pushFrame (.throwing q))) := by
  obtain ⟨mk, hnamed⟩ := Cond.code_named hcode
  obtain ⟨methM, cM, hmethM, -, -, -, -, -, -, hsigM⟩ := Cond.code_spec hnamed hcode
  have hstatic : methM.isStatic = true := Cond.static_spec hnamed hmethM hstat
  obtain ⟨kP, hkP, -⟩ := className_of_methodNamed hnamed
  have hinitP : kP.init = .initialized := Cond.initialized_spec (findClass_of_methodNamed hnamed) hkP hinit
  obtain ⟨vm₁, X₁, hstep₁⟩ := X.invokestaticNest hexec hown hlink hnamed hmethM hstatic hkP hinitP hy (g := g) hg (argsL := argsL) (rest := rest) (hlen _ hsigM) hstack hdg
  rcases hK m meth c ⟨T.setVm vm₁, locs, cells, slots⟩ { g with stack := rest } (.invokestatic index) mk argsL.toArray X₁ hg hsize hdg hW (X₁.named hnamed) (hpre vm₁ X₁.warmed) with ⟨v, B, X', hpost, hsteps⟩ | ⟨q, B, X', hpost, hsteps⟩
  · exact Or.inl ⟨v, vm₁, B, X₁.warmed, X', hpost, fun target h => hstep₁ _ fun acts => by rw [doInvoke_state]; exact hsteps.trans h⟩
  · exact Or.inr ⟨q, vm₁, B, X₁.warmed, X', hpost, hstep₁ _ fun acts => by rw [doInvoke_state]; exact hsteps⟩
theorem vx_runVN {y : MethodName} {bytes cc : ByteArray} {maxL nL mc ms n index : Nat} {ret : Option FieldType} {ws : List Cond} {rm : Room} {Pc : Array Value → State → Prop} {Qc : Array Value → State → Outcome → State → Prop} {XC : String → State → State → Prop} {free : Addr → Prop} {Ts : List Cond} {own C host : String} {b : Addr} {As rest : List Value} {g : JFrame}
    (S : CallFix p m c cc nL s args Ts own) (hM : vx_Met l y ws rm Pc Qc XC mc ms free) (cw : va_CN R s args own index y host bytes maxL ret ws rm mc ms n ∧ (Cond.instanceMethod y).before args s = true ∧ (Cond.selects C y y).before args s = true) (hp : PreV s H C b Pc As)
    (hg : g.method = m) (hn : As.length = n) (hsize : g.locals.size = nL) (hstack : g.stack = As.reverse ++ .ref b :: rest) (hW : 2 * g.monitorRoom + (rest.map fun v => v.category).sum ≤ 8) (hdg : decode cc g.pc = .ok (.invokevirtual index, 3)) (hf : cells + mc ≤ R.cells ∧ slots + ms ≤ R.slots) :
    vx_Run p l e R s m args below meth c H locs cells slots mc ms g rest (Qc (Value.ref b :: As).toArray) XC free := by
  obtain ⟨⟨⟨hrc, hrs, hfr, hlo, hws, hcw⟩, hcode, hini, hy, hlen, hl⟩, hx1, hx2⟩ := cw
  have hK : vx_Back l R p e below s args y 3 8 (PreOf R mc ms Pc) (PostOf Qc mc ms free) (vx_Post XC mc ms free) := vx_back (bytes := bytes) (maxL := maxL) (ret := ret) hM hp.1 hrc hrs hfr hlo hws hcw (fun a' U hW => word_at hW (Or.inl (by first | rfl | simp [Cond.onTables, Cond.keeps, Cond.steady])) hini)
  obtain ⟨hx, hb, hml, ho, -⟩ := S
  obtain ⟨-, ⟨cellB, hcB, hoB, hclB⟩, hPc⟩ := hp
  intro T hT X
  rcases vx_callVN X hx (C := C) (bytes := bytes) (maxL := maxL) (ret := ret) ho hl hx1 hx2 hcode hy hK (by rw [hT]; exact hcB) hoB hclB hg (hsize.trans hml.symm) (argsL := As) (rest := rest) (fun sig h => hn.trans (hlen sig h)) hstack hW (by rw [hb]; exact hdg)
    (fun vm₁ hW₁ => ⟨hf.1, hf.2, hPc (T.setVm vm₁) hT hW₁⟩) with ⟨v, vm₁, ⟨U', l2, c2, s2⟩, hW₁, X', ⟨g', mk, t, L, e1, e2, hq, h1, hL, h2, h3⟩, st⟩ | ⟨q, vm₁, ⟨U', l2, c2, s2⟩, hW₁, X', ⟨g', mk, t, L, E, ce, e1, e2, hq, hce, hcv, hcl, h1, hL, h2, h3⟩, st⟩
  · dsimp only [Pt.U, Pt.locs, Pt.cells, Pt.slots] at X' e1 e2 h1 h2 h3 st
    subst h1; subst h2; subst h3
    exact Or.inl ⟨v, (T.setVm vm₁).calling g' mk (Value.ref b :: As).toArray, t, U', L, hT, X', hL, e1, e2, hq, st⟩
  · dsimp only [Pt.U, Pt.locs, Pt.cells, Pt.slots] at X' e1 e2 h1 h2 h3 st hcl
    subst h1; subst h2; subst h3
    exact Or.inr ⟨q, (T.setVm vm₁).calling g' mk (Value.ref b :: As).toArray, t, U', L, E, ce, hT, X', hL, e1, e2, hq, hce, hcv, vx_cls hW₁ hcl, st⟩
theorem vx_runSN {y : MethodName} {bytes cc : ByteArray} {maxL nL mc ms n index : Nat} {ret : Option FieldType} {ws : List Cond} {rm : Room} {Pc : Array Value → State → Prop} {Qc : Array Value → State → Outcome → State → Prop} {XC : String → State → State → Prop} {free : Addr → Prop} {Ts : List Cond} {own host : String} {As rest : List Value} {g : JFrame}
    (S : CallFix p m c cc nL s args Ts own) (hM : vx_Met l y ws rm Pc Qc XC mc ms free) (cw : va_CN R s args own index y host bytes maxL ret ws rm mc ms n ∧ (Cond.static y).before args s = true ∧ True) (hp : PreS s H Pc As)
    (hg : g.method = m) (hn : As.length = n) (hsize : g.locals.size = nL) (hstack : g.stack = As.reverse ++ rest) (hW : 2 * g.monitorRoom + (rest.map fun v => v.category).sum ≤ 8) (hdg : decode cc g.pc = .ok (.invokestatic index, 3)) (hf : cells + mc ≤ R.cells ∧ slots + ms ≤ R.slots) :
    vx_Run p l e R s m args below meth c H locs cells slots mc ms g rest (Qc As.toArray) XC free := by
  obtain ⟨⟨⟨hrc, hrs, hfr, hlo, hws, hcw⟩, hcode, hini, hy, hlen, hl⟩, hx1, hx2⟩ := cw
  have hK : vx_Back l R p e below s args y 3 8 (PreOf R mc ms Pc) (PostOf Qc mc ms free) (vx_Post XC mc ms free) := vx_back (bytes := bytes) (maxL := maxL) (ret := ret) hM hp.1 hrc hrs hfr hlo hws hcw (fun a' U hW => word_at hW (Or.inl (by first | rfl | simp [Cond.onTables, Cond.keeps, Cond.steady])) hini)
  obtain ⟨hx, hb, hml, ho, -⟩ := S
  have hPc := hp.2
  intro T hT X
  rcases vx_callSN X hx (bytes := bytes) (maxL := maxL) (ret := ret) ho hl hx1 hini hcode hy hK hg (hsize.trans hml.symm) (argsL := As) (rest := rest) (fun sig h => hn.trans (hlen sig h)) hstack hW (by rw [hb]; exact hdg)
    (fun vm₁ hW₁ => ⟨hf.1, hf.2, hPc (T.setVm vm₁) hT hW₁⟩) with ⟨v, vm₁, ⟨U', l2, c2, s2⟩, hW₁, X', ⟨g', mk, t, L, e1, e2, hq, h1, hL, h2, h3⟩, st⟩ | ⟨q, vm₁, ⟨U', l2, c2, s2⟩, hW₁, X', ⟨g', mk, t, L, E, ce, e1, e2, hq, hce, hcv, hcl, h1, hL, h2, h3⟩, st⟩
  · dsimp only [Pt.U, Pt.locs, Pt.cells, Pt.slots] at X' e1 e2 h1 h2 h3 st
    subst h1; subst h2; subst h3
    exact Or.inl ⟨v, (T.setVm vm₁).calling g' mk As.toArray, t, U', L, hT, X', hL, e1, e2, hq, st⟩
  · dsimp only [Pt.U, Pt.locs, Pt.cells, Pt.slots] at X' e1 e2 h1 h2 h3 st hcl
    subst h1; subst h2; subst h3
    exact Or.inr ⟨q, (T.setVm vm₁).calling g' mk As.toArray, t, U', L, E, ce, hT, X', hL, e1, e2, hq, hce, hcv, vx_cls hW₁ hcl, st⟩
end
/-! ===== END ===== -/
end
section
/-! ===== ends and calls ===== -/
theorem am_catS {ad : Nat → Nat} : ∀ {vs : List Value}, vs.all am_s1 = true → ((vs.map (am_cv ad)).map fun v => v.category).sum = vs.length
  | [], _ => rfl
  | v :: vs, hv => by
    rw [List.all_cons, Bool.and_eq_true] at hv
    rw [List.map_cons, List.map_cons, List.sum_cons, am_catS hv.2, am_cat ad hv.1, List.length_cons]
    omega
theorem am_gi {ws : List Cond} (h : ∀ w ∈ ws, w ∈ am_TG) : GoodIn am_TG ws := fun w hw => ⟨h w hw, good_of_word (am_good w (h w hw))⟩
theorem am_gi' {w0 : Cond} (h : w0 ∈ am_TG) : GoodIn am_TG (w0 :: am_TG) := am_gi (fun w hw => (List.mem_cons.mp hw).elim (fun e => by rw [e]; exact h) id)
/-- what the tables say of a method that is called on an object, by its name -/
def am_mV (y : MethodName) (cc : ByteArray) (n : Nat) (ret : Option FieldType) (na : Nat) : Prop :=
  Cond.instanceMethod y ∈ am_TG ∧ Cond.selects y.cls y y ∈ am_TG ∧ Cond.initialized y.cls ∈ am_TG ∧ Cond.code y cc n ret ∈ am_TG ∧ (y.cls ≠ "java/lang/invoke/MethodHandle" ∧ y.cls ≠ "java/lang/invoke/VarHandle" ∧ (parseMethodDescriptor y.desc).map (fun d => d.parameters.length) = some na)
def am_mS (y : MethodName) (cc : ByteArray) (n : Nat) (ret : Option FieldType) (na : Nat) : Prop :=
  Cond.static y ∈ am_TG ∧ Cond.initialized y.cls ∈ am_TG ∧ Cond.code y cc n ret ∈ am_TG ∧ (y.cls ≠ "java/lang/invoke/MethodHandle" ∧ y.cls ≠ "java/lang/invoke/VarHandle" ∧ (parseMethodDescriptor y.desc).map (fun d => d.parameters.length) = some na)
def am_mI (y : MethodName) (cc : ByteArray) (n : Nat) (na : Nat) : Prop :=
  y.name = "<init>" ∧ Cond.instanceMethod y ∈ am_TG ∧ Cond.initialized y.cls ∈ am_TG ∧ Cond.code y cc n none ∈ am_TG ∧ (y.cls ≠ "java/lang/invoke/MethodHandle" ∧ y.cls ≠ "java/lang/invoke/VarHandle" ∧ (parseMethodDescriptor y.desc).map (fun d => d.parameters.length) = some na)
def am_mW (y : MethodName) (cc : ByteArray) (n : Nat) (ret : Option FieldType) (hh : List (Nat × Nat × Nat × Nat)) (na : Nat) : Prop :=
  Cond.static y ∈ am_TG ∧ Cond.initialized y.cls ∈ am_TG ∧ Cond.codeWith y cc n ret hh ∈ am_TG ∧ (y.cls ≠ "java/lang/invoke/MethodHandle" ∧ y.cls ≠ "java/lang/invoke/VarHandle" ∧ (parseMethodDescriptor y.desc).map (fun d => d.parameters.length) = some na)
section AMR
variable {Z : am_Z} {own : String} {cc : ByteArray} {n L mc ms : Nat} {kc ks pc : Nat} {ls st : List Value} {h : am_H} {hh : List (Nat × Nat × Nat × Nat)} {P : Option Value → am_H → Prop} {E : String → am_H → Prop}
theorem am_iret (hC : am_OK Z own cc n L mc ms) {ty : FieldType} {x : Int32} (hR : am_Rt Z (some ty) hh P E mc ms) (hx1 : narrow ty (.int x) = .int x) (hkc : kc ≤ mc) (hks : ks ≤ ms) (hd : decode cc pc = .ok (.ireturn, 1)) (hP : P (some (.int x)) h) : am_W Z kc ks pc ls [.int x] h := by
  obtain ⟨G, p, l, e, R, s, m, args, below, meth, c, h0, ad0, n', Q⟩ := Z
  obtain ⟨rfl, ⟨hx, hb, hml, hown, hts⟩, hlk, hE, htr, hR1, hR2, hR3, hR4⟩ := hC
  obtain ⟨hr, rfl, htb⟩ := hR
  refine fun ad H locs lc hA hS hX hl hvl hvs => ?_
  refine W.widen hkc hks (vx_ret ?_)
  exact W.zret hx hb hr hx1 (fun t ht hW => ⟨some (.int x), h, ad, rfl, hP, hvs, hX, by rw [ht]; exact hA, hS.F ht⟩) hS.2.2 hd
theorem am_aret (hC : am_OK Z own cc n L mc ms) {ty : FieldType} {x : Nat} (hR : am_Rt Z (some ty) hh P E mc ms) (hty : (∃ n, ty = .object n) ∨ ∃ t, ty = .array t) (hkc : kc ≤ mc) (hks : ks ≤ ms) (hd : decode cc pc = .ok (.areturn, 1)) (hP : P (some (.ref x)) h) : am_W Z kc ks pc ls [.ref x] h := by
  obtain ⟨G, p, l, e, R, s, m, args, below, meth, c, h0, ad0, n', Q⟩ := Z
  obtain ⟨rfl, ⟨hx, hb, hml, hown, hts⟩, hlk, hE, htr, hR1, hR2, hR3, hR4⟩ := hC
  obtain ⟨hr, rfl, htb⟩ := hR
  refine fun ad H locs lc hA hS hX hl hvl hvs => ?_
  refine W.widen hkc hks (vx_ret ?_)
  exact W.aret (v := am_rv ad x) hx hb hr hty (by unfold am_rv; split; exact Or.inl rfl; exact Or.inr ⟨_, rfl⟩) (fun t ht hW => ⟨some (.ref x), h, ad, rfl, hP, hvs, hX, by rw [ht]; exact hA, hS.F ht⟩) hS.2.2 hd
theorem am_vret (hC : am_OK Z own cc n L mc ms) (hR : am_Rt Z none hh P E mc ms) (hkc : kc ≤ mc) (hks : ks ≤ ms) (hd : decode cc pc = .ok (.return_, 1)) (hP : P none h) : am_W Z kc ks pc ls [] h := by
  obtain ⟨G, p, l, e, R, s, m, args, below, meth, c, h0, ad0, n', Q⟩ := Z
  obtain ⟨rfl, ⟨hx, hb, hml, hown, hts⟩, hlk, hE, htr, hR1, hR2, hR3, hR4⟩ := hC
  obtain ⟨hr, rfl, htb⟩ := hR
  refine fun ad H locs lc hA hS hX hl hvl hvs => ?_
  refine W.widen hkc hks (vx_ret ?_)
  exact W.vret hx hb hr (fun t ht hW => ⟨none, h, ad, rfl, hP, (fun _ h => nomatch h), hX, by rw [ht]; exact hA, hS.F ht⟩) hS.2.2 hd
theorem am_blind {G : am_G} {h0 : am_H} {ad0 : Nat → Nat} {As : List Value} : FrameBlind (am_Pc G h0 ad0 As) := fun a U g mk q => by
  obtain ⟨q1, q2, q3, q4⟩ := q
  exact ⟨q1, am_E_moved (s := U) (U := U.calling g mk a) (State.WarmedH.refl U) (Nat.le_refl _) (fun _ _ _ => rfl) q2, q3, q4⟩
theorem am_pre {G : am_G} {s : State} {H : Heap} {locs : List Loc} {ad : Nat → Nat} {As : List Value} (hE : am_E G s) (hS : va_S (am_lo G) s.heap H locs) (hA : am_A G h ad H) (hV : am_Vs h As) : ∀ U : State, U.heap = H → s.WarmedH U.vm → am_Pc G h ad As (As.map (am_cv ad)).toArray U := fun U hU hW =>
  ⟨rfl, am_E_moved hW (by rw [hU]; exact hS.1) (by rw [hU]; exact hS.2.1) hE, by rw [hU]; exact hA, hV⟩
/-- behind a call -/
theorem am_ofRun {G : am_G} {p : Program} {l : Launch} {e : Env} {R : Room} {s : State} {m : MethodId} {args : Array Value} {below : List Frame} {meth : Method} {c : Code} {h0 : am_H} {ad0 : Nat → Nat} {n' : Nat} {Q : State → Prop} {ad : Nat → Nat} {H : Heap} {locs : List Loc} {lc : Array Slot} {mc' ms' : Nat} {a : Array Value} {st0 : List Value}
    (hr : vx_Run p l e R s m args below meth c H locs kc ks mc' ms' (F0 m pc lc st0) (st.map (am_cv ad)) (am_Qc G h ad P a) (am_XC G h ad E) (am_lo G)) (hA : am_A G h ad H) (hS : va_S (am_lo G) s.heap H locs) (hX : am_X h0 ad0 h ad) (hl : am_L ad n' ls lc) (hvl : am_Vs h ls) (hvs : am_Vs h st)
    (kx : ∀ (x : String) (h' : am_H), E x h' → am_le h h' → am_WX (G, p, l, e, R, s, m, args, below, meth, c, h0, ad0, n', Q) (kc + mc') (ks + ms') pc ls st h' x)
    (kk : ∀ (v : Option Value) (h' : am_H), P v h' → am_le h h' → am_W (G, p, l, e, R, s, m, args, below, meth, c, h0, ad0, n', Q) (kc + mc') (ks + ms') (pc + 3) ls (v.toList ++ st) h') : W p l e R s m args below meth c H locs kc ks Q (F0 m pc lc st0) := by
  intro T hT X
  rcases hr T hT X with ⟨v, st₀, t, T', Lc, q0, X', hL, e1, e2, ⟨v', h', ad', hv, hp, hvv, hX', hA', hF⟩, stp⟩ | ⟨q, st₀, t, T', Lc, x, ce, q0, X', hL, e1, e2, ⟨h', ad', hp, hX', hA', hF⟩, hce, hcv, hcl, stp⟩
  · cases hv
    obtain ⟨k1, k2, k3⟩ := vx_keep q0 e1 hS (fun q _ z => z) (fun q z => z) hL hF
    have hle := hX'.1
    have w := kk v' h' hp hle ad' T'.heap (locs ++ Lc) lc (by rw [e1]; exact hA') k3 (am_X_tr hX hX') (am_L_ad hX'.2 hl hvl) (am_Vs_le (fun q hq => (hle q hq).1) hvl) (fun w hw => by
      rcases List.mem_append.mp hw with z | z
      · exact hvv w z
      · exact am_V_le (fun q hq => (hle q hq).1) (hvs w z))
    rw [List.map_append, am_map_ad hX'.2 hvs] at w
    obtain ⟨t2, a1, b1⟩ := w T' rfl X'
    refine ⟨t2, stp t2 ?_, b1⟩
    have ev : (v'.map (am_cv ad')).toList = v'.toList.map (am_cv ad') := by cases v' <;> rfl
    rw [ev]
    exact a1
  · obtain ⟨k1, k2, k3⟩ := vx_keep q0 e1 hS (fun q _ z => z) (fun q z => z) hL hF
    have hle := hX'.1
    have w := kx x h' hp hle ad' T'.heap (locs ++ Lc) lc q ce (by rw [e1]; exact hA') k3 (am_X_tr hX hX') (am_L_ad hX'.2 hl hvl) (am_Vs_le (fun q hq => (hle q hq).1) hvl) (am_Vs_le (fun q hq => (hle q hq).1) hvs) (by rw [e1]; exact hce) hcv hcl
    rw [am_map_ad hX'.2 hvs] at w
    obtain ⟨t2, a1, b1⟩ := w T' rfl X'
    exact ⟨t2, stp.trans a1, b1⟩
theorem am_mapr {ad : Nat → Nat} (As st : List Value) (v : Value) : (As.reverse ++ v :: st).map (am_cv ad) = (As.map (am_cv ad)).reverse ++ am_cv ad v :: st.map (am_cv ad) := by
  rw [List.map_append, List.map_cons, List.map_reverse]
theorem am_mapr' {ad : Nat → Nat} (As st : List Value) : (As.reverse ++ st).map (am_cv ad) = (As.map (am_cv ad)).reverse ++ st.map (am_cv ad) := by
  rw [List.map_append, List.map_reverse]
theorem am_Vsr {As st : List Value} {v : Value} (hv : am_Vs h (As.reverse ++ v :: st)) : am_Vs h (v :: As) ∧ am_Vs h st :=
  ⟨fun w hw => hv w ((List.mem_cons.mp hw).elim (fun e => by rw [e]; exact List.mem_append_right _ List.mem_cons_self) (fun e => List.mem_append_left _ (List.mem_reverse.mpr e))), fun w hw => hv w (List.mem_append_right _ (List.mem_cons_of_mem _ hw))⟩
theorem am_Vsr' {As st : List Value} (hv : am_Vs h (As.reverse ++ st)) : am_Vs h As ∧ am_Vs h st :=
  ⟨fun w hw => hv w (List.mem_append_left _ (List.mem_reverse.mpr hw)), fun w hw => hv w (List.mem_append_right _ hw)⟩
theorem am_lrm (L' : Nat) {Lx Rf : Nat} {maxL : Nat} (hL : L' + 1 ≤ Lx) (hR : 100 * Lx ≤ Rf) (hm : maxL ≤ 80) : 8 + (maxL + 11) + 100 * L' ≤ Rf := by omega
variable {y : MethodName} {cy : ByteArray} {ny L' mc' ms' na idx : Nat} {ret : Option FieldType}
theorem am_callV (hC : am_OK Z own cc n L mc ms) {C : String} {T : u_T} {N ci r : Nat} (As : List Value) (hc : am_cl[ci]? = some (C, T, N)) (hkr : hk_ h r = ci + 1) (hyC : y.cls = C) (hm : am_mV y cy ny ret na) (hw : Cond.methodLink own idx y ∈ am_TG)
    (hM : am_Met Z.1 Z.2.2.1 y (.code y cy ny ret) L' mc' ms' (.ref r :: As) h P E) (hna : As.length = na) (hst : st.all am_s1 = true ∧ st.length ≤ 8) (hL : L' + 1 ≤ L ∧ ny ≤ 80) (hkc : kc + mc' ≤ mc) (hks : ks + ms' ≤ ms) (hd : decode cc pc = .ok (.invokevirtual idx, 3)) {stk : List Value} (hsk : stk = As.reverse ++ .ref r :: st)
    (kx : ∀ (x : String) (h' : am_H), E x h' → am_le h h' → am_WX Z (kc + mc') (ks + ms') pc ls st h' x) (kk : ∀ (v : Option Value) (h' : am_H), P v h' → am_le h h' → am_W Z (kc + mc') (ks + ms') (pc + 3) ls (v.toList ++ st) h') : am_W Z kc ks pc ls stk h := by
  obtain ⟨G, p, l, e, R, s, m, args, below, meth, c, h0, ad0, n', Q⟩ := Z
  obtain ⟨rfl, ⟨hx, hb, hml, hown, hts⟩, hlk, hE, htr, hR1, hR2, hR3, hR4⟩ := hC
  subst hsk
  refine fun ad H locs lc hA hS hX hl hvl hvs => ?_
  obtain ⟨r0, -⟩ := am_own hA hkr (by omega) (by have := (am_cf hc).2.2.2; omega)
  obtain ⟨cell, q1, q2, q3, q4⟩ := am_obj hA hkr hc
  obtain ⟨v1, v2⟩ := am_Vsr hvs
  obtain ⟨m1, m2, m3, m4, m5⟩ := hm
  have er : am_cv ad (.ref r) = .ref (ad r) := am_rv_ref r0
  have hp := am_pre hE hS hA v1
  rw [List.map_cons, er] at hp
  have hcat : ((st.map (am_cv ad)).map fun v => v.category).sum ≤ 8 := by rw [am_catS hst.1]; exact hst.2
  have hgi : GoodIn am_TG (wsV own idx C y (.code y cy ny ret :: am_TG)) := by
    subst hyC
    refine am_gi (fun w hw9 => ?_)
    simp only [wsV, List.mem_append, List.mem_cons, List.not_mem_nil, or_false] at hw9
    rcases hw9 with (a | a | a | a) | a | a
    · rw [a]; exact hw
    · rw [a]; exact m1
    · rw [a]; exact m2
    · rw [a]; exact m3
    · rw [a]; exact m4
    · exact a
  have w := am_ofRun (st0 := (As.map (am_cv ad)).reverse ++ .ref (ad r) :: st.map (am_cv ad)) (vx_runV (C := C) (As := As.map (am_cv ad)) (b := ad r) ⟨hx, hb, hml, hown, hts⟩ (hM ad) (cwV na hts hgi rfl rfl rfl ⟨hyC, m5⟩ ⟨by show L' + 1 ≤ _; omega, am_lrm L' hL.1 hR2 hL.2⟩) ⟨am_blind, ⟨cell, q1, by rw [q3]; rfl, by rw [q2]; exact (hE.2.2.1.1 ci _ hc).2.1⟩, hp⟩ rfl (by rw [List.length_map]; exact hna) hl.1 rfl (lv_room hcat) hd ⟨by omega, by omega⟩) hA hS hX hl hvl v2 kx kk
  rw [am_mapr, er]
  exact w
theorem am_callVN (hC : am_OK Z own cc n L mc ms) {C host : String} {T : u_T} {N ci r : Nat} (As : List Value) (hc : am_cl[ci]? = some (C, T, N)) (hkr : hk_ h r = ci + 1) (hyC : y.cls = C) (hm : am_mV y cy ny ret na) (hw : Cond.methodLinkNest own idx y host ∈ am_bw)
    (hM : am_Met Z.1 Z.2.2.1 y (.code y cy ny ret) L' mc' ms' (.ref r :: As) h P E) (hna : As.length = na) (hst : st.all am_s1 = true ∧ st.length ≤ 8) (hL : L' + 1 ≤ L ∧ ny ≤ 80) (hkc : kc + mc' ≤ mc) (hks : ks + ms' ≤ ms) (hd : decode cc pc = .ok (.invokevirtual idx, 3)) {stk : List Value} (hsk : stk = As.reverse ++ .ref r :: st)
    (kx : ∀ (x : String) (h' : am_H), E x h' → am_le h h' → am_WX Z (kc + mc') (ks + ms') pc ls st h' x) (kk : ∀ (v : Option Value) (h' : am_H), P v h' → am_le h h' → am_W Z (kc + mc') (ks + ms') (pc + 3) ls (v.toList ++ st) h') : am_W Z kc ks pc ls stk h := by
  obtain ⟨G, p, l, e, R, s, m, args, below, meth, c, h0, ad0, n', Q⟩ := Z
  obtain ⟨rfl, ⟨hx, hb, hml, hown, hts⟩, hlk, hE, htr, hR1, hR2, hR3, hR4⟩ := hC
  subst hsk
  refine fun ad H locs lc hA hS hX hl hvl hvs => ?_
  obtain ⟨r0, -⟩ := am_own hA hkr (by omega) (by have := (am_cf hc).2.2.2; omega)
  obtain ⟨cell, q1, q2, q3, q4⟩ := am_obj hA hkr hc
  obtain ⟨v1, v2⟩ := am_Vsr hvs
  obtain ⟨m1, m2, m3, m4, m5⟩ := hm
  have er : am_cv ad (.ref r) = .ref (ad r) := am_rv_ref r0
  have hp := am_pre hE hS hA v1
  rw [List.map_cons, er] at hp
  have hcat : ((st.map (am_cv ad)).map fun v => v.category).sum ≤ 8 := by rw [am_catS hst.1]; exact hst.2
  have w := am_ofRun (st0 := (As.map (am_cv ad)).reverse ++ .ref (ad r) :: st.map (am_cv ad)) (vx_runVN (C := C) (As := As.map (am_cv ad)) (b := ad r) ⟨hx, hb, hml, hown, hts⟩ (hM ad) ⟨va_cnB na hts (am_gi' m4) rfl rfl rfl (hE.1 _ hw) (hts _ m3) m5 ⟨by show L' + 1 ≤ _; omega, am_lrm L' hL.1 hR2 hL.2⟩, hts _ m1, by subst hyC; exact hts _ m2⟩ ⟨am_blind, ⟨cell, q1, by rw [q3]; rfl, by rw [q2]; exact (hE.2.2.1.1 ci _ hc).2.1⟩, hp⟩ rfl (by rw [List.length_map]; exact hna) hl.1 rfl (lv_room hcat) hd ⟨by omega, by omega⟩) hA hS hX hl hvl v2 kx kk
  rw [am_mapr, er]
  exact w
theorem am_callS (hC : am_OK Z own cc n L mc ms) (As : List Value) (hm : am_mS y cy ny ret na) (hw : Cond.methodLink own idx y ∈ am_TG)
    (hM : am_Met Z.1 Z.2.2.1 y (.code y cy ny ret) L' mc' ms' As h P E) (hna : As.length = na) (hst : st.all am_s1 = true ∧ st.length ≤ 8) (hL : L' + 1 ≤ L ∧ ny ≤ 80) (hkc : kc + mc' ≤ mc) (hks : ks + ms' ≤ ms) (hd : decode cc pc = .ok (.invokestatic idx, 3)) {stk : List Value} (hsk : stk = As.reverse ++ st)
    (kx : ∀ (x : String) (h' : am_H), E x h' → am_le h h' → am_WX Z (kc + mc') (ks + ms') pc ls st h' x) (kk : ∀ (v : Option Value) (h' : am_H), P v h' → am_le h h' → am_W Z (kc + mc') (ks + ms') (pc + 3) ls (v.toList ++ st) h') : am_W Z kc ks pc ls stk h := by
  obtain ⟨G, p, l, e, R, s, m, args, below, meth, c, h0, ad0, n', Q⟩ := Z
  obtain ⟨rfl, ⟨hx, hb, hml, hown, hts⟩, hlk, hE, htr, hR1, hR2, hR3, hR4⟩ := hC
  subst hsk
  refine fun ad H locs lc hA hS hX hl hvl hvs => ?_
  obtain ⟨v1, v2⟩ := am_Vsr' hvs
  obtain ⟨m1, m3, m4, m5⟩ := hm
  have hp := am_pre hE hS hA v1
  have hcat : ((st.map (am_cv ad)).map fun v => v.category).sum ≤ 8 := by rw [am_catS hst.1]; exact hst.2
  have w := am_ofRun (st0 := (As.map (am_cv ad)).reverse ++ st.map (am_cv ad)) (vx_runS (As := As.map (am_cv ad)) ⟨hx, hb, hml, hown, hts⟩ (hM ad) ⟨callB_of na hts (am_gi' m4) rfl rfl rfl (hts _ m3) (hts _ hw) m5 ⟨by show L' + 1 ≤ _; omega, am_lrm L' hL.1 hR2 hL.2⟩, hts _ m1⟩ ⟨am_blind, hp⟩ rfl (by rw [List.length_map]; exact hna) hl.1 rfl (lv_room hcat) hd ⟨by omega, by omega⟩) hA hS hX hl hvl v2 kx kk
  rw [am_mapr']
  exact w
theorem am_callSN (hC : am_OK Z own cc n L mc ms) {host : String} (As : List Value) (hm : am_mS y cy ny ret na) (hw : Cond.methodLinkNest own idx y host ∈ am_bw)
    (hM : am_Met Z.1 Z.2.2.1 y (.code y cy ny ret) L' mc' ms' As h P E) (hna : As.length = na) (hst : st.all am_s1 = true ∧ st.length ≤ 8) (hL : L' + 1 ≤ L ∧ ny ≤ 80) (hkc : kc + mc' ≤ mc) (hks : ks + ms' ≤ ms) (hd : decode cc pc = .ok (.invokestatic idx, 3)) {stk : List Value} (hsk : stk = As.reverse ++ st)
    (kx : ∀ (x : String) (h' : am_H), E x h' → am_le h h' → am_WX Z (kc + mc') (ks + ms') pc ls st h' x) (kk : ∀ (v : Option Value) (h' : am_H), P v h' → am_le h h' → am_W Z (kc + mc') (ks + ms') (pc + 3) ls (v.toList ++ st) h') : am_W Z kc ks pc ls stk h := by
  obtain ⟨G, p, l, e, R, s, m, args, below, meth, c, h0, ad0, n', Q⟩ := Z
  obtain ⟨rfl, ⟨hx, hb, hml, hown, hts⟩, hlk, hE, htr, hR1, hR2, hR3, hR4⟩ := hC
  subst hsk
  refine fun ad H locs lc hA hS hX hl hvl hvs => ?_
  obtain ⟨v1, v2⟩ := am_Vsr' hvs
  obtain ⟨m1, m3, m4, m5⟩ := hm
  have hp := am_pre hE hS hA v1
  have hcat : ((st.map (am_cv ad)).map fun v => v.category).sum ≤ 8 := by rw [am_catS hst.1]; exact hst.2
  have w := am_ofRun (st0 := (As.map (am_cv ad)).reverse ++ st.map (am_cv ad)) (vx_runSN (As := As.map (am_cv ad)) ⟨hx, hb, hml, hown, hts⟩ (hM ad) ⟨va_cnB na hts (am_gi' m4) rfl rfl rfl (hE.1 _ hw) (hts _ m3) m5 ⟨by show L' + 1 ≤ _; omega, am_lrm L' hL.1 hR2 hL.2⟩, hts _ m1, trivial⟩ ⟨am_blind, hp⟩ rfl (by rw [List.length_map]; exact hna) hl.1 rfl (lv_room hcat) hd ⟨by omega, by omega⟩) hA hS hX hl hvl v2 kx kk
  rw [am_mapr']
  exact w
/-- a static method with handlers -/
theorem am_callSX (hC : am_OK Z own cc n L mc ms) {hy9 : List (Nat × Nat × Nat × Nat)} (As : List Value) (hm : am_mW y cy ny ret hy9 na) (hw : Cond.methodLink own idx y ∈ am_TG)
    (hM : am_Met Z.1 Z.2.2.1 y (.codeWith y cy ny ret hy9) L' mc' ms' As h P E) (hna : As.length = na) (hst : st.all am_s1 = true ∧ st.length ≤ 8) (hL : L' + 1 ≤ L ∧ ny ≤ 80) (hkc : kc + mc' ≤ mc) (hks : ks + ms' ≤ ms) (hd : decode cc pc = .ok (.invokestatic idx, 3)) {stk : List Value} (hsk : stk = As.reverse ++ st)
    (kx : ∀ (x : String) (h' : am_H), E x h' → am_le h h' → am_WX Z (kc + mc') (ks + ms') pc ls st h' x) (kk : ∀ (v : Option Value) (h' : am_H), P v h' → am_le h h' → am_W Z (kc + mc') (ks + ms') (pc + 3) ls (v.toList ++ st) h') : am_W Z kc ks pc ls stk h := by
  obtain ⟨G, p, l, e, R, s, m, args, below, meth, c, h0, ad0, n', Q⟩ := Z
  obtain ⟨rfl, ⟨hx, hb, hml, hown, hts⟩, hlk, hE, htr, hR1, hR2, hR3, hR4⟩ := hC
  subst hsk
  refine fun ad H locs lc hA hS hX hl hvl hvs => ?_
  obtain ⟨v1, v2⟩ := am_Vsr' hvs
  obtain ⟨m1, m3, m4, m5⟩ := hm
  have hp := am_pre hE hS hA v1
  have hcat : ((st.map (am_cv ad)).map fun v => v.category).sum ≤ 8 := by rw [am_catS hst.1]; exact hst.2
  have w := am_ofRun (st0 := (As.map (am_cv ad)).reverse ++ st.map (am_cv ad)) (vx_runSX (As := As.map (am_cv ad)) ⟨hx, hb, hml, hown, hts⟩ (hM ad) (vx_cwSW na hts (am_gi (fun w hw9 => by
      simp only [va_wsS, List.mem_append, List.mem_cons, List.not_mem_nil, or_false] at hw9
      rcases hw9 with (a | a | a) | a | a
      · rw [a]; exact hw
      · rw [a]; exact m1
      · rw [a]; exact m3
      · rw [a]; exact m4
      · exact a)) rfl rfl rfl m5 ⟨by show L' + 1 ≤ _; omega, am_lrm L' hL.1 hR2 hL.2⟩) ⟨am_blind, hp⟩ rfl (by rw [List.length_map]; exact hna) hl.1 rfl (lv_room hcat) hd ⟨by omega, by omega⟩) hA hS hX hl hvl v2 kx kk
  rw [am_mapr']
  exact w
/-- constructors -/
theorem am_callI (hC : am_OK Z own cc n L mc ms) {r : Nat} (As : List Value) (hr0 : r ≠ 0) (hm : am_mI y cy ny na) (hw : Cond.methodLink own idx y ∈ am_TG)
    (hM : am_Met Z.1 Z.2.2.1 y (.code y cy ny none) L' mc' ms' (.ref r :: As) h P E) (hna : As.length = na) (hst : st.all am_s1 = true ∧ st.length ≤ 8) (hL : L' + 1 ≤ L ∧ ny ≤ 80) (hkc : kc + mc' ≤ mc) (hks : ks + ms' ≤ ms) (hd : decode cc pc = .ok (.invokespecial idx, 3)) {stk : List Value} (hsk : stk = As.reverse ++ .ref r :: st)
    (kx : ∀ (x : String) (h' : am_H), E x h' → am_le h h' → am_WX Z (kc + mc') (ks + ms') pc ls st h' x) (kk : ∀ (v : Option Value) (h' : am_H), P v h' → am_le h h' → am_W Z (kc + mc') (ks + ms') (pc + 3) ls (v.toList ++ st) h') : am_W Z kc ks pc ls stk h := by
  obtain ⟨G, p, l, e, R, s, m, args, below, meth, c, h0, ad0, n', Q⟩ := Z
  obtain ⟨rfl, ⟨hx, hb, hml, hown, hts⟩, hlk, hE, htr, hR1, hR2, hR3, hR4⟩ := hC
  subst hsk
  refine fun ad H locs lc hA hS hX hl hvl hvs => ?_
  obtain ⟨v1, v2⟩ := am_Vsr hvs
  obtain ⟨m0, m1, m3, m4, m5⟩ := hm
  have er : am_cv ad (.ref r) = .ref (ad r) := am_rv_ref hr0
  have hp := am_pre hE hS hA v1
  rw [List.map_cons, er] at hp
  have hcat : ((st.map (am_cv ad)).map fun v => v.category).sum ≤ 8 := by rw [am_catS hst.1]; exact hst.2
  have w := am_ofRun (st0 := (As.map (am_cv ad)).reverse ++ .ref (ad r) :: st.map (am_cv ad)) (vx_runI (As := As.map (am_cv ad)) (b := ad r) ⟨hx, hb, hml, hown, hts⟩ (hM ad) ⟨callB_of na hts (am_gi' m4) rfl rfl rfl (hts _ m3) (hts _ hw) m5 ⟨by show L' + 1 ≤ _; omega, am_lrm L' hL.1 hR2 hL.2⟩, m0, hts _ m1⟩ ⟨am_blind, hp⟩ rfl (by rw [List.length_map]; exact hna) hl.1 rfl (lv_room hcat) hd ⟨by omega, by omega⟩) hA hS hX hl hvl v2 kx kk
  rw [am_mapr, er]
  exact w
theorem am_callIN (hC : am_OK Z own cc n L mc ms) {host : String} {r : Nat} (As : List Value) (hr0 : r ≠ 0) (hm : am_mI y cy ny na) (hw : Cond.methodLinkNest own idx y host ∈ am_bw)
    (hM : am_Met Z.1 Z.2.2.1 y (.code y cy ny none) L' mc' ms' (.ref r :: As) h P E) (hna : As.length = na) (hst : st.all am_s1 = true ∧ st.length ≤ 8) (hL : L' + 1 ≤ L ∧ ny ≤ 80) (hkc : kc + mc' ≤ mc) (hks : ks + ms' ≤ ms) (hd : decode cc pc = .ok (.invokespecial idx, 3)) {stk : List Value} (hsk : stk = As.reverse ++ .ref r :: st)
    (kx : ∀ (x : String) (h' : am_H), E x h' → am_le h h' → am_WX Z (kc + mc') (ks + ms') pc ls st h' x) (kk : ∀ (v : Option Value) (h' : am_H), P v h' → am_le h h' → am_W Z (kc + mc') (ks + ms') (pc + 3) ls (v.toList ++ st) h') : am_W Z kc ks pc ls stk h := by
  obtain ⟨G, p, l, e, R, s, m, args, below, meth, c, h0, ad0, n', Q⟩ := Z
  obtain ⟨rfl, ⟨hx, hb, hml, hown, hts⟩, hlk, hE, htr, hR1, hR2, hR3, hR4⟩ := hC
  subst hsk
  refine fun ad H locs lc hA hS hX hl hvl hvs => ?_
  obtain ⟨v1, v2⟩ := am_Vsr hvs
  obtain ⟨m0, m1, m3, m4, m5⟩ := hm
  have er : am_cv ad (.ref r) = .ref (ad r) := am_rv_ref hr0
  have hp := am_pre hE hS hA v1
  rw [List.map_cons, er] at hp
  have hcat : ((st.map (am_cv ad)).map fun v => v.category).sum ≤ 8 := by rw [am_catS hst.1]; exact hst.2
  have w := am_ofRun (st0 := (As.map (am_cv ad)).reverse ++ .ref (ad r) :: st.map (am_cv ad)) (vx_runIN (As := As.map (am_cv ad)) (b := ad r) ⟨hx, hb, hml, hown, hts⟩ (hM ad) ⟨va_cnB na hts (am_gi' m4) rfl rfl rfl (hE.1 _ hw) (hts _ m3) m5 ⟨by show L' + 1 ≤ _; omega, am_lrm L' hL.1 hR2 hL.2⟩, m0, hts _ m1⟩ ⟨am_blind, hp⟩ rfl (by rw [List.length_map]; exact hna) hl.1 rfl (lv_room hcat) hd ⟨by omega, by omega⟩) hA hS hX hl hvl v2 kx kk
  rw [am_mapr, er]
  exact w
end AMR
end
section
/-! ===== throws, handlers, copies, members of the library ===== -/
theorem am_A_grow {G : am_G} {h : am_H} {ad : Nat → Nat} {H H' : Heap} (hA : am_A G h ad H) (z : H.size ≤ H'.size) (oq : ∀ q : Nat, q < H.size → H'[q]? = H[q]?) : am_A G h ad H' := by
  obtain ⟨a0, a1, a2, a3, a4⟩ := hA
  refine ⟨a0, fun q hq => ?_, fun q hq => ?_, a3, a4⟩
  · rcases a2 q hq with e | e | ⟨-, e, -⟩ | ⟨e, -⟩
    · exact Or.inl (Or.inl (by rw [e]; exact a0.2.1))
    · exact Or.inl (Or.inr (by rw [e]; exact a0.2.2.1))
    · exact am_atk_kept (a1 q hq) (oq _ e)
    · exact Or.inl (Or.inl e)
  · rcases a2 q hq with e | e | ⟨e1, e2, e3⟩ | e
    · exact Or.inl e
    · exact Or.inr (Or.inl e)
    · exact Or.inr (Or.inr (Or.inl ⟨e1, by omega, e3⟩))
    · exact Or.inr (Or.inr (Or.inr e))
section AMX
variable {Z : am_Z} {own : String} {cc : ByteArray} {n L mc ms : Nat} {kc ks pc : Nat} {ls st : List Value} {h : am_H} {hh : List (Nat × Nat × Nat × Nat)} {P : Option Value → am_H → Prop} {E : String → am_H → Prop}
/-- 'throw new X("text")' -/
theorem am_throw (hC : am_OK Z own cc n L mc ms) {ret : Option FieldType} (hR : am_Rt Z ret [] P E mc ms) {X text : String} {ik is ic : Nat} (hX1 : Bundle.fit X = true) (hw1 : Cond.classLink own ik X ∈ am_TG) (hw2 : Cond.initialized X ∈ am_TG) (hw3 : Cond.stringRef own is text ∈ lw_tbl) (hat : ∀ w ∈ vx_atS own ic X ["java/lang/RuntimeException", "java/lang/Exception"], (w ∈ am_TG ∨ w ∈ am_bw) ∧ vx_ot w = true)
    (hst : st.all am_s1 = true ∧ st.length ≤ 8) (hL : 6 ≤ L) (hkc : kc + 1 ≤ mc) (hks : ks + 6 ≤ ms) (d0 : decode cc pc = .ok (.new ik, 3)) (d3 : decode cc (pc + 3) = .ok (.dup, 1)) (d4 : decode cc (pc + 4) = .ok (.ldc is, 2)) (d6 : decode cc (pc + 6) = .ok (.invokespecial ic, 3)) (d9 : decode cc (pc + 9) = .ok (.athrow, 1))
    (hE' : E X h) : am_W Z kc ks pc ls st h := by
  obtain ⟨G, p, l, e, R, s, m, args, below, meth, c, h0, ad0, n', Q⟩ := Z
  obtain ⟨rfl, ⟨hx, hb, hml, hown, hts⟩, hlk, hE, htr, hR1, hR2, hR3, hR4⟩ := hC
  obtain ⟨hr, rfl, htb⟩ := hR
  refine fun ad H locs lc hA hS hX hl hvl hvs => ?_
  obtain ⟨sa, hsa⟩ := hE.2.1.1 (own, is, text) hw3
  have hcat : ((st.map (am_cv ad)).map fun v => v.category).sum ≤ 8 := by rw [am_catS hst.1]; exact hst.2
  refine vx_throwS (names := ["java/lang/RuntimeException", "java/lang/Exception"]) hx hb htr hown hX1 (by decide +kernel) (hts _ hw1) (hts _ hw2) hsa (fun w hw => ?_) (fun w hw => ?_) hE.2.2.2.1 hE.2.2.2.2.1 hS (hl.1.trans hml.symm) d0 d3 d4 d6 d9 (fun x hx9 => ?_) (by show 2 + 3 < _; omega) (by show _ + (13 * (2 + 1) + 43) ≤ _; omega) (by omega) (by omega) hlk (fun t hal hz hq => ?_) hS.2.2 hkc hks
  · rcases (hat w hw).1 with g | g
    · exact hts w g
    · have g2 := (hat w hw).2
      simp only [vx_ot, Bool.or_eq_true] at g2
      rcases g2 with g2 | g2
      · exact va_tabs g2 rfl (hE.1 w g)
      · have hb9 := (List.mem_filter.mp g).2
        cases w <;> first | exact va_tabs rfl rfl (hE.1 _ g) | (cases hb9; done) | skip
        rename_i t
        cases g2
  · rcases List.mem_cons.mp hw with g | hw
    · rw [g]
      unfold vx_ot
      rw [am_good _ hw1, Bool.or_true]
    · rcases List.mem_cons.mp hw with g | hw
      · rw [g]
        unfold vx_ot
        rw [am_good _ hw2, Bool.or_true]
      · exact (hat w hw).2
  · rw [htb] at hx9
    cases hx9
  · exact ⟨h, ad, hE', hX, am_A_grow hA hz hq, Nat.le_trans hS.1 hz, fun q g1 g2 => by rw [hq q (Nat.lt_of_lt_of_le g1 hS.1)]; exact hS.2.1 q g1 g2⟩
/-- an exception leaves the method -/
theorem am_out (hC : am_OK Z own cc n L mc ms) {ret : Option FieldType} (hR : am_Rt Z ret [] P E mc ms) {X : String} (hkc : kc ≤ mc) (hks : ks ≤ ms) (hE' : E X h) : am_WX Z kc ks pc ls st h X := by
  obtain ⟨G, p, l, e, R, s, m, args, below, meth, c, h0, ad0, n', Q⟩ := Z
  obtain ⟨rfl, ⟨hx, hb, hml, hown, hts⟩, hlk, hE, htr, hR1, hR2, hR3, hR4⟩ := hC
  obtain ⟨hr, rfl, htb⟩ := hR
  refine fun ad H locs lc q ce hA hS hX hl hvl hvs hce hcv hcl => ?_
  refine vx_out (fun x hx9 => ?_) hlk hce hcv hcl (fun t ht hal => ⟨h, ad, hE', hX, by rw [ht]; exact hA, hS.F ht⟩) hS.2.2 hkc hks
  rw [htb] at hx9
  cases hx9
/-- a handler takes it, and puts it away at place i -/
theorem am_catch (hC : am_OK Z own cc n L mc ms) {ret : Option FieldType} (hR : am_Rt Z ret hh P E mc ms) {X : String} (pre : List ExceptionTableEntry) (x : ExceptionTableEntry) (suf : List ExceptionTableEntry) (hsp : tableOf hh = pre ++ x :: suf) (hpass : ∀ z ∈ pre, ∃ nm, z.catchType ≠ 0 ∧ Cond.classLink own z.catchType nm ∈ am_TG ∧ (X, nm) ∈ am_nc) (hcov : covers x pc = true) (h0c : x.catchType ≠ 0)
    (hw : Cond.classLink own x.catchType X ∈ am_TG) (hw2 : Cond.castable X X ∈ am_bw) {i len : Nat} (hi : i < n) (hd : decode cc x.handlerPc = .ok (.astore i, len) ∧ len = 2 ∨ ∃ i' : Fin 4, (i' : Nat) = i ∧ decode cc x.handlerPc = .ok (.astore_n i', len) ∧ len = 1) (k : am_W Z kc ks (x.handlerPc + len) (ls.set i .null) [] h) : am_WX Z kc ks pc ls st h X := by
  obtain ⟨G, p, l, e, R, s, m, args, below, meth, c, h0, ad0, n', Q⟩ := Z
  obtain ⟨rfl, ⟨hx, hb, hml, hown, hts⟩, hlk, hE, htr, hR1, hR2, hR3, hR4⟩ := hC
  obtain ⟨hr, rfl, htb⟩ := hR
  refine fun ad H locs lc q ce hA hS hX hl hvl hvs hce hcv hcl => ?_
  have fin : ∀ lc' : Array Slot, lv_has lc' n' ((i, Value.ref q) :: (am_ll ad 0 ls).filter (fun q => !(q.1 == i) && !(q.1 + 1 == i && q.2.category == 2))) → am_L ad n' (ls.set i .null) lc' := by
    intro lc' hl'
    refine am_L_to hl' (fun j w hw9 h1 => ?_)
    have hj : i ≠ j := by
      intro e9
      subst e9
      rw [List.getElem?_set] at hw9
      simp only [if_true] at hw9
      split at hw9
      · cases hw9; cases h1
      · cases hw9
    rw [List.getElem?_set_ne hj] at hw9
    refine List.mem_cons_of_mem _ (List.mem_filter.mpr ⟨(am_ll_mem ad ls 0 _).mpr ⟨j, w, hw9, h1, by rw [Nat.zero_add]⟩, ?_⟩)
    have h2 : (j == i) = false := by simpa using Ne.symm hj
    simp [h2, am_cat ad h1]
  refine vx_catch hown pre x suf (htb.trans hsp) (fun z hz => ?_) hcov h0c (hts _ hw) (va_Nw.use rfl (hE.1 _ hw2)) hce hcv hcl ?_
  · obtain ⟨nm, g1, g2, g3⟩ := hpass z hz
    exact Or.inr ⟨g1, nm, hts _ g2, hE.2.1.2 _ g3⟩
  · rcases hd with ⟨hd, rfl⟩ | ⟨i', hi', hd, rfl⟩
    · exact lv_astore hx hb hd hl hi rfl (fun lc' hl' => k ad H locs lc' hA hS hX (fin lc' hl') (am_Vset hvl trivial) (fun _ h => nomatch h))
    · exact lv_astore_n hx hb hd hi' hl hi rfl (fun lc' hl' => k ad H locs lc' hA hS hX (fin lc' hl') (am_Vset hvl trivial) (fun _ h => nomatch h))
theorem am_objinit (hC : am_OK Z own cc n L mc ms) {idx r : Nat} (hr0 : r ≠ 0) (hw : Cond.methodLink own idx Lib.objectInit ∈ am_TG) (hw2 : Cond.instanceMethod Lib.objectInit ∈ am_TG) (hw3 : Cond.code Lib.objectInit ⟨#[0xb1]⟩ 1 none ∈ am_TG) (hL : 1 ≤ L) (hst : st.all am_s1 = true ∧ st.length ≤ 8) (hd : decode cc pc = .ok (.invokespecial idx, 3)) (k : am_W Z kc ks (pc + 3) ls st h) : am_W Z kc ks pc ls (.ref r :: st) h := by
  obtain ⟨G, p, l, e, R, s, m, args, below, meth, c, h0, ad0, n', Q⟩ := Z
  obtain ⟨rfl, ⟨hx, hb, hml, hown, hts⟩, hlk, hE, htr, hR1, hR2, hR3, hR4⟩ := hC
  refine fun ad H locs lc hA hS hX hl hvl hvs => ?_
  have k9 := k ad H locs lc hA hS hX hl hvl (am_Vt hvs)
  have hcat : ((st.map (am_cv ad)).map fun v => v.category).sum ≤ 8 := by rw [am_catS hst.1]; exact hst.2
  change W p l e R s m args below meth c H locs kc ks Q (F0 m pc lc (am_rv ad r :: _))
  rw [am_rv_ref hr0]
  exact W.objInit hx hb hown (hts _ hw) (hts _ hw2) (hts _ hw3) rfl (hl.1.trans hml.symm) rfl hd (by omega) (by show 2 * 0 + _ + 12 ≤ _; omega) k9
theorem am_cast (hC : am_OK Z own cc n L mc ms) {C : String} {T : u_T} {N ci idx r : Nat} (hc : am_cl[ci]? = some (C, T, N)) (hkr : hk_ h r = ci + 1) (hw : Cond.classLink own idx C ∈ am_TG) (hd : decode cc pc = .ok (.checkcast idx, 3)) (k : am_W Z kc ks (pc + 3) ls (.ref r :: st) h) : am_W Z kc ks pc ls (.ref r :: st) h := by
  obtain ⟨G, p, l, e, R, s, m, args, below, meth, c, h0, ad0, n', Q⟩ := Z
  obtain ⟨rfl, ⟨hx, hb, hml, hown, hts⟩, hlk, hE, htr, hR1, hR2, hR3, hR4⟩ := hC
  refine fun ad H locs lc hA hS hX hl hvl hvs => ?_
  have k9 := k ad H locs lc hA hS hX hl hvl hvs
  obtain ⟨r0, -⟩ := am_own hA hkr (by omega) (by have := (am_cf hc).2.2.2; omega)
  obtain ⟨cell, q1, q2, q3, q4⟩ := am_obj hA hkr hc
  have hK := (hE.2.2.1.1 ci _ hc).2
  rw [List.map_cons] at k9 ⊢
  change W p l e R s m args below meth c H locs kc ks Q (F0 m _ lc (am_rv ad r :: _)) at k9
  change W p l e R s m args below meth c H locs kc ks Q (F0 m pc lc (am_rv ad r :: _))
  rw [am_rv_ref r0] at k9 ⊢
  exact va_castS hx hb hown (hts _ hw) hK ⟨cell, q1, by rw [q3]; rfl, by rw [q2]; exact hK.1⟩ hd k9
theorem am_mmax (hC : am_OK Z own cc n L mc ms) {idx : Nat} {x y : Int32} (hw : Cond.methodLink own idx Lib.Math.max.name ∈ am_TG) (hw2 : Cond.static Lib.Math.max.name ∈ am_TG) (hw3 : Cond.initialized "java/lang/Math" ∈ am_TG) (hw4 : Cond.code Lib.Math.max.name Lib.Math.max.code 2 (some .int) ∈ am_TG) (hL : 1 ≤ L) (hst : st.all am_s1 = true ∧ st.length ≤ 8) (hkc : kc ≤ mc) (hks : ks ≤ ms) (hd : decode cc pc = .ok (.invokestatic idx, 3)) (k : am_W Z kc ks (pc + 3) ls (.int (if x < y then y else x) :: st) h) : am_W Z kc ks pc ls (.int y :: .int x :: st) h := by
  obtain ⟨G, p, l, e, R, s, m, args, below, meth, c, h0, ad0, n', Q⟩ := Z
  obtain ⟨rfl, ⟨hx, hb, hml, hown, hts⟩, hlk, hE, htr, hR1, hR2, hR3, hR4⟩ := hC
  refine fun ad H locs lc hA hS hX hl hvl hvs => ?_
  have hcat : ((st.map (am_cv ad)).map fun v => v.category).sum ≤ 8 := by rw [am_catS hst.1]; exact hst.2
  exact va_mmax hx hb (hml.trans hl.1.symm) hown (hts _ hw) (hts _ hw2) (hts _ hw3) (hts _ hw4) (by omega) (by omega) (by omega) (by omega) hd (k ad H locs lc hA hS hX hl hvl (am_Vc trivial (am_Vt (am_Vt hvs))))
theorem am_mmin (hC : am_OK Z own cc n L mc ms) {idx : Nat} {x y : Int32} (hw : Cond.methodLink own idx Lib.Math.min.name ∈ am_TG) (hw2 : Cond.static Lib.Math.min.name ∈ am_TG) (hw3 : Cond.initialized "java/lang/Math" ∈ am_TG) (hw4 : Cond.code Lib.Math.min.name Lib.Math.min.code 2 (some .int) ∈ am_TG) (hL : 1 ≤ L) (hst : st.all am_s1 = true ∧ st.length ≤ 8) (hkc : kc ≤ mc) (hks : ks ≤ ms) (hd : decode cc pc = .ok (.invokestatic idx, 3)) (k : am_W Z kc ks (pc + 3) ls (.int (if y < x then y else x) :: st) h) : am_W Z kc ks pc ls (.int y :: .int x :: st) h := by
  obtain ⟨G, p, l, e, R, s, m, args, below, meth, c, h0, ad0, n', Q⟩ := Z
  obtain ⟨rfl, ⟨hx, hb, hml, hown, hts⟩, hlk, hE, htr, hR1, hR2, hR3, hR4⟩ := hC
  refine fun ad H locs lc hA hS hX hl hvl hvs => ?_
  have hcat : ((st.map (am_cv ad)).map fun v => v.category).sum ≤ 8 := by rw [am_catS hst.1]; exact hst.2
  exact va_mmin hx hb (hml.trans hl.1.symm) hown (hts _ hw) (hts _ hw2) (hts _ hw3) (hts _ hw4) (by omega) (by omega) (by omega) (by omega) hd (k ad H locs lc hA hS hX hl hvl (am_Vc trivial (am_Vt (am_Vt hvs))))
end AMX
end
section
theorem tw_0 : (Jvm.Cond.initialized "HousePlansLaw") ∈ am_TG := am_inTG (List.mem_append_right _ (List.mem_of_getElem? (i := 0) (by decide +kernel))) rfl
theorem tw_1 : (Jvm.Cond.initialized "HousePlans") ∈ am_TG := am_inTG (List.mem_append_right _ (List.mem_of_getElem? (i := 1) (by decide +kernel))) rfl
theorem tw_2 : (Jvm.Cond.initialized "java/util/AbstractCollection") ∈ am_TG := am_inTG (List.mem_append_right _ (List.mem_of_getElem? (i := 2) (by decide +kernel))) rfl
theorem tw_3 : (Jvm.Cond.initialized "java/util/AbstractList") ∈ am_TG := am_inTG (List.mem_append_right _ (List.mem_of_getElem? (i := 3) (by decide +kernel))) rfl
theorem tw_4 : (Jvm.Cond.initialized "java/util/ArrayList") ∈ am_TG := am_inTG (List.mem_append_right _ (List.mem_of_getElem? (i := 4) (by decide +kernel))) rfl
theorem tw_5 : (Jvm.Cond.initialized "HousePlans$Floor") ∈ am_TG := am_inTG (List.mem_append_right _ (List.mem_of_getElem? (i := 5) (by decide +kernel))) rfl
theorem tw_6 : (Jvm.Cond.initialized "HousePlans$State") ∈ am_TG := am_inTG (List.mem_append_right _ (List.mem_of_getElem? (i := 6) (by decide +kernel))) rfl
theorem tw_7 : (Jvm.Cond.initialized "java/util/Objects") ∈ am_TG := am_inTG (List.mem_append_right _ (List.mem_of_getElem? (i := 7) (by decide +kernel))) rfl
theorem tw_8 : (Jvm.Cond.initialized "jdk/internal/util/Preconditions") ∈ am_TG := am_inTG (List.mem_append_right _ (List.mem_of_getElem? (i := 8) (by decide +kernel))) rfl
theorem tw_9 : (Jvm.Cond.initialized "HousePlans$Drawing") ∈ am_TG := am_inTG (List.mem_append_right _ (List.mem_of_getElem? (i := 9) (by decide +kernel))) rfl
theorem tw_10 : (Jvm.Cond.initialized "java/lang/Throwable") ∈ am_TG := am_inTG (List.mem_append_right _ (List.mem_of_getElem? (i := 10) (by decide +kernel))) rfl
theorem tw_11 : (Jvm.Cond.initialized "java/lang/Exception") ∈ am_TG := am_inTG (List.mem_append_right _ (List.mem_of_getElem? (i := 11) (by decide +kernel))) rfl
theorem tw_12 : (Jvm.Cond.initialized "java/lang/RuntimeException") ∈ am_TG := am_inTG (List.mem_append_right _ (List.mem_of_getElem? (i := 12) (by decide +kernel))) rfl
theorem tw_13 : (Jvm.Cond.initialized "java/lang/IllegalStateException") ∈ am_TG := am_inTG (List.mem_append_right _ (List.mem_of_getElem? (i := 13) (by decide +kernel))) rfl
theorem tw_14 : (Jvm.Cond.initialized "java/util/Arrays") ∈ am_TG := am_inTG (List.mem_append_right _ (List.mem_of_getElem? (i := 14) (by decide +kernel))) rfl
theorem tw_15 : (Jvm.Cond.initialized "jdk/internal/util/ArraysSupport") ∈ am_TG := am_inTG (List.mem_append_right _ (List.mem_of_getElem? (i := 15) (by decide +kernel))) rfl
theorem tw_16 : (Jvm.Cond.initialized "java/lang/Math") ∈ am_TG := am_inTG (List.mem_append_right _ (List.mem_of_getElem? (i := 16) (by decide +kernel))) rfl
theorem tw_17 : (Jvm.Cond.initialized "java/lang/System") ∈ am_TG := am_inTG (List.mem_append_right _ (List.mem_of_getElem? (i := 17) (by decide +kernel))) rfl
theorem tw_18 : (Jvm.Cond.initialized "java/lang/IndexOutOfBoundsException") ∈ am_TG := am_inTG (List.mem_append_right _ (List.mem_of_getElem? (i := 18) (by decide +kernel))) rfl
theorem tw_19 : (Jvm.Cond.initialized "java/lang/IllegalArgumentException") ∈ am_TG := am_inTG (List.mem_append_right _ (List.mem_of_getElem? (i := 19) (by decide +kernel))) rfl
theorem tw_20 : (Jvm.Cond.initialized "HousePlans$Permit") ∈ am_TG := am_inTG (List.mem_append_right _ (List.mem_of_getElem? (i := 20) (by decide +kernel))) rfl
theorem tw_21 : (Jvm.Cond.initialized "HousePlans$Print") ∈ am_TG := am_inTG (List.mem_append_right _ (List.mem_of_getElem? (i := 21) (by decide +kernel))) rfl
theorem tw_22 : (Jvm.Cond.classLink "HousePlansLaw" (8 : Nat) "HousePlans") ∈ am_TG := am_inTG (List.mem_append_right _ (List.mem_of_getElem? (i := 22) (by decide +kernel))) rfl
theorem tw_23 : (Jvm.Cond.instantiable "HousePlans" (4 : Nat)) ∈ am_TG := am_inTG (List.mem_append_right _ (List.mem_of_getElem? (i := 23) (by decide +kernel))) rfl
theorem tw_24 : (Jvm.Cond.methodLink "HousePlansLaw" (102 : Nat) ({ cls := "HousePlans", name := "<init>", desc := "()V" } : Jvm.MethodName)) ∈ am_TG := am_inTG (List.mem_append_right _ (List.mem_of_getElem? (i := 24) (by decide +kernel))) rfl
theorem tw_25 : (Jvm.Cond.instanceMethod ({ cls := "HousePlans", name := "<init>", desc := "()V" } : Jvm.MethodName)) ∈ am_TG := am_inTG (List.mem_append_right _ (List.mem_of_getElem? (i := 25) (by decide +kernel))) rfl
theorem tw_26 : (Jvm.Cond.code ({ cls := "HousePlans", name := "<init>", desc := "()V" } : Jvm.MethodName) prog_1_method_1_code (1 : Nat) (Option.none : Option Jvm.ClassFile.FieldType)) ∈ am_TG := am_inTG (List.mem_append_right _ (List.mem_of_getElem? (i := 26) (by decide +kernel))) rfl
theorem tw_27 : (Jvm.Cond.methodLink "HousePlans" (1 : Nat) ({ cls := "java/lang/Object", name := "<init>", desc := "()V" } : Jvm.MethodName)) ∈ am_TG := am_inTG (List.mem_append_right _ (List.mem_of_getElem? (i := 27) (by decide +kernel))) rfl
theorem tw_28 : (Jvm.Cond.instanceMethod ({ cls := "java/lang/Object", name := "<init>", desc := "()V" } : Jvm.MethodName)) ∈ am_TG := am_inTG (List.mem_append_right _ (List.mem_of_getElem? (i := 28) (by decide +kernel))) rfl
theorem tw_29 : (Jvm.Cond.code ({ cls := "java/lang/Object", name := "<init>", desc := "()V" } : Jvm.MethodName) object_method_1_code (1 : Nat) (Option.none : Option Jvm.ClassFile.FieldType)) ∈ am_TG := am_inTG (List.mem_append_right _ (List.mem_of_getElem? (i := 29) (by decide +kernel))) rfl
theorem tw_30 : (Jvm.Cond.classLink "HousePlans" (7 : Nat) "java/util/ArrayList") ∈ am_TG := am_inTG (List.mem_append_right _ (List.mem_of_getElem? (i := 30) (by decide +kernel))) rfl
theorem tw_31 : (Jvm.Cond.instantiable "java/util/ArrayList" (3 : Nat)) ∈ am_TG := am_inTG (List.mem_append_right _ (List.mem_of_getElem? (i := 31) (by decide +kernel))) rfl
theorem tw_32 : (Jvm.Cond.methodLink "HousePlans" (9 : Nat) ({ cls := "java/util/ArrayList", name := "<init>", desc := "()V" } : Jvm.MethodName)) ∈ am_TG := am_inTG (List.mem_append_right _ (List.mem_of_getElem? (i := 32) (by decide +kernel))) rfl
theorem tw_33 : (Jvm.Cond.instanceMethod ({ cls := "java/util/ArrayList", name := "<init>", desc := "()V" } : Jvm.MethodName)) ∈ am_TG := am_inTG (List.mem_append_right _ (List.mem_of_getElem? (i := 33) (by decide +kernel))) rfl
theorem tw_34 : (Jvm.Cond.code ({ cls := "java/util/ArrayList", name := "<init>", desc := "()V" } : Jvm.MethodName) prog_23_method_2_code (1 : Nat) (Option.none : Option Jvm.ClassFile.FieldType)) ∈ am_TG := am_inTG (List.mem_append_right _ (List.mem_of_getElem? (i := 34) (by decide +kernel))) rfl
theorem tw_35 : (Jvm.Cond.methodLink "java/util/ArrayList" (1 : Nat) ({ cls := "java/util/AbstractList", name := "<init>", desc := "()V" } : Jvm.MethodName)) ∈ am_TG := am_inTG (List.mem_append_right _ (List.mem_of_getElem? (i := 35) (by decide +kernel))) rfl
theorem tw_36 : (Jvm.Cond.instanceMethod ({ cls := "java/util/AbstractList", name := "<init>", desc := "()V" } : Jvm.MethodName)) ∈ am_TG := am_inTG (List.mem_append_right _ (List.mem_of_getElem? (i := 36) (by decide +kernel))) rfl
theorem tw_37 : (Jvm.Cond.code ({ cls := "java/util/AbstractList", name := "<init>", desc := "()V" } : Jvm.MethodName) prog_22_method_1_code (1 : Nat) (Option.none : Option Jvm.ClassFile.FieldType)) ∈ am_TG := am_inTG (List.mem_append_right _ (List.mem_of_getElem? (i := 37) (by decide +kernel))) rfl
theorem tw_38 : (Jvm.Cond.methodLink "java/util/AbstractList" (1 : Nat) ({ cls := "java/util/AbstractCollection", name := "<init>", desc := "()V" } : Jvm.MethodName)) ∈ am_TG := am_inTG (List.mem_append_right _ (List.mem_of_getElem? (i := 38) (by decide +kernel))) rfl
theorem tw_39 : (Jvm.Cond.instanceMethod ({ cls := "java/util/AbstractCollection", name := "<init>", desc := "()V" } : Jvm.MethodName)) ∈ am_TG := am_inTG (List.mem_append_right _ (List.mem_of_getElem? (i := 39) (by decide +kernel))) rfl
theorem tw_40 : (Jvm.Cond.code ({ cls := "java/util/AbstractCollection", name := "<init>", desc := "()V" } : Jvm.MethodName) prog_21_method_1_code (1 : Nat) (Option.none : Option Jvm.ClassFile.FieldType)) ∈ am_TG := am_inTG (List.mem_append_right _ (List.mem_of_getElem? (i := 40) (by decide +kernel))) rfl
theorem tw_41 : (Jvm.Cond.methodLink "java/util/AbstractCollection" (1 : Nat) ({ cls := "java/lang/Object", name := "<init>", desc := "()V" } : Jvm.MethodName)) ∈ am_TG := am_inTG (List.mem_append_right _ (List.mem_of_getElem? (i := 41) (by decide +kernel))) rfl
theorem tw_42 : (Jvm.Cond.fieldLink "java/util/ArrayList" (39 : Nat) "java/util/ArrayList" "DEFAULTCAPACITY_EMPTY_ELEMENTDATA" "[Ljava/lang/Object;") ∈ am_TG := am_inTG (List.mem_append_right _ (List.mem_of_getElem? (i := 42) (by decide +kernel))) rfl
theorem tw_44 : (Jvm.Cond.fieldLink "java/util/ArrayList" (9 : Nat) "java/util/ArrayList" "elementData" "[Ljava/lang/Object;") ∈ am_TG := am_inTG (List.mem_append_right _ (List.mem_of_getElem? (i := 44) (by decide +kernel))) rfl
theorem tw_45 : (Jvm.Cond.fieldLink "java/util/ArrayList" (48 : Nat) "java/util/ArrayList" "size" "I") ∈ am_TG := am_inTG (List.mem_append_right _ (List.mem_of_getElem? (i := 45) (by decide +kernel))) rfl
theorem tw_46 : (Jvm.Cond.fieldLink "java/util/AbstractList" (7 : Nat) "java/util/AbstractList" "modCount" "I") ∈ am_TG := am_inTG (List.mem_append_right _ (List.mem_of_getElem? (i := 46) (by decide +kernel))) rfl
theorem tw_47 : (Jvm.Cond.fieldLink "java/util/ArrayList" (63 : Nat) "java/util/ArrayList" "modCount" "I") ∈ am_TG := am_inTG (List.mem_append_right _ (List.mem_of_getElem? (i := 47) (by decide +kernel))) rfl
theorem tw_48 : (Jvm.Cond.sameField "java/util/ArrayList" "java/util/AbstractList" "modCount" "I") ∈ am_TG := am_inTG (List.mem_append_right _ (List.mem_of_getElem? (i := 48) (by decide +kernel))) rfl
theorem tw_56 : (Jvm.Cond.classLink "HousePlans" (22 : Nat) "HousePlans$Floor") ∈ am_TG := am_inTG (List.mem_append_right _ (List.mem_of_getElem? (i := 56) (by decide +kernel))) rfl
theorem tw_57 : (Jvm.Cond.instantiable "HousePlans$Floor" (4 : Nat)) ∈ am_TG := am_inTG (List.mem_append_right _ (List.mem_of_getElem? (i := 57) (by decide +kernel))) rfl
theorem tw_58 : (Jvm.Cond.methodLinkNest "HousePlans" (24 : Nat) ({ cls := "HousePlans$Floor", name := "<init>", desc := "()V" } : Jvm.MethodName) "HousePlans") ∈ am_bw := am_inB (List.mem_append_right _ (List.mem_of_getElem? (i := 58) (by decide +kernel))) rfl
theorem tw_59 : (Jvm.Cond.instanceMethod ({ cls := "HousePlans$Floor", name := "<init>", desc := "()V" } : Jvm.MethodName)) ∈ am_TG := am_inTG (List.mem_append_right _ (List.mem_of_getElem? (i := 59) (by decide +kernel))) rfl
theorem tw_60 : (Jvm.Cond.code ({ cls := "HousePlans$Floor", name := "<init>", desc := "()V" } : Jvm.MethodName) prog_3_method_1_code (1 : Nat) (Option.none : Option Jvm.ClassFile.FieldType)) ∈ am_TG := am_inTG (List.mem_append_right _ (List.mem_of_getElem? (i := 60) (by decide +kernel))) rfl
theorem tw_61 : (Jvm.Cond.methodLink "HousePlans$Floor" (3 : Nat) ({ cls := "java/lang/Object", name := "<init>", desc := "()V" } : Jvm.MethodName)) ∈ am_TG := am_inTG (List.mem_append_right _ (List.mem_of_getElem? (i := 61) (by decide +kernel))) rfl
theorem tw_62 : (Jvm.Cond.classLink "HousePlans$Floor" (9 : Nat) "HousePlans$State") ∈ am_TG := am_inTG (List.mem_append_right _ (List.mem_of_getElem? (i := 62) (by decide +kernel))) rfl
theorem tw_63 : (Jvm.Cond.instantiable "HousePlans$State" (2 : Nat)) ∈ am_TG := am_inTG (List.mem_append_right _ (List.mem_of_getElem? (i := 63) (by decide +kernel))) rfl
theorem tw_64 : (Jvm.Cond.methodLinkNest "HousePlans$Floor" (11 : Nat) ({ cls := "HousePlans$State", name := "<init>", desc := "()V" } : Jvm.MethodName) "HousePlans") ∈ am_bw := am_inB (List.mem_append_right _ (List.mem_of_getElem? (i := 64) (by decide +kernel))) rfl
theorem tw_65 : (Jvm.Cond.instanceMethod ({ cls := "HousePlans$State", name := "<init>", desc := "()V" } : Jvm.MethodName)) ∈ am_TG := am_inTG (List.mem_append_right _ (List.mem_of_getElem? (i := 65) (by decide +kernel))) rfl
theorem tw_66 : (Jvm.Cond.code ({ cls := "HousePlans$State", name := "<init>", desc := "()V" } : Jvm.MethodName) prog_6_method_1_code (1 : Nat) (Option.none : Option Jvm.ClassFile.FieldType)) ∈ am_TG := am_inTG (List.mem_append_right _ (List.mem_of_getElem? (i := 66) (by decide +kernel))) rfl
theorem tw_67 : (Jvm.Cond.methodLink "HousePlans$State" (3 : Nat) ({ cls := "java/lang/Object", name := "<init>", desc := "()V" } : Jvm.MethodName)) ∈ am_TG := am_inTG (List.mem_append_right _ (List.mem_of_getElem? (i := 67) (by decide +kernel))) rfl
theorem tw_68 : (Jvm.Cond.fieldLink "HousePlans$State" (9 : Nat) "HousePlans$State" "sides" "[I") ∈ am_TG := am_inTG (List.mem_append_right _ (List.mem_of_getElem? (i := 68) (by decide +kernel))) rfl
theorem tw_69 : (Jvm.Cond.fieldLinkNest "HousePlans$Floor" (38 : Nat) "HousePlans$State" "sides" "[I" "HousePlans") ∈ am_bw := am_inB (List.mem_append_right _ (List.mem_of_getElem? (i := 69) (by decide +kernel))) rfl
theorem tw_70 : (Jvm.Cond.fieldLink "HousePlans$State" (15 : Nat) "HousePlans$State" "exits" "[Z") ∈ am_TG := am_inTG (List.mem_append_right _ (List.mem_of_getElem? (i := 70) (by decide +kernel))) rfl
theorem tw_71 : (Jvm.Cond.fieldLinkNest "HousePlans$Floor" (67 : Nat) "HousePlans$State" "exits" "[Z" "HousePlans") ∈ am_bw := am_inB (List.mem_append_right _ (List.mem_of_getElem? (i := 71) (by decide +kernel))) rfl
theorem tw_77 : (Jvm.Cond.arrayClass Jvm.ClassFile.FieldType.int) ∈ am_TG := am_inTG (List.mem_append_right _ (List.mem_of_getElem? (i := 77) (by decide +kernel))) rfl
theorem tw_78 : (Jvm.Cond.arrayClass Jvm.ClassFile.FieldType.boolean) ∈ am_TG := am_inTG (List.mem_append_right _ (List.mem_of_getElem? (i := 78) (by decide +kernel))) rfl
theorem tw_79 : (Jvm.Cond.fieldLink "HousePlans$Floor" (12 : Nat) "HousePlans$Floor" "state" "LHousePlans$State;") ∈ am_TG := am_inTG (List.mem_append_right _ (List.mem_of_getElem? (i := 79) (by decide +kernel))) rfl
theorem tw_80 : (Jvm.Cond.fieldLink "HousePlans$Floor" (18 : Nat) "HousePlans$Floor" "roomOf" "[I") ∈ am_TG := am_inTG (List.mem_append_right _ (List.mem_of_getElem? (i := 80) (by decide +kernel))) rfl
theorem tw_81 : (Jvm.Cond.fieldLinkNest "HousePlans" (103 : Nat) "HousePlans$Floor" "roomOf" "[I" "HousePlans") ∈ am_bw := am_inB (List.mem_append_right _ (List.mem_of_getElem? (i := 81) (by decide +kernel))) rfl
theorem tw_82 : (Jvm.Cond.fieldLink "HousePlans$Floor" (22 : Nat) "HousePlans$Floor" "doorsOutOf" "[I") ∈ am_TG := am_inTG (List.mem_append_right _ (List.mem_of_getElem? (i := 82) (by decide +kernel))) rfl
theorem tw_83 : (Jvm.Cond.fieldLinkNest "HousePlans" (109 : Nat) "HousePlans$Floor" "doorsOutOf" "[I" "HousePlans") ∈ am_bw := am_inB (List.mem_append_right _ (List.mem_of_getElem? (i := 83) (by decide +kernel))) rfl
theorem tw_84 : (Jvm.Cond.fieldLink "HousePlans$Floor" (25 : Nat) "HousePlans$Floor" "doorsFrom" "[I") ∈ am_TG := am_inTG (List.mem_append_right _ (List.mem_of_getElem? (i := 84) (by decide +kernel))) rfl
theorem tw_94 : (Jvm.Cond.fieldLink "HousePlans" (10 : Nat) "HousePlans" "drawingList" "Ljava/util/ArrayList;") ∈ am_TG := am_inTG (List.mem_append_right _ (List.mem_of_getElem? (i := 94) (by decide +kernel))) rfl
theorem tw_95 : (Jvm.Cond.fieldLink "HousePlans" (16 : Nat) "HousePlans" "permitList" "Ljava/util/ArrayList;") ∈ am_TG := am_inTG (List.mem_append_right _ (List.mem_of_getElem? (i := 95) (by decide +kernel))) rfl
theorem tw_96 : (Jvm.Cond.fieldLink "HousePlans" (19 : Nat) "HousePlans" "printList" "Ljava/util/ArrayList;") ∈ am_TG := am_inTG (List.mem_append_right _ (List.mem_of_getElem? (i := 96) (by decide +kernel))) rfl
theorem tw_97 : (Jvm.Cond.fieldLink "HousePlans" (25 : Nat) "HousePlans" "floor" "LHousePlans$Floor;") ∈ am_TG := am_inTG (List.mem_append_right _ (List.mem_of_getElem? (i := 97) (by decide +kernel))) rfl
theorem tw_107 : (Jvm.Cond.methodLink "HousePlansLaw" (22 : Nat) ({ cls := "HousePlans", name := "begin", desc := "()I" } : Jvm.MethodName)) ∈ am_TG := am_inTG (List.mem_append_right _ (List.mem_of_getElem? (i := 107) (by decide +kernel))) rfl
theorem tw_108 : (Jvm.Cond.instanceMethod ({ cls := "HousePlans", name := "begin", desc := "()I" } : Jvm.MethodName)) ∈ am_TG := am_inTG (List.mem_append_right _ (List.mem_of_getElem? (i := 108) (by decide +kernel))) rfl
theorem tw_109 : (Jvm.Cond.selects "HousePlans" ({ cls := "HousePlans", name := "begin", desc := "()I" } : Jvm.MethodName) ({ cls := "HousePlans", name := "begin", desc := "()I" } : Jvm.MethodName)) ∈ am_TG := am_inTG (List.mem_append_right _ (List.mem_of_getElem? (i := 109) (by decide +kernel))) rfl
theorem tw_110 : (Jvm.Cond.code ({ cls := "HousePlans", name := "begin", desc := "()I" } : Jvm.MethodName) prog_1_method_2_code (2 : Nat) (Option.some Jvm.ClassFile.FieldType.int)) ∈ am_TG := am_inTG (List.mem_append_right _ (List.mem_of_getElem? (i := 110) (by decide +kernel))) rfl
theorem tw_111 : (Jvm.Cond.methodLink "HousePlans" (29 : Nat) ({ cls := "java/util/ArrayList", name := "size", desc := "()I" } : Jvm.MethodName)) ∈ am_TG := am_inTG (List.mem_append_right _ (List.mem_of_getElem? (i := 111) (by decide +kernel))) rfl
theorem tw_112 : (Jvm.Cond.instanceMethod ({ cls := "java/util/ArrayList", name := "size", desc := "()I" } : Jvm.MethodName)) ∈ am_TG := am_inTG (List.mem_append_right _ (List.mem_of_getElem? (i := 112) (by decide +kernel))) rfl
theorem tw_113 : (Jvm.Cond.selects "java/util/ArrayList" ({ cls := "java/util/ArrayList", name := "size", desc := "()I" } : Jvm.MethodName) ({ cls := "java/util/ArrayList", name := "size", desc := "()I" } : Jvm.MethodName)) ∈ am_TG := am_inTG (List.mem_append_right _ (List.mem_of_getElem? (i := 113) (by decide +kernel))) rfl
theorem tw_114 : (Jvm.Cond.code ({ cls := "java/util/ArrayList", name := "size", desc := "()I" } : Jvm.MethodName) prog_23_method_8_code (1 : Nat) (Option.some Jvm.ClassFile.FieldType.int)) ∈ am_TG := am_inTG (List.mem_append_right _ (List.mem_of_getElem? (i := 114) (by decide +kernel))) rfl
theorem tw_115 : (Jvm.Cond.classLink "HousePlans" (33 : Nat) "java/lang/IllegalStateException") ∈ am_TG := am_inTG (List.mem_append_right _ (List.mem_of_getElem? (i := 115) (by decide +kernel))) rfl
theorem tw_116 : (Jvm.Cond.instantiable "java/lang/IllegalStateException" (6 : Nat)) ∈ am_TG := am_inTG (List.mem_append_right _ (List.mem_of_getElem? (i := 116) (by decide +kernel))) rfl
theorem tw_117 : (Jvm.Cond.castable "java/lang/IllegalStateException" "java/lang/IllegalStateException") ∈ am_bw := am_inB (List.mem_append_right _ (List.mem_of_getElem? (i := 117) (by decide +kernel))) rfl
theorem tw_118 : (Jvm.Cond.declares ({ cls := "java/lang/RuntimeException", name := "<init>", desc := "()V" } : Jvm.MethodName)) ∈ am_bw := am_inB (List.mem_append_right _ (List.mem_of_getElem? (i := 118) (by decide +kernel))) rfl
theorem tw_119 : (Jvm.Cond.declares ({ cls := "java/lang/RuntimeException", name := "<init>", desc := "(Ljava/lang/String;)V" } : Jvm.MethodName)) ∈ am_bw := am_inB (List.mem_append_right _ (List.mem_of_getElem? (i := 119) (by decide +kernel))) rfl
theorem tw_120 : (Jvm.Cond.declares ({ cls := "java/lang/Exception", name := "<init>", desc := "()V" } : Jvm.MethodName)) ∈ am_bw := am_inB (List.mem_append_right _ (List.mem_of_getElem? (i := 120) (by decide +kernel))) rfl
theorem tw_121 : (Jvm.Cond.declares ({ cls := "java/lang/Exception", name := "<init>", desc := "(Ljava/lang/String;)V" } : Jvm.MethodName)) ∈ am_bw := am_inB (List.mem_append_right _ (List.mem_of_getElem? (i := 121) (by decide +kernel))) rfl
theorem tw_122 : (Jvm.Cond.declares ({ cls := "java/lang/Throwable", name := "<init>", desc := "()V" } : Jvm.MethodName)) ∈ am_bw := am_inB (List.mem_append_right _ (List.mem_of_getElem? (i := 122) (by decide +kernel))) rfl
theorem tw_123 : (Jvm.Cond.declares ({ cls := "java/lang/Throwable", name := "<init>", desc := "(Ljava/lang/String;)V" } : Jvm.MethodName)) ∈ am_bw := am_inB (List.mem_append_right _ (List.mem_of_getElem? (i := 123) (by decide +kernel))) rfl
theorem tw_124 : (Jvm.Cond.selects "java/lang/IllegalStateException" ({ cls := "java/lang/Throwable", name := "fillInStackTrace", desc := "(I)Ljava/lang/Throwable;" } : Jvm.MethodName) ({ cls := "java/lang/Throwable", name := "fillInStackTrace", desc := "(I)Ljava/lang/Throwable;" } : Jvm.MethodName)) ∈ am_TG := am_inTG (List.mem_append_right _ (List.mem_of_getElem? (i := 124) (by decide +kernel))) rfl
theorem tw_125 : (Jvm.Cond.selects "java/lang/IllegalStateException" ({ cls := "java/lang/Throwable", name := "fillInStackTrace", desc := "()Ljava/lang/Throwable;" } : Jvm.MethodName) ({ cls := "java/lang/Throwable", name := "fillInStackTrace", desc := "()Ljava/lang/Throwable;" } : Jvm.MethodName)) ∈ am_TG := am_inTG (List.mem_append_right _ (List.mem_of_getElem? (i := 125) (by decide +kernel))) rfl
theorem tw_136 : (Jvm.Cond.fieldLink "java/lang/Throwable" (198 : Nat) "java/lang/Throwable" "backtrace" "Ljava/lang/Object;") ∈ am_TG := am_inTG (List.mem_append_right _ (List.mem_of_getElem? (i := 136) (by decide +kernel))) rfl
theorem tw_138 : (Jvm.Cond.instanceMethod ({ cls := "java/lang/Throwable", name := "<init>", desc := "()V" } : Jvm.MethodName)) ∈ am_TG := am_inTG (List.mem_append_right _ (List.mem_of_getElem? (i := 138) (by decide +kernel))) rfl
theorem tw_139 : (Jvm.Cond.code ({ cls := "java/lang/Throwable", name := "<init>", desc := "()V" } : Jvm.MethodName) prog_20_method_1_code (1 : Nat) (Option.none : Option Jvm.ClassFile.FieldType)) ∈ am_TG := am_inTG (List.mem_append_right _ (List.mem_of_getElem? (i := 139) (by decide +kernel))) rfl
theorem tw_140 : (Jvm.Cond.methodLink "java/lang/Throwable" (1 : Nat) ({ cls := "java/lang/Object", name := "<init>", desc := "()V" } : Jvm.MethodName)) ∈ am_TG := am_inTG (List.mem_append_right _ (List.mem_of_getElem? (i := 140) (by decide +kernel))) rfl
theorem tw_141 : (Jvm.Cond.fieldLink "java/lang/Throwable" (13 : Nat) "java/lang/Throwable" "UNASSIGNED_STACK" "[Ljava/lang/StackTraceElement;") ∈ am_TG := am_inTG (List.mem_append_right _ (List.mem_of_getElem? (i := 141) (by decide +kernel))) rfl
theorem tw_143 : (Jvm.Cond.fieldLink "java/lang/Throwable" (20 : Nat) "java/lang/Throwable" "SUPPRESSED_SENTINEL" "Ljava/util/List;") ∈ am_TG := am_inTG (List.mem_append_right _ (List.mem_of_getElem? (i := 143) (by decide +kernel))) rfl
theorem tw_145 : (Jvm.Cond.methodLink "java/lang/Throwable" (27 : Nat) ({ cls := "java/lang/Throwable", name := "fillInStackTrace", desc := "()Ljava/lang/Throwable;" } : Jvm.MethodName)) ∈ am_TG := am_inTG (List.mem_append_right _ (List.mem_of_getElem? (i := 145) (by decide +kernel))) rfl
theorem tw_146 : (Jvm.Cond.instanceMethod ({ cls := "java/lang/Throwable", name := "fillInStackTrace", desc := "()Ljava/lang/Throwable;" } : Jvm.MethodName)) ∈ am_TG := am_inTG (List.mem_append_right _ (List.mem_of_getElem? (i := 146) (by decide +kernel))) rfl
theorem tw_147 : (Jvm.Cond.sameMethod "java/lang/Throwable" "java/lang/Throwable" "fillInStackTrace" "()Ljava/lang/Throwable;") ∈ am_TG := am_inTG (List.mem_append_right _ (List.mem_of_getElem? (i := 147) (by decide +kernel))) rfl
theorem tw_148 : (Jvm.Cond.selects "java/lang/IllegalArgumentException" ({ cls := "java/lang/Throwable", name := "fillInStackTrace", desc := "()Ljava/lang/Throwable;" } : Jvm.MethodName) ({ cls := "java/lang/Throwable", name := "fillInStackTrace", desc := "()Ljava/lang/Throwable;" } : Jvm.MethodName)) ∈ am_TG := am_inTG (List.mem_append_right _ (List.mem_of_getElem? (i := 148) (by decide +kernel))) rfl
theorem tw_149 : (Jvm.Cond.selects "java/lang/IndexOutOfBoundsException" ({ cls := "java/lang/Throwable", name := "fillInStackTrace", desc := "()Ljava/lang/Throwable;" } : Jvm.MethodName) ({ cls := "java/lang/Throwable", name := "fillInStackTrace", desc := "()Ljava/lang/Throwable;" } : Jvm.MethodName)) ∈ am_TG := am_inTG (List.mem_append_right _ (List.mem_of_getElem? (i := 149) (by decide +kernel))) rfl
theorem tw_150 : (Jvm.Cond.codeSync ({ cls := "java/lang/Throwable", name := "fillInStackTrace", desc := "()Ljava/lang/Throwable;" } : Jvm.MethodName) prog_20_method_18_code (1 : Nat) (Option.some (Jvm.ClassFile.FieldType.object "java/lang/Throwable"))) ∈ am_TG := am_inTG (List.mem_append_right _ (List.mem_of_getElem? (i := 150) (by decide +kernel))) rfl
theorem tw_151 : (Jvm.Cond.methodLink "java/lang/Throwable" (202 : Nat) ({ cls := "java/lang/Throwable", name := "fillInStackTrace", desc := "(I)Ljava/lang/Throwable;" } : Jvm.MethodName)) ∈ am_TG := am_inTG (List.mem_append_right _ (List.mem_of_getElem? (i := 151) (by decide +kernel))) rfl
theorem tw_153 : (Jvm.Cond.instanceMethod ({ cls := "java/lang/Throwable", name := "fillInStackTrace", desc := "(I)Ljava/lang/Throwable;" } : Jvm.MethodName)) ∈ am_TG := am_inTG (List.mem_append_right _ (List.mem_of_getElem? (i := 153) (by decide +kernel))) rfl
theorem tw_154 : (Jvm.Cond.instantiable "java/lang/Throwable" (6 : Nat)) ∈ am_TG := am_inTG (List.mem_append_right _ (List.mem_of_getElem? (i := 154) (by decide +kernel))) rfl
theorem tw_155 : (Jvm.Cond.native ({ cls := "java/lang/Throwable", name := "fillInStackTrace", desc := "(I)Ljava/lang/Throwable;" } : Jvm.MethodName)) ∈ am_TG := am_inTG (List.mem_append_right _ (List.mem_of_getElem? (i := 155) (by decide +kernel))) rfl
theorem tw_156 : (Jvm.Cond.stringRef "HousePlans" (35 : Nat) "there are 6 drawings") ∈ lw_tbl := (List.mem_append_right _ (List.mem_of_getElem? (i := 156) (by decide +kernel)))
theorem tw_157 : (Jvm.Cond.methodLink "HousePlans" (37 : Nat) ({ cls := "java/lang/IllegalStateException", name := "<init>", desc := "(Ljava/lang/String;)V" } : Jvm.MethodName)) ∈ am_TG := am_inTG (List.mem_append_right _ (List.mem_of_getElem? (i := 157) (by decide +kernel))) rfl
theorem tw_158 : (Jvm.Cond.instanceMethod ({ cls := "java/lang/IllegalStateException", name := "<init>", desc := "(Ljava/lang/String;)V" } : Jvm.MethodName)) ∈ am_TG := am_inTG (List.mem_append_right _ (List.mem_of_getElem? (i := 158) (by decide +kernel))) rfl
theorem tw_159 : (Jvm.Cond.code ({ cls := "java/lang/IllegalStateException", name := "<init>", desc := "(Ljava/lang/String;)V" } : Jvm.MethodName) prog_13_method_2_code (2 : Nat) (Option.none : Option Jvm.ClassFile.FieldType)) ∈ am_TG := am_inTG (List.mem_append_right _ (List.mem_of_getElem? (i := 159) (by decide +kernel))) rfl
theorem tw_160 : (Jvm.Cond.methodLink "java/lang/IllegalStateException" (7 : Nat) ({ cls := "java/lang/RuntimeException", name := "<init>", desc := "(Ljava/lang/String;)V" } : Jvm.MethodName)) ∈ am_TG := am_inTG (List.mem_append_right _ (List.mem_of_getElem? (i := 160) (by decide +kernel))) rfl
theorem tw_161 : (Jvm.Cond.instanceMethod ({ cls := "java/lang/RuntimeException", name := "<init>", desc := "(Ljava/lang/String;)V" } : Jvm.MethodName)) ∈ am_TG := am_inTG (List.mem_append_right _ (List.mem_of_getElem? (i := 161) (by decide +kernel))) rfl
theorem tw_162 : (Jvm.Cond.code ({ cls := "java/lang/RuntimeException", name := "<init>", desc := "(Ljava/lang/String;)V" } : Jvm.MethodName) prog_17_method_2_code (2 : Nat) (Option.none : Option Jvm.ClassFile.FieldType)) ∈ am_TG := am_inTG (List.mem_append_right _ (List.mem_of_getElem? (i := 162) (by decide +kernel))) rfl
theorem tw_163 : (Jvm.Cond.methodLink "java/lang/RuntimeException" (7 : Nat) ({ cls := "java/lang/Exception", name := "<init>", desc := "(Ljava/lang/String;)V" } : Jvm.MethodName)) ∈ am_TG := am_inTG (List.mem_append_right _ (List.mem_of_getElem? (i := 163) (by decide +kernel))) rfl
theorem tw_164 : (Jvm.Cond.instanceMethod ({ cls := "java/lang/Exception", name := "<init>", desc := "(Ljava/lang/String;)V" } : Jvm.MethodName)) ∈ am_TG := am_inTG (List.mem_append_right _ (List.mem_of_getElem? (i := 164) (by decide +kernel))) rfl
theorem tw_165 : (Jvm.Cond.code ({ cls := "java/lang/Exception", name := "<init>", desc := "(Ljava/lang/String;)V" } : Jvm.MethodName) prog_11_method_2_code (2 : Nat) (Option.none : Option Jvm.ClassFile.FieldType)) ∈ am_TG := am_inTG (List.mem_append_right _ (List.mem_of_getElem? (i := 165) (by decide +kernel))) rfl
theorem tw_166 : (Jvm.Cond.methodLink "java/lang/Exception" (7 : Nat) ({ cls := "java/lang/Throwable", name := "<init>", desc := "(Ljava/lang/String;)V" } : Jvm.MethodName)) ∈ am_TG := am_inTG (List.mem_append_right _ (List.mem_of_getElem? (i := 166) (by decide +kernel))) rfl
theorem tw_167 : (Jvm.Cond.instanceMethod ({ cls := "java/lang/Throwable", name := "<init>", desc := "(Ljava/lang/String;)V" } : Jvm.MethodName)) ∈ am_TG := am_inTG (List.mem_append_right _ (List.mem_of_getElem? (i := 167) (by decide +kernel))) rfl
theorem tw_168 : (Jvm.Cond.code ({ cls := "java/lang/Throwable", name := "<init>", desc := "(Ljava/lang/String;)V" } : Jvm.MethodName) prog_20_method_2_code (2 : Nat) (Option.none : Option Jvm.ClassFile.FieldType)) ∈ am_TG := am_inTG (List.mem_append_right _ (List.mem_of_getElem? (i := 168) (by decide +kernel))) rfl
theorem tw_169 : (Jvm.Cond.fieldLink "java/lang/Throwable" (198 : Nat) "java/lang/Throwable" "backtrace" "Ljava/lang/Object;") ∈ am_TG := am_inTG (List.mem_append_right _ (List.mem_of_getElem? (i := 169) (by decide +kernel))) rfl
theorem tw_170 : (Jvm.Cond.fieldLink "java/lang/Throwable" (31 : Nat) "java/lang/Throwable" "detailMessage" "Ljava/lang/String;") ∈ am_TG := am_inTG (List.mem_append_right _ (List.mem_of_getElem? (i := 170) (by decide +kernel))) rfl
theorem tw_171 : (Jvm.Cond.fieldLink "java/lang/Throwable" (7 : Nat) "java/lang/Throwable" "cause" "Ljava/lang/Throwable;") ∈ am_TG := am_inTG (List.mem_append_right _ (List.mem_of_getElem? (i := 171) (by decide +kernel))) rfl
theorem tw_172 : (Jvm.Cond.fieldLink "java/lang/Throwable" (17 : Nat) "java/lang/Throwable" "stackTrace" "[Ljava/lang/StackTraceElement;") ∈ am_TG := am_inTG (List.mem_append_right _ (List.mem_of_getElem? (i := 172) (by decide +kernel))) rfl
theorem tw_173 : (Jvm.Cond.fieldLink "java/lang/Throwable" (24 : Nat) "java/lang/Throwable" "suppressedExceptions" "Ljava/util/List;") ∈ am_TG := am_inTG (List.mem_append_right _ (List.mem_of_getElem? (i := 173) (by decide +kernel))) rfl
theorem tw_182 : (Jvm.Cond.arrayClass Jvm.ClassFile.FieldType.byte) ∈ am_TG := am_inTG (List.mem_append_right _ (List.mem_of_getElem? (i := 182) (by decide +kernel))) rfl
theorem tw_183 : (Jvm.Cond.classLink "HousePlans" (40 : Nat) "HousePlans$Drawing") ∈ am_TG := am_inTG (List.mem_append_right _ (List.mem_of_getElem? (i := 183) (by decide +kernel))) rfl
theorem tw_184 : (Jvm.Cond.instantiable "HousePlans$Drawing" (5 : Nat)) ∈ am_TG := am_inTG (List.mem_append_right _ (List.mem_of_getElem? (i := 184) (by decide +kernel))) rfl
theorem tw_185 : (Jvm.Cond.methodLinkNest "HousePlans" (42 : Nat) ({ cls := "HousePlans$Drawing", name := "<init>", desc := "()V" } : Jvm.MethodName) "HousePlans") ∈ am_bw := am_inB (List.mem_append_right _ (List.mem_of_getElem? (i := 185) (by decide +kernel))) rfl
theorem tw_186 : (Jvm.Cond.instanceMethod ({ cls := "HousePlans$Drawing", name := "<init>", desc := "()V" } : Jvm.MethodName)) ∈ am_TG := am_inTG (List.mem_append_right _ (List.mem_of_getElem? (i := 186) (by decide +kernel))) rfl
theorem tw_187 : (Jvm.Cond.code ({ cls := "HousePlans$Drawing", name := "<init>", desc := "()V" } : Jvm.MethodName) prog_2_method_1_code (1 : Nat) (Option.none : Option Jvm.ClassFile.FieldType)) ∈ am_TG := am_inTG (List.mem_append_right _ (List.mem_of_getElem? (i := 187) (by decide +kernel))) rfl
theorem tw_188 : (Jvm.Cond.methodLink "HousePlans$Drawing" (3 : Nat) ({ cls := "java/lang/Object", name := "<init>", desc := "()V" } : Jvm.MethodName)) ∈ am_TG := am_inTG (List.mem_append_right _ (List.mem_of_getElem? (i := 188) (by decide +kernel))) rfl
theorem tw_189 : (Jvm.Cond.classLink "HousePlans$Drawing" (10 : Nat) "HousePlans$Drawing") ∈ am_TG := am_inTG (List.mem_append_right _ (List.mem_of_getElem? (i := 189) (by decide +kernel))) rfl
theorem tw_190 : (Jvm.Cond.arrayOver (Jvm.ClassFile.FieldType.object "HousePlans$Drawing")) ∈ am_bw := am_inB (List.mem_append_right _ (List.mem_of_getElem? (i := 190) (by decide +kernel))) rfl
theorem tw_191 : (Jvm.Cond.methodLink "HousePlans$Drawing" (30 : Nat) ({ cls := "java/util/Arrays", name := "fill", desc := "([II)V" } : Jvm.MethodName)) ∈ am_TG := am_inTG (List.mem_append_right _ (List.mem_of_getElem? (i := 191) (by decide +kernel))) rfl
theorem tw_192 : (Jvm.Cond.static ({ cls := "java/util/Arrays", name := "fill", desc := "([II)V" } : Jvm.MethodName)) ∈ am_TG := am_inTG (List.mem_append_right _ (List.mem_of_getElem? (i := 192) (by decide +kernel))) rfl
theorem tw_193 : (Jvm.Cond.code ({ cls := "java/util/Arrays", name := "fill", desc := "([II)V" } : Jvm.MethodName) prog_24_method_103_code (4 : Nat) (Option.none : Option Jvm.ClassFile.FieldType)) ∈ am_TG := am_inTG (List.mem_append_right _ (List.mem_of_getElem? (i := 193) (by decide +kernel))) rfl
theorem tw_194 : (Jvm.Cond.fieldLink "HousePlans$Drawing" (9 : Nat) "HousePlans$Drawing" "told" "[I") ∈ am_TG := am_inTG (List.mem_append_right _ (List.mem_of_getElem? (i := 194) (by decide +kernel))) rfl
theorem tw_195 : (Jvm.Cond.fieldLinkNest "HousePlans" (67 : Nat) "HousePlans$Drawing" "told" "[I" "HousePlans") ∈ am_bw := am_inB (List.mem_append_right _ (List.mem_of_getElem? (i := 195) (by decide +kernel))) rfl
theorem tw_196 : (Jvm.Cond.fieldLink "HousePlans$Drawing" (15 : Nat) "HousePlans$Drawing" "toldExits" "[Z") ∈ am_TG := am_inTG (List.mem_append_right _ (List.mem_of_getElem? (i := 196) (by decide +kernel))) rfl
theorem tw_197 : (Jvm.Cond.fieldLinkNest "HousePlans" (74 : Nat) "HousePlans$Drawing" "toldExits" "[Z" "HousePlans") ∈ am_bw := am_inB (List.mem_append_right _ (List.mem_of_getElem? (i := 197) (by decide +kernel))) rfl
theorem tw_198 : (Jvm.Cond.fieldLink "HousePlans$Drawing" (19 : Nat) "HousePlans$Drawing" "others" "[LHousePlans$Drawing;") ∈ am_TG := am_inTG (List.mem_append_right _ (List.mem_of_getElem? (i := 198) (by decide +kernel))) rfl
theorem tw_199 : (Jvm.Cond.fieldLinkNest "HousePlans" (84 : Nat) "HousePlans$Drawing" "others" "[LHousePlans$Drawing;" "HousePlans") ∈ am_bw := am_inB (List.mem_append_right _ (List.mem_of_getElem? (i := 199) (by decide +kernel))) rfl
theorem tw_200 : (Jvm.Cond.fieldLink "HousePlans$Drawing" (23 : Nat) "HousePlans$Drawing" "locker" "I") ∈ am_TG := am_inTG (List.mem_append_right _ (List.mem_of_getElem? (i := 200) (by decide +kernel))) rfl
theorem tw_201 : (Jvm.Cond.fieldLinkNest "HousePlans" (115 : Nat) "HousePlans$Drawing" "locker" "I" "HousePlans") ∈ am_bw := am_inB (List.mem_append_right _ (List.mem_of_getElem? (i := 201) (by decide +kernel))) rfl
theorem tw_202 : (Jvm.Cond.fieldLink "HousePlans$Drawing" (27 : Nat) "HousePlans$Drawing" "borrower" "I") ∈ am_TG := am_inTG (List.mem_append_right _ (List.mem_of_getElem? (i := 202) (by decide +kernel))) rfl
theorem tw_203 : (Jvm.Cond.fieldLinkNest "HousePlans" (124 : Nat) "HousePlans$Drawing" "borrower" "I" "HousePlans") ∈ am_bw := am_inB (List.mem_append_right _ (List.mem_of_getElem? (i := 203) (by decide +kernel))) rfl
theorem tw_215 : (Jvm.Cond.methodLink "HousePlans" (43 : Nat) ({ cls := "java/util/ArrayList", name := "add", desc := "(Ljava/lang/Object;)Z" } : Jvm.MethodName)) ∈ am_TG := am_inTG (List.mem_append_right _ (List.mem_of_getElem? (i := 215) (by decide +kernel))) rfl
theorem tw_216 : (Jvm.Cond.instanceMethod ({ cls := "java/util/ArrayList", name := "add", desc := "(Ljava/lang/Object;)Z" } : Jvm.MethodName)) ∈ am_TG := am_inTG (List.mem_append_right _ (List.mem_of_getElem? (i := 216) (by decide +kernel))) rfl
theorem tw_217 : (Jvm.Cond.selects "java/util/ArrayList" ({ cls := "java/util/ArrayList", name := "add", desc := "(Ljava/lang/Object;)Z" } : Jvm.MethodName) ({ cls := "java/util/ArrayList", name := "add", desc := "(Ljava/lang/Object;)Z" } : Jvm.MethodName)) ∈ am_TG := am_inTG (List.mem_append_right _ (List.mem_of_getElem? (i := 217) (by decide +kernel))) rfl
theorem tw_218 : (Jvm.Cond.code ({ cls := "java/util/ArrayList", name := "add", desc := "(Ljava/lang/Object;)Z" } : Jvm.MethodName) prog_23_method_25_code (2 : Nat) (Option.some Jvm.ClassFile.FieldType.boolean)) ∈ am_TG := am_inTG (List.mem_append_right _ (List.mem_of_getElem? (i := 218) (by decide +kernel))) rfl
theorem tw_219 : (Jvm.Cond.methodLink "java/util/ArrayList" (131 : Nat) ({ cls := "java/util/ArrayList", name := "add", desc := "(Ljava/lang/Object;[Ljava/lang/Object;I)V" } : Jvm.MethodName)) ∈ am_TG := am_inTG (List.mem_append_right _ (List.mem_of_getElem? (i := 219) (by decide +kernel))) rfl
theorem tw_221 : (Jvm.Cond.instanceMethod ({ cls := "java/util/ArrayList", name := "add", desc := "(Ljava/lang/Object;[Ljava/lang/Object;I)V" } : Jvm.MethodName)) ∈ am_TG := am_inTG (List.mem_append_right _ (List.mem_of_getElem? (i := 221) (by decide +kernel))) rfl
theorem tw_222 : (Jvm.Cond.code ({ cls := "java/util/ArrayList", name := "add", desc := "(Ljava/lang/Object;[Ljava/lang/Object;I)V" } : Jvm.MethodName) prog_23_method_24_code (4 : Nat) (Option.none : Option Jvm.ClassFile.FieldType)) ∈ am_TG := am_inTG (List.mem_append_right _ (List.mem_of_getElem? (i := 222) (by decide +kernel))) rfl
theorem tw_223 : (Jvm.Cond.methodLink "java/util/ArrayList" (129 : Nat) ({ cls := "java/util/ArrayList", name := "grow", desc := "()[Ljava/lang/Object;" } : Jvm.MethodName)) ∈ am_TG := am_inTG (List.mem_append_right _ (List.mem_of_getElem? (i := 223) (by decide +kernel))) rfl
theorem tw_225 : (Jvm.Cond.instanceMethod ({ cls := "java/util/ArrayList", name := "grow", desc := "()[Ljava/lang/Object;" } : Jvm.MethodName)) ∈ am_TG := am_inTG (List.mem_append_right _ (List.mem_of_getElem? (i := 225) (by decide +kernel))) rfl
theorem tw_226 : (Jvm.Cond.code ({ cls := "java/util/ArrayList", name := "grow", desc := "()[Ljava/lang/Object;" } : Jvm.MethodName) prog_23_method_7_code (1 : Nat) (Option.some (Jvm.ClassFile.FieldType.array (Jvm.ClassFile.FieldType.object "java/lang/Object")))) ∈ am_TG := am_inTG (List.mem_append_right _ (List.mem_of_getElem? (i := 226) (by decide +kernel))) rfl
theorem tw_227 : (Jvm.Cond.methodLink "java/util/ArrayList" (69 : Nat) ({ cls := "java/util/ArrayList", name := "grow", desc := "(I)[Ljava/lang/Object;" } : Jvm.MethodName)) ∈ am_TG := am_inTG (List.mem_append_right _ (List.mem_of_getElem? (i := 227) (by decide +kernel))) rfl
theorem tw_229 : (Jvm.Cond.instanceMethod ({ cls := "java/util/ArrayList", name := "grow", desc := "(I)[Ljava/lang/Object;" } : Jvm.MethodName)) ∈ am_TG := am_inTG (List.mem_append_right _ (List.mem_of_getElem? (i := 229) (by decide +kernel))) rfl
theorem tw_230 : (Jvm.Cond.code ({ cls := "java/util/ArrayList", name := "grow", desc := "(I)[Ljava/lang/Object;" } : Jvm.MethodName) prog_23_method_6_code (4 : Nat) (Option.some (Jvm.ClassFile.FieldType.array (Jvm.ClassFile.FieldType.object "java/lang/Object")))) ∈ am_TG := am_inTG (List.mem_append_right _ (List.mem_of_getElem? (i := 230) (by decide +kernel))) rfl
theorem tw_231 : (Jvm.Cond.methodLink "java/util/ArrayList" (73 : Nat) ({ cls := "jdk/internal/util/ArraysSupport", name := "newLength", desc := "(III)I" } : Jvm.MethodName)) ∈ am_TG := am_inTG (List.mem_append_right _ (List.mem_of_getElem? (i := 231) (by decide +kernel))) rfl
theorem tw_232 : (Jvm.Cond.static ({ cls := "jdk/internal/util/ArraysSupport", name := "newLength", desc := "(III)I" } : Jvm.MethodName)) ∈ am_TG := am_inTG (List.mem_append_right _ (List.mem_of_getElem? (i := 232) (by decide +kernel))) rfl
theorem tw_233 : (Jvm.Cond.code ({ cls := "jdk/internal/util/ArraysSupport", name := "newLength", desc := "(III)I" } : Jvm.MethodName) prog_30_method_27_code (4 : Nat) (Option.some Jvm.ClassFile.FieldType.int)) ∈ am_TG := am_inTG (List.mem_append_right _ (List.mem_of_getElem? (i := 233) (by decide +kernel))) rfl
theorem tw_234 : (Jvm.Cond.methodLink "jdk/internal/util/ArraysSupport" (194 : Nat) ({ cls := "java/lang/Math", name := "max", desc := "(II)I" } : Jvm.MethodName)) ∈ am_TG := am_inTG (List.mem_append_right _ (List.mem_of_getElem? (i := 234) (by decide +kernel))) rfl
theorem tw_235 : (Jvm.Cond.static ({ cls := "java/lang/Math", name := "max", desc := "(II)I" } : Jvm.MethodName)) ∈ am_TG := am_inTG (List.mem_append_right _ (List.mem_of_getElem? (i := 235) (by decide +kernel))) rfl
theorem tw_236 : (Jvm.Cond.code ({ cls := "java/lang/Math", name := "max", desc := "(II)I" } : Jvm.MethodName) prog_16_method_65_code (2 : Nat) (Option.some Jvm.ClassFile.FieldType.int)) ∈ am_TG := am_inTG (List.mem_append_right _ (List.mem_of_getElem? (i := 236) (by decide +kernel))) rfl
theorem tw_237 : (Jvm.Cond.constant "jdk/internal/util/ArraysSupport" (200 : Nat) (2147483639 : Int32)) ∈ am_TG := am_inTG (List.mem_append_right _ (List.mem_of_getElem? (i := 237) (by decide +kernel))) rfl
theorem tw_238 : (Jvm.Cond.methodLink "jdk/internal/util/ArraysSupport" (201 : Nat) ({ cls := "jdk/internal/util/ArraysSupport", name := "hugeLength", desc := "(II)I" } : Jvm.MethodName)) ∈ am_TG := am_inTG (List.mem_append_right _ (List.mem_of_getElem? (i := 238) (by decide +kernel))) rfl
theorem tw_239 : (Jvm.Cond.static ({ cls := "jdk/internal/util/ArraysSupport", name := "hugeLength", desc := "(II)I" } : Jvm.MethodName)) ∈ am_TG := am_inTG (List.mem_append_right _ (List.mem_of_getElem? (i := 239) (by decide +kernel))) rfl
theorem tw_240 : (Jvm.Cond.code ({ cls := "jdk/internal/util/ArraysSupport", name := "hugeLength", desc := "(II)I" } : Jvm.MethodName) prog_30_method_28_code (3 : Nat) (Option.some Jvm.ClassFile.FieldType.int)) ∈ am_TG := am_inTG (List.mem_append_right _ (List.mem_of_getElem? (i := 240) (by decide +kernel))) rfl
theorem tw_241 : (Jvm.Cond.methodLink "java/util/ArrayList" (66 : Nat) ({ cls := "java/util/Arrays", name := "copyOf", desc := "([Ljava/lang/Object;I)[Ljava/lang/Object;" } : Jvm.MethodName)) ∈ am_TG := am_inTG (List.mem_append_right _ (List.mem_of_getElem? (i := 241) (by decide +kernel))) rfl
theorem tw_242 : (Jvm.Cond.static ({ cls := "java/util/Arrays", name := "copyOf", desc := "([Ljava/lang/Object;I)[Ljava/lang/Object;" } : Jvm.MethodName)) ∈ am_TG := am_inTG (List.mem_append_right _ (List.mem_of_getElem? (i := 242) (by decide +kernel))) rfl
theorem tw_243 : (Jvm.Cond.code ({ cls := "java/util/Arrays", name := "copyOf", desc := "([Ljava/lang/Object;I)[Ljava/lang/Object;" } : Jvm.MethodName) prog_24_method_119_code (2 : Nat) (Option.some (Jvm.ClassFile.FieldType.array (Jvm.ClassFile.FieldType.object "java/lang/Object")))) ∈ am_TG := am_inTG (List.mem_append_right _ (List.mem_of_getElem? (i := 243) (by decide +kernel))) rfl
theorem tw_244 : (Jvm.Cond.methodLink "java/util/Arrays" (86 : Nat) ({ cls := "java/lang/Object", name := "getClass", desc := "()Ljava/lang/Class;" } : Jvm.MethodName)) ∈ am_TG := am_inTG (List.mem_append_right _ (List.mem_of_getElem? (i := 244) (by decide +kernel))) rfl
theorem tw_245 : (Jvm.Cond.instanceMethod ({ cls := "java/lang/Object", name := "getClass", desc := "()Ljava/lang/Class;" } : Jvm.MethodName)) ∈ am_TG := am_inTG (List.mem_append_right _ (List.mem_of_getElem? (i := 245) (by decide +kernel))) rfl
theorem tw_246 : (Jvm.Cond.sameMethod "java/lang/Object" "java/lang/Object" "getClass" "()Ljava/lang/Class;") ∈ am_TG := am_inTG (List.mem_append_right _ (List.mem_of_getElem? (i := 246) (by decide +kernel))) rfl
theorem tw_247 : (Jvm.Cond.selects "HousePlans" ({ cls := "java/lang/Object", name := "getClass", desc := "()Ljava/lang/Class;" } : Jvm.MethodName) ({ cls := "java/lang/Object", name := "getClass", desc := "()Ljava/lang/Class;" } : Jvm.MethodName)) ∈ am_TG := am_inTG (List.mem_append_right _ (List.mem_of_getElem? (i := 247) (by decide +kernel))) rfl
theorem tw_248 : (Jvm.Cond.selects "HousePlans$Drawing" ({ cls := "java/lang/Object", name := "getClass", desc := "()Ljava/lang/Class;" } : Jvm.MethodName) ({ cls := "java/lang/Object", name := "getClass", desc := "()Ljava/lang/Class;" } : Jvm.MethodName)) ∈ am_TG := am_inTG (List.mem_append_right _ (List.mem_of_getElem? (i := 248) (by decide +kernel))) rfl
theorem tw_249 : (Jvm.Cond.selects "HousePlans$Floor" ({ cls := "java/lang/Object", name := "getClass", desc := "()Ljava/lang/Class;" } : Jvm.MethodName) ({ cls := "java/lang/Object", name := "getClass", desc := "()Ljava/lang/Class;" } : Jvm.MethodName)) ∈ am_TG := am_inTG (List.mem_append_right _ (List.mem_of_getElem? (i := 249) (by decide +kernel))) rfl
theorem tw_250 : (Jvm.Cond.selects "HousePlans$Permit" ({ cls := "java/lang/Object", name := "getClass", desc := "()Ljava/lang/Class;" } : Jvm.MethodName) ({ cls := "java/lang/Object", name := "getClass", desc := "()Ljava/lang/Class;" } : Jvm.MethodName)) ∈ am_TG := am_inTG (List.mem_append_right _ (List.mem_of_getElem? (i := 250) (by decide +kernel))) rfl
theorem tw_251 : (Jvm.Cond.selects "HousePlans$Print" ({ cls := "java/lang/Object", name := "getClass", desc := "()Ljava/lang/Class;" } : Jvm.MethodName) ({ cls := "java/lang/Object", name := "getClass", desc := "()Ljava/lang/Class;" } : Jvm.MethodName)) ∈ am_TG := am_inTG (List.mem_append_right _ (List.mem_of_getElem? (i := 251) (by decide +kernel))) rfl
theorem tw_252 : (Jvm.Cond.selects "HousePlans$State" ({ cls := "java/lang/Object", name := "getClass", desc := "()Ljava/lang/Class;" } : Jvm.MethodName) ({ cls := "java/lang/Object", name := "getClass", desc := "()Ljava/lang/Class;" } : Jvm.MethodName)) ∈ am_TG := am_inTG (List.mem_append_right _ (List.mem_of_getElem? (i := 252) (by decide +kernel))) rfl
theorem tw_253 : (Jvm.Cond.selects "java/lang/IllegalArgumentException" ({ cls := "java/lang/Object", name := "getClass", desc := "()Ljava/lang/Class;" } : Jvm.MethodName) ({ cls := "java/lang/Object", name := "getClass", desc := "()Ljava/lang/Class;" } : Jvm.MethodName)) ∈ am_TG := am_inTG (List.mem_append_right _ (List.mem_of_getElem? (i := 253) (by decide +kernel))) rfl
theorem tw_254 : (Jvm.Cond.selects "java/lang/IllegalStateException" ({ cls := "java/lang/Object", name := "getClass", desc := "()Ljava/lang/Class;" } : Jvm.MethodName) ({ cls := "java/lang/Object", name := "getClass", desc := "()Ljava/lang/Class;" } : Jvm.MethodName)) ∈ am_TG := am_inTG (List.mem_append_right _ (List.mem_of_getElem? (i := 254) (by decide +kernel))) rfl
theorem tw_255 : (Jvm.Cond.selects "java/lang/IndexOutOfBoundsException" ({ cls := "java/lang/Object", name := "getClass", desc := "()Ljava/lang/Class;" } : Jvm.MethodName) ({ cls := "java/lang/Object", name := "getClass", desc := "()Ljava/lang/Class;" } : Jvm.MethodName)) ∈ am_TG := am_inTG (List.mem_append_right _ (List.mem_of_getElem? (i := 255) (by decide +kernel))) rfl
theorem tw_256 : (Jvm.Cond.selects "java/util/ArrayList" ({ cls := "java/lang/Object", name := "getClass", desc := "()Ljava/lang/Class;" } : Jvm.MethodName) ({ cls := "java/lang/Object", name := "getClass", desc := "()Ljava/lang/Class;" } : Jvm.MethodName)) ∈ am_TG := am_inTG (List.mem_append_right _ (List.mem_of_getElem? (i := 256) (by decide +kernel))) rfl
theorem tw_257 : (Jvm.Cond.native ({ cls := "java/lang/Object", name := "getClass", desc := "()Ljava/lang/Class;" } : Jvm.MethodName)) ∈ am_TG := am_inTG (List.mem_append_right _ (List.mem_of_getElem? (i := 257) (by decide +kernel))) rfl
theorem tw_258 : (Jvm.Cond.methodLink "java/util/Arrays" (300 : Nat) ({ cls := "java/util/Arrays", name := "copyOf", desc := "([Ljava/lang/Object;ILjava/lang/Class;)[Ljava/lang/Object;" } : Jvm.MethodName)) ∈ am_TG := am_inTG (List.mem_append_right _ (List.mem_of_getElem? (i := 258) (by decide +kernel))) rfl
theorem tw_259 : (Jvm.Cond.static ({ cls := "java/util/Arrays", name := "copyOf", desc := "([Ljava/lang/Object;ILjava/lang/Class;)[Ljava/lang/Object;" } : Jvm.MethodName)) ∈ am_TG := am_inTG (List.mem_append_right _ (List.mem_of_getElem? (i := 259) (by decide +kernel))) rfl
theorem tw_260 : (Jvm.Cond.code ({ cls := "java/util/Arrays", name := "copyOf", desc := "([Ljava/lang/Object;ILjava/lang/Class;)[Ljava/lang/Object;" } : Jvm.MethodName) prog_24_method_120_code (4 : Nat) (Option.some (Jvm.ClassFile.FieldType.array (Jvm.ClassFile.FieldType.object "java/lang/Object")))) ∈ am_TG := am_inTG (List.mem_append_right _ (List.mem_of_getElem? (i := 260) (by decide +kernel))) rfl
theorem tw_261 : (Jvm.Cond.classLink "java/util/Arrays" (110 : Nat) "[Ljava/lang/Object;") ∈ am_TG := am_inTG (List.mem_append_right _ (List.mem_of_getElem? (i := 261) (by decide +kernel))) rfl
theorem tw_262 : (Jvm.Cond.arrayOver (Jvm.ClassFile.FieldType.object "java/lang/Object")) ∈ am_bw := am_inB (List.mem_append_right _ (List.mem_of_getElem? (i := 262) (by decide +kernel))) rfl
theorem tw_263 : (Jvm.Cond.classLink "java/util/Arrays" (2 : Nat) "java/lang/Object") ∈ am_TG := am_inTG (List.mem_append_right _ (List.mem_of_getElem? (i := 263) (by decide +kernel))) rfl
theorem tw_264 : (Jvm.Cond.methodLink "java/util/Arrays" (304 : Nat) ({ cls := "java/lang/Math", name := "min", desc := "(II)I" } : Jvm.MethodName)) ∈ am_TG := am_inTG (List.mem_append_right _ (List.mem_of_getElem? (i := 264) (by decide +kernel))) rfl
theorem tw_265 : (Jvm.Cond.static ({ cls := "java/lang/Math", name := "min", desc := "(II)I" } : Jvm.MethodName)) ∈ am_TG := am_inTG (List.mem_append_right _ (List.mem_of_getElem? (i := 265) (by decide +kernel))) rfl
theorem tw_266 : (Jvm.Cond.code ({ cls := "java/lang/Math", name := "min", desc := "(II)I" } : Jvm.MethodName) prog_16_method_69_code (2 : Nat) (Option.some Jvm.ClassFile.FieldType.int)) ∈ am_TG := am_inTG (List.mem_append_right _ (List.mem_of_getElem? (i := 266) (by decide +kernel))) rfl
theorem tw_267 : (Jvm.Cond.methodLink "java/util/Arrays" (150 : Nat) ({ cls := "java/lang/System", name := "arraycopy", desc := "(Ljava/lang/Object;ILjava/lang/Object;II)V" } : Jvm.MethodName)) ∈ am_TG := am_inTG (List.mem_append_right _ (List.mem_of_getElem? (i := 267) (by decide +kernel))) rfl
theorem tw_268 : (Jvm.Cond.static ({ cls := "java/lang/System", name := "arraycopy", desc := "(Ljava/lang/Object;ILjava/lang/Object;II)V" } : Jvm.MethodName)) ∈ am_TG := am_inTG (List.mem_append_right _ (List.mem_of_getElem? (i := 268) (by decide +kernel))) rfl
theorem tw_269 : (Jvm.Cond.native ({ cls := "java/lang/System", name := "arraycopy", desc := "(Ljava/lang/Object;ILjava/lang/Object;II)V" } : Jvm.MethodName)) ∈ am_TG := am_inTG (List.mem_append_right _ (List.mem_of_getElem? (i := 269) (by decide +kernel))) rfl
theorem tw_270 : (Jvm.Cond.methodLink "java/util/ArrayList" (79 : Nat) ({ cls := "java/lang/Math", name := "max", desc := "(II)I" } : Jvm.MethodName)) ∈ am_TG := am_inTG (List.mem_append_right _ (List.mem_of_getElem? (i := 270) (by decide +kernel))) rfl
theorem tw_271 : (Jvm.Cond.classLink "java/util/ArrayList" (7 : Nat) "java/lang/Object") ∈ am_TG := am_inTG (List.mem_append_right _ (List.mem_of_getElem? (i := 271) (by decide +kernel))) rfl
theorem tw_272 : (Jvm.Cond.methodLink "HousePlansLaw" (26 : Nat) ({ cls := "HousePlans", name := "tell", desc := "(IIII)I" } : Jvm.MethodName)) ∈ am_TG := am_inTG (List.mem_append_right _ (List.mem_of_getElem? (i := 272) (by decide +kernel))) rfl
theorem tw_273 : (Jvm.Cond.instanceMethod ({ cls := "HousePlans", name := "tell", desc := "(IIII)I" } : Jvm.MethodName)) ∈ am_TG := am_inTG (List.mem_append_right _ (List.mem_of_getElem? (i := 273) (by decide +kernel))) rfl
theorem tw_274 : (Jvm.Cond.selects "HousePlans" ({ cls := "HousePlans", name := "tell", desc := "(IIII)I" } : Jvm.MethodName) ({ cls := "HousePlans", name := "tell", desc := "(IIII)I" } : Jvm.MethodName)) ∈ am_TG := am_inTG (List.mem_append_right _ (List.mem_of_getElem? (i := 274) (by decide +kernel))) rfl
theorem tw_275 : (Jvm.Cond.code ({ cls := "HousePlans", name := "tell", desc := "(IIII)I" } : Jvm.MethodName) prog_1_method_3_code (7 : Nat) (Option.some Jvm.ClassFile.FieldType.int)) ∈ am_TG := am_inTG (List.mem_append_right _ (List.mem_of_getElem? (i := 275) (by decide +kernel))) rfl
theorem tw_276 : (Jvm.Cond.methodLink "HousePlans" (47 : Nat) ({ cls := "HousePlans", name := "drawingAt", desc := "(I)LHousePlans$Drawing;" } : Jvm.MethodName)) ∈ am_TG := am_inTG (List.mem_append_right _ (List.mem_of_getElem? (i := 276) (by decide +kernel))) rfl
theorem tw_278 : (Jvm.Cond.instanceMethod ({ cls := "HousePlans", name := "drawingAt", desc := "(I)LHousePlans$Drawing;" } : Jvm.MethodName)) ∈ am_TG := am_inTG (List.mem_append_right _ (List.mem_of_getElem? (i := 278) (by decide +kernel))) rfl
theorem tw_279 : (Jvm.Cond.code ({ cls := "HousePlans", name := "drawingAt", desc := "(I)LHousePlans$Drawing;" } : Jvm.MethodName) prog_1_method_24_code (2 : Nat) (Option.some (Jvm.ClassFile.FieldType.object "HousePlans$Drawing"))) ∈ am_TG := am_inTG (List.mem_append_right _ (List.mem_of_getElem? (i := 279) (by decide +kernel))) rfl
theorem tw_280 : (Jvm.Cond.classLink "HousePlans" (146 : Nat) "java/lang/IndexOutOfBoundsException") ∈ am_TG := am_inTG (List.mem_append_right _ (List.mem_of_getElem? (i := 280) (by decide +kernel))) rfl
theorem tw_281 : (Jvm.Cond.instantiable "java/lang/IndexOutOfBoundsException" (6 : Nat)) ∈ am_TG := am_inTG (List.mem_append_right _ (List.mem_of_getElem? (i := 281) (by decide +kernel))) rfl
theorem tw_282 : (Jvm.Cond.castable "java/lang/IndexOutOfBoundsException" "java/lang/IndexOutOfBoundsException") ∈ am_bw := am_inB (List.mem_append_right _ (List.mem_of_getElem? (i := 282) (by decide +kernel))) rfl
theorem tw_283 : (Jvm.Cond.selects "java/lang/IndexOutOfBoundsException" ({ cls := "java/lang/Throwable", name := "fillInStackTrace", desc := "(I)Ljava/lang/Throwable;" } : Jvm.MethodName) ({ cls := "java/lang/Throwable", name := "fillInStackTrace", desc := "(I)Ljava/lang/Throwable;" } : Jvm.MethodName)) ∈ am_TG := am_inTG (List.mem_append_right _ (List.mem_of_getElem? (i := 283) (by decide +kernel))) rfl
theorem tw_289 : (Jvm.Cond.stringRef "HousePlans" (178 : Nat) "no such drawing") ∈ lw_tbl := (List.mem_append_right _ (List.mem_of_getElem? (i := 289) (by decide +kernel)))
theorem tw_290 : (Jvm.Cond.methodLink "HousePlans" (150 : Nat) ({ cls := "java/lang/IndexOutOfBoundsException", name := "<init>", desc := "(Ljava/lang/String;)V" } : Jvm.MethodName)) ∈ am_TG := am_inTG (List.mem_append_right _ (List.mem_of_getElem? (i := 290) (by decide +kernel))) rfl
theorem tw_291 : (Jvm.Cond.instanceMethod ({ cls := "java/lang/IndexOutOfBoundsException", name := "<init>", desc := "(Ljava/lang/String;)V" } : Jvm.MethodName)) ∈ am_TG := am_inTG (List.mem_append_right _ (List.mem_of_getElem? (i := 291) (by decide +kernel))) rfl
theorem tw_292 : (Jvm.Cond.code ({ cls := "java/lang/IndexOutOfBoundsException", name := "<init>", desc := "(Ljava/lang/String;)V" } : Jvm.MethodName) prog_14_method_2_code (2 : Nat) (Option.none : Option Jvm.ClassFile.FieldType)) ∈ am_TG := am_inTG (List.mem_append_right _ (List.mem_of_getElem? (i := 292) (by decide +kernel))) rfl
theorem tw_293 : (Jvm.Cond.methodLink "java/lang/IndexOutOfBoundsException" (7 : Nat) ({ cls := "java/lang/RuntimeException", name := "<init>", desc := "(Ljava/lang/String;)V" } : Jvm.MethodName)) ∈ am_TG := am_inTG (List.mem_append_right _ (List.mem_of_getElem? (i := 293) (by decide +kernel))) rfl
theorem tw_296 : (Jvm.Cond.methodLink "HousePlans" (151 : Nat) ({ cls := "java/util/ArrayList", name := "get", desc := "(I)Ljava/lang/Object;" } : Jvm.MethodName)) ∈ am_TG := am_inTG (List.mem_append_right _ (List.mem_of_getElem? (i := 296) (by decide +kernel))) rfl
theorem tw_297 : (Jvm.Cond.instanceMethod ({ cls := "java/util/ArrayList", name := "get", desc := "(I)Ljava/lang/Object;" } : Jvm.MethodName)) ∈ am_TG := am_inTG (List.mem_append_right _ (List.mem_of_getElem? (i := 297) (by decide +kernel))) rfl
theorem tw_298 : (Jvm.Cond.selects "java/util/ArrayList" ({ cls := "java/util/ArrayList", name := "get", desc := "(I)Ljava/lang/Object;" } : Jvm.MethodName) ({ cls := "java/util/ArrayList", name := "get", desc := "(I)Ljava/lang/Object;" } : Jvm.MethodName)) ∈ am_TG := am_inTG (List.mem_append_right _ (List.mem_of_getElem? (i := 298) (by decide +kernel))) rfl
theorem tw_299 : (Jvm.Cond.code ({ cls := "java/util/ArrayList", name := "get", desc := "(I)Ljava/lang/Object;" } : Jvm.MethodName) prog_23_method_20_code (2 : Nat) (Option.some (Jvm.ClassFile.FieldType.object "java/lang/Object"))) ∈ am_TG := am_inTG (List.mem_append_right _ (List.mem_of_getElem? (i := 299) (by decide +kernel))) rfl
theorem tw_300 : (Jvm.Cond.methodLink "java/util/ArrayList" (118 : Nat) ({ cls := "java/util/Objects", name := "checkIndex", desc := "(II)I" } : Jvm.MethodName)) ∈ am_TG := am_inTG (List.mem_append_right _ (List.mem_of_getElem? (i := 300) (by decide +kernel))) rfl
theorem tw_301 : (Jvm.Cond.static ({ cls := "java/util/Objects", name := "checkIndex", desc := "(II)I" } : Jvm.MethodName)) ∈ am_TG := am_inTG (List.mem_append_right _ (List.mem_of_getElem? (i := 301) (by decide +kernel))) rfl
theorem tw_302 : (Jvm.Cond.code ({ cls := "java/util/Objects", name := "checkIndex", desc := "(II)I" } : Jvm.MethodName) prog_27_method_17_code (2 : Nat) (Option.some Jvm.ClassFile.FieldType.int)) ∈ am_TG := am_inTG (List.mem_append_right _ (List.mem_of_getElem? (i := 302) (by decide +kernel))) rfl
theorem tw_303 : (Jvm.Cond.methodLink "java/util/Objects" (105 : Nat) ({ cls := "jdk/internal/util/Preconditions", name := "checkIndex", desc := "(IILjava/util/function/BiFunction;)I" } : Jvm.MethodName)) ∈ am_TG := am_inTG (List.mem_append_right _ (List.mem_of_getElem? (i := 303) (by decide +kernel))) rfl
theorem tw_304 : (Jvm.Cond.static ({ cls := "jdk/internal/util/Preconditions", name := "checkIndex", desc := "(IILjava/util/function/BiFunction;)I" } : Jvm.MethodName)) ∈ am_TG := am_inTG (List.mem_append_right _ (List.mem_of_getElem? (i := 304) (by decide +kernel))) rfl
theorem tw_305 : (Jvm.Cond.code ({ cls := "jdk/internal/util/Preconditions", name := "checkIndex", desc := "(IILjava/util/function/BiFunction;)I" } : Jvm.MethodName) prog_31_method_11_code (3 : Nat) (Option.some Jvm.ClassFile.FieldType.int)) ∈ am_TG := am_inTG (List.mem_append_right _ (List.mem_of_getElem? (i := 305) (by decide +kernel))) rfl
theorem tw_306 : (Jvm.Cond.methodLink "java/util/ArrayList" (123 : Nat) ({ cls := "java/util/ArrayList", name := "elementData", desc := "(I)Ljava/lang/Object;" } : Jvm.MethodName)) ∈ am_TG := am_inTG (List.mem_append_right _ (List.mem_of_getElem? (i := 306) (by decide +kernel))) rfl
theorem tw_307 : (Jvm.Cond.instanceMethod ({ cls := "java/util/ArrayList", name := "elementData", desc := "(I)Ljava/lang/Object;" } : Jvm.MethodName)) ∈ am_TG := am_inTG (List.mem_append_right _ (List.mem_of_getElem? (i := 307) (by decide +kernel))) rfl
theorem tw_308 : (Jvm.Cond.selects "java/util/ArrayList" ({ cls := "java/util/ArrayList", name := "elementData", desc := "(I)Ljava/lang/Object;" } : Jvm.MethodName) ({ cls := "java/util/ArrayList", name := "elementData", desc := "(I)Ljava/lang/Object;" } : Jvm.MethodName)) ∈ am_TG := am_inTG (List.mem_append_right _ (List.mem_of_getElem? (i := 308) (by decide +kernel))) rfl
theorem tw_309 : (Jvm.Cond.code ({ cls := "java/util/ArrayList", name := "elementData", desc := "(I)Ljava/lang/Object;" } : Jvm.MethodName) prog_23_method_18_code (2 : Nat) (Option.some (Jvm.ClassFile.FieldType.object "java/lang/Object"))) ∈ am_TG := am_inTG (List.mem_append_right _ (List.mem_of_getElem? (i := 309) (by decide +kernel))) rfl
theorem tw_310 : (Jvm.Cond.methodLink "HousePlans" (51 : Nat) ({ cls := "HousePlans", name := "needPerson", desc := "(I)V" } : Jvm.MethodName)) ∈ am_TG := am_inTG (List.mem_append_right _ (List.mem_of_getElem? (i := 310) (by decide +kernel))) rfl
theorem tw_311 : (Jvm.Cond.static ({ cls := "HousePlans", name := "needPerson", desc := "(I)V" } : Jvm.MethodName)) ∈ am_TG := am_inTG (List.mem_append_right _ (List.mem_of_getElem? (i := 311) (by decide +kernel))) rfl
theorem tw_312 : (Jvm.Cond.code ({ cls := "HousePlans", name := "needPerson", desc := "(I)V" } : Jvm.MethodName) prog_1_method_27_code (1 : Nat) (Option.none : Option Jvm.ClassFile.FieldType)) ∈ am_TG := am_inTG (List.mem_append_right _ (List.mem_of_getElem? (i := 312) (by decide +kernel))) rfl
theorem tw_313 : (Jvm.Cond.classLink "HousePlans" (58 : Nat) "java/lang/IllegalArgumentException") ∈ am_TG := am_inTG (List.mem_append_right _ (List.mem_of_getElem? (i := 313) (by decide +kernel))) rfl
theorem tw_314 : (Jvm.Cond.instantiable "java/lang/IllegalArgumentException" (6 : Nat)) ∈ am_TG := am_inTG (List.mem_append_right _ (List.mem_of_getElem? (i := 314) (by decide +kernel))) rfl
theorem tw_315 : (Jvm.Cond.castable "java/lang/IllegalArgumentException" "java/lang/IllegalArgumentException") ∈ am_bw := am_inB (List.mem_append_right _ (List.mem_of_getElem? (i := 315) (by decide +kernel))) rfl
theorem tw_316 : (Jvm.Cond.selects "java/lang/IllegalArgumentException" ({ cls := "java/lang/Throwable", name := "fillInStackTrace", desc := "(I)Ljava/lang/Throwable;" } : Jvm.MethodName) ({ cls := "java/lang/Throwable", name := "fillInStackTrace", desc := "(I)Ljava/lang/Throwable;" } : Jvm.MethodName)) ∈ am_TG := am_inTG (List.mem_append_right _ (List.mem_of_getElem? (i := 316) (by decide +kernel))) rfl
theorem tw_322 : (Jvm.Cond.stringRef "HousePlans" (186 : Nat) "no such person") ∈ lw_tbl := (List.mem_append_right _ (List.mem_of_getElem? (i := 322) (by decide +kernel)))
theorem tw_323 : (Jvm.Cond.methodLink "HousePlans" (62 : Nat) ({ cls := "java/lang/IllegalArgumentException", name := "<init>", desc := "(Ljava/lang/String;)V" } : Jvm.MethodName)) ∈ am_TG := am_inTG (List.mem_append_right _ (List.mem_of_getElem? (i := 323) (by decide +kernel))) rfl
theorem tw_324 : (Jvm.Cond.instanceMethod ({ cls := "java/lang/IllegalArgumentException", name := "<init>", desc := "(Ljava/lang/String;)V" } : Jvm.MethodName)) ∈ am_TG := am_inTG (List.mem_append_right _ (List.mem_of_getElem? (i := 324) (by decide +kernel))) rfl
theorem tw_325 : (Jvm.Cond.code ({ cls := "java/lang/IllegalArgumentException", name := "<init>", desc := "(Ljava/lang/String;)V" } : Jvm.MethodName) prog_12_method_2_code (2 : Nat) (Option.none : Option Jvm.ClassFile.FieldType)) ∈ am_TG := am_inTG (List.mem_append_right _ (List.mem_of_getElem? (i := 325) (by decide +kernel))) rfl
theorem tw_326 : (Jvm.Cond.methodLink "java/lang/IllegalArgumentException" (7 : Nat) ({ cls := "java/lang/RuntimeException", name := "<init>", desc := "(Ljava/lang/String;)V" } : Jvm.MethodName)) ∈ am_TG := am_inTG (List.mem_append_right _ (List.mem_of_getElem? (i := 326) (by decide +kernel))) rfl
theorem tw_329 : (Jvm.Cond.methodLink "HousePlans" (55 : Nat) ({ cls := "HousePlans", name := "needSide", desc := "(I)V" } : Jvm.MethodName)) ∈ am_TG := am_inTG (List.mem_append_right _ (List.mem_of_getElem? (i := 329) (by decide +kernel))) rfl
theorem tw_330 : (Jvm.Cond.static ({ cls := "HousePlans", name := "needSide", desc := "(I)V" } : Jvm.MethodName)) ∈ am_TG := am_inTG (List.mem_append_right _ (List.mem_of_getElem? (i := 330) (by decide +kernel))) rfl
theorem tw_331 : (Jvm.Cond.code ({ cls := "HousePlans", name := "needSide", desc := "(I)V" } : Jvm.MethodName) prog_1_method_28_code (1 : Nat) (Option.none : Option Jvm.ClassFile.FieldType)) ∈ am_TG := am_inTG (List.mem_append_right _ (List.mem_of_getElem? (i := 331) (by decide +kernel))) rfl
theorem tw_332 : (Jvm.Cond.stringRef "HousePlans" (188 : Nat) "no such side") ∈ lw_tbl := (List.mem_append_right _ (List.mem_of_getElem? (i := 332) (by decide +kernel)))
theorem tw_333 : (Jvm.Cond.stringRef "HousePlans" (60 : Nat) "a side is not that") ∈ lw_tbl := (List.mem_append_right _ (List.mem_of_getElem? (i := 333) (by decide +kernel)))
theorem tw_334 : (Jvm.Cond.methodLink "HousePlans" (63 : Nat) ({ cls := "HousePlans", name := "needChanger", desc := "(LHousePlans$Drawing;I)V" } : Jvm.MethodName)) ∈ am_TG := am_inTG (List.mem_append_right _ (List.mem_of_getElem? (i := 334) (by decide +kernel))) rfl
theorem tw_335 : (Jvm.Cond.static ({ cls := "HousePlans", name := "needChanger", desc := "(LHousePlans$Drawing;I)V" } : Jvm.MethodName)) ∈ am_TG := am_inTG (List.mem_append_right _ (List.mem_of_getElem? (i := 335) (by decide +kernel))) rfl
theorem tw_336 : (Jvm.Cond.code ({ cls := "HousePlans", name := "needChanger", desc := "(LHousePlans$Drawing;I)V" } : Jvm.MethodName) prog_1_method_30_code (2 : Nat) (Option.none : Option Jvm.ClassFile.FieldType)) ∈ am_TG := am_inTG (List.mem_append_right _ (List.mem_of_getElem? (i := 336) (by decide +kernel))) rfl
theorem tw_337 : (Jvm.Cond.methodLinkNest "HousePlans" (131 : Nat) ({ cls := "HousePlans$Drawing", name := "changer", desc := "()I" } : Jvm.MethodName) "HousePlans") ∈ am_bw := am_inB (List.mem_append_right _ (List.mem_of_getElem? (i := 337) (by decide +kernel))) rfl
theorem tw_339 : (Jvm.Cond.instanceMethod ({ cls := "HousePlans$Drawing", name := "changer", desc := "()I" } : Jvm.MethodName)) ∈ am_TG := am_inTG (List.mem_append_right _ (List.mem_of_getElem? (i := 339) (by decide +kernel))) rfl
theorem tw_340 : (Jvm.Cond.code ({ cls := "HousePlans$Drawing", name := "changer", desc := "()I" } : Jvm.MethodName) prog_2_method_2_code (1 : Nat) (Option.some Jvm.ClassFile.FieldType.int)) ∈ am_TG := am_inTG (List.mem_append_right _ (List.mem_of_getElem? (i := 340) (by decide +kernel))) rfl
theorem tw_341 : (Jvm.Cond.stringRef "HousePlans" (192 : Nat) "the person cannot change the drawing") ∈ lw_tbl := (List.mem_append_right _ (List.mem_of_getElem? (i := 341) (by decide +kernel)))
theorem tw_342 : (Jvm.Cond.methodLink "HousePlansLaw" (30 : Nat) ({ cls := "HousePlans", name := "setExit", desc := "(IIIZ)Z" } : Jvm.MethodName)) ∈ am_TG := am_inTG (List.mem_append_right _ (List.mem_of_getElem? (i := 342) (by decide +kernel))) rfl
theorem tw_343 : (Jvm.Cond.instanceMethod ({ cls := "HousePlans", name := "setExit", desc := "(IIIZ)Z" } : Jvm.MethodName)) ∈ am_TG := am_inTG (List.mem_append_right _ (List.mem_of_getElem? (i := 343) (by decide +kernel))) rfl
theorem tw_344 : (Jvm.Cond.selects "HousePlans" ({ cls := "HousePlans", name := "setExit", desc := "(IIIZ)Z" } : Jvm.MethodName) ({ cls := "HousePlans", name := "setExit", desc := "(IIIZ)Z" } : Jvm.MethodName)) ∈ am_TG := am_inTG (List.mem_append_right _ (List.mem_of_getElem? (i := 344) (by decide +kernel))) rfl
theorem tw_345 : (Jvm.Cond.code ({ cls := "HousePlans", name := "setExit", desc := "(IIIZ)Z" } : Jvm.MethodName) prog_1_method_4_code (7 : Nat) (Option.some Jvm.ClassFile.FieldType.boolean)) ∈ am_TG := am_inTG (List.mem_append_right _ (List.mem_of_getElem? (i := 345) (by decide +kernel))) rfl
theorem tw_346 : (Jvm.Cond.methodLink "HousePlans" (71 : Nat) ({ cls := "HousePlans", name := "needCell", desc := "(I)V" } : Jvm.MethodName)) ∈ am_TG := am_inTG (List.mem_append_right _ (List.mem_of_getElem? (i := 346) (by decide +kernel))) rfl
theorem tw_347 : (Jvm.Cond.static ({ cls := "HousePlans", name := "needCell", desc := "(I)V" } : Jvm.MethodName)) ∈ am_TG := am_inTG (List.mem_append_right _ (List.mem_of_getElem? (i := 347) (by decide +kernel))) rfl
theorem tw_348 : (Jvm.Cond.code ({ cls := "HousePlans", name := "needCell", desc := "(I)V" } : Jvm.MethodName) prog_1_method_29_code (1 : Nat) (Option.none : Option Jvm.ClassFile.FieldType)) ∈ am_TG := am_inTG (List.mem_append_right _ (List.mem_of_getElem? (i := 348) (by decide +kernel))) rfl
theorem tw_349 : (Jvm.Cond.stringRef "HousePlans" (190 : Nat) "no such cell") ∈ lw_tbl := (List.mem_append_right _ (List.mem_of_getElem? (i := 349) (by decide +kernel)))
theorem tw_350 : (Jvm.Cond.methodLink "HousePlansLaw" (37 : Nat) ({ cls := "HousePlans", name := "side", desc := "(II)I" } : Jvm.MethodName)) ∈ am_TG := am_inTG (List.mem_append_right _ (List.mem_of_getElem? (i := 350) (by decide +kernel))) rfl
theorem tw_351 : (Jvm.Cond.instanceMethod ({ cls := "HousePlans", name := "side", desc := "(II)I" } : Jvm.MethodName)) ∈ am_TG := am_inTG (List.mem_append_right _ (List.mem_of_getElem? (i := 351) (by decide +kernel))) rfl
theorem tw_352 : (Jvm.Cond.selects "HousePlans" ({ cls := "HousePlans", name := "side", desc := "(II)I" } : Jvm.MethodName) ({ cls := "HousePlans", name := "side", desc := "(II)I" } : Jvm.MethodName)) ∈ am_TG := am_inTG (List.mem_append_right _ (List.mem_of_getElem? (i := 352) (by decide +kernel))) rfl
theorem tw_353 : (Jvm.Cond.code ({ cls := "HousePlans", name := "side", desc := "(II)I" } : Jvm.MethodName) prog_1_method_7_code (4 : Nat) (Option.some Jvm.ClassFile.FieldType.int)) ∈ am_TG := am_inTG (List.mem_append_right _ (List.mem_of_getElem? (i := 353) (by decide +kernel))) rfl
theorem tw_354 : (Jvm.Cond.methodLinkNest "HousePlans" (88 : Nat) ({ cls := "HousePlans$Drawing", name := "sideNow", desc := "(I)I" } : Jvm.MethodName) "HousePlans") ∈ am_bw := am_inB (List.mem_append_right _ (List.mem_of_getElem? (i := 354) (by decide +kernel))) rfl
theorem tw_356 : (Jvm.Cond.instanceMethod ({ cls := "HousePlans$Drawing", name := "sideNow", desc := "(I)I" } : Jvm.MethodName)) ∈ am_TG := am_inTG (List.mem_append_right _ (List.mem_of_getElem? (i := 356) (by decide +kernel))) rfl
theorem tw_357 : (Jvm.Cond.code ({ cls := "HousePlans$Drawing", name := "sideNow", desc := "(I)I" } : Jvm.MethodName) prog_2_method_3_code (2 : Nat) (Option.some Jvm.ClassFile.FieldType.int)) ∈ am_TG := am_inTG (List.mem_append_right _ (List.mem_of_getElem? (i := 357) (by decide +kernel))) rfl
theorem tw_358 : (Jvm.Cond.methodLink "HousePlans$Drawing" (36 : Nat) ({ cls := "HousePlans$Drawing", name := "sideIn", desc := "(LHousePlans$Drawing;II)I" } : Jvm.MethodName)) ∈ am_TG := am_inTG (List.mem_append_right _ (List.mem_of_getElem? (i := 358) (by decide +kernel))) rfl
theorem tw_359 : (Jvm.Cond.static ({ cls := "HousePlans$Drawing", name := "sideIn", desc := "(LHousePlans$Drawing;II)I" } : Jvm.MethodName)) ∈ am_TG := am_inTG (List.mem_append_right _ (List.mem_of_getElem? (i := 359) (by decide +kernel))) rfl
theorem tw_360 : (Jvm.Cond.code ({ cls := "HousePlans$Drawing", name := "sideIn", desc := "(LHousePlans$Drawing;II)I" } : Jvm.MethodName) prog_2_method_6_code (8 : Nat) (Option.some Jvm.ClassFile.FieldType.int)) ∈ am_TG := am_inTG (List.mem_append_right _ (List.mem_of_getElem? (i := 360) (by decide +kernel))) rfl
theorem tw_361 : (Jvm.Cond.methodLink "HousePlansLaw" (45 : Nat) ({ cls := "HousePlans", name := "rooms", desc := "(I)I" } : Jvm.MethodName)) ∈ am_TG := am_inTG (List.mem_append_right _ (List.mem_of_getElem? (i := 361) (by decide +kernel))) rfl
theorem tw_362 : (Jvm.Cond.instanceMethod ({ cls := "HousePlans", name := "rooms", desc := "(I)I" } : Jvm.MethodName)) ∈ am_TG := am_inTG (List.mem_append_right _ (List.mem_of_getElem? (i := 362) (by decide +kernel))) rfl
theorem tw_363 : (Jvm.Cond.selects "HousePlans" ({ cls := "HousePlans", name := "rooms", desc := "(I)I" } : Jvm.MethodName) ({ cls := "HousePlans", name := "rooms", desc := "(I)I" } : Jvm.MethodName)) ∈ am_TG := am_inTG (List.mem_append_right _ (List.mem_of_getElem? (i := 363) (by decide +kernel))) rfl
theorem tw_364 : (Jvm.Cond.code ({ cls := "HousePlans", name := "rooms", desc := "(I)I" } : Jvm.MethodName) prog_1_method_9_code (2 : Nat) (Option.some Jvm.ClassFile.FieldType.int)) ∈ am_TG := am_inTG (List.mem_append_right _ (List.mem_of_getElem? (i := 364) (by decide +kernel))) rfl
theorem tw_365 : (Jvm.Cond.methodLinkNest "HousePlans" (96 : Nat) ({ cls := "HousePlans$Floor", name := "lookAt", desc := "(LHousePlans$Drawing;)V" } : Jvm.MethodName) "HousePlans") ∈ am_bw := am_inB (List.mem_append_right _ (List.mem_of_getElem? (i := 365) (by decide +kernel))) rfl
theorem tw_367 : (Jvm.Cond.instanceMethod ({ cls := "HousePlans$Floor", name := "lookAt", desc := "(LHousePlans$Drawing;)V" } : Jvm.MethodName)) ∈ am_TG := am_inTG (List.mem_append_right _ (List.mem_of_getElem? (i := 367) (by decide +kernel))) rfl
theorem tw_368 : (Jvm.Cond.code ({ cls := "HousePlans$Floor", name := "lookAt", desc := "(LHousePlans$Drawing;)V" } : Jvm.MethodName) prog_3_method_2_code (2 : Nat) (Option.none : Option Jvm.ClassFile.FieldType)) ∈ am_TG := am_inTG (List.mem_append_right _ (List.mem_of_getElem? (i := 368) (by decide +kernel))) rfl
theorem tw_369 : (Jvm.Cond.methodLinkNest "HousePlans$Floor" (28 : Nat) ({ cls := "HousePlans$State", name := "takeFrom", desc := "(LHousePlans$Drawing;)V" } : Jvm.MethodName) "HousePlans") ∈ am_bw := am_inB (List.mem_append_right _ (List.mem_of_getElem? (i := 369) (by decide +kernel))) rfl
theorem tw_371 : (Jvm.Cond.instanceMethod ({ cls := "HousePlans$State", name := "takeFrom", desc := "(LHousePlans$Drawing;)V" } : Jvm.MethodName)) ∈ am_TG := am_inTG (List.mem_append_right _ (List.mem_of_getElem? (i := 371) (by decide +kernel))) rfl
theorem tw_372 : (Jvm.Cond.code ({ cls := "HousePlans$State", name := "takeFrom", desc := "(LHousePlans$Drawing;)V" } : Jvm.MethodName) prog_6_method_2_code (3 : Nat) (Option.none : Option Jvm.ClassFile.FieldType)) ∈ am_TG := am_inTG (List.mem_append_right _ (List.mem_of_getElem? (i := 372) (by decide +kernel))) rfl
theorem tw_373 : (Jvm.Cond.methodLinkNest "HousePlans$State" (19 : Nat) ({ cls := "HousePlans$Drawing", name := "sideNow", desc := "(I)I" } : Jvm.MethodName) "HousePlans") ∈ am_bw := am_inB (List.mem_append_right _ (List.mem_of_getElem? (i := 373) (by decide +kernel))) rfl
theorem tw_374 : (Jvm.Cond.methodLinkNest "HousePlans$State" (25 : Nat) ({ cls := "HousePlans$Drawing", name := "exitNow", desc := "(I)Z" } : Jvm.MethodName) "HousePlans") ∈ am_bw := am_inB (List.mem_append_right _ (List.mem_of_getElem? (i := 374) (by decide +kernel))) rfl
theorem tw_376 : (Jvm.Cond.instanceMethod ({ cls := "HousePlans$Drawing", name := "exitNow", desc := "(I)Z" } : Jvm.MethodName)) ∈ am_TG := am_inTG (List.mem_append_right _ (List.mem_of_getElem? (i := 376) (by decide +kernel))) rfl
theorem tw_377 : (Jvm.Cond.code ({ cls := "HousePlans$Drawing", name := "exitNow", desc := "(I)Z" } : Jvm.MethodName) prog_2_method_4_code (2 : Nat) (Option.some Jvm.ClassFile.FieldType.boolean)) ∈ am_TG := am_inTG (List.mem_append_right _ (List.mem_of_getElem? (i := 377) (by decide +kernel))) rfl
theorem tw_378 : (Jvm.Cond.methodLink "HousePlans$Drawing" (40 : Nat) ({ cls := "HousePlans$Drawing", name := "exitIn", desc := "(LHousePlans$Drawing;II)Z" } : Jvm.MethodName)) ∈ am_TG := am_inTG (List.mem_append_right _ (List.mem_of_getElem? (i := 378) (by decide +kernel))) rfl
theorem tw_379 : (Jvm.Cond.static ({ cls := "HousePlans$Drawing", name := "exitIn", desc := "(LHousePlans$Drawing;II)Z" } : Jvm.MethodName)) ∈ am_TG := am_inTG (List.mem_append_right _ (List.mem_of_getElem? (i := 379) (by decide +kernel))) rfl
theorem tw_380 : (Jvm.Cond.code ({ cls := "HousePlans$Drawing", name := "exitIn", desc := "(LHousePlans$Drawing;II)Z" } : Jvm.MethodName) prog_2_method_7_code (7 : Nat) (Option.some Jvm.ClassFile.FieldType.boolean)) ∈ am_TG := am_inTG (List.mem_append_right _ (List.mem_of_getElem? (i := 380) (by decide +kernel))) rfl
theorem tw_381 : (Jvm.Cond.methodLink "HousePlans$Floor" (32 : Nat) ({ cls := "HousePlans$Floor", name := "findRooms", desc := "()V" } : Jvm.MethodName)) ∈ am_TG := am_inTG (List.mem_append_right _ (List.mem_of_getElem? (i := 381) (by decide +kernel))) rfl
theorem tw_383 : (Jvm.Cond.instanceMethod ({ cls := "HousePlans$Floor", name := "findRooms", desc := "()V" } : Jvm.MethodName)) ∈ am_TG := am_inTG (List.mem_append_right _ (List.mem_of_getElem? (i := 383) (by decide +kernel))) rfl
theorem tw_384 : (Jvm.Cond.code ({ cls := "HousePlans$Floor", name := "findRooms", desc := "()V" } : Jvm.MethodName) prog_3_method_3_code (2 : Nat) (Option.none : Option Jvm.ClassFile.FieldType)) ∈ am_TG := am_inTG (List.mem_append_right _ (List.mem_of_getElem? (i := 384) (by decide +kernel))) rfl
theorem tw_385 : (Jvm.Cond.methodLinkNest "HousePlans$Floor" (41 : Nat) ({ cls := "HousePlans", name := "firstCell", desc := "(I)I" } : Jvm.MethodName) "HousePlans") ∈ am_bw := am_inB (List.mem_append_right _ (List.mem_of_getElem? (i := 385) (by decide +kernel))) rfl
theorem tw_386 : (Jvm.Cond.static ({ cls := "HousePlans", name := "firstCell", desc := "(I)I" } : Jvm.MethodName)) ∈ am_TG := am_inTG (List.mem_append_right _ (List.mem_of_getElem? (i := 386) (by decide +kernel))) rfl
theorem tw_387 : (Jvm.Cond.code ({ cls := "HousePlans", name := "firstCell", desc := "(I)I" } : Jvm.MethodName) prog_1_method_32_code (1 : Nat) (Option.some Jvm.ClassFile.FieldType.int)) ∈ am_TG := am_inTG (List.mem_append_right _ (List.mem_of_getElem? (i := 387) (by decide +kernel))) rfl
theorem tw_388 : (Jvm.Cond.methodLinkNest "HousePlans$Floor" (45 : Nat) ({ cls := "HousePlans", name := "secondCell", desc := "(I)I" } : Jvm.MethodName) "HousePlans") ∈ am_bw := am_inB (List.mem_append_right _ (List.mem_of_getElem? (i := 388) (by decide +kernel))) rfl
theorem tw_389 : (Jvm.Cond.static ({ cls := "HousePlans", name := "secondCell", desc := "(I)I" } : Jvm.MethodName)) ∈ am_TG := am_inTG (List.mem_append_right _ (List.mem_of_getElem? (i := 389) (by decide +kernel))) rfl
theorem tw_390 : (Jvm.Cond.code ({ cls := "HousePlans", name := "secondCell", desc := "(I)I" } : Jvm.MethodName) prog_1_method_33_code (1 : Nat) (Option.some Jvm.ClassFile.FieldType.int)) ∈ am_TG := am_inTG (List.mem_append_right _ (List.mem_of_getElem? (i := 390) (by decide +kernel))) rfl
theorem tw_391 : (Jvm.Cond.methodLink "HousePlans" (196 : Nat) ({ cls := "HousePlans", name := "firstCell", desc := "(I)I" } : Jvm.MethodName)) ∈ am_TG := am_inTG (List.mem_append_right _ (List.mem_of_getElem? (i := 391) (by decide +kernel))) rfl
theorem tw_392 : (Jvm.Cond.methodLink "HousePlans$Floor" (48 : Nat) ({ cls := "HousePlans$Floor", name := "join", desc := "(II)V" } : Jvm.MethodName)) ∈ am_TG := am_inTG (List.mem_append_right _ (List.mem_of_getElem? (i := 392) (by decide +kernel))) rfl
theorem tw_394 : (Jvm.Cond.instanceMethod ({ cls := "HousePlans$Floor", name := "join", desc := "(II)V" } : Jvm.MethodName)) ∈ am_TG := am_inTG (List.mem_append_right _ (List.mem_of_getElem? (i := 394) (by decide +kernel))) rfl
theorem tw_395 : (Jvm.Cond.code ({ cls := "HousePlans$Floor", name := "join", desc := "(II)V" } : Jvm.MethodName) prog_3_method_4_code (6 : Nat) (Option.none : Option Jvm.ClassFile.FieldType)) ∈ am_TG := am_inTG (List.mem_append_right _ (List.mem_of_getElem? (i := 395) (by decide +kernel))) rfl
theorem tw_396 : (Jvm.Cond.methodLink "HousePlans$Floor" (52 : Nat) ({ cls := "java/lang/Math", name := "min", desc := "(II)I" } : Jvm.MethodName)) ∈ am_TG := am_inTG (List.mem_append_right _ (List.mem_of_getElem? (i := 396) (by decide +kernel))) rfl
theorem tw_397 : (Jvm.Cond.methodLink "HousePlans$Floor" (58 : Nat) ({ cls := "java/lang/Math", name := "max", desc := "(II)I" } : Jvm.MethodName)) ∈ am_TG := am_inTG (List.mem_append_right _ (List.mem_of_getElem? (i := 397) (by decide +kernel))) rfl
theorem tw_398 : (Jvm.Cond.methodLink "HousePlans$Floor" (35 : Nat) ({ cls := "HousePlans$Floor", name := "findWaysOut", desc := "()V" } : Jvm.MethodName)) ∈ am_TG := am_inTG (List.mem_append_right _ (List.mem_of_getElem? (i := 398) (by decide +kernel))) rfl
theorem tw_400 : (Jvm.Cond.instanceMethod ({ cls := "HousePlans$Floor", name := "findWaysOut", desc := "()V" } : Jvm.MethodName)) ∈ am_TG := am_inTG (List.mem_append_right _ (List.mem_of_getElem? (i := 400) (by decide +kernel))) rfl
theorem tw_401 : (Jvm.Cond.code ({ cls := "HousePlans$Floor", name := "findWaysOut", desc := "()V" } : Jvm.MethodName) prog_3_method_5_code (2 : Nat) (Option.none : Option Jvm.ClassFile.FieldType)) ∈ am_TG := am_inTG (List.mem_append_right _ (List.mem_of_getElem? (i := 401) (by decide +kernel))) rfl
theorem tw_402 : (Jvm.Cond.methodLink "HousePlans$Floor" (61 : Nat) ({ cls := "java/util/Arrays", name := "fill", desc := "([II)V" } : Jvm.MethodName)) ∈ am_TG := am_inTG (List.mem_append_right _ (List.mem_of_getElem? (i := 402) (by decide +kernel))) rfl
theorem tw_403 : (Jvm.Cond.methodLink "HousePlans$Floor" (71 : Nat) ({ cls := "HousePlans$Floor", name := "goThroughDoors", desc := "([I)V" } : Jvm.MethodName)) ∈ am_TG := am_inTG (List.mem_append_right _ (List.mem_of_getElem? (i := 403) (by decide +kernel))) rfl
theorem tw_405 : (Jvm.Cond.instanceMethod ({ cls := "HousePlans$Floor", name := "goThroughDoors", desc := "([I)V" } : Jvm.MethodName)) ∈ am_TG := am_inTG (List.mem_append_right _ (List.mem_of_getElem? (i := 405) (by decide +kernel))) rfl
theorem tw_406 : (Jvm.Cond.code ({ cls := "HousePlans$Floor", name := "goThroughDoors", desc := "([I)V" } : Jvm.MethodName) prog_3_method_6_code (7 : Nat) (Option.none : Option Jvm.ClassFile.FieldType)) ∈ am_TG := am_inTG (List.mem_append_right _ (List.mem_of_getElem? (i := 406) (by decide +kernel))) rfl
theorem tw_407 : (Jvm.Cond.methodLink "HousePlans$Floor" (75 : Nat) ({ cls := "HousePlans$Floor", name := "goThrough", desc := "([IIII)Z" } : Jvm.MethodName)) ∈ am_TG := am_inTG (List.mem_append_right _ (List.mem_of_getElem? (i := 407) (by decide +kernel))) rfl
theorem tw_408 : (Jvm.Cond.static ({ cls := "HousePlans$Floor", name := "goThrough", desc := "([IIII)Z" } : Jvm.MethodName)) ∈ am_TG := am_inTG (List.mem_append_right _ (List.mem_of_getElem? (i := 408) (by decide +kernel))) rfl
theorem tw_409 : (Jvm.Cond.code ({ cls := "HousePlans$Floor", name := "goThrough", desc := "([IIII)Z" } : Jvm.MethodName) prog_3_method_7_code (4 : Nat) (Option.some Jvm.ClassFile.FieldType.boolean)) ∈ am_TG := am_inTG (List.mem_append_right _ (List.mem_of_getElem? (i := 409) (by decide +kernel))) rfl
theorem tw_410 : (Jvm.Cond.methodLinkNest "HousePlans" (100 : Nat) ({ cls := "HousePlans$Floor", name := "countRooms", desc := "()I" } : Jvm.MethodName) "HousePlans") ∈ am_bw := am_inB (List.mem_append_right _ (List.mem_of_getElem? (i := 410) (by decide +kernel))) rfl
theorem tw_412 : (Jvm.Cond.instanceMethod ({ cls := "HousePlans$Floor", name := "countRooms", desc := "()I" } : Jvm.MethodName)) ∈ am_TG := am_inTG (List.mem_append_right _ (List.mem_of_getElem? (i := 412) (by decide +kernel))) rfl
theorem tw_413 : (Jvm.Cond.code ({ cls := "HousePlans$Floor", name := "countRooms", desc := "()I" } : Jvm.MethodName) prog_3_method_8_code (3 : Nat) (Option.some Jvm.ClassFile.FieldType.int)) ∈ am_TG := am_inTG (List.mem_append_right _ (List.mem_of_getElem? (i := 413) (by decide +kernel))) rfl
theorem tw_414 : (Jvm.Cond.methodLink "HousePlansLaw" (52 : Nat) ({ cls := "HousePlans", name := "size", desc := "(II)I" } : Jvm.MethodName)) ∈ am_TG := am_inTG (List.mem_append_right _ (List.mem_of_getElem? (i := 414) (by decide +kernel))) rfl
theorem tw_415 : (Jvm.Cond.instanceMethod ({ cls := "HousePlans", name := "size", desc := "(II)I" } : Jvm.MethodName)) ∈ am_TG := am_inTG (List.mem_append_right _ (List.mem_of_getElem? (i := 415) (by decide +kernel))) rfl
theorem tw_416 : (Jvm.Cond.selects "HousePlans" ({ cls := "HousePlans", name := "size", desc := "(II)I" } : Jvm.MethodName) ({ cls := "HousePlans", name := "size", desc := "(II)I" } : Jvm.MethodName)) ∈ am_TG := am_inTG (List.mem_append_right _ (List.mem_of_getElem? (i := 416) (by decide +kernel))) rfl
theorem tw_417 : (Jvm.Cond.code ({ cls := "HousePlans", name := "size", desc := "(II)I" } : Jvm.MethodName) prog_1_method_11_code (4 : Nat) (Option.some Jvm.ClassFile.FieldType.int)) ∈ am_TG := am_inTG (List.mem_append_right _ (List.mem_of_getElem? (i := 417) (by decide +kernel))) rfl
theorem tw_418 : (Jvm.Cond.methodLinkNest "HousePlans" (106 : Nat) ({ cls := "HousePlans$Floor", name := "countCells", desc := "(I)I" } : Jvm.MethodName) "HousePlans") ∈ am_bw := am_inB (List.mem_append_right _ (List.mem_of_getElem? (i := 418) (by decide +kernel))) rfl
theorem tw_420 : (Jvm.Cond.instanceMethod ({ cls := "HousePlans$Floor", name := "countCells", desc := "(I)I" } : Jvm.MethodName)) ∈ am_TG := am_inTG (List.mem_append_right _ (List.mem_of_getElem? (i := 420) (by decide +kernel))) rfl
theorem tw_421 : (Jvm.Cond.code ({ cls := "HousePlans$Floor", name := "countCells", desc := "(I)I" } : Jvm.MethodName) prog_3_method_9_code (4 : Nat) (Option.some Jvm.ClassFile.FieldType.int)) ∈ am_TG := am_inTG (List.mem_append_right _ (List.mem_of_getElem? (i := 421) (by decide +kernel))) rfl
theorem tw_422 : (Jvm.Cond.methodLink "HousePlansLaw" (55 : Nat) ({ cls := "HousePlans", name := "doorsOut", desc := "(II)I" } : Jvm.MethodName)) ∈ am_TG := am_inTG (List.mem_append_right _ (List.mem_of_getElem? (i := 422) (by decide +kernel))) rfl
theorem tw_423 : (Jvm.Cond.instanceMethod ({ cls := "HousePlans", name := "doorsOut", desc := "(II)I" } : Jvm.MethodName)) ∈ am_TG := am_inTG (List.mem_append_right _ (List.mem_of_getElem? (i := 423) (by decide +kernel))) rfl
theorem tw_424 : (Jvm.Cond.selects "HousePlans" ({ cls := "HousePlans", name := "doorsOut", desc := "(II)I" } : Jvm.MethodName) ({ cls := "HousePlans", name := "doorsOut", desc := "(II)I" } : Jvm.MethodName)) ∈ am_TG := am_inTG (List.mem_append_right _ (List.mem_of_getElem? (i := 424) (by decide +kernel))) rfl
theorem tw_425 : (Jvm.Cond.code ({ cls := "HousePlans", name := "doorsOut", desc := "(II)I" } : Jvm.MethodName) prog_1_method_12_code (4 : Nat) (Option.some Jvm.ClassFile.FieldType.int)) ∈ am_TG := am_inTG (List.mem_append_right _ (List.mem_of_getElem? (i := 425) (by decide +kernel))) rfl
theorem tw_426 : (Jvm.Cond.methodLink "HousePlansLaw" (78 : Nat) ({ cls := "HousePlans", name := "permitOf", desc := "(I)I" } : Jvm.MethodName)) ∈ am_TG := am_inTG (List.mem_append_right _ (List.mem_of_getElem? (i := 426) (by decide +kernel))) rfl
theorem tw_427 : (Jvm.Cond.instanceMethod ({ cls := "HousePlans", name := "permitOf", desc := "(I)I" } : Jvm.MethodName)) ∈ am_TG := am_inTG (List.mem_append_right _ (List.mem_of_getElem? (i := 427) (by decide +kernel))) rfl
theorem tw_428 : (Jvm.Cond.selects "HousePlans" ({ cls := "HousePlans", name := "permitOf", desc := "(I)I" } : Jvm.MethodName) ({ cls := "HousePlans", name := "permitOf", desc := "(I)I" } : Jvm.MethodName)) ∈ am_TG := am_inTG (List.mem_append_right _ (List.mem_of_getElem? (i := 428) (by decide +kernel))) rfl
theorem tw_429 : (Jvm.Cond.code ({ cls := "HousePlans", name := "permitOf", desc := "(I)I" } : Jvm.MethodName) prog_1_method_21_code (2 : Nat) (Option.some Jvm.ClassFile.FieldType.int)) ∈ am_TG := am_inTG (List.mem_append_right _ (List.mem_of_getElem? (i := 429) (by decide +kernel))) rfl
theorem tw_430 : (Jvm.Cond.methodLink "HousePlans" (168 : Nat) ({ cls := "HousePlans", name := "printAt", desc := "(I)LHousePlans$Print;" } : Jvm.MethodName)) ∈ am_TG := am_inTG (List.mem_append_right _ (List.mem_of_getElem? (i := 430) (by decide +kernel))) rfl
theorem tw_432 : (Jvm.Cond.instanceMethod ({ cls := "HousePlans", name := "printAt", desc := "(I)LHousePlans$Print;" } : Jvm.MethodName)) ∈ am_TG := am_inTG (List.mem_append_right _ (List.mem_of_getElem? (i := 432) (by decide +kernel))) rfl
theorem tw_433 : (Jvm.Cond.code ({ cls := "HousePlans", name := "printAt", desc := "(I)LHousePlans$Print;" } : Jvm.MethodName) prog_1_method_25_code (2 : Nat) (Option.some (Jvm.ClassFile.FieldType.object "HousePlans$Print"))) ∈ am_TG := am_inTG (List.mem_append_right _ (List.mem_of_getElem? (i := 433) (by decide +kernel))) rfl
theorem tw_434 : (Jvm.Cond.stringRef "HousePlans" (180 : Nat) "no such print") ∈ lw_tbl := (List.mem_append_right _ (List.mem_of_getElem? (i := 434) (by decide +kernel)))
theorem tw_435 : (Jvm.Cond.classLink "HousePlans" (160 : Nat) "HousePlans$Print") ∈ am_TG := am_inTG (List.mem_append_right _ (List.mem_of_getElem? (i := 435) (by decide +kernel))) rfl
theorem tw_436 : (Jvm.Cond.methodLink "HousePlansLaw" (97 : Nat) ({ cls := "HousePlansLaw", name := "lock", desc := "(LHousePlans;II)I" } : Jvm.MethodName)) ∈ am_TG := am_inTG (List.mem_append_right _ (List.mem_of_getElem? (i := 436) (by decide +kernel))) rfl
theorem tw_437 : (Jvm.Cond.static ({ cls := "HousePlansLaw", name := "lock", desc := "(LHousePlans;II)I" } : Jvm.MethodName)) ∈ am_TG := am_inTG (List.mem_append_right _ (List.mem_of_getElem? (i := 437) (by decide +kernel))) rfl
theorem tw_438 : (Jvm.Cond.codeWith ({ cls := "HousePlansLaw", name := "lock", desc := "(LHousePlans;II)I" } : Jvm.MethodName) method_2_code (4 : Nat) (Option.some Jvm.ClassFile.FieldType.int) [((0 : Nat), (7 : Nat), (8 : Nat), (13 : Nat)), ((0 : Nat), (7 : Nat), (12 : Nat), (15 : Nat)), ((0 : Nat), (7 : Nat), (16 : Nat), (17 : Nat))]) ∈ am_TG := am_inTG (List.mem_append_right _ (List.mem_of_getElem? (i := 438) (by decide +kernel))) rfl
theorem tw_439 : (Jvm.Cond.classLink "HousePlansLaw" (13 : Nat) "java/lang/IndexOutOfBoundsException") ∈ am_TG := am_inTG (List.mem_append_right _ (List.mem_of_getElem? (i := 439) (by decide +kernel))) rfl
theorem tw_440 : (Jvm.Cond.classLink "HousePlansLaw" (15 : Nat) "java/lang/IllegalArgumentException") ∈ am_TG := am_inTG (List.mem_append_right _ (List.mem_of_getElem? (i := 440) (by decide +kernel))) rfl
theorem tw_441 : (Jvm.Cond.classLink "HousePlansLaw" (17 : Nat) "java/lang/IllegalStateException") ∈ am_TG := am_inTG (List.mem_append_right _ (List.mem_of_getElem? (i := 441) (by decide +kernel))) rfl
theorem tw_442 : (Jvm.Cond.methodLink "HousePlansLaw" (7 : Nat) ({ cls := "HousePlans", name := "lock", desc := "(II)V" } : Jvm.MethodName)) ∈ am_TG := am_inTG (List.mem_append_right _ (List.mem_of_getElem? (i := 442) (by decide +kernel))) rfl
theorem tw_443 : (Jvm.Cond.instanceMethod ({ cls := "HousePlans", name := "lock", desc := "(II)V" } : Jvm.MethodName)) ∈ am_TG := am_inTG (List.mem_append_right _ (List.mem_of_getElem? (i := 443) (by decide +kernel))) rfl
theorem tw_444 : (Jvm.Cond.selects "HousePlans" ({ cls := "HousePlans", name := "lock", desc := "(II)V" } : Jvm.MethodName) ({ cls := "HousePlans", name := "lock", desc := "(II)V" } : Jvm.MethodName)) ∈ am_TG := am_inTG (List.mem_append_right _ (List.mem_of_getElem? (i := 444) (by decide +kernel))) rfl
theorem tw_445 : (Jvm.Cond.code ({ cls := "HousePlans", name := "lock", desc := "(II)V" } : Jvm.MethodName) prog_1_method_14_code (4 : Nat) (Option.none : Option Jvm.ClassFile.FieldType)) ∈ am_TG := am_inTG (List.mem_append_right _ (List.mem_of_getElem? (i := 445) (by decide +kernel))) rfl
theorem tw_446 : (Jvm.Cond.stringRef "HousePlans" (119 : Nat) "the drawing is locked") ∈ lw_tbl := (List.mem_append_right _ (List.mem_of_getElem? (i := 446) (by decide +kernel)))
theorem tw_447 : (Jvm.Cond.methodLink "HousePlansLaw" (91 : Nat) ({ cls := "HousePlansLaw", name := "act", desc := "(LHousePlans;IIIII)I" } : Jvm.MethodName)) ∈ am_TG := am_inTG (List.mem_append_right _ (List.mem_of_getElem? (i := 447) (by decide +kernel))) rfl
theorem tw_448 : (Jvm.Cond.static ({ cls := "HousePlansLaw", name := "act", desc := "(LHousePlans;IIIII)I" } : Jvm.MethodName)) ∈ am_TG := am_inTG (List.mem_append_right _ (List.mem_of_getElem? (i := 448) (by decide +kernel))) rfl
theorem tw_449 : (Jvm.Cond.codeWith ({ cls := "HousePlansLaw", name := "act", desc := "(LHousePlans;IIIII)I" } : Jvm.MethodName) method_4_code (7 : Nat) (Option.some Jvm.ClassFile.FieldType.int) [((0 : Nat), (317 : Nat), (318 : Nat), (13 : Nat)), ((0 : Nat), (317 : Nat), (323 : Nat), (15 : Nat)), ((0 : Nat), (317 : Nat), (328 : Nat), (17 : Nat))]) ∈ am_TG := am_inTG (List.mem_append_right _ (List.mem_of_getElem? (i := 449) (by decide +kernel))) rfl
theorem tw_450 : (Jvm.Cond.methodLink "HousePlansLaw" (34 : Nat) ({ cls := "HousePlans", name := "refer", desc := "(IIIZ)Z" } : Jvm.MethodName)) ∈ am_TG := am_inTG (List.mem_append_right _ (List.mem_of_getElem? (i := 450) (by decide +kernel))) rfl
theorem tw_451 : (Jvm.Cond.instanceMethod ({ cls := "HousePlans", name := "refer", desc := "(IIIZ)Z" } : Jvm.MethodName)) ∈ am_TG := am_inTG (List.mem_append_right _ (List.mem_of_getElem? (i := 451) (by decide +kernel))) rfl
theorem tw_452 : (Jvm.Cond.selects "HousePlans" ({ cls := "HousePlans", name := "refer", desc := "(IIIZ)Z" } : Jvm.MethodName) ({ cls := "HousePlans", name := "refer", desc := "(IIIZ)Z" } : Jvm.MethodName)) ∈ am_TG := am_inTG (List.mem_append_right _ (List.mem_of_getElem? (i := 452) (by decide +kernel))) rfl
theorem tw_453 : (Jvm.Cond.code ({ cls := "HousePlans", name := "refer", desc := "(IIIZ)Z" } : Jvm.MethodName) prog_1_method_5_code (8 : Nat) (Option.some Jvm.ClassFile.FieldType.boolean)) ∈ am_TG := am_inTG (List.mem_append_right _ (List.mem_of_getElem? (i := 453) (by decide +kernel))) rfl
theorem tw_454 : (Jvm.Cond.methodLinkNest "HousePlans" (78 : Nat) ({ cls := "HousePlans$Drawing", name := "leadsTo", desc := "(LHousePlans$Drawing;)Z" } : Jvm.MethodName) "HousePlans") ∈ am_bw := am_inB (List.mem_append_right _ (List.mem_of_getElem? (i := 454) (by decide +kernel))) rfl
theorem tw_456 : (Jvm.Cond.instanceMethod ({ cls := "HousePlans$Drawing", name := "leadsTo", desc := "(LHousePlans$Drawing;)Z" } : Jvm.MethodName)) ∈ am_TG := am_inTG (List.mem_append_right _ (List.mem_of_getElem? (i := 456) (by decide +kernel))) rfl
theorem tw_457 : (Jvm.Cond.code ({ cls := "HousePlans$Drawing", name := "leadsTo", desc := "(LHousePlans$Drawing;)Z" } : Jvm.MethodName) prog_2_method_5_code (2 : Nat) (Option.some Jvm.ClassFile.FieldType.boolean)) ∈ am_TG := am_inTG (List.mem_append_right _ (List.mem_of_getElem? (i := 457) (by decide +kernel))) rfl
theorem tw_458 : (Jvm.Cond.methodLink "HousePlans$Drawing" (44 : Nat) ({ cls := "HousePlans$Drawing", name := "leads", desc := "(LHousePlans$Drawing;LHousePlans$Drawing;I)Z" } : Jvm.MethodName)) ∈ am_TG := am_inTG (List.mem_append_right _ (List.mem_of_getElem? (i := 458) (by decide +kernel))) rfl
theorem tw_459 : (Jvm.Cond.static ({ cls := "HousePlans$Drawing", name := "leads", desc := "(LHousePlans$Drawing;LHousePlans$Drawing;I)Z" } : Jvm.MethodName)) ∈ am_TG := am_inTG (List.mem_append_right _ (List.mem_of_getElem? (i := 459) (by decide +kernel))) rfl
theorem tw_460 : (Jvm.Cond.code ({ cls := "HousePlans$Drawing", name := "leads", desc := "(LHousePlans$Drawing;LHousePlans$Drawing;I)Z" } : Jvm.MethodName) prog_2_method_8_code (7 : Nat) (Option.some Jvm.ClassFile.FieldType.boolean)) ∈ am_TG := am_inTG (List.mem_append_right _ (List.mem_of_getElem? (i := 460) (by decide +kernel))) rfl
theorem tw_461 : (Jvm.Cond.stringRef "HousePlans" (82 : Nat) "a drawing would refer to itself") ∈ lw_tbl := (List.mem_append_right _ (List.mem_of_getElem? (i := 461) (by decide +kernel)))
theorem tw_462 : (Jvm.Cond.methodLink "HousePlansLaw" (41 : Nat) ({ cls := "HousePlans", name := "hasExit", desc := "(II)Z" } : Jvm.MethodName)) ∈ am_TG := am_inTG (List.mem_append_right _ (List.mem_of_getElem? (i := 462) (by decide +kernel))) rfl
theorem tw_463 : (Jvm.Cond.instanceMethod ({ cls := "HousePlans", name := "hasExit", desc := "(II)Z" } : Jvm.MethodName)) ∈ am_TG := am_inTG (List.mem_append_right _ (List.mem_of_getElem? (i := 463) (by decide +kernel))) rfl
theorem tw_464 : (Jvm.Cond.selects "HousePlans" ({ cls := "HousePlans", name := "hasExit", desc := "(II)Z" } : Jvm.MethodName) ({ cls := "HousePlans", name := "hasExit", desc := "(II)Z" } : Jvm.MethodName)) ∈ am_TG := am_inTG (List.mem_append_right _ (List.mem_of_getElem? (i := 464) (by decide +kernel))) rfl
theorem tw_465 : (Jvm.Cond.code ({ cls := "HousePlans", name := "hasExit", desc := "(II)Z" } : Jvm.MethodName) prog_1_method_8_code (4 : Nat) (Option.some Jvm.ClassFile.FieldType.boolean)) ∈ am_TG := am_inTG (List.mem_append_right _ (List.mem_of_getElem? (i := 465) (by decide +kernel))) rfl
theorem tw_466 : (Jvm.Cond.methodLinkNest "HousePlans" (92 : Nat) ({ cls := "HousePlans$Drawing", name := "exitNow", desc := "(I)Z" } : Jvm.MethodName) "HousePlans") ∈ am_bw := am_inB (List.mem_append_right _ (List.mem_of_getElem? (i := 466) (by decide +kernel))) rfl
theorem tw_467 : (Jvm.Cond.methodLink "HousePlansLaw" (49 : Nat) ({ cls := "HousePlans", name := "room", desc := "(II)I" } : Jvm.MethodName)) ∈ am_TG := am_inTG (List.mem_append_right _ (List.mem_of_getElem? (i := 467) (by decide +kernel))) rfl
theorem tw_468 : (Jvm.Cond.instanceMethod ({ cls := "HousePlans", name := "room", desc := "(II)I" } : Jvm.MethodName)) ∈ am_TG := am_inTG (List.mem_append_right _ (List.mem_of_getElem? (i := 468) (by decide +kernel))) rfl
theorem tw_469 : (Jvm.Cond.selects "HousePlans" ({ cls := "HousePlans", name := "room", desc := "(II)I" } : Jvm.MethodName) ({ cls := "HousePlans", name := "room", desc := "(II)I" } : Jvm.MethodName)) ∈ am_TG := am_inTG (List.mem_append_right _ (List.mem_of_getElem? (i := 469) (by decide +kernel))) rfl
theorem tw_470 : (Jvm.Cond.code ({ cls := "HousePlans", name := "room", desc := "(II)I" } : Jvm.MethodName) prog_1_method_10_code (4 : Nat) (Option.some Jvm.ClassFile.FieldType.int)) ∈ am_TG := am_inTG (List.mem_append_right _ (List.mem_of_getElem? (i := 470) (by decide +kernel))) rfl
theorem tw_471 : (Jvm.Cond.methodLink "HousePlansLaw" (58 : Nat) ({ cls := "HousePlans", name := "doorThatHelps", desc := "(II)I" } : Jvm.MethodName)) ∈ am_TG := am_inTG (List.mem_append_right _ (List.mem_of_getElem? (i := 471) (by decide +kernel))) rfl
theorem tw_472 : (Jvm.Cond.instanceMethod ({ cls := "HousePlans", name := "doorThatHelps", desc := "(II)I" } : Jvm.MethodName)) ∈ am_TG := am_inTG (List.mem_append_right _ (List.mem_of_getElem? (i := 472) (by decide +kernel))) rfl
theorem tw_473 : (Jvm.Cond.selects "HousePlans" ({ cls := "HousePlans", name := "doorThatHelps", desc := "(II)I" } : Jvm.MethodName) ({ cls := "HousePlans", name := "doorThatHelps", desc := "(II)I" } : Jvm.MethodName)) ∈ am_TG := am_inTG (List.mem_append_right _ (List.mem_of_getElem? (i := 473) (by decide +kernel))) rfl
theorem tw_474 : (Jvm.Cond.code ({ cls := "HousePlans", name := "doorThatHelps", desc := "(II)I" } : Jvm.MethodName) prog_1_method_13_code (4 : Nat) (Option.some Jvm.ClassFile.FieldType.int)) ∈ am_TG := am_inTG (List.mem_append_right _ (List.mem_of_getElem? (i := 474) (by decide +kernel))) rfl
theorem tw_475 : (Jvm.Cond.methodLinkNest "HousePlans" (112 : Nat) ({ cls := "HousePlans$Floor", name := "wallThatHelps", desc := "(I)I" } : Jvm.MethodName) "HousePlans") ∈ am_bw := am_inB (List.mem_append_right _ (List.mem_of_getElem? (i := 475) (by decide +kernel))) rfl
theorem tw_477 : (Jvm.Cond.instanceMethod ({ cls := "HousePlans$Floor", name := "wallThatHelps", desc := "(I)I" } : Jvm.MethodName)) ∈ am_TG := am_inTG (List.mem_append_right _ (List.mem_of_getElem? (i := 477) (by decide +kernel))) rfl
theorem tw_478 : (Jvm.Cond.code ({ cls := "HousePlans$Floor", name := "wallThatHelps", desc := "(I)I" } : Jvm.MethodName) prog_3_method_11_code (5 : Nat) (Option.some Jvm.ClassFile.FieldType.int)) ∈ am_TG := am_inTG (List.mem_append_right _ (List.mem_of_getElem? (i := 478) (by decide +kernel))) rfl
theorem tw_479 : (Jvm.Cond.methodLink "HousePlans$Floor" (79 : Nat) ({ cls := "HousePlans$Floor", name := "leadsOut", desc := "(II)Z" } : Jvm.MethodName)) ∈ am_TG := am_inTG (List.mem_append_right _ (List.mem_of_getElem? (i := 479) (by decide +kernel))) rfl
theorem tw_481 : (Jvm.Cond.instanceMethod ({ cls := "HousePlans$Floor", name := "leadsOut", desc := "(II)Z" } : Jvm.MethodName)) ∈ am_TG := am_inTG (List.mem_append_right _ (List.mem_of_getElem? (i := 481) (by decide +kernel))) rfl
theorem tw_482 : (Jvm.Cond.code ({ cls := "HousePlans$Floor", name := "leadsOut", desc := "(II)Z" } : Jvm.MethodName) prog_3_method_12_code (3 : Nat) (Option.some Jvm.ClassFile.FieldType.boolean)) ∈ am_TG := am_inTG (List.mem_append_right _ (List.mem_of_getElem? (i := 482) (by decide +kernel))) rfl
theorem tw_483 : (Jvm.Cond.methodLink "HousePlansLaw" (61 : Nat) ({ cls := "HousePlans", name := "lend", desc := "(III)I" } : Jvm.MethodName)) ∈ am_TG := am_inTG (List.mem_append_right _ (List.mem_of_getElem? (i := 483) (by decide +kernel))) rfl
theorem tw_484 : (Jvm.Cond.instanceMethod ({ cls := "HousePlans", name := "lend", desc := "(III)I" } : Jvm.MethodName)) ∈ am_TG := am_inTG (List.mem_append_right _ (List.mem_of_getElem? (i := 484) (by decide +kernel))) rfl
theorem tw_485 : (Jvm.Cond.selects "HousePlans" ({ cls := "HousePlans", name := "lend", desc := "(III)I" } : Jvm.MethodName) ({ cls := "HousePlans", name := "lend", desc := "(III)I" } : Jvm.MethodName)) ∈ am_TG := am_inTG (List.mem_append_right _ (List.mem_of_getElem? (i := 485) (by decide +kernel))) rfl
theorem tw_486 : (Jvm.Cond.code ({ cls := "HousePlans", name := "lend", desc := "(III)I" } : Jvm.MethodName) prog_1_method_16_code (6 : Nat) (Option.some Jvm.ClassFile.FieldType.int)) ∈ am_TG := am_inTG (List.mem_append_right _ (List.mem_of_getElem? (i := 486) (by decide +kernel))) rfl
theorem tw_487 : (Jvm.Cond.stringRef "HousePlans" (129 : Nat) "nobody lends to himself") ∈ lw_tbl := (List.mem_append_right _ (List.mem_of_getElem? (i := 487) (by decide +kernel)))
theorem tw_488 : (Jvm.Cond.methodLink "HousePlans" (121 : Nat) ({ cls := "HousePlans", name := "needLocker", desc := "(LHousePlans$Drawing;I)V" } : Jvm.MethodName)) ∈ am_TG := am_inTG (List.mem_append_right _ (List.mem_of_getElem? (i := 488) (by decide +kernel))) rfl
theorem tw_489 : (Jvm.Cond.static ({ cls := "HousePlans", name := "needLocker", desc := "(LHousePlans$Drawing;I)V" } : Jvm.MethodName)) ∈ am_TG := am_inTG (List.mem_append_right _ (List.mem_of_getElem? (i := 489) (by decide +kernel))) rfl
theorem tw_490 : (Jvm.Cond.code ({ cls := "HousePlans", name := "needLocker", desc := "(LHousePlans$Drawing;I)V" } : Jvm.MethodName) prog_1_method_31_code (2 : Nat) (Option.none : Option Jvm.ClassFile.FieldType)) ∈ am_TG := am_inTG (List.mem_append_right _ (List.mem_of_getElem? (i := 490) (by decide +kernel))) rfl
theorem tw_491 : (Jvm.Cond.stringRef "HousePlans" (194 : Nat) "the person has not locked the drawing") ∈ lw_tbl := (List.mem_append_right _ (List.mem_of_getElem? (i := 491) (by decide +kernel)))
theorem tw_492 : (Jvm.Cond.methodLink "HousePlansLaw" (65 : Nat) ({ cls := "HousePlans", name := "canChange", desc := "(I)I" } : Jvm.MethodName)) ∈ am_TG := am_inTG (List.mem_append_right _ (List.mem_of_getElem? (i := 492) (by decide +kernel))) rfl
theorem tw_493 : (Jvm.Cond.instanceMethod ({ cls := "HousePlans", name := "canChange", desc := "(I)I" } : Jvm.MethodName)) ∈ am_TG := am_inTG (List.mem_append_right _ (List.mem_of_getElem? (i := 493) (by decide +kernel))) rfl
theorem tw_494 : (Jvm.Cond.selects "HousePlans" ({ cls := "HousePlans", name := "canChange", desc := "(I)I" } : Jvm.MethodName) ({ cls := "HousePlans", name := "canChange", desc := "(I)I" } : Jvm.MethodName)) ∈ am_TG := am_inTG (List.mem_append_right _ (List.mem_of_getElem? (i := 494) (by decide +kernel))) rfl
theorem tw_495 : (Jvm.Cond.code ({ cls := "HousePlans", name := "canChange", desc := "(I)I" } : Jvm.MethodName) prog_1_method_17_code (2 : Nat) (Option.some Jvm.ClassFile.FieldType.int)) ∈ am_TG := am_inTG (List.mem_append_right _ (List.mem_of_getElem? (i := 495) (by decide +kernel))) rfl
theorem tw_496 : (Jvm.Cond.methodLink "HousePlansLaw" (68 : Nat) ({ cls := "HousePlans", name := "grant", desc := "(I)I" } : Jvm.MethodName)) ∈ am_TG := am_inTG (List.mem_append_right _ (List.mem_of_getElem? (i := 496) (by decide +kernel))) rfl
theorem tw_497 : (Jvm.Cond.instanceMethod ({ cls := "HousePlans", name := "grant", desc := "(I)I" } : Jvm.MethodName)) ∈ am_TG := am_inTG (List.mem_append_right _ (List.mem_of_getElem? (i := 497) (by decide +kernel))) rfl
theorem tw_498 : (Jvm.Cond.selects "HousePlans" ({ cls := "HousePlans", name := "grant", desc := "(I)I" } : Jvm.MethodName) ({ cls := "HousePlans", name := "grant", desc := "(I)I" } : Jvm.MethodName)) ∈ am_TG := am_inTG (List.mem_append_right _ (List.mem_of_getElem? (i := 498) (by decide +kernel))) rfl
theorem tw_499 : (Jvm.Cond.code ({ cls := "HousePlans", name := "grant", desc := "(I)I" } : Jvm.MethodName) prog_1_method_18_code (4 : Nat) (Option.some Jvm.ClassFile.FieldType.int)) ∈ am_TG := am_inTG (List.mem_append_right _ (List.mem_of_getElem? (i := 499) (by decide +kernel))) rfl
theorem tw_500 : (Jvm.Cond.stringRef "HousePlans" (134 : Nat) "there are 20 permits") ∈ lw_tbl := (List.mem_append_right _ (List.mem_of_getElem? (i := 500) (by decide +kernel)))
theorem tw_501 : (Jvm.Cond.methodLinkNest "HousePlans" (136 : Nat) ({ cls := "HousePlans$Floor", name := "everyRoomHasWayOut", desc := "()Z" } : Jvm.MethodName) "HousePlans") ∈ am_bw := am_inB (List.mem_append_right _ (List.mem_of_getElem? (i := 501) (by decide +kernel))) rfl
theorem tw_503 : (Jvm.Cond.instanceMethod ({ cls := "HousePlans$Floor", name := "everyRoomHasWayOut", desc := "()Z" } : Jvm.MethodName)) ∈ am_TG := am_inTG (List.mem_append_right _ (List.mem_of_getElem? (i := 503) (by decide +kernel))) rfl
theorem tw_504 : (Jvm.Cond.code ({ cls := "HousePlans$Floor", name := "everyRoomHasWayOut", desc := "()Z" } : Jvm.MethodName) prog_3_method_10_code (2 : Nat) (Option.some Jvm.ClassFile.FieldType.boolean)) ∈ am_TG := am_inTG (List.mem_append_right _ (List.mem_of_getElem? (i := 504) (by decide +kernel))) rfl
theorem tw_505 : (Jvm.Cond.stringRef "HousePlans" (140 : Nat) "some room has no way out") ∈ lw_tbl := (List.mem_append_right _ (List.mem_of_getElem? (i := 505) (by decide +kernel)))
theorem tw_506 : (Jvm.Cond.classLink "HousePlans" (142 : Nat) "HousePlans$Permit") ∈ am_TG := am_inTG (List.mem_append_right _ (List.mem_of_getElem? (i := 506) (by decide +kernel))) rfl
theorem tw_507 : (Jvm.Cond.instantiable "HousePlans$Permit" (2 : Nat)) ∈ am_TG := am_inTG (List.mem_append_right _ (List.mem_of_getElem? (i := 507) (by decide +kernel))) rfl
theorem tw_508 : (Jvm.Cond.methodLinkNest "HousePlans" (144 : Nat) ({ cls := "HousePlans$Permit", name := "<init>", desc := "(LHousePlans$Drawing;)V" } : Jvm.MethodName) "HousePlans") ∈ am_bw := am_inB (List.mem_append_right _ (List.mem_of_getElem? (i := 508) (by decide +kernel))) rfl
theorem tw_509 : (Jvm.Cond.instanceMethod ({ cls := "HousePlans$Permit", name := "<init>", desc := "(LHousePlans$Drawing;)V" } : Jvm.MethodName)) ∈ am_TG := am_inTG (List.mem_append_right _ (List.mem_of_getElem? (i := 509) (by decide +kernel))) rfl
theorem tw_510 : (Jvm.Cond.code ({ cls := "HousePlans$Permit", name := "<init>", desc := "(LHousePlans$Drawing;)V" } : Jvm.MethodName) prog_4_method_1_code (2 : Nat) (Option.none : Option Jvm.ClassFile.FieldType)) ∈ am_TG := am_inTG (List.mem_append_right _ (List.mem_of_getElem? (i := 510) (by decide +kernel))) rfl
theorem tw_511 : (Jvm.Cond.methodLink "HousePlans$Permit" (1 : Nat) ({ cls := "java/lang/Object", name := "<init>", desc := "()V" } : Jvm.MethodName)) ∈ am_TG := am_inTG (List.mem_append_right _ (List.mem_of_getElem? (i := 511) (by decide +kernel))) rfl
theorem tw_512 : (Jvm.Cond.classLink "HousePlans$Permit" (7 : Nat) "HousePlans$State") ∈ am_TG := am_inTG (List.mem_append_right _ (List.mem_of_getElem? (i := 512) (by decide +kernel))) rfl
theorem tw_513 : (Jvm.Cond.methodLinkNest "HousePlans$Permit" (9 : Nat) ({ cls := "HousePlans$State", name := "<init>", desc := "()V" } : Jvm.MethodName) "HousePlans") ∈ am_bw := am_inB (List.mem_append_right _ (List.mem_of_getElem? (i := 513) (by decide +kernel))) rfl
theorem tw_514 : (Jvm.Cond.methodLinkNest "HousePlans$Permit" (20 : Nat) ({ cls := "HousePlans$State", name := "takeFrom", desc := "(LHousePlans$Drawing;)V" } : Jvm.MethodName) "HousePlans") ∈ am_bw := am_inB (List.mem_append_right _ (List.mem_of_getElem? (i := 514) (by decide +kernel))) rfl
theorem tw_515 : (Jvm.Cond.fieldLink "HousePlans$Permit" (16 : Nat) "HousePlans$Permit" "drawing" "LHousePlans$Drawing;") ∈ am_TG := am_inTG (List.mem_append_right _ (List.mem_of_getElem? (i := 515) (by decide +kernel))) rfl
theorem tw_516 : (Jvm.Cond.fieldLinkNest "HousePlans" (182 : Nat) "HousePlans$Permit" "drawing" "LHousePlans$Drawing;" "HousePlans") ∈ am_bw := am_inB (List.mem_append_right _ (List.mem_of_getElem? (i := 516) (by decide +kernel))) rfl
theorem tw_517 : (Jvm.Cond.fieldLink "HousePlans$Permit" (10 : Nat) "HousePlans$Permit" "kept" "LHousePlans$State;") ∈ am_TG := am_inTG (List.mem_append_right _ (List.mem_of_getElem? (i := 517) (by decide +kernel))) rfl
theorem tw_523 : (Jvm.Cond.methodLink "HousePlansLaw" (71 : Nat) ({ cls := "HousePlans", name := "holds", desc := "(I)Z" } : Jvm.MethodName)) ∈ am_TG := am_inTG (List.mem_append_right _ (List.mem_of_getElem? (i := 523) (by decide +kernel))) rfl
theorem tw_524 : (Jvm.Cond.instanceMethod ({ cls := "HousePlans", name := "holds", desc := "(I)Z" } : Jvm.MethodName)) ∈ am_TG := am_inTG (List.mem_append_right _ (List.mem_of_getElem? (i := 524) (by decide +kernel))) rfl
theorem tw_525 : (Jvm.Cond.selects "HousePlans" ({ cls := "HousePlans", name := "holds", desc := "(I)Z" } : Jvm.MethodName) ({ cls := "HousePlans", name := "holds", desc := "(I)Z" } : Jvm.MethodName)) ∈ am_TG := am_inTG (List.mem_append_right _ (List.mem_of_getElem? (i := 525) (by decide +kernel))) rfl
theorem tw_526 : (Jvm.Cond.code ({ cls := "HousePlans", name := "holds", desc := "(I)Z" } : Jvm.MethodName) prog_1_method_19_code (2 : Nat) (Option.some Jvm.ClassFile.FieldType.boolean)) ∈ am_TG := am_inTG (List.mem_append_right _ (List.mem_of_getElem? (i := 526) (by decide +kernel))) rfl
theorem tw_527 : (Jvm.Cond.stringRef "HousePlans" (148 : Nat) "no such permit") ∈ lw_tbl := (List.mem_append_right _ (List.mem_of_getElem? (i := 527) (by decide +kernel)))
theorem tw_528 : (Jvm.Cond.methodLinkNest "HousePlans" (155 : Nat) ({ cls := "HousePlans$Permit", name := "isValid", desc := "()Z" } : Jvm.MethodName) "HousePlans") ∈ am_bw := am_inB (List.mem_append_right _ (List.mem_of_getElem? (i := 528) (by decide +kernel))) rfl
theorem tw_530 : (Jvm.Cond.instanceMethod ({ cls := "HousePlans$Permit", name := "isValid", desc := "()Z" } : Jvm.MethodName)) ∈ am_TG := am_inTG (List.mem_append_right _ (List.mem_of_getElem? (i := 530) (by decide +kernel))) rfl
theorem tw_531 : (Jvm.Cond.code ({ cls := "HousePlans$Permit", name := "isValid", desc := "()Z" } : Jvm.MethodName) prog_4_method_2_code (1 : Nat) (Option.some Jvm.ClassFile.FieldType.boolean)) ∈ am_TG := am_inTG (List.mem_append_right _ (List.mem_of_getElem? (i := 531) (by decide +kernel))) rfl
theorem tw_532 : (Jvm.Cond.methodLinkNest "HousePlans$Permit" (24 : Nat) ({ cls := "HousePlans$State", name := "isThatOf", desc := "(LHousePlans$Drawing;)Z" } : Jvm.MethodName) "HousePlans") ∈ am_bw := am_inB (List.mem_append_right _ (List.mem_of_getElem? (i := 532) (by decide +kernel))) rfl
theorem tw_534 : (Jvm.Cond.instanceMethod ({ cls := "HousePlans$State", name := "isThatOf", desc := "(LHousePlans$Drawing;)Z" } : Jvm.MethodName)) ∈ am_TG := am_inTG (List.mem_append_right _ (List.mem_of_getElem? (i := 534) (by decide +kernel))) rfl
theorem tw_535 : (Jvm.Cond.code ({ cls := "HousePlans$State", name := "isThatOf", desc := "(LHousePlans$Drawing;)Z" } : Jvm.MethodName) prog_6_method_3_code (3 : Nat) (Option.some Jvm.ClassFile.FieldType.boolean)) ∈ am_TG := am_inTG (List.mem_append_right _ (List.mem_of_getElem? (i := 535) (by decide +kernel))) rfl
theorem tw_536 : (Jvm.Cond.methodLink "HousePlansLaw" (75 : Nat) ({ cls := "HousePlans", name := "print", desc := "(I)I" } : Jvm.MethodName)) ∈ am_TG := am_inTG (List.mem_append_right _ (List.mem_of_getElem? (i := 536) (by decide +kernel))) rfl
theorem tw_537 : (Jvm.Cond.instanceMethod ({ cls := "HousePlans", name := "print", desc := "(I)I" } : Jvm.MethodName)) ∈ am_TG := am_inTG (List.mem_append_right _ (List.mem_of_getElem? (i := 537) (by decide +kernel))) rfl
theorem tw_538 : (Jvm.Cond.selects "HousePlans" ({ cls := "HousePlans", name := "print", desc := "(I)I" } : Jvm.MethodName) ({ cls := "HousePlans", name := "print", desc := "(I)I" } : Jvm.MethodName)) ∈ am_TG := am_inTG (List.mem_append_right _ (List.mem_of_getElem? (i := 538) (by decide +kernel))) rfl
theorem tw_539 : (Jvm.Cond.code ({ cls := "HousePlans", name := "print", desc := "(I)I" } : Jvm.MethodName) prog_1_method_20_code (4 : Nat) (Option.some Jvm.ClassFile.FieldType.int)) ∈ am_TG := am_inTG (List.mem_append_right _ (List.mem_of_getElem? (i := 539) (by decide +kernel))) rfl
theorem tw_540 : (Jvm.Cond.stringRef "HousePlans" (158 : Nat) "there are 30 prints") ∈ lw_tbl := (List.mem_append_right _ (List.mem_of_getElem? (i := 540) (by decide +kernel)))
theorem tw_541 : (Jvm.Cond.instantiable "HousePlans$Print" (3 : Nat)) ∈ am_TG := am_inTG (List.mem_append_right _ (List.mem_of_getElem? (i := 541) (by decide +kernel))) rfl
theorem tw_542 : (Jvm.Cond.methodLink "HousePlans" (162 : Nat) ({ cls := "HousePlans", name := "highestPermit", desc := "(LHousePlans$Drawing;)I" } : Jvm.MethodName)) ∈ am_TG := am_inTG (List.mem_append_right _ (List.mem_of_getElem? (i := 542) (by decide +kernel))) rfl
theorem tw_544 : (Jvm.Cond.instanceMethod ({ cls := "HousePlans", name := "highestPermit", desc := "(LHousePlans$Drawing;)I" } : Jvm.MethodName)) ∈ am_TG := am_inTG (List.mem_append_right _ (List.mem_of_getElem? (i := 544) (by decide +kernel))) rfl
theorem tw_545 : (Jvm.Cond.code ({ cls := "HousePlans", name := "highestPermit", desc := "(LHousePlans$Drawing;)I" } : Jvm.MethodName) prog_1_method_26_code (4 : Nat) (Option.some Jvm.ClassFile.FieldType.int)) ∈ am_TG := am_inTG (List.mem_append_right _ (List.mem_of_getElem? (i := 545) (by decide +kernel))) rfl
theorem tw_546 : (Jvm.Cond.methodLinkNest "HousePlans" (166 : Nat) ({ cls := "HousePlans$Print", name := "<init>", desc := "(LHousePlans$Drawing;I)V" } : Jvm.MethodName) "HousePlans") ∈ am_bw := am_inB (List.mem_append_right _ (List.mem_of_getElem? (i := 546) (by decide +kernel))) rfl
theorem tw_547 : (Jvm.Cond.instanceMethod ({ cls := "HousePlans$Print", name := "<init>", desc := "(LHousePlans$Drawing;I)V" } : Jvm.MethodName)) ∈ am_TG := am_inTG (List.mem_append_right _ (List.mem_of_getElem? (i := 547) (by decide +kernel))) rfl
theorem tw_548 : (Jvm.Cond.code ({ cls := "HousePlans$Print", name := "<init>", desc := "(LHousePlans$Drawing;I)V" } : Jvm.MethodName) prog_5_method_1_code (3 : Nat) (Option.none : Option Jvm.ClassFile.FieldType)) ∈ am_TG := am_inTG (List.mem_append_right _ (List.mem_of_getElem? (i := 548) (by decide +kernel))) rfl
theorem tw_549 : (Jvm.Cond.methodLink "HousePlans$Print" (1 : Nat) ({ cls := "java/lang/Object", name := "<init>", desc := "()V" } : Jvm.MethodName)) ∈ am_TG := am_inTG (List.mem_append_right _ (List.mem_of_getElem? (i := 549) (by decide +kernel))) rfl
theorem tw_550 : (Jvm.Cond.classLink "HousePlans$Print" (7 : Nat) "HousePlans$State") ∈ am_TG := am_inTG (List.mem_append_right _ (List.mem_of_getElem? (i := 550) (by decide +kernel))) rfl
theorem tw_551 : (Jvm.Cond.methodLinkNest "HousePlans$Print" (9 : Nat) ({ cls := "HousePlans$State", name := "<init>", desc := "()V" } : Jvm.MethodName) "HousePlans") ∈ am_bw := am_inB (List.mem_append_right _ (List.mem_of_getElem? (i := 551) (by decide +kernel))) rfl
theorem tw_552 : (Jvm.Cond.methodLinkNest "HousePlans$Print" (24 : Nat) ({ cls := "HousePlans$State", name := "takeFrom", desc := "(LHousePlans$Drawing;)V" } : Jvm.MethodName) "HousePlans") ∈ am_bw := am_inB (List.mem_append_right _ (List.mem_of_getElem? (i := 552) (by decide +kernel))) rfl
theorem tw_553 : (Jvm.Cond.fieldLink "HousePlans$Print" (16 : Nat) "HousePlans$Print" "drawing" "LHousePlans$Drawing;") ∈ am_TG := am_inTG (List.mem_append_right _ (List.mem_of_getElem? (i := 553) (by decide +kernel))) rfl
theorem tw_554 : (Jvm.Cond.fieldLink "HousePlans$Print" (10 : Nat) "HousePlans$Print" "kept" "LHousePlans$State;") ∈ am_TG := am_inTG (List.mem_append_right _ (List.mem_of_getElem? (i := 554) (by decide +kernel))) rfl
theorem tw_555 : (Jvm.Cond.fieldLink "HousePlans$Print" (20 : Nat) "HousePlans$Print" "permit" "I") ∈ am_TG := am_inTG (List.mem_append_right _ (List.mem_of_getElem? (i := 555) (by decide +kernel))) rfl
theorem tw_556 : (Jvm.Cond.fieldLinkNest "HousePlans" (172 : Nat) "HousePlans$Print" "permit" "I" "HousePlans") ∈ am_bw := am_inB (List.mem_append_right _ (List.mem_of_getElem? (i := 556) (by decide +kernel))) rfl
theorem tw_564 : (Jvm.Cond.methodLink "HousePlansLaw" (81 : Nat) ({ cls := "HousePlans", name := "isGood", desc := "(I)Z" } : Jvm.MethodName)) ∈ am_TG := am_inTG (List.mem_append_right _ (List.mem_of_getElem? (i := 564) (by decide +kernel))) rfl
theorem tw_565 : (Jvm.Cond.instanceMethod ({ cls := "HousePlans", name := "isGood", desc := "(I)Z" } : Jvm.MethodName)) ∈ am_TG := am_inTG (List.mem_append_right _ (List.mem_of_getElem? (i := 565) (by decide +kernel))) rfl
theorem tw_566 : (Jvm.Cond.selects "HousePlans" ({ cls := "HousePlans", name := "isGood", desc := "(I)Z" } : Jvm.MethodName) ({ cls := "HousePlans", name := "isGood", desc := "(I)Z" } : Jvm.MethodName)) ∈ am_TG := am_inTG (List.mem_append_right _ (List.mem_of_getElem? (i := 566) (by decide +kernel))) rfl
theorem tw_567 : (Jvm.Cond.code ({ cls := "HousePlans", name := "isGood", desc := "(I)Z" } : Jvm.MethodName) prog_1_method_22_code (3 : Nat) (Option.some Jvm.ClassFile.FieldType.boolean)) ∈ am_TG := am_inTG (List.mem_append_right _ (List.mem_of_getElem? (i := 567) (by decide +kernel))) rfl
theorem tw_568 : (Jvm.Cond.methodLinkNest "HousePlans" (175 : Nat) ({ cls := "HousePlans$Print", name := "isOld", desc := "()Z" } : Jvm.MethodName) "HousePlans") ∈ am_bw := am_inB (List.mem_append_right _ (List.mem_of_getElem? (i := 568) (by decide +kernel))) rfl
theorem tw_570 : (Jvm.Cond.instanceMethod ({ cls := "HousePlans$Print", name := "isOld", desc := "()Z" } : Jvm.MethodName)) ∈ am_TG := am_inTG (List.mem_append_right _ (List.mem_of_getElem? (i := 570) (by decide +kernel))) rfl
theorem tw_571 : (Jvm.Cond.code ({ cls := "HousePlans$Print", name := "isOld", desc := "()Z" } : Jvm.MethodName) prog_5_method_2_code (1 : Nat) (Option.some Jvm.ClassFile.FieldType.boolean)) ∈ am_TG := am_inTG (List.mem_append_right _ (List.mem_of_getElem? (i := 571) (by decide +kernel))) rfl
theorem tw_572 : (Jvm.Cond.methodLinkNest "HousePlans$Print" (28 : Nat) ({ cls := "HousePlans$State", name := "isThatOf", desc := "(LHousePlans$Drawing;)Z" } : Jvm.MethodName) "HousePlans") ∈ am_bw := am_inB (List.mem_append_right _ (List.mem_of_getElem? (i := 572) (by decide +kernel))) rfl
theorem tw_573 : (Jvm.Cond.methodLink "HousePlansLaw" (103 : Nat) ({ cls := "HousePlansLaw", name := "refuses", desc := "(LHousePlans;II)Z" } : Jvm.MethodName)) ∈ am_TG := am_inTG (List.mem_append_right _ (List.mem_of_getElem? (i := 573) (by decide +kernel))) rfl
theorem tw_574 : (Jvm.Cond.static ({ cls := "HousePlansLaw", name := "refuses", desc := "(LHousePlans;II)Z" } : Jvm.MethodName)) ∈ am_TG := am_inTG (List.mem_append_right _ (List.mem_of_getElem? (i := 574) (by decide +kernel))) rfl
theorem tw_575 : (Jvm.Cond.code ({ cls := "HousePlansLaw", name := "refuses", desc := "(LHousePlans;II)Z" } : Jvm.MethodName) method_5_code (16 : Nat) (Option.some Jvm.ClassFile.FieldType.boolean)) ∈ am_TG := am_inTG (List.mem_append_right _ (List.mem_of_getElem? (i := 575) (by decide +kernel))) rfl
theorem tw_576 : (Jvm.Cond.methodLink "HousePlansLaw" (84 : Nat) ({ cls := "HousePlans", name := "drawings", desc := "()I" } : Jvm.MethodName)) ∈ am_TG := am_inTG (List.mem_append_right _ (List.mem_of_getElem? (i := 576) (by decide +kernel))) rfl
theorem tw_577 : (Jvm.Cond.instanceMethod ({ cls := "HousePlans", name := "drawings", desc := "()I" } : Jvm.MethodName)) ∈ am_TG := am_inTG (List.mem_append_right _ (List.mem_of_getElem? (i := 577) (by decide +kernel))) rfl
theorem tw_578 : (Jvm.Cond.selects "HousePlans" ({ cls := "HousePlans", name := "drawings", desc := "()I" } : Jvm.MethodName) ({ cls := "HousePlans", name := "drawings", desc := "()I" } : Jvm.MethodName)) ∈ am_TG := am_inTG (List.mem_append_right _ (List.mem_of_getElem? (i := 578) (by decide +kernel))) rfl
theorem tw_579 : (Jvm.Cond.code ({ cls := "HousePlans", name := "drawings", desc := "()I" } : Jvm.MethodName) prog_1_method_6_code (1 : Nat) (Option.some Jvm.ClassFile.FieldType.int)) ∈ am_TG := am_inTG (List.mem_append_right _ (List.mem_of_getElem? (i := 579) (by decide +kernel))) rfl
theorem tw_580 : (Jvm.Cond.methodLink "HousePlansLaw" (87 : Nat) ({ cls := "HousePlans", name := "old", desc := "()I" } : Jvm.MethodName)) ∈ am_TG := am_inTG (List.mem_append_right _ (List.mem_of_getElem? (i := 580) (by decide +kernel))) rfl
theorem tw_581 : (Jvm.Cond.instanceMethod ({ cls := "HousePlans", name := "old", desc := "()I" } : Jvm.MethodName)) ∈ am_TG := am_inTG (List.mem_append_right _ (List.mem_of_getElem? (i := 581) (by decide +kernel))) rfl
theorem tw_582 : (Jvm.Cond.selects "HousePlans" ({ cls := "HousePlans", name := "old", desc := "()I" } : Jvm.MethodName) ({ cls := "HousePlans", name := "old", desc := "()I" } : Jvm.MethodName)) ∈ am_TG := am_inTG (List.mem_append_right _ (List.mem_of_getElem? (i := 582) (by decide +kernel))) rfl
theorem tw_583 : (Jvm.Cond.code ({ cls := "HousePlans", name := "old", desc := "()I" } : Jvm.MethodName) prog_1_method_23_code (3 : Nat) (Option.some Jvm.ClassFile.FieldType.int)) ∈ am_TG := am_inTG (List.mem_append_right _ (List.mem_of_getElem? (i := 583) (by decide +kernel))) rfl
theorem tw_584 : (Jvm.Cond.constant "HousePlansLaw" (90 : Nat) (2147483647 : Int32)) ∈ am_TG := am_inTG (List.mem_append_right _ (List.mem_of_getElem? (i := 584) (by decide +kernel))) rfl
theorem tw_585 : (Jvm.Cond.methodLink "HousePlansLaw" (100 : Nat) ({ cls := "HousePlansLaw", name := "unlock", desc := "(LHousePlans;II)I" } : Jvm.MethodName)) ∈ am_TG := am_inTG (List.mem_append_right _ (List.mem_of_getElem? (i := 585) (by decide +kernel))) rfl
theorem tw_586 : (Jvm.Cond.static ({ cls := "HousePlansLaw", name := "unlock", desc := "(LHousePlans;II)I" } : Jvm.MethodName)) ∈ am_TG := am_inTG (List.mem_append_right _ (List.mem_of_getElem? (i := 586) (by decide +kernel))) rfl
theorem tw_587 : (Jvm.Cond.codeWith ({ cls := "HousePlansLaw", name := "unlock", desc := "(LHousePlans;II)I" } : Jvm.MethodName) method_3_code (4 : Nat) (Option.some Jvm.ClassFile.FieldType.int) [((0 : Nat), (7 : Nat), (8 : Nat), (13 : Nat)), ((0 : Nat), (7 : Nat), (12 : Nat), (15 : Nat)), ((0 : Nat), (7 : Nat), (16 : Nat), (17 : Nat))]) ∈ am_TG := am_inTG (List.mem_append_right _ (List.mem_of_getElem? (i := 587) (by decide +kernel))) rfl
theorem tw_588 : (Jvm.Cond.methodLink "HousePlansLaw" (19 : Nat) ({ cls := "HousePlans", name := "unlock", desc := "(II)V" } : Jvm.MethodName)) ∈ am_TG := am_inTG (List.mem_append_right _ (List.mem_of_getElem? (i := 588) (by decide +kernel))) rfl
theorem tw_589 : (Jvm.Cond.instanceMethod ({ cls := "HousePlans", name := "unlock", desc := "(II)V" } : Jvm.MethodName)) ∈ am_TG := am_inTG (List.mem_append_right _ (List.mem_of_getElem? (i := 589) (by decide +kernel))) rfl
theorem tw_590 : (Jvm.Cond.selects "HousePlans" ({ cls := "HousePlans", name := "unlock", desc := "(II)V" } : Jvm.MethodName) ({ cls := "HousePlans", name := "unlock", desc := "(II)V" } : Jvm.MethodName)) ∈ am_TG := am_inTG (List.mem_append_right _ (List.mem_of_getElem? (i := 590) (by decide +kernel))) rfl
theorem tw_591 : (Jvm.Cond.code ({ cls := "HousePlans", name := "unlock", desc := "(II)V" } : Jvm.MethodName) prog_1_method_15_code (4 : Nat) (Option.none : Option Jvm.ClassFile.FieldType)) ∈ am_TG := am_inTG (List.mem_append_right _ (List.mem_of_getElem? (i := 591) (by decide +kernel))) rfl
theorem tw_592 : (Jvm.Cond.stringRef "HousePlans" (127 : Nat) "the lock is lent") ∈ lw_tbl := (List.mem_append_right _ (List.mem_of_getElem? (i := 592) (by decide +kernel)))
theorem tw_593 : (Jvm.Cond.methodLink "HousePlansLaw" (111 : Nat) ({ cls := "HousePlansLaw", name := "floor", desc := "()Z" } : Jvm.MethodName)) ∈ am_TG := am_inTG (List.mem_append_right _ (List.mem_of_getElem? (i := 593) (by decide +kernel))) rfl
theorem tw_594 : (Jvm.Cond.static ({ cls := "HousePlansLaw", name := "floor", desc := "()Z" } : Jvm.MethodName)) ∈ am_TG := am_inTG (List.mem_append_right _ (List.mem_of_getElem? (i := 594) (by decide +kernel))) rfl
theorem tw_595 : (Jvm.Cond.code ({ cls := "HousePlansLaw", name := "floor", desc := "()Z" } : Jvm.MethodName) method_7_code (3 : Nat) (Option.some Jvm.ClassFile.FieldType.boolean)) ∈ am_TG := am_inTG (List.mem_append_right _ (List.mem_of_getElem? (i := 595) (by decide +kernel))) rfl
theorem tw_596 : (Jvm.Cond.methodLink "HousePlansLaw" (107 : Nat) ({ cls := "HousePlansLaw", name := "cell", desc := "(LHousePlans;IIIIII)Z" } : Jvm.MethodName)) ∈ am_TG := am_inTG (List.mem_append_right _ (List.mem_of_getElem? (i := 596) (by decide +kernel))) rfl
theorem tw_597 : (Jvm.Cond.static ({ cls := "HousePlansLaw", name := "cell", desc := "(LHousePlans;IIIIII)Z" } : Jvm.MethodName)) ∈ am_TG := am_inTG (List.mem_append_right _ (List.mem_of_getElem? (i := 597) (by decide +kernel))) rfl
theorem tw_598 : (Jvm.Cond.code ({ cls := "HousePlansLaw", name := "cell", desc := "(LHousePlans;IIIIII)Z" } : Jvm.MethodName) method_6_code (7 : Nat) (Option.some Jvm.ClassFile.FieldType.boolean)) ∈ am_TG := am_inTG (List.mem_append_right _ (List.mem_of_getElem? (i := 598) (by decide +kernel))) rfl
theorem tw_599 : (Jvm.Cond.methodLink "HousePlansLaw" (115 : Nat) ({ cls := "HousePlansLaw", name := "rows", desc := "()Z" } : Jvm.MethodName)) ∈ am_TG := am_inTG (List.mem_append_right _ (List.mem_of_getElem? (i := 599) (by decide +kernel))) rfl
theorem tw_600 : (Jvm.Cond.static ({ cls := "HousePlansLaw", name := "rows", desc := "()Z" } : Jvm.MethodName)) ∈ am_TG := am_inTG (List.mem_append_right _ (List.mem_of_getElem? (i := 600) (by decide +kernel))) rfl
theorem tw_601 : (Jvm.Cond.code ({ cls := "HousePlansLaw", name := "rows", desc := "()Z" } : Jvm.MethodName) method_8_code (2 : Nat) (Option.some Jvm.ClassFile.FieldType.boolean)) ∈ am_TG := am_inTG (List.mem_append_right _ (List.mem_of_getElem? (i := 601) (by decide +kernel))) rfl
theorem tw_602 : (Jvm.Cond.methodLink "HousePlansLaw" (118 : Nat) ({ cls := "HousePlansLaw", name := "hands", desc := "()Z" } : Jvm.MethodName)) ∈ am_TG := am_inTG (List.mem_append_right _ (List.mem_of_getElem? (i := 602) (by decide +kernel))) rfl
theorem tw_603 : (Jvm.Cond.static ({ cls := "HousePlansLaw", name := "hands", desc := "()Z" } : Jvm.MethodName)) ∈ am_TG := am_inTG (List.mem_append_right _ (List.mem_of_getElem? (i := 603) (by decide +kernel))) rfl
theorem tw_604 : (Jvm.Cond.code ({ cls := "HousePlansLaw", name := "hands", desc := "()Z" } : Jvm.MethodName) method_9_code (3 : Nat) (Option.some Jvm.ClassFile.FieldType.boolean)) ∈ am_TG := am_inTG (List.mem_append_right _ (List.mem_of_getElem? (i := 604) (by decide +kernel))) rfl
theorem tw_605 : (Jvm.Cond.sameMethod "java/lang/Throwable" "java/lang/Throwable" "fillInStackTrace" "(I)Ljava/lang/Throwable;") ∈ am_TG := am_inTG (List.mem_append_right _ (List.mem_of_getElem? (i := 605) (by decide +kernel))) rfl
theorem tw_606 : (Jvm.Cond.castable "HousePlans$Drawing" "java/lang/Object") ∈ am_bw := am_inB (List.mem_append_right _ (List.mem_of_getElem? (i := 606) (by decide +kernel))) rfl
theorem tw_607 : (Jvm.Cond.castable "HousePlans" "java/lang/Object") ∈ am_bw := am_inB (List.mem_append_right _ (List.mem_of_getElem? (i := 607) (by decide +kernel))) rfl
theorem tw_608 : (Jvm.Cond.castable "java/util/ArrayList" "java/lang/Object") ∈ am_bw := am_inB (List.mem_append_right _ (List.mem_of_getElem? (i := 608) (by decide +kernel))) rfl
theorem tw_609 : (Jvm.Cond.castable "HousePlans$Floor" "java/lang/Object") ∈ am_bw := am_inB (List.mem_append_right _ (List.mem_of_getElem? (i := 609) (by decide +kernel))) rfl
theorem tw_610 : (Jvm.Cond.castable "HousePlans$State" "java/lang/Object") ∈ am_bw := am_inB (List.mem_append_right _ (List.mem_of_getElem? (i := 610) (by decide +kernel))) rfl
theorem tw_611 : (Jvm.Cond.castable "java/lang/IllegalStateException" "java/lang/Object") ∈ am_bw := am_inB (List.mem_append_right _ (List.mem_of_getElem? (i := 611) (by decide +kernel))) rfl
theorem tw_612 : (Jvm.Cond.castable "java/lang/IndexOutOfBoundsException" "java/lang/Object") ∈ am_bw := am_inB (List.mem_append_right _ (List.mem_of_getElem? (i := 612) (by decide +kernel))) rfl
theorem tw_613 : (Jvm.Cond.castable "java/lang/IllegalArgumentException" "java/lang/Object") ∈ am_bw := am_inB (List.mem_append_right _ (List.mem_of_getElem? (i := 613) (by decide +kernel))) rfl
theorem tw_614 : (Jvm.Cond.castable "HousePlans$Permit" "java/lang/Object") ∈ am_bw := am_inB (List.mem_append_right _ (List.mem_of_getElem? (i := 614) (by decide +kernel))) rfl
theorem tw_615 : (Jvm.Cond.castable "HousePlans$Print" "java/lang/Object") ∈ am_bw := am_inB (List.mem_append_right _ (List.mem_of_getElem? (i := 615) (by decide +kernel))) rfl
theorem tw_616 : (Jvm.Cond.castable "java/lang/Throwable" "java/lang/Object") ∈ am_bw := am_inB (List.mem_append_right _ (List.mem_of_getElem? (i := 616) (by decide +kernel))) rfl
theorem tw_617 : (Jvm.Cond.castable "java/lang/String" "java/lang/Object") ∈ am_bw := am_inB (List.mem_append_right _ (List.mem_of_getElem? (i := 617) (by decide +kernel))) rfl
theorem tw_618 : (Jvm.Cond.sameMethod "[Ljava/lang/Object;" "java/lang/Object" "getClass" "()Ljava/lang/Class;") ∈ am_TG := am_inTG (List.mem_append_right _ (List.mem_of_getElem? (i := 618) (by decide +kernel))) rfl
theorem tw_619 : (Jvm.Cond.selects "[Ljava/lang/Object;" ({ cls := "java/lang/Object", name := "getClass", desc := "()Ljava/lang/Class;" } : Jvm.MethodName) ({ cls := "java/lang/Object", name := "getClass", desc := "()Ljava/lang/Class;" } : Jvm.MethodName)) ∈ am_TG := am_inTG (List.mem_append_right _ (List.mem_of_getElem? (i := 619) (by decide +kernel))) rfl
theorem tw_620 : (Jvm.Cond.declares ({ cls := "java/lang/Object", name := "getClass", desc := "()Ljava/lang/Class;" } : Jvm.MethodName)) ∈ am_bw := am_inB (List.mem_append_right _ (List.mem_of_getElem? (i := 620) (by decide +kernel))) rfl
theorem tw_621 : (Jvm.Cond.castable "[I" "java/lang/Object") ∈ am_bw := am_inB (List.mem_append_right _ (List.mem_of_getElem? (i := 621) (by decide +kernel))) rfl
theorem tw_622 : (Jvm.Cond.castable "[Z" "java/lang/Object") ∈ am_bw := am_inB (List.mem_append_right _ (List.mem_of_getElem? (i := 622) (by decide +kernel))) rfl
theorem tw_623 : (Jvm.Cond.castable "[B" "java/lang/Object") ∈ am_bw := am_inB (List.mem_append_right _ (List.mem_of_getElem? (i := 623) (by decide +kernel))) rfl
theorem tw_624 : (Jvm.Cond.castable "[LHousePlans$Drawing;" "java/lang/Object") ∈ am_bw := am_inB (List.mem_append_right _ (List.mem_of_getElem? (i := 624) (by decide +kernel))) rfl
theorem tw_625 : (Jvm.Cond.castable "[Ljava/lang/Object;" "java/lang/Object") ∈ am_bw := am_inB (List.mem_append_right _ (List.mem_of_getElem? (i := 625) (by decide +kernel))) rfl
theorem ts_0 : Cond.selects (⟨"java/lang/Throwable", "fillInStackTrace", "(I)Ljava/lang/Throwable;"⟩ : MethodName).cls (⟨"java/lang/Throwable", "fillInStackTrace", "(I)Ljava/lang/Throwable;"⟩ : MethodName) (⟨"java/lang/Throwable", "fillInStackTrace", "(I)Ljava/lang/Throwable;"⟩ : MethodName) ∈ am_TG := am_inTG (List.mem_append_left _ (List.mem_of_getElem? (i := 0) (by decide +kernel))) rfl
theorem ts_1 : Cond.selects (⟨"java/util/ArrayList", "add", "(Ljava/lang/Object;[Ljava/lang/Object;I)V"⟩ : MethodName).cls (⟨"java/util/ArrayList", "add", "(Ljava/lang/Object;[Ljava/lang/Object;I)V"⟩ : MethodName) (⟨"java/util/ArrayList", "add", "(Ljava/lang/Object;[Ljava/lang/Object;I)V"⟩ : MethodName) ∈ am_TG := am_inTG (List.mem_append_left _ (List.mem_of_getElem? (i := 1) (by decide +kernel))) rfl
theorem ts_2 : Cond.selects (⟨"java/util/ArrayList", "grow", "()[Ljava/lang/Object;"⟩ : MethodName).cls (⟨"java/util/ArrayList", "grow", "()[Ljava/lang/Object;"⟩ : MethodName) (⟨"java/util/ArrayList", "grow", "()[Ljava/lang/Object;"⟩ : MethodName) ∈ am_TG := am_inTG (List.mem_append_left _ (List.mem_of_getElem? (i := 2) (by decide +kernel))) rfl
theorem ts_3 : Cond.selects (⟨"java/util/ArrayList", "grow", "(I)[Ljava/lang/Object;"⟩ : MethodName).cls (⟨"java/util/ArrayList", "grow", "(I)[Ljava/lang/Object;"⟩ : MethodName) (⟨"java/util/ArrayList", "grow", "(I)[Ljava/lang/Object;"⟩ : MethodName) ∈ am_TG := am_inTG (List.mem_append_left _ (List.mem_of_getElem? (i := 3) (by decide +kernel))) rfl
theorem ts_4 : Cond.selects (⟨"HousePlans", "drawingAt", "(I)LHousePlans$Drawing;"⟩ : MethodName).cls (⟨"HousePlans", "drawingAt", "(I)LHousePlans$Drawing;"⟩ : MethodName) (⟨"HousePlans", "drawingAt", "(I)LHousePlans$Drawing;"⟩ : MethodName) ∈ am_TG := am_inTG (List.mem_append_left _ (List.mem_of_getElem? (i := 4) (by decide +kernel))) rfl
theorem ts_5 : Cond.selects (⟨"HousePlans$Drawing", "changer", "()I"⟩ : MethodName).cls (⟨"HousePlans$Drawing", "changer", "()I"⟩ : MethodName) (⟨"HousePlans$Drawing", "changer", "()I"⟩ : MethodName) ∈ am_TG := am_inTG (List.mem_append_left _ (List.mem_of_getElem? (i := 5) (by decide +kernel))) rfl
theorem ts_6 : Cond.selects (⟨"HousePlans$Drawing", "sideNow", "(I)I"⟩ : MethodName).cls (⟨"HousePlans$Drawing", "sideNow", "(I)I"⟩ : MethodName) (⟨"HousePlans$Drawing", "sideNow", "(I)I"⟩ : MethodName) ∈ am_TG := am_inTG (List.mem_append_left _ (List.mem_of_getElem? (i := 6) (by decide +kernel))) rfl
theorem ts_7 : Cond.selects (⟨"HousePlans$Floor", "lookAt", "(LHousePlans$Drawing;)V"⟩ : MethodName).cls (⟨"HousePlans$Floor", "lookAt", "(LHousePlans$Drawing;)V"⟩ : MethodName) (⟨"HousePlans$Floor", "lookAt", "(LHousePlans$Drawing;)V"⟩ : MethodName) ∈ am_TG := am_inTG (List.mem_append_left _ (List.mem_of_getElem? (i := 7) (by decide +kernel))) rfl
theorem ts_8 : Cond.selects (⟨"HousePlans$State", "takeFrom", "(LHousePlans$Drawing;)V"⟩ : MethodName).cls (⟨"HousePlans$State", "takeFrom", "(LHousePlans$Drawing;)V"⟩ : MethodName) (⟨"HousePlans$State", "takeFrom", "(LHousePlans$Drawing;)V"⟩ : MethodName) ∈ am_TG := am_inTG (List.mem_append_left _ (List.mem_of_getElem? (i := 8) (by decide +kernel))) rfl
theorem ts_9 : Cond.selects (⟨"HousePlans$Drawing", "exitNow", "(I)Z"⟩ : MethodName).cls (⟨"HousePlans$Drawing", "exitNow", "(I)Z"⟩ : MethodName) (⟨"HousePlans$Drawing", "exitNow", "(I)Z"⟩ : MethodName) ∈ am_TG := am_inTG (List.mem_append_left _ (List.mem_of_getElem? (i := 9) (by decide +kernel))) rfl
theorem ts_10 : Cond.selects (⟨"HousePlans$Floor", "findRooms", "()V"⟩ : MethodName).cls (⟨"HousePlans$Floor", "findRooms", "()V"⟩ : MethodName) (⟨"HousePlans$Floor", "findRooms", "()V"⟩ : MethodName) ∈ am_TG := am_inTG (List.mem_append_left _ (List.mem_of_getElem? (i := 10) (by decide +kernel))) rfl
theorem ts_11 : Cond.selects (⟨"HousePlans$Floor", "join", "(II)V"⟩ : MethodName).cls (⟨"HousePlans$Floor", "join", "(II)V"⟩ : MethodName) (⟨"HousePlans$Floor", "join", "(II)V"⟩ : MethodName) ∈ am_TG := am_inTG (List.mem_append_left _ (List.mem_of_getElem? (i := 11) (by decide +kernel))) rfl
theorem ts_12 : Cond.selects (⟨"HousePlans$Floor", "findWaysOut", "()V"⟩ : MethodName).cls (⟨"HousePlans$Floor", "findWaysOut", "()V"⟩ : MethodName) (⟨"HousePlans$Floor", "findWaysOut", "()V"⟩ : MethodName) ∈ am_TG := am_inTG (List.mem_append_left _ (List.mem_of_getElem? (i := 12) (by decide +kernel))) rfl
theorem ts_13 : Cond.selects (⟨"HousePlans$Floor", "goThroughDoors", "([I)V"⟩ : MethodName).cls (⟨"HousePlans$Floor", "goThroughDoors", "([I)V"⟩ : MethodName) (⟨"HousePlans$Floor", "goThroughDoors", "([I)V"⟩ : MethodName) ∈ am_TG := am_inTG (List.mem_append_left _ (List.mem_of_getElem? (i := 13) (by decide +kernel))) rfl
theorem ts_14 : Cond.selects (⟨"HousePlans$Floor", "countRooms", "()I"⟩ : MethodName).cls (⟨"HousePlans$Floor", "countRooms", "()I"⟩ : MethodName) (⟨"HousePlans$Floor", "countRooms", "()I"⟩ : MethodName) ∈ am_TG := am_inTG (List.mem_append_left _ (List.mem_of_getElem? (i := 14) (by decide +kernel))) rfl
theorem ts_15 : Cond.selects (⟨"HousePlans$Floor", "countCells", "(I)I"⟩ : MethodName).cls (⟨"HousePlans$Floor", "countCells", "(I)I"⟩ : MethodName) (⟨"HousePlans$Floor", "countCells", "(I)I"⟩ : MethodName) ∈ am_TG := am_inTG (List.mem_append_left _ (List.mem_of_getElem? (i := 15) (by decide +kernel))) rfl
theorem ts_16 : Cond.selects (⟨"HousePlans", "printAt", "(I)LHousePlans$Print;"⟩ : MethodName).cls (⟨"HousePlans", "printAt", "(I)LHousePlans$Print;"⟩ : MethodName) (⟨"HousePlans", "printAt", "(I)LHousePlans$Print;"⟩ : MethodName) ∈ am_TG := am_inTG (List.mem_append_left _ (List.mem_of_getElem? (i := 16) (by decide +kernel))) rfl
theorem ts_17 : Cond.selects (⟨"HousePlans$Drawing", "leadsTo", "(LHousePlans$Drawing;)Z"⟩ : MethodName).cls (⟨"HousePlans$Drawing", "leadsTo", "(LHousePlans$Drawing;)Z"⟩ : MethodName) (⟨"HousePlans$Drawing", "leadsTo", "(LHousePlans$Drawing;)Z"⟩ : MethodName) ∈ am_TG := am_inTG (List.mem_append_left _ (List.mem_of_getElem? (i := 17) (by decide +kernel))) rfl
theorem ts_18 : Cond.selects (⟨"HousePlans$Floor", "wallThatHelps", "(I)I"⟩ : MethodName).cls (⟨"HousePlans$Floor", "wallThatHelps", "(I)I"⟩ : MethodName) (⟨"HousePlans$Floor", "wallThatHelps", "(I)I"⟩ : MethodName) ∈ am_TG := am_inTG (List.mem_append_left _ (List.mem_of_getElem? (i := 18) (by decide +kernel))) rfl
theorem ts_19 : Cond.selects (⟨"HousePlans$Floor", "leadsOut", "(II)Z"⟩ : MethodName).cls (⟨"HousePlans$Floor", "leadsOut", "(II)Z"⟩ : MethodName) (⟨"HousePlans$Floor", "leadsOut", "(II)Z"⟩ : MethodName) ∈ am_TG := am_inTG (List.mem_append_left _ (List.mem_of_getElem? (i := 19) (by decide +kernel))) rfl
theorem ts_20 : Cond.selects (⟨"HousePlans$Floor", "everyRoomHasWayOut", "()Z"⟩ : MethodName).cls (⟨"HousePlans$Floor", "everyRoomHasWayOut", "()Z"⟩ : MethodName) (⟨"HousePlans$Floor", "everyRoomHasWayOut", "()Z"⟩ : MethodName) ∈ am_TG := am_inTG (List.mem_append_left _ (List.mem_of_getElem? (i := 20) (by decide +kernel))) rfl
theorem ts_21 : Cond.selects (⟨"HousePlans$Permit", "isValid", "()Z"⟩ : MethodName).cls (⟨"HousePlans$Permit", "isValid", "()Z"⟩ : MethodName) (⟨"HousePlans$Permit", "isValid", "()Z"⟩ : MethodName) ∈ am_TG := am_inTG (List.mem_append_left _ (List.mem_of_getElem? (i := 21) (by decide +kernel))) rfl
theorem ts_22 : Cond.selects (⟨"HousePlans$State", "isThatOf", "(LHousePlans$Drawing;)Z"⟩ : MethodName).cls (⟨"HousePlans$State", "isThatOf", "(LHousePlans$Drawing;)Z"⟩ : MethodName) (⟨"HousePlans$State", "isThatOf", "(LHousePlans$Drawing;)Z"⟩ : MethodName) ∈ am_TG := am_inTG (List.mem_append_left _ (List.mem_of_getElem? (i := 22) (by decide +kernel))) rfl
theorem ts_23 : Cond.selects (⟨"HousePlans", "highestPermit", "(LHousePlans$Drawing;)I"⟩ : MethodName).cls (⟨"HousePlans", "highestPermit", "(LHousePlans$Drawing;)I"⟩ : MethodName) (⟨"HousePlans", "highestPermit", "(LHousePlans$Drawing;)I"⟩ : MethodName) ∈ am_TG := am_inTG (List.mem_append_left _ (List.mem_of_getElem? (i := 23) (by decide +kernel))) rfl
theorem ts_24 : Cond.selects (⟨"HousePlans$Print", "isOld", "()Z"⟩ : MethodName).cls (⟨"HousePlans$Print", "isOld", "()Z"⟩ : MethodName) (⟨"HousePlans$Print", "isOld", "()Z"⟩ : MethodName) ∈ am_TG := am_inTG (List.mem_append_left _ (List.mem_of_getElem? (i := 24) (by decide +kernel))) rfl
end
section
/-! ===== rows with a computed value by an equation ===== -/
theorem am_iaddE {Z : am_Z} {own : String} {cc : ByteArray} {n L mc ms : Nat} (hC : am_OK Z own cc n L mc ms) {kc ks pc : Nat} {ls st : List Value} {h : am_H} {x y z : Int32} (hd : decode cc pc = .ok (.iadd, 1)) (hz : x + y = z) (k : am_W Z kc ks (pc + 1) ls (.int z :: st) h) : am_W Z kc ks pc ls (.int y :: .int x :: st) h := am_iadd hC hd (by rw [hz]; exact k)
theorem am_isubE {Z : am_Z} {own : String} {cc : ByteArray} {n L mc ms : Nat} (hC : am_OK Z own cc n L mc ms) {kc ks pc : Nat} {ls st : List Value} {h : am_H} {x y z : Int32} (hd : decode cc pc = .ok (.isub, 1)) (hz : x - y = z) (k : am_W Z kc ks (pc + 1) ls (.int z :: st) h) : am_W Z kc ks pc ls (.int y :: .int x :: st) h := am_isub hC hd (by rw [hz]; exact k)
theorem am_imulE {Z : am_Z} {own : String} {cc : ByteArray} {n L mc ms : Nat} (hC : am_OK Z own cc n L mc ms) {kc ks pc : Nat} {ls st : List Value} {h : am_H} {x y z : Int32} (hd : decode cc pc = .ok (.imul, 1)) (hz : x * y = z) (k : am_W Z kc ks (pc + 1) ls (.int z :: st) h) : am_W Z kc ks pc ls (.int y :: .int x :: st) h := am_imul hC hd (by rw [hz]; exact k)
theorem am_iandE {Z : am_Z} {own : String} {cc : ByteArray} {n L mc ms : Nat} (hC : am_OK Z own cc n L mc ms) {kc ks pc : Nat} {ls st : List Value} {h : am_H} {x y z : Int32} (hd : decode cc pc = .ok (.iand, 1)) (hz : x &&& y = z) (k : am_W Z kc ks (pc + 1) ls (.int z :: st) h) : am_W Z kc ks pc ls (.int y :: .int x :: st) h := am_iand hC hd (by rw [hz]; exact k)
theorem am_iorE {Z : am_Z} {own : String} {cc : ByteArray} {n L mc ms : Nat} (hC : am_OK Z own cc n L mc ms) {kc ks pc : Nat} {ls st : List Value} {h : am_H} {x y z : Int32} (hd : decode cc pc = .ok (.ior, 1)) (hz : x ||| y = z) (k : am_W Z kc ks (pc + 1) ls (.int z :: st) h) : am_W Z kc ks pc ls (.int y :: .int x :: st) h := am_ior hC hd (by rw [hz]; exact k)
theorem am_ixorE {Z : am_Z} {own : String} {cc : ByteArray} {n L mc ms : Nat} (hC : am_OK Z own cc n L mc ms) {kc ks pc : Nat} {ls st : List Value} {h : am_H} {x y z : Int32} (hd : decode cc pc = .ok (.ixor, 1)) (hz : x ^^^ y = z) (k : am_W Z kc ks (pc + 1) ls (.int z :: st) h) : am_W Z kc ks pc ls (.int y :: .int x :: st) h := am_ixor hC hd (by rw [hz]; exact k)
theorem am_ishlE {Z : am_Z} {own : String} {cc : ByteArray} {n L mc ms : Nat} (hC : am_OK Z own cc n L mc ms) {kc ks pc : Nat} {ls st : List Value} {h : am_H} {x y z : Int32} (hd : decode cc pc = .ok (.ishl, 1)) (hz : x <<< (y &&& 31) = z) (k : am_W Z kc ks (pc + 1) ls (.int z :: st) h) : am_W Z kc ks pc ls (.int y :: .int x :: st) h := am_ishl hC hd (by rw [hz]; exact k)
theorem am_ishrE {Z : am_Z} {own : String} {cc : ByteArray} {n L mc ms : Nat} (hC : am_OK Z own cc n L mc ms) {kc ks pc : Nat} {ls st : List Value} {h : am_H} {x y z : Int32} (hd : decode cc pc = .ok (.ishr, 1)) (hz : x >>> (y &&& 31) = z) (k : am_W Z kc ks (pc + 1) ls (.int z :: st) h) : am_W Z kc ks pc ls (.int y :: .int x :: st) h := am_ishr hC hd (by rw [hz]; exact k)
theorem am_idivE {Z : am_Z} {own : String} {cc : ByteArray} {n L mc ms : Nat} (hC : am_OK Z own cc n L mc ms) {kc ks pc : Nat} {ls st : List Value} {h : am_H} {x y z : Int32} (hd : decode cc pc = .ok (.idiv, 1)) (hy : ¬ y = 0) (hz : x / y = z) (k : am_W Z kc ks (pc + 1) ls (.int z :: st) h) : am_W Z kc ks pc ls (.int y :: .int x :: st) h := am_idiv hC hd hy (by rw [hz]; exact k)
theorem am_iremE {Z : am_Z} {own : String} {cc : ByteArray} {n L mc ms : Nat} (hC : am_OK Z own cc n L mc ms) {kc ks pc : Nat} {ls st : List Value} {h : am_H} {x y z : Int32} (hd : decode cc pc = .ok (.irem, 1)) (hy : ¬ y = 0) (hz : x - x / y * y = z) (k : am_W Z kc ks (pc + 1) ls (.int z :: st) h) : am_W Z kc ks pc ls (.int y :: .int x :: st) h := am_irem hC hd hy (by rw [hz]; exact k)
theorem am_ialdE {Z : am_Z} {own : String} {cc : ByteArray} {n L mc ms : Nat} (hC : am_OK Z own cc n L mc ms) {kc ks pc : Nat} {ls st : List Value} {h : am_H} {r j N : Nat} {i v : Int32} (hkr : hk_ h r = 9) (hnr : hn_ h r = N) (hi : i = nI j) (hj : j < N) (hN : N < 2 ^ 31) (hd : decode cc pc = .ok (.iaload, 1)) (hv : hi_ h r j = v) (k : am_W Z kc ks (pc + 1) ls (.int v :: st) h) : am_W Z kc ks pc ls (.int i :: .ref r :: st) h := am_iald hC hkr hnr hi hj hN hd (by rw [hv]; exact k)
theorem am_zaldE {Z : am_Z} {own : String} {cc : ByteArray} {n L mc ms : Nat} (hC : am_OK Z own cc n L mc ms) {kc ks pc : Nat} {ls st : List Value} {h : am_H} {r j N : Nat} {i v : Int32} (hkr : hk_ h r = 10) (hnr : hn_ h r = N) (hi : i = nI j) (hj : j < N) (hN : N < 2 ^ 31) (hd : decode cc pc = .ok (.baload, 1)) (hv : hi_ h r j = v) (k : am_W Z kc ks (pc + 1) ls (.int v :: st) h) : am_W Z kc ks pc ls (.int i :: .ref r :: st) h := am_zald hC hkr hnr hi hj hN hd (by rw [hv]; exact k)
theorem am_aaldE {Z : am_Z} {own : String} {cc : ByteArray} {n L mc ms : Nat} (hC : am_OK Z own cc n L mc ms) {kc ks pc : Nat} {ls st : List Value} {h : am_H} {r j N kk : Nat} {i : Int32} {v : Value} (hkk : kk = 11 ∨ kk = 12) (hkr : hk_ h r = kk) (hnr : hn_ h r = N) (hi : i = nI j) (hj : j < N) (hN : N < 2 ^ 31) (hd : decode cc pc = .ok (.aaload, 1)) (hv : Value.ref (hr_ h r j) = v) (k : am_W Z kc ks (pc + 1) ls (v :: st) h) : am_W Z kc ks pc ls (.int i :: .ref r :: st) h := am_aald hC hkk hkr hnr hi hj hN hd (by rw [hv]; exact k)
theorem am_rfe {a b : Nat} (h : a = b) : Value.ref a = Value.ref b := by rw [h]
theorem am_tr {Z : am_Z} {own : String} {cc : ByteArray} {n L mc ms : Nat} (hC : am_OK Z own cc n L mc ms) : Z.2.2.1.stackTraces = false := hC.2.2.2.2.1
theorem mf_X5_init : am_mI yX5_init cX5_init 1 0 := ⟨rfl, tw_25, tw_1, tw_26, ⟨by decide +kernel, by decide +kernel, by decide +kernel⟩⟩
theorem mf_X5_begin : am_mV yX5_begin cX5_begin 2 (some .int) 0 := ⟨tw_108, tw_109, tw_1, tw_110, ⟨by decide +kernel, by decide +kernel, by decide +kernel⟩⟩
theorem mf_X5_canChange : am_mV yX5_canChange cX5_canChange 2 (some .int) 1 := ⟨tw_493, tw_494, tw_1, tw_495, ⟨by decide +kernel, by decide +kernel, by decide +kernel⟩⟩
theorem mf_X5_doorThatHelps : am_mV yX5_doorThatHelps cX5_doorThatHelps 4 (some .int) 2 := ⟨tw_472, tw_473, tw_1, tw_474, ⟨by decide +kernel, by decide +kernel, by decide +kernel⟩⟩
theorem mf_X5_doorsOut : am_mV yX5_doorsOut cX5_doorsOut 4 (some .int) 2 := ⟨tw_423, tw_424, tw_1, tw_425, ⟨by decide +kernel, by decide +kernel, by decide +kernel⟩⟩
theorem mf_X5_drawingAt : am_mV yX5_drawingAt cX5_drawingAt 2 (some (.object "HousePlans$Drawing")) 1 := ⟨tw_278, ts_4, tw_1, tw_279, ⟨by decide +kernel, by decide +kernel, by decide +kernel⟩⟩
theorem mf_X5_drawings : am_mV yX5_drawings cX5_drawings 1 (some .int) 0 := ⟨tw_577, tw_578, tw_1, tw_579, ⟨by decide +kernel, by decide +kernel, by decide +kernel⟩⟩
theorem mf_X5_firstCell : am_mS yX5_firstCell cX5_firstCell 1 (some .int) 1 := ⟨tw_386, tw_1, tw_387, ⟨by decide +kernel, by decide +kernel, by decide +kernel⟩⟩
theorem mf_X5_grant : am_mV yX5_grant cX5_grant 4 (some .int) 1 := ⟨tw_497, tw_498, tw_1, tw_499, ⟨by decide +kernel, by decide +kernel, by decide +kernel⟩⟩
theorem mf_X5_hasExit : am_mV yX5_hasExit cX5_hasExit 4 (some .boolean) 2 := ⟨tw_463, tw_464, tw_1, tw_465, ⟨by decide +kernel, by decide +kernel, by decide +kernel⟩⟩
theorem mf_X5_highestPermit : am_mV yX5_highestPermit cX5_highestPermit 4 (some .int) 1 := ⟨tw_544, ts_23, tw_1, tw_545, ⟨by decide +kernel, by decide +kernel, by decide +kernel⟩⟩
theorem mf_X5_holds : am_mV yX5_holds cX5_holds 2 (some .boolean) 1 := ⟨tw_524, tw_525, tw_1, tw_526, ⟨by decide +kernel, by decide +kernel, by decide +kernel⟩⟩
theorem mf_X5_isGood : am_mV yX5_isGood cX5_isGood 3 (some .boolean) 1 := ⟨tw_565, tw_566, tw_1, tw_567, ⟨by decide +kernel, by decide +kernel, by decide +kernel⟩⟩
theorem mf_X5_lend : am_mV yX5_lend cX5_lend 6 (some .int) 3 := ⟨tw_484, tw_485, tw_1, tw_486, ⟨by decide +kernel, by decide +kernel, by decide +kernel⟩⟩
theorem mf_X5_lock : am_mV yX5_lock cX5_lock 4 none 2 := ⟨tw_443, tw_444, tw_1, tw_445, ⟨by decide +kernel, by decide +kernel, by decide +kernel⟩⟩
theorem mf_X5_needCell : am_mS yX5_needCell cX5_needCell 1 none 1 := ⟨tw_347, tw_1, tw_348, ⟨by decide +kernel, by decide +kernel, by decide +kernel⟩⟩
theorem mf_X5_needChanger : am_mS yX5_needChanger cX5_needChanger 2 none 2 := ⟨tw_335, tw_1, tw_336, ⟨by decide +kernel, by decide +kernel, by decide +kernel⟩⟩
theorem mf_X5_needLocker : am_mS yX5_needLocker cX5_needLocker 2 none 2 := ⟨tw_489, tw_1, tw_490, ⟨by decide +kernel, by decide +kernel, by decide +kernel⟩⟩
theorem mf_X5_needPerson : am_mS yX5_needPerson cX5_needPerson 1 none 1 := ⟨tw_311, tw_1, tw_312, ⟨by decide +kernel, by decide +kernel, by decide +kernel⟩⟩
theorem mf_X5_needSide : am_mS yX5_needSide cX5_needSide 1 none 1 := ⟨tw_330, tw_1, tw_331, ⟨by decide +kernel, by decide +kernel, by decide +kernel⟩⟩
theorem mf_X5_old : am_mV yX5_old cX5_old 3 (some .int) 0 := ⟨tw_581, tw_582, tw_1, tw_583, ⟨by decide +kernel, by decide +kernel, by decide +kernel⟩⟩
theorem mf_X5_permitOf : am_mV yX5_permitOf cX5_permitOf 2 (some .int) 1 := ⟨tw_427, tw_428, tw_1, tw_429, ⟨by decide +kernel, by decide +kernel, by decide +kernel⟩⟩
theorem mf_X5_print : am_mV yX5_print cX5_print 4 (some .int) 1 := ⟨tw_537, tw_538, tw_1, tw_539, ⟨by decide +kernel, by decide +kernel, by decide +kernel⟩⟩
theorem mf_X5_printAt : am_mV yX5_printAt cX5_printAt 2 (some (.object "HousePlans$Print")) 1 := ⟨tw_432, ts_16, tw_1, tw_433, ⟨by decide +kernel, by decide +kernel, by decide +kernel⟩⟩
theorem mf_X5_refer : am_mV yX5_refer cX5_refer 8 (some .boolean) 4 := ⟨tw_451, tw_452, tw_1, tw_453, ⟨by decide +kernel, by decide +kernel, by decide +kernel⟩⟩
theorem mf_X5_room : am_mV yX5_room cX5_room 4 (some .int) 2 := ⟨tw_468, tw_469, tw_1, tw_470, ⟨by decide +kernel, by decide +kernel, by decide +kernel⟩⟩
theorem mf_X5_rooms : am_mV yX5_rooms cX5_rooms 2 (some .int) 1 := ⟨tw_362, tw_363, tw_1, tw_364, ⟨by decide +kernel, by decide +kernel, by decide +kernel⟩⟩
theorem mf_X5_secondCell : am_mS yX5_secondCell cX5_secondCell 1 (some .int) 1 := ⟨tw_389, tw_1, tw_390, ⟨by decide +kernel, by decide +kernel, by decide +kernel⟩⟩
theorem mf_X5_setExit : am_mV yX5_setExit cX5_setExit 7 (some .boolean) 4 := ⟨tw_343, tw_344, tw_1, tw_345, ⟨by decide +kernel, by decide +kernel, by decide +kernel⟩⟩
theorem mf_X5_side : am_mV yX5_side cX5_side 4 (some .int) 2 := ⟨tw_351, tw_352, tw_1, tw_353, ⟨by decide +kernel, by decide +kernel, by decide +kernel⟩⟩
theorem mf_X5_size : am_mV yX5_size cX5_size 4 (some .int) 2 := ⟨tw_415, tw_416, tw_1, tw_417, ⟨by decide +kernel, by decide +kernel, by decide +kernel⟩⟩
theorem mf_X5_tell : am_mV yX5_tell cX5_tell 7 (some .int) 4 := ⟨tw_273, tw_274, tw_1, tw_275, ⟨by decide +kernel, by decide +kernel, by decide +kernel⟩⟩
theorem mf_X5_unlock : am_mV yX5_unlock cX5_unlock 4 none 2 := ⟨tw_589, tw_590, tw_1, tw_591, ⟨by decide +kernel, by decide +kernel, by decide +kernel⟩⟩
theorem mf_X0_init : am_mI yX0_init cX0_init 1 0 := ⟨rfl, tw_186, tw_9, tw_187, ⟨by decide +kernel, by decide +kernel, by decide +kernel⟩⟩
theorem mf_X0_changer : am_mV yX0_changer cX0_changer 1 (some .int) 0 := ⟨tw_339, ts_5, tw_9, tw_340, ⟨by decide +kernel, by decide +kernel, by decide +kernel⟩⟩
theorem mf_X0_exitIn : am_mS yX0_exitIn cX0_exitIn 7 (some .boolean) 3 := ⟨tw_379, tw_9, tw_380, ⟨by decide +kernel, by decide +kernel, by decide +kernel⟩⟩
theorem mf_X0_exitNow : am_mV yX0_exitNow cX0_exitNow 2 (some .boolean) 1 := ⟨tw_376, ts_9, tw_9, tw_377, ⟨by decide +kernel, by decide +kernel, by decide +kernel⟩⟩
theorem mf_X0_leads : am_mS yX0_leads cX0_leads 7 (some .boolean) 3 := ⟨tw_459, tw_9, tw_460, ⟨by decide +kernel, by decide +kernel, by decide +kernel⟩⟩
theorem mf_X0_leadsTo : am_mV yX0_leadsTo cX0_leadsTo 2 (some .boolean) 1 := ⟨tw_456, ts_17, tw_9, tw_457, ⟨by decide +kernel, by decide +kernel, by decide +kernel⟩⟩
theorem mf_X0_sideIn : am_mS yX0_sideIn cX0_sideIn 8 (some .int) 3 := ⟨tw_359, tw_9, tw_360, ⟨by decide +kernel, by decide +kernel, by decide +kernel⟩⟩
theorem mf_X0_sideNow : am_mV yX0_sideNow cX0_sideNow 2 (some .int) 1 := ⟨tw_356, ts_6, tw_9, tw_357, ⟨by decide +kernel, by decide +kernel, by decide +kernel⟩⟩
theorem mf_X1_init : am_mI yX1_init cX1_init 1 0 := ⟨rfl, tw_59, tw_5, tw_60, ⟨by decide +kernel, by decide +kernel, by decide +kernel⟩⟩
theorem mf_X1_countCells : am_mV yX1_countCells cX1_countCells 4 (some .int) 1 := ⟨tw_420, ts_15, tw_5, tw_421, ⟨by decide +kernel, by decide +kernel, by decide +kernel⟩⟩
theorem mf_X1_countRooms : am_mV yX1_countRooms cX1_countRooms 3 (some .int) 0 := ⟨tw_412, ts_14, tw_5, tw_413, ⟨by decide +kernel, by decide +kernel, by decide +kernel⟩⟩
theorem mf_X1_everyRoomHasWayOut : am_mV yX1_everyRoomHasWayOut cX1_everyRoomHasWayOut 2 (some .boolean) 0 := ⟨tw_503, ts_20, tw_5, tw_504, ⟨by decide +kernel, by decide +kernel, by decide +kernel⟩⟩
theorem mf_X1_findRooms : am_mV yX1_findRooms cX1_findRooms 2 none 0 := ⟨tw_383, ts_10, tw_5, tw_384, ⟨by decide +kernel, by decide +kernel, by decide +kernel⟩⟩
theorem mf_X1_findWaysOut : am_mV yX1_findWaysOut cX1_findWaysOut 2 none 0 := ⟨tw_400, ts_12, tw_5, tw_401, ⟨by decide +kernel, by decide +kernel, by decide +kernel⟩⟩
theorem mf_X1_goThrough : am_mS yX1_goThrough cX1_goThrough 4 (some .boolean) 4 := ⟨tw_408, tw_5, tw_409, ⟨by decide +kernel, by decide +kernel, by decide +kernel⟩⟩
theorem mf_X1_goThroughDoors : am_mV yX1_goThroughDoors cX1_goThroughDoors 7 none 1 := ⟨tw_405, ts_13, tw_5, tw_406, ⟨by decide +kernel, by decide +kernel, by decide +kernel⟩⟩
theorem mf_X1_join : am_mV yX1_join cX1_join 6 none 2 := ⟨tw_394, ts_11, tw_5, tw_395, ⟨by decide +kernel, by decide +kernel, by decide +kernel⟩⟩
theorem mf_X1_leadsOut : am_mV yX1_leadsOut cX1_leadsOut 3 (some .boolean) 2 := ⟨tw_481, ts_19, tw_5, tw_482, ⟨by decide +kernel, by decide +kernel, by decide +kernel⟩⟩
theorem mf_X1_lookAt : am_mV yX1_lookAt cX1_lookAt 2 none 1 := ⟨tw_367, ts_7, tw_5, tw_368, ⟨by decide +kernel, by decide +kernel, by decide +kernel⟩⟩
theorem mf_X1_wallThatHelps : am_mV yX1_wallThatHelps cX1_wallThatHelps 5 (some .int) 1 := ⟨tw_477, ts_18, tw_5, tw_478, ⟨by decide +kernel, by decide +kernel, by decide +kernel⟩⟩
theorem mf_X2_init : am_mI yX2_init cX2_init 2 1 := ⟨rfl, tw_509, tw_20, tw_510, ⟨by decide +kernel, by decide +kernel, by decide +kernel⟩⟩
theorem mf_X2_isValid : am_mV yX2_isValid cX2_isValid 1 (some .boolean) 0 := ⟨tw_530, ts_21, tw_20, tw_531, ⟨by decide +kernel, by decide +kernel, by decide +kernel⟩⟩
theorem mf_X3_init : am_mI yX3_init cX3_init 3 2 := ⟨rfl, tw_547, tw_21, tw_548, ⟨by decide +kernel, by decide +kernel, by decide +kernel⟩⟩
theorem mf_X3_isOld : am_mV yX3_isOld cX3_isOld 1 (some .boolean) 0 := ⟨tw_570, ts_24, tw_21, tw_571, ⟨by decide +kernel, by decide +kernel, by decide +kernel⟩⟩
theorem mf_X4_init : am_mI yX4_init cX4_init 1 0 := ⟨rfl, tw_65, tw_6, tw_66, ⟨by decide +kernel, by decide +kernel, by decide +kernel⟩⟩
theorem mf_X4_isThatOf : am_mV yX4_isThatOf cX4_isThatOf 3 (some .boolean) 1 := ⟨tw_534, ts_22, tw_6, tw_535, ⟨by decide +kernel, by decide +kernel, by decide +kernel⟩⟩
theorem mf_X4_takeFrom : am_mV yX4_takeFrom cX4_takeFrom 3 none 1 := ⟨tw_371, ts_8, tw_6, tw_372, ⟨by decide +kernel, by decide +kernel, by decide +kernel⟩⟩
theorem mf_L_act : am_mW yL_act cL_act 7 (some .int) [((0 : Nat), (317 : Nat), (318 : Nat), (13 : Nat)), ((0 : Nat), (317 : Nat), (323 : Nat), (15 : Nat)), ((0 : Nat), (317 : Nat), (328 : Nat), (17 : Nat))] 6 := ⟨tw_448, tw_0, tw_449, ⟨by decide +kernel, by decide +kernel, by decide +kernel⟩⟩
theorem mf_L_cell : am_mS yL_cell cL_cell 7 (some .boolean) 7 := ⟨tw_597, tw_0, tw_598, ⟨by decide +kernel, by decide +kernel, by decide +kernel⟩⟩
theorem mf_L_floor : am_mS yL_floor cL_floor 3 (some .boolean) 0 := ⟨tw_594, tw_0, tw_595, ⟨by decide +kernel, by decide +kernel, by decide +kernel⟩⟩
theorem mf_L_hands : am_mS yL_hands cL_hands 3 (some .boolean) 0 := ⟨tw_603, tw_0, tw_604, ⟨by decide +kernel, by decide +kernel, by decide +kernel⟩⟩
theorem mf_L_lock : am_mW yL_lock cL_lock 4 (some .int) [((0 : Nat), (7 : Nat), (8 : Nat), (13 : Nat)), ((0 : Nat), (7 : Nat), (12 : Nat), (15 : Nat)), ((0 : Nat), (7 : Nat), (16 : Nat), (17 : Nat))] 3 := ⟨tw_437, tw_0, tw_438, ⟨by decide +kernel, by decide +kernel, by decide +kernel⟩⟩
theorem mf_L_refuses : am_mS yL_refuses cL_refuses 16 (some .boolean) 3 := ⟨tw_574, tw_0, tw_575, ⟨by decide +kernel, by decide +kernel, by decide +kernel⟩⟩
theorem mf_L_rows : am_mS yL_rows cL_rows 2 (some .boolean) 0 := ⟨tw_600, tw_0, tw_601, ⟨by decide +kernel, by decide +kernel, by decide +kernel⟩⟩
theorem mf_L_unlock : am_mW yL_unlock cL_unlock 4 (some .int) [((0 : Nat), (7 : Nat), (8 : Nat), (13 : Nat)), ((0 : Nat), (7 : Nat), (12 : Nat), (15 : Nat)), ((0 : Nat), (7 : Nat), (16 : Nat), (17 : Nat))] 3 := ⟨tw_586, tw_0, tw_587, ⟨by decide +kernel, by decide +kernel, by decide +kernel⟩⟩
theorem mf_Jxa1e45_init_da8c8 : am_mI yJxa1e45_init_da8c8 cJxa1e45_init_da8c8 1 0 := ⟨rfl, tw_39, tw_2, tw_40, ⟨by decide +kernel, by decide +kernel, by decide +kernel⟩⟩
theorem mf_Jxc12de_init_da8c8 : am_mI yJxc12de_init_da8c8 cJxc12de_init_da8c8 1 0 := ⟨rfl, tw_36, tw_3, tw_37, ⟨by decide +kernel, by decide +kernel, by decide +kernel⟩⟩
theorem mf_Jx4a65c_init_da8c8 : am_mI yJx4a65c_init_da8c8 cJx4a65c_init_da8c8 1 0 := ⟨rfl, tw_33, tw_4, tw_34, ⟨by decide +kernel, by decide +kernel, by decide +kernel⟩⟩
theorem mf_Jx4a65c_add_9ea2d : am_mV yJx4a65c_add_9ea2d cJx4a65c_add_9ea2d 2 (some .boolean) 1 := ⟨tw_216, tw_217, tw_4, tw_218, ⟨by decide +kernel, by decide +kernel, by decide +kernel⟩⟩
theorem mf_Jx4a65c_add_72be8 : am_mV yJx4a65c_add_72be8 cJx4a65c_add_72be8 4 none 3 := ⟨tw_221, ts_1, tw_4, tw_222, ⟨by decide +kernel, by decide +kernel, by decide +kernel⟩⟩
theorem mf_Jx4a65c_elementData_915e3 : am_mV yJx4a65c_elementData_915e3 cJx4a65c_elementData_915e3 2 (some (.object "java/lang/Object")) 1 := ⟨tw_307, tw_308, tw_4, tw_309, ⟨by decide +kernel, by decide +kernel, by decide +kernel⟩⟩
theorem mf_Jx4a65c_get_915e3 : am_mV yJx4a65c_get_915e3 cJx4a65c_get_915e3 2 (some (.object "java/lang/Object")) 1 := ⟨tw_297, tw_298, tw_4, tw_299, ⟨by decide +kernel, by decide +kernel, by decide +kernel⟩⟩
theorem mf_Jx4a65c_grow_d5877 : am_mV yJx4a65c_grow_d5877 cJx4a65c_grow_d5877 1 (some (.array (.object "java/lang/Object"))) 0 := ⟨tw_225, ts_2, tw_4, tw_226, ⟨by decide +kernel, by decide +kernel, by decide +kernel⟩⟩
theorem mf_Jx4a65c_grow_92f84 : am_mV yJx4a65c_grow_92f84 cJx4a65c_grow_92f84 4 (some (.array (.object "java/lang/Object"))) 1 := ⟨tw_229, ts_3, tw_4, tw_230, ⟨by decide +kernel, by decide +kernel, by decide +kernel⟩⟩
theorem mf_Jx4a65c_size_8abf5 : am_mV yJx4a65c_size_8abf5 cJx4a65c_size_8abf5 1 (some .int) 0 := ⟨tw_112, tw_113, tw_4, tw_114, ⟨by decide +kernel, by decide +kernel, by decide +kernel⟩⟩
theorem mf_J7_copyOf_1904c : am_mS yJ7_copyOf_1904c cJ7_copyOf_1904c 2 (some (.array (.object "java/lang/Object"))) 2 := ⟨tw_242, tw_14, tw_243, ⟨by decide +kernel, by decide +kernel, by decide +kernel⟩⟩
theorem mf_J7_copyOf_6403c : am_mS yJ7_copyOf_6403c cJ7_copyOf_6403c 4 (some (.array (.object "java/lang/Object"))) 3 := ⟨tw_259, tw_14, tw_260, ⟨by decide +kernel, by decide +kernel, by decide +kernel⟩⟩
theorem mf_J7_fill_53178 : am_mS yJ7_fill_53178 cJ7_fill_53178 4 none 2 := ⟨tw_192, tw_14, tw_193, ⟨by decide +kernel, by decide +kernel, by decide +kernel⟩⟩
theorem mf_J15_checkIndex_7cf53 : am_mS yJ15_checkIndex_7cf53 cJ15_checkIndex_7cf53 2 (some .int) 2 := ⟨tw_301, tw_7, tw_302, ⟨by decide +kernel, by decide +kernel, by decide +kernel⟩⟩
theorem mf_J8_hugeLength_7cf53 : am_mS yJ8_hugeLength_7cf53 cJ8_hugeLength_7cf53 3 (some .int) 2 := ⟨tw_239, tw_15, tw_240, ⟨by decide +kernel, by decide +kernel, by decide +kernel⟩⟩
theorem mf_J8_newLength_cabcc : am_mS yJ8_newLength_cabcc cJ8_newLength_cabcc 4 (some .int) 3 := ⟨tw_232, tw_15, tw_233, ⟨by decide +kernel, by decide +kernel, by decide +kernel⟩⟩
theorem mf_J3_checkIndex_8e157 : am_mS yJ3_checkIndex_8e157 cJ3_checkIndex_8e157 3 (some .int) 3 := ⟨tw_304, tw_8, tw_305, ⟨by decide +kernel, by decide +kernel, by decide +kernel⟩⟩
theorem xw_RX5_37 : ∀ w ∈ vx_atS "HousePlans" 37 "java/lang/IllegalStateException" ["java/lang/RuntimeException", "java/lang/Exception"], (w ∈ am_TG ∨ w ∈ am_bw) ∧ vx_ot w = true := by decide +kernel
theorem xw_RX5_62 : ∀ w ∈ vx_atS "HousePlans" 62 "java/lang/IllegalArgumentException" ["java/lang/RuntimeException", "java/lang/Exception"], (w ∈ am_TG ∨ w ∈ am_bw) ∧ vx_ot w = true := by decide +kernel
theorem xw_RX5_150 : ∀ w ∈ vx_atS "HousePlans" 150 "java/lang/IndexOutOfBoundsException" ["java/lang/RuntimeException", "java/lang/Exception"], (w ∈ am_TG ∨ w ∈ am_bw) ∧ vx_ot w = true := by decide +kernel
end
