section
-- ===== PART A: goes FIRST, ahead of the names: the tables' words, and 'selects' of the private methods out of them =====
/-- a private method of a class that the tables say can be made, by its rows of tables_1 -/
def lw_okq (q : MethodName × Nat) : Prop := (q.1.cls ≠ "java/lang/invoke/MethodHandle" ∧ q.1.cls ≠ "java/lang/invoke/VarHandle") ∧ Cond.instantiable q.1.cls q.2 ∈ tables_1 ∧ Cond.privateMethod q.1 ∈ tables_1 ∧ Cond.instanceMethod q.1 ∈ tables_1
theorem lw_p0 : lw_okq (⟨"HousePlans$Print", "isOld", "()Z"⟩, 3) := ⟨⟨by decide +kernel, by decide +kernel⟩, List.mem_of_getElem? (i := 138) (by decide +kernel), List.mem_of_getElem? (i := 136) (by decide +kernel), List.mem_of_getElem? (i := 137) (by decide +kernel)⟩
theorem lw_p1 : lw_okq (⟨"HousePlans$State", "isThatOf", "(LHousePlans$Drawing;)Z"⟩, 2) := ⟨⟨by decide +kernel, by decide +kernel⟩, List.mem_of_getElem? (i := 64) (by decide +kernel), List.mem_of_getElem? (i := 141) (by decide +kernel), List.mem_of_getElem? (i := 142) (by decide +kernel)⟩
theorem lw_p2 : lw_okq (⟨"HousePlans$Drawing", "sideNow", "(I)I"⟩, 5) := ⟨⟨by decide +kernel, by decide +kernel⟩, List.mem_of_getElem? (i := 147) (by decide +kernel), List.mem_of_getElem? (i := 145) (by decide +kernel), List.mem_of_getElem? (i := 146) (by decide +kernel)⟩
theorem lw_p3 : lw_okq (⟨"HousePlans$Drawing", "exitNow", "(I)Z"⟩, 5) := ⟨⟨by decide +kernel, by decide +kernel⟩, List.mem_of_getElem? (i := 147) (by decide +kernel), List.mem_of_getElem? (i := 153) (by decide +kernel), List.mem_of_getElem? (i := 154) (by decide +kernel)⟩
theorem lw_p4 : lw_okq (⟨"java/lang/Throwable", "fillInStackTrace", "(I)Ljava/lang/Throwable;"⟩, 6) := ⟨⟨by decide +kernel, by decide +kernel⟩, List.mem_of_getElem? (i := 206) (by decide +kernel), List.mem_of_getElem? (i := 204) (by decide +kernel), List.mem_of_getElem? (i := 205) (by decide +kernel)⟩
theorem lw_p5 : lw_okq (⟨"java/util/ArrayList", "add", "(Ljava/lang/Object;[Ljava/lang/Object;I)V"⟩, 3) := ⟨⟨by decide +kernel, by decide +kernel⟩, List.mem_of_getElem? (i := 32) (by decide +kernel), List.mem_of_getElem? (i := 271) (by decide +kernel), List.mem_of_getElem? (i := 272) (by decide +kernel)⟩
theorem lw_p6 : lw_okq (⟨"java/util/ArrayList", "grow", "()[Ljava/lang/Object;"⟩, 3) := ⟨⟨by decide +kernel, by decide +kernel⟩, List.mem_of_getElem? (i := 32) (by decide +kernel), List.mem_of_getElem? (i := 275) (by decide +kernel), List.mem_of_getElem? (i := 276) (by decide +kernel)⟩
theorem lw_p7 : lw_okq (⟨"java/util/ArrayList", "grow", "(I)[Ljava/lang/Object;"⟩, 3) := ⟨⟨by decide +kernel, by decide +kernel⟩, List.mem_of_getElem? (i := 32) (by decide +kernel), List.mem_of_getElem? (i := 279) (by decide +kernel), List.mem_of_getElem? (i := 280) (by decide +kernel)⟩
theorem lw_p8 : lw_okq (⟨"HousePlans", "drawingAt", "(I)LHousePlans$Drawing;"⟩, 4) := ⟨⟨by decide +kernel, by decide +kernel⟩, List.mem_of_getElem? (i := 24) (by decide +kernel), List.mem_of_getElem? (i := 334) (by decide +kernel), List.mem_of_getElem? (i := 335) (by decide +kernel)⟩
theorem lw_p9 : lw_okq (⟨"HousePlans$Drawing", "changer", "()I"⟩, 5) := ⟨⟨by decide +kernel, by decide +kernel⟩, List.mem_of_getElem? (i := 147) (by decide +kernel), List.mem_of_getElem? (i := 381) (by decide +kernel), List.mem_of_getElem? (i := 382) (by decide +kernel)⟩
theorem lw_p10 : lw_okq (⟨"HousePlans$Drawing", "leadsTo", "(LHousePlans$Drawing;)Z"⟩, 5) := ⟨⟨by decide +kernel, by decide +kernel⟩, List.mem_of_getElem? (i := 147) (by decide +kernel), List.mem_of_getElem? (i := 404) (by decide +kernel), List.mem_of_getElem? (i := 405) (by decide +kernel)⟩
theorem lw_p11 : lw_okq (⟨"HousePlans$Floor", "lookAt", "(LHousePlans$Drawing;)V"⟩, 4) := ⟨⟨by decide +kernel, by decide +kernel⟩, List.mem_of_getElem? (i := 58) (by decide +kernel), List.mem_of_getElem? (i := 435) (by decide +kernel), List.mem_of_getElem? (i := 436) (by decide +kernel)⟩
theorem lw_p12 : lw_okq (⟨"HousePlans$State", "takeFrom", "(LHousePlans$Drawing;)V"⟩, 2) := ⟨⟨by decide +kernel, by decide +kernel⟩, List.mem_of_getElem? (i := 64) (by decide +kernel), List.mem_of_getElem? (i := 439) (by decide +kernel), List.mem_of_getElem? (i := 440) (by decide +kernel)⟩
theorem lw_p13 : lw_okq (⟨"HousePlans$Floor", "findRooms", "()V"⟩, 4) := ⟨⟨by decide +kernel, by decide +kernel⟩, List.mem_of_getElem? (i := 58) (by decide +kernel), List.mem_of_getElem? (i := 443) (by decide +kernel), List.mem_of_getElem? (i := 444) (by decide +kernel)⟩
theorem lw_p14 : lw_okq (⟨"HousePlans$Floor", "join", "(II)V"⟩, 4) := ⟨⟨by decide +kernel, by decide +kernel⟩, List.mem_of_getElem? (i := 58) (by decide +kernel), List.mem_of_getElem? (i := 454) (by decide +kernel), List.mem_of_getElem? (i := 455) (by decide +kernel)⟩
theorem lw_p15 : lw_okq (⟨"HousePlans$Floor", "findWaysOut", "()V"⟩, 4) := ⟨⟨by decide +kernel, by decide +kernel⟩, List.mem_of_getElem? (i := 58) (by decide +kernel), List.mem_of_getElem? (i := 460) (by decide +kernel), List.mem_of_getElem? (i := 461) (by decide +kernel)⟩
def lw_privs_1 : List (MethodName × Nat) := [(⟨"HousePlans$Print", "isOld", "()Z"⟩, 3), (⟨"HousePlans$State", "isThatOf", "(LHousePlans$Drawing;)Z"⟩, 2), (⟨"HousePlans$Drawing", "sideNow", "(I)I"⟩, 5), (⟨"HousePlans$Drawing", "exitNow", "(I)Z"⟩, 5), (⟨"java/lang/Throwable", "fillInStackTrace", "(I)Ljava/lang/Throwable;"⟩, 6), (⟨"java/util/ArrayList", "add", "(Ljava/lang/Object;[Ljava/lang/Object;I)V"⟩, 3), (⟨"java/util/ArrayList", "grow", "()[Ljava/lang/Object;"⟩, 3), (⟨"java/util/ArrayList", "grow", "(I)[Ljava/lang/Object;"⟩, 3), (⟨"HousePlans", "drawingAt", "(I)LHousePlans$Drawing;"⟩, 4), (⟨"HousePlans$Drawing", "changer", "()I"⟩, 5), (⟨"HousePlans$Drawing", "leadsTo", "(LHousePlans$Drawing;)Z"⟩, 5), (⟨"HousePlans$Floor", "lookAt", "(LHousePlans$Drawing;)V"⟩, 4), (⟨"HousePlans$State", "takeFrom", "(LHousePlans$Drawing;)V"⟩, 2), (⟨"HousePlans$Floor", "findRooms", "()V"⟩, 4), (⟨"HousePlans$Floor", "join", "(II)V"⟩, 4), (⟨"HousePlans$Floor", "findWaysOut", "()V"⟩, 4)]
theorem lw_r1 : ∀ q ∈ lw_privs_1, lw_okq q := List.forall_mem_cons.mpr ⟨lw_p0, List.forall_mem_cons.mpr ⟨lw_p1, List.forall_mem_cons.mpr ⟨lw_p2, List.forall_mem_cons.mpr ⟨lw_p3, List.forall_mem_cons.mpr ⟨lw_p4, List.forall_mem_cons.mpr ⟨lw_p5, List.forall_mem_cons.mpr ⟨lw_p6, List.forall_mem_cons.mpr ⟨lw_p7, List.forall_mem_cons.mpr ⟨lw_p8, List.forall_mem_cons.mpr ⟨lw_p9, List.forall_mem_cons.mpr ⟨lw_p10, List.forall_mem_cons.mpr ⟨lw_p11, List.forall_mem_cons.mpr ⟨lw_p12, List.forall_mem_cons.mpr ⟨lw_p13, List.forall_mem_cons.mpr ⟨lw_p14, List.forall_mem_cons.mpr ⟨lw_p15, fun _ h => absurd h List.not_mem_nil⟩⟩⟩⟩⟩⟩⟩⟩⟩⟩⟩⟩⟩⟩⟩⟩
theorem lw_p16 : lw_okq (⟨"HousePlans$Floor", "goThroughDoors", "([I)V"⟩, 4) := ⟨⟨by decide +kernel, by decide +kernel⟩, List.mem_of_getElem? (i := 58) (by decide +kernel), List.mem_of_getElem? (i := 465) (by decide +kernel), List.mem_of_getElem? (i := 466) (by decide +kernel)⟩
theorem lw_p17 : lw_okq (⟨"HousePlans$Floor", "countRooms", "()I"⟩, 4) := ⟨⟨by decide +kernel, by decide +kernel⟩, List.mem_of_getElem? (i := 58) (by decide +kernel), List.mem_of_getElem? (i := 472) (by decide +kernel), List.mem_of_getElem? (i := 473) (by decide +kernel)⟩
theorem lw_p18 : lw_okq (⟨"HousePlans$Floor", "countCells", "(I)I"⟩, 4) := ⟨⟨by decide +kernel, by decide +kernel⟩, List.mem_of_getElem? (i := 58) (by decide +kernel), List.mem_of_getElem? (i := 490) (by decide +kernel), List.mem_of_getElem? (i := 491) (by decide +kernel)⟩
theorem lw_p19 : lw_okq (⟨"HousePlans$Floor", "wallThatHelps", "(I)I"⟩, 4) := ⟨⟨by decide +kernel, by decide +kernel⟩, List.mem_of_getElem? (i := 58) (by decide +kernel), List.mem_of_getElem? (i := 508) (by decide +kernel), List.mem_of_getElem? (i := 509) (by decide +kernel)⟩
theorem lw_p20 : lw_okq (⟨"HousePlans$Floor", "leadsOut", "(II)Z"⟩, 4) := ⟨⟨by decide +kernel, by decide +kernel⟩, List.mem_of_getElem? (i := 58) (by decide +kernel), List.mem_of_getElem? (i := 512) (by decide +kernel), List.mem_of_getElem? (i := 513) (by decide +kernel)⟩
theorem lw_p21 : lw_okq (⟨"HousePlans$Floor", "everyRoomHasWayOut", "()Z"⟩, 4) := ⟨⟨by decide +kernel, by decide +kernel⟩, List.mem_of_getElem? (i := 58) (by decide +kernel), List.mem_of_getElem? (i := 559) (by decide +kernel), List.mem_of_getElem? (i := 560) (by decide +kernel)⟩
theorem lw_p22 : lw_okq (⟨"HousePlans$Permit", "isValid", "()Z"⟩, 2) := ⟨⟨by decide +kernel, by decide +kernel⟩, List.mem_of_getElem? (i := 564) (by decide +kernel), List.mem_of_getElem? (i := 589) (by decide +kernel), List.mem_of_getElem? (i := 590) (by decide +kernel)⟩
theorem lw_p23 : lw_okq (⟨"HousePlans", "highestPermit", "(LHousePlans$Drawing;)I"⟩, 4) := ⟨⟨by decide +kernel, by decide +kernel⟩, List.mem_of_getElem? (i := 24) (by decide +kernel), List.mem_of_getElem? (i := 602) (by decide +kernel), List.mem_of_getElem? (i := 603) (by decide +kernel)⟩
theorem lw_p24 : lw_okq (⟨"HousePlans", "printAt", "(I)LHousePlans$Print;"⟩, 4) := ⟨⟨by decide +kernel, by decide +kernel⟩, List.mem_of_getElem? (i := 24) (by decide +kernel), List.mem_of_getElem? (i := 631) (by decide +kernel), List.mem_of_getElem? (i := 632) (by decide +kernel)⟩
theorem lw_p25 : lw_okq (⟨"HousePlansModel", "isDrawing", "(I)Z"⟩, 20) := ⟨⟨by decide +kernel, by decide +kernel⟩, List.mem_of_getElem? (i := 643) (by decide +kernel), List.mem_of_getElem? (i := 728) (by decide +kernel), List.mem_of_getElem? (i := 729) (by decide +kernel)⟩
theorem lw_p26 : lw_okq (⟨"HousePlansModel", "changer", "(I)I"⟩, 20) := ⟨⟨by decide +kernel, by decide +kernel⟩, List.mem_of_getElem? (i := 643) (by decide +kernel), List.mem_of_getElem? (i := 732) (by decide +kernel), List.mem_of_getElem? (i := 733) (by decide +kernel)⟩
theorem lw_p27 : lw_okq (⟨"HousePlansModel", "over", "(I)I"⟩, 20) := ⟨⟨by decide +kernel, by decide +kernel⟩, List.mem_of_getElem? (i := 643) (by decide +kernel), List.mem_of_getElem? (i := 747) (by decide +kernel), List.mem_of_getElem? (i := 748) (by decide +kernel)⟩
theorem lw_p28 : lw_okq (⟨"HousePlansModel", "finds", "()V"⟩, 20) := ⟨⟨by decide +kernel, by decide +kernel⟩, List.mem_of_getElem? (i := 643) (by decide +kernel), List.mem_of_getElem? (i := 759) (by decide +kernel), List.mem_of_getElem? (i := 760) (by decide +kernel)⟩
theorem lw_p29 : lw_okq (⟨"HousePlansModel", "found", "(II)I"⟩, 20) := ⟨⟨by decide +kernel, by decide +kernel⟩, List.mem_of_getElem? (i := 643) (by decide +kernel), List.mem_of_getElem? (i := 763) (by decide +kernel), List.mem_of_getElem? (i := 764) (by decide +kernel)⟩
theorem lw_p30 : lw_okq (⟨"HousePlansModel", "asks", "(II)Z"⟩, 20) := ⟨⟨by decide +kernel, by decide +kernel⟩, List.mem_of_getElem? (i := 643) (by decide +kernel), List.mem_of_getElem? (i := 771) (by decide +kernel), List.mem_of_getElem? (i := 772) (by decide +kernel)⟩
theorem lw_p31 : lw_okq (⟨"HousePlansModel", "looks", "(I)V"⟩, 20) := ⟨⟨by decide +kernel, by decide +kernel⟩, List.mem_of_getElem? (i := 643) (by decide +kernel), List.mem_of_getElem? (i := 775) (by decide +kernel), List.mem_of_getElem? (i := 776) (by decide +kernel)⟩
def lw_privs_2 : List (MethodName × Nat) := [(⟨"HousePlans$Floor", "goThroughDoors", "([I)V"⟩, 4), (⟨"HousePlans$Floor", "countRooms", "()I"⟩, 4), (⟨"HousePlans$Floor", "countCells", "(I)I"⟩, 4), (⟨"HousePlans$Floor", "wallThatHelps", "(I)I"⟩, 4), (⟨"HousePlans$Floor", "leadsOut", "(II)Z"⟩, 4), (⟨"HousePlans$Floor", "everyRoomHasWayOut", "()Z"⟩, 4), (⟨"HousePlans$Permit", "isValid", "()Z"⟩, 2), (⟨"HousePlans", "highestPermit", "(LHousePlans$Drawing;)I"⟩, 4), (⟨"HousePlans", "printAt", "(I)LHousePlans$Print;"⟩, 4), (⟨"HousePlansModel", "isDrawing", "(I)Z"⟩, 20), (⟨"HousePlansModel", "changer", "(I)I"⟩, 20), (⟨"HousePlansModel", "over", "(I)I"⟩, 20), (⟨"HousePlansModel", "finds", "()V"⟩, 20), (⟨"HousePlansModel", "found", "(II)I"⟩, 20), (⟨"HousePlansModel", "asks", "(II)Z"⟩, 20), (⟨"HousePlansModel", "looks", "(I)V"⟩, 20)]
theorem lw_r2 : ∀ q ∈ lw_privs_2, lw_okq q := List.forall_mem_cons.mpr ⟨lw_p16, List.forall_mem_cons.mpr ⟨lw_p17, List.forall_mem_cons.mpr ⟨lw_p18, List.forall_mem_cons.mpr ⟨lw_p19, List.forall_mem_cons.mpr ⟨lw_p20, List.forall_mem_cons.mpr ⟨lw_p21, List.forall_mem_cons.mpr ⟨lw_p22, List.forall_mem_cons.mpr ⟨lw_p23, List.forall_mem_cons.mpr ⟨lw_p24, List.forall_mem_cons.mpr ⟨lw_p25, List.forall_mem_cons.mpr ⟨lw_p26, List.forall_mem_cons.mpr ⟨lw_p27, List.forall_mem_cons.mpr ⟨lw_p28, List.forall_mem_cons.mpr ⟨lw_p29, List.forall_mem_cons.mpr ⟨lw_p30, List.forall_mem_cons.mpr ⟨lw_p31, fun _ h => absurd h List.not_mem_nil⟩⟩⟩⟩⟩⟩⟩⟩⟩⟩⟩⟩⟩⟩⟩⟩
theorem lw_p32 : lw_okq (⟨"HousePlansModel", "isJoined", "(III)Z"⟩, 20) := ⟨⟨by decide +kernel, by decide +kernel⟩, List.mem_of_getElem? (i := 643) (by decide +kernel), List.mem_of_getElem? (i := 805) (by decide +kernel), List.mem_of_getElem? (i := 806) (by decide +kernel)⟩
theorem lw_p33 : lw_okq (⟨"HousePlansModel", "stands", "(I)Z"⟩, 20) := ⟨⟨by decide +kernel, by decide +kernel⟩, List.mem_of_getElem? (i := 643) (by decide +kernel), List.mem_of_getElem? (i := 833) (by decide +kernel), List.mem_of_getElem? (i := 834) (by decide +kernel)⟩
theorem lw_p34 : lw_okq (⟨"HousePlansModel", "isPrint", "(I)Z"⟩, 20) := ⟨⟨by decide +kernel, by decide +kernel⟩, List.mem_of_getElem? (i := 643) (by decide +kernel), List.mem_of_getElem? (i := 845) (by decide +kernel), List.mem_of_getElem? (i := 846) (by decide +kernel)⟩
theorem lw_p35 : lw_okq (⟨"HousePlansModel", "isOld", "(I)Z"⟩, 20) := ⟨⟨by decide +kernel, by decide +kernel⟩, List.mem_of_getElem? (i := 643) (by decide +kernel), List.mem_of_getElem? (i := 853) (by decide +kernel), List.mem_of_getElem? (i := 854) (by decide +kernel)⟩
def lw_privs_3 : List (MethodName × Nat) := [(⟨"HousePlansModel", "isJoined", "(III)Z"⟩, 20), (⟨"HousePlansModel", "stands", "(I)Z"⟩, 20), (⟨"HousePlansModel", "isPrint", "(I)Z"⟩, 20), (⟨"HousePlansModel", "isOld", "(I)Z"⟩, 20)]
theorem lw_r3 : ∀ q ∈ lw_privs_3, lw_okq q := List.forall_mem_cons.mpr ⟨lw_p32, List.forall_mem_cons.mpr ⟨lw_p33, List.forall_mem_cons.mpr ⟨lw_p34, List.forall_mem_cons.mpr ⟨lw_p35, fun _ h => absurd h List.not_mem_nil⟩⟩⟩⟩
def lw_privs : List (MethodName × Nat) := lw_privs_1 ++ (lw_privs_2 ++ (lw_privs_3))
def lw_tbl : List Cond := k2_sels lw_privs ++ tables_1
theorem lw_privs_ok : ∀ q ∈ lw_privs, lw_okq q := by
  show ∀ q ∈ lw_privs_1 ++ (lw_privs_2 ++ (lw_privs_3)), lw_okq q
  exact List.forall_mem_append.mpr ⟨lw_r1, List.forall_mem_append.mpr ⟨lw_r2, lw_r3⟩⟩
end
section
/-! ===== BEGIN words of one list among another's, by their places ===== -/
theorem goodIn_r {big : List Cond} (ws : List Cond) (ps : List Nat) (hp : ws = ps.filterMap (fun i => big[i]?)) (h : ws.all goodWord = true) : GoodIn big ws := by
  intro w hw
  have h1 := List.all_eq_true.mp h w hw
  rw [hp] at hw
  obtain ⟨i, -, hi⟩ := List.mem_filterMap.mp hw
  have hm : w ∈ big := by first | exact List.mem_of_getElem? hi | exact List.getElem?_mem hi
  exact ⟨hm, good_of_word h1⟩
theorem goodIn_app {big a b : List Cond} (ha : GoodIn big a) (hb : GoodIn big b) : GoodIn big (a ++ b) := fun w h => (List.mem_append.mp h).elim (ha w) (hb w)
theorem goodIn_ca {big a b : List Cond} {c : Cond} (ha : GoodIn big (c :: a)) (hb : GoodIn big b) : GoodIn big (c :: (a ++ b)) := fun w h => (List.mem_cons.mp h).elim (fun e => ha w (List.mem_cons.mpr (Or.inl e))) (fun h => (List.mem_append.mp h).elim (fun h => ha w (List.mem_cons.mpr (Or.inr h))) (hb w))
theorem goodIn_sub {big ws : List Cond} (hm : ∀ w ∈ ws, w ∈ big) (h : ws.all goodWord = true) : GoodIn big ws := fun w hw => ⟨hm w hw, good_of_word (List.all_eq_true.mp h w hw)⟩
/-! ===== END ===== -/

/-! ===== BEGIN exceptions that leave a method, and their catching by the caller (launches without stack traces) ===== -/
section VXA
/-! The laws vx_back, vx_callV, vx_callS, vx_callSW, vx_throw0, vx_throwS follow proofs of the library, with one case more: JvmDerived/Free/Laws.lean (Back.of_free), Shelf42/LK1.lean (callV, callS), Shelf/KitTraced.lean (throwNew0V, throwNewS). -/
/-- where a method has thrown q: the class by its name, the cell, what was written, the world -/
def vx_T (XC : String → State → State → Prop) (st : State) (q : Addr) (t : State) (mc ms : Nat) (free : Addr → Prop) : Prop :=
  ∃ (E : String) (ce : Cell) (L : List Loc), XC E st t ∧ t.heap[q]? = some ce ∧ ce.vm = .none ∧ st.vm.findClass E = some ce.cls ∧ st.WarmedH t.vm ∧ st.sameButNew ({ t with vm := st.vm } : State) L mc ms ∧ ∀ z ∈ L, free z.base
def vx_Q (Qc : Array Value → State → Outcome → State → Prop) (XC : String → State → State → Prop) (mc ms : Nat) (free : Addr → Prop) : Array Value → State → Outcome → State → Prop := fun a st o t =>
  (Qc a st o t ∧ ∃ L, FrameEnd st o t L mc ms ∧ ∀ q ∈ L, free q.base) ∨ ∃ q, o = .threw q ∧ vx_T XC st q t mc ms free
/-- a callee that returns or throws -/
def vx_Met (l : Launch) (y : MethodName) (ws : List Cond) (rm : Room) (Pc : Array Value → State → Prop) (Qc : Array Value → State → Outcome → State → Prop) (XC : String → State → State → Prop) (mc ms : Nat) (free : Addr → Prop) : Prop :=
  MetFree l y (headSpec ws rm) Pc (fun _ _ _ _ _ => True) (vx_Q Qc XC mc ms free)
def vx_Post (XC : String → State → State → Prop) (mc ms : Nat) (free : Addr → Prop) : Pt → Array Value → Addr → Pt → Prop := fun A a q B =>
  ∃ (g : JFrame) (mk : MethodId) (t : State) (L : List Loc) (E : String) (ce : Cell), B.U.heap = t.heap ∧ B.U.vm = t.vm ∧ XC E (A.U.calling g mk a) t ∧ t.heap[q]? = some ce ∧ ce.vm = .none ∧ A.U.vm.findClass E = some ce.cls ∧ B.locs = A.locs ++ L ∧ (∀ z ∈ L, free z.base) ∧ B.cells = A.cells + mc ∧ B.slots = A.slots + ms
def vx_Back (l : Launch) (R : Room) (p : Program) (e : Env) (below : List Frame) (s : State) (sargs : Array Value) (y : MethodName) (len W9 : Nat)
    (Pre : Pt → Array Value → Prop) (Post : Pt → Array Value → Option Value → Pt → Prop) (PostX : Pt → Array Value → Addr → Pt → Prop) : Prop :=
  ∀ (m : MethodId) (meth : Method) (c : Code) (A : Pt) (g : JFrame) (ig : Instr) (mk : MethodId) (a : Array Value),
    Stand p l e R s m sargs below meth c A.U A.locs A.cells A.slots → g.method = m → g.locals.size = c.maxLocals → decode c.code g.pc = .ok (ig, len) →
    2 * g.monitorRoom + (g.stack.map fun v => v.category).sum ≤ W9 → A.U.methodNamed? y = some mk → Pre A a →
    (∃ (v : Option Value) (B : Pt), Stand p l e R s m sargs below meth c B.U B.locs B.cells B.slots ∧ Post A a v B ∧
      Steps p.tables e below (doInvoke e (A.U.setTop g) [] mk a).1 (B.U.setTop { g with pc := g.pc + len, stack := v.toList ++ g.stack })) ∨
    (∃ (q : Addr) (B : Pt), Stand p l e R s m sargs below meth c B.U B.locs B.cells B.slots ∧ PostX A a q B ∧
      Steps p.tables e below (doInvoke e (A.U.setTop g) [] mk a).1 ((B.U.setTop g).pushFrame (.throwing q)))
section Payer
variable {l : Launch} {R : Room} {p : Program} {e : Env} {below : List Frame} {s : State} {sargs : Array Value} {y : MethodName} {len W9 : Nat}
theorem vx_back {ws : List Cond} {rm : Room} {Pc : Array Value → State → Prop} {Qc : Array Value → State → Outcome → State → Prop} {XC : String → State → State → Prop} {mc ms : Nat} {free : Addr → Prop} {bytes : ByteArray} {maxL : Nat} {ret : Option FieldType}
    (hM : vx_Met l y ws rm Pc Qc XC mc ms free) (hblind : FrameBlind Pc) (hrc : rm.cells = mc) (hrs : rm.slots = ms)
    (hframes : rm.frames + 1 ≤ R.frames) (hlocals : W9 + (maxL + 11) + rm.locals ≤ R.locals)
    (hws : ∀ w ∈ ws, ∀ a' U, s.WarmedH U.vm → w.before a' U = true) (hcode : Cond.code y bytes maxL ret ∈ ws) (hinit : ∀ a' U, s.WarmedH U.vm → (Cond.initialized y.cls).before a' U = true) :
    vx_Back l R p e below s sargs y len W9 (PreOf R mc ms Pc) (PostOf Qc mc ms free) (vx_Post XC mc ms free) := by
  intro m meth c A g ig mk a X hg hsize hdg hW hn hp
  have h1 : (headSpec ws rm).pre.before a A.U = true := atoms_intro fun w hw => hws w hw _ _ X.warmed
  have h2 : (Cond.code y bytes maxL ret).before a A.U = true := hws _ hcode _ _ X.warmed
  have h3 : (Cond.initialized y.cls).before a A.U = true := hinit _ _ X.warmed
  have h4 : A.cells + (headSpec ws rm).room.cells ≤ R.cells := by rw [show (headSpec ws rm).room.cells = mc from hrc]; exact hp.1
  have h5 : A.slots + (headSpec ws rm).room.slots ≤ R.slots := by rw [show (headSpec ws rm).room.slots = ms from hrs]; exact hp.2.1
  have hPc : Pc a (A.U.calling g mk a) := hblind _ _ _ _ hp.2.2
  obtain ⟨U, Ls, c0, s0⟩ := A
  dsimp only [Pt.U, Pt.locs, Pt.cells, Pt.slots] at h1 h2 h3 h4 h5 X hn hPc ⊢
  obtain ⟨methY, cY, hmY, hcY, -, hlY, -, -, -, -⟩ := Cond.code_spec hn h2
  obtain ⟨kY, hkY, -⟩ := className_of_methodNamed hn
  have hinitY : kY.init = .initialized := Cond.initialized_spec (findClass_of_methodNamed hn) hkY h3
  have h : At U g.method c below := by rw [hg]; exact X.here
  have hlocals9 : W9 + (maxL + 11) + (headSpec ws rm).room.locals ≤ R.locals := hlocals
  have happ : (headSpec ws rm).appliesLoose y e.platform (U.calling g mk a) = true :=
    Spec.appliesLoose_calling (g := g) h hdg hn hkY hinitY
      (X.room_calling (g := g) (R' := (headSpec ws rm).room) hsize hmY hcY hframes (by rw [hlY]; omega) h4 h5) h1
  obtain ⟨mid, hmid⟩ := h.above
  have hfr : (U.setTop g).frames = (.java g :: mid) ++ below := by rw [State.frames_setTop' g h.top, hmid]; rfl
  obtain ⟨o, s₂, hsteps, -, hend, hq⟩ := Steps.callFree hM p X.admits X.cas X.clock (acts := []) hfr happ hPc trivial
  have hq' : vx_Q Qc XC mc ms free a (U.calling g mk a) o s₂ := hq
  rw [State.frames_setTop' g h.top] at hend
  obtain ⟨g₀, hg0⟩ := Option.isSome_iff_exists.mp h.top
  obtain ⟨r, hr⟩ := State.topJava?_eq_some.mp hg0
  have hr' : (({ U with heap := s₂.heap, slotsUsed := s₂.slotsUsed } : State).setVm s₂.vm).frames = .java g₀ :: r := hr
  rcases hq' with ⟨hqc, L, hfe, hL⟩ | ⟨q, rfl, E, ce, L, hx, hce, hcv, hcl, hW₂, hsm, hL⟩
  · obtain ⟨⟨v, rfl⟩, hW₂, e2, q2, q3, q4, q5, q6⟩ := id hfe
    have e3 : s₂ = ({ (U.calling g mk a).setFrames s₂.frames with heap := s₂.heap, slotsUsed := s₂.slotsUsed } : State).setVm s₂.vm := by
      have : s₂ = ({ s₂ with vm := (U.calling g mk a).vm } : State).setVm s₂.vm := rfl
      rw [e2] at this
      exact this
    obtain ⟨c₂, i₂, len₂, hc₂, hd₂, hf₂⟩ := hend
    have hW' : U.WarmedH s₂.vm := hW₂
    have hcc : c₂ = c := by
      have h1 : s₂.code? g.method = U.code? g.method := by
        rw [State.code?_eq, State.code?_eq, hW'.alike.method?]
      exact Option.some.inj (hc₂.symm.trans (h1.trans h.code))
    subst hcc
    have hlen : len₂ = len := by rw [hdg] at hd₂; cases hd₂; rfl
    subst hlen
    have hs₂ : s₂ = (({ U with heap := s₂.heap, slotsUsed := s₂.slotsUsed } : State).setVm s₂.vm).setTop { g with pc := g.pc + len₂, stack := v.toList ++ g.stack } := by
      refine e3.trans ?_
      rw [hf₂, State.calling_eq h.top, State.setFrames_setFrames, State.setTop_of_frames _ hr', hr]
      rfl
    have hsame : U.sameButNew ({ U with heap := s₂.heap, slotsUsed := s₂.slotsUsed } : State) L mc ms := by
      refine ⟨?_, q2, q3, q4, q5, q6⟩
      obtain ⟨t, ht, -⟩ := State.frames_cons hr
      show ({ U with heap := s₂.heap, slotsUsed := s₂.slotsUsed } : State) = { U.setFrames U.frames with heap := s₂.heap, slotsUsed := s₂.slotsUsed }
      rw [State.setFrames_self ht]
    subst hg
    refine Or.inl ⟨v, ⟨(({ U with heap := s₂.heap, slotsUsed := s₂.slotsUsed } : State).setVm s₂.vm), Ls ++ L, c0 + mc, s0 + ms⟩,
      ⟨X.admits, X.cas, X.clock, X.frames, X.room, X.hears, X.method, X.code, (X.here.setHeapUsed s₂.heap s₂.slotsUsed).setVm hW'.alike, X.tail, State.WarmedH.trans X.warmed hW', X.limits, X.bytes, X.same.trans (hsame.setVm s.vm)⟩,
      ⟨g, mk, s₂, L, rfl, rfl, hqc, rfl, hL, rfl, rfl⟩, ?_⟩
    show Steps p.tables e below _ ((({ U with heap := s₂.heap, slotsUsed := s₂.slotsUsed } : State).setVm s₂.vm).setTop { g with pc := g.pc + len₂, stack := v.toList ++ g.stack })
    rw [← hs₂]
    exact hsteps
  · obtain ⟨e2, q2, q3, q4, q5, q6⟩ := id hsm
    have e3 : s₂ = ({ (U.calling g mk a).setFrames s₂.frames with heap := s₂.heap, slotsUsed := s₂.slotsUsed } : State).setVm s₂.vm := by
      have : s₂ = ({ s₂ with vm := (U.calling g mk a).vm } : State).setVm s₂.vm := rfl
      rw [e2] at this
      exact this
    have hf₂ : s₂.frames = .throwing q :: .java g :: U.frames.tail := hend
    have hW' : U.WarmedH s₂.vm := hW₂
    have hs₂ : s₂ = ((({ U with heap := s₂.heap, slotsUsed := s₂.slotsUsed } : State).setVm s₂.vm).setTop g).pushFrame (.throwing q) := by
      refine e3.trans ?_
      rw [hf₂, State.calling_eq h.top, State.setFrames_setFrames, State.pushFrame, State.frames_setTop _ hr', State.setTop_of_frames _ hr', State.setFrames_setFrames, hr]
      rfl
    have hsame : U.sameButNew ({ U with heap := s₂.heap, slotsUsed := s₂.slotsUsed } : State) L mc ms := by
      refine ⟨?_, q2, q3, q4, q5, q6⟩
      obtain ⟨t, ht, -⟩ := State.frames_cons hr
      show ({ U with heap := s₂.heap, slotsUsed := s₂.slotsUsed } : State) = { U.setFrames U.frames with heap := s₂.heap, slotsUsed := s₂.slotsUsed }
      rw [State.setFrames_self ht]
    subst hg
    refine Or.inr ⟨q, ⟨(({ U with heap := s₂.heap, slotsUsed := s₂.slotsUsed } : State).setVm s₂.vm), Ls ++ L, c0 + mc, s0 + ms⟩,
      ⟨X.admits, X.cas, X.clock, X.frames, X.room, X.hears, X.method, X.code, (X.here.setHeapUsed s₂.heap s₂.slotsUsed).setVm hW'.alike, X.tail, State.WarmedH.trans X.warmed hW', X.limits, X.bytes, X.same.trans (hsame.setVm s.vm)⟩,
      ⟨g, mk, s₂, L, E, ce, rfl, rfl, hx, hce, hcv, hcl, rfl, hL, rfl, rfl⟩, ?_⟩
    show Steps p.tables e below _ (((({ U with heap := s₂.heap, slotsUsed := s₂.slotsUsed } : State).setVm s₂.vm).setTop g).pushFrame (.throwing q))
    rw [← hs₂]
    exact hsteps
end Payer
section Calls
variable {p : Program} {l : Launch} {e : Env} {R : Room} {s : State} {m : MethodId} {args : Array Value} {below : List Frame} {meth : Method} {c : Code} {T : State} {locs : List Loc} {cells slots : Nat}
theorem vx_callV (X : Stand p l e R s m args below meth c T locs cells slots) (hexec : p.tables.exec = Jvm.exec) {own C : String} {index : Nat} {y : MethodName} {bytes : ByteArray} {maxL : Nat} {ret : Option FieldType}
    (hown : s.vm.findClass own = some m.cls) (hlink : (Cond.methodLink own index y).before args s = true) (hinst : (Cond.instanceMethod y).before args s = true) (hsel : (Cond.selects C y y).before args s = true)
    (hcode : (Cond.code y bytes maxL ret).before args s = true) (hy : y.cls ≠ "java/lang/invoke/MethodHandle" ∧ y.cls ≠ "java/lang/invoke/VarHandle")
    {W9 : Nat} {Pre : Pt → Array Value → Prop} {Post : Pt → Array Value → Option Value → Pt → Prop} {PostX : Pt → Array Value → Addr → Pt → Prop} (hK : vx_Back l R p e below s args y 3 W9 Pre Post PostX)
    {b : Addr} {cellB : Cell} (hcell : T.heap[b]? = some cellB) (hobj : cellB.vm.isStatics = false) (hcls : s.vm.findClass C = some cellB.cls)
    {g : JFrame} (hg : g.method = m) (hsize : g.locals.size = c.maxLocals) {argsL rest : List Value} (hlen : ∀ sig, parseMethodDescriptor y.desc = some sig → argsL.length = sig.parameters.length)
    (hstack : g.stack = argsL.reverse ++ .ref b :: rest) (hW : 2 * g.monitorRoom + (rest.map fun v => v.category).sum ≤ W9) (hdg : decode c.code g.pc = .ok (.invokevirtual index, 3))
    (hpre : ∀ vm₁, s.WarmedH vm₁ → Pre ⟨T.setVm vm₁, locs, cells, slots⟩ (Value.ref b :: argsL).toArray) :
    (∃ (v : Option Value) (vm₁ : Vm) (B : Pt), s.WarmedH vm₁ ∧ Stand p l e R s m args below meth c B.U B.locs B.cells B.slots ∧ Post ⟨T.setVm vm₁, locs, cells, slots⟩ (Value.ref b :: argsL).toArray v B ∧
      ∀ target, Steps p.tables e below (B.U.setTop { g with pc := g.pc + 3, stack := v.toList ++ rest }) target → Steps p.tables e below (T.setTop g) target) ∨
    (∃ (q : Addr) (vm₁ : Vm) (B : Pt), s.WarmedH vm₁ ∧ Stand p l e R s m args below meth c B.U B.locs B.cells B.slots ∧ PostX ⟨T.setVm vm₁, locs, cells, slots⟩ (Value.ref b :: argsL).toArray q B ∧
      Steps p.tables e below (T.setTop g) ((B.U.setTop { g with stack := rest }).pushFrame (.throwing q))) := by
  obtain ⟨mk, methM, hnamed, hmethM, hstM, habM⟩ := Cond.instanceMethod_spec hinst
  obtain ⟨methM', cM, hmethM', -, -, -, -, -, -, hsigM⟩ := Cond.code_spec hnamed hcode
  cases hmethM.symm.trans hmethM'
  obtain ⟨c2, r2, m2, q1, q2, q3, q4, kP, hkP, hkPi⟩ := Cond.selects_spec hsel
  cases hcls.symm.trans q1
  cases (State.methodFound?_of_named hnamed hy).symm.trans q2
  cases hnamed.symm.trans q3
  have hselP : selectMethod e.platform s.vm cellB.cls mk = .method mk := by rw [Launch.admits_selectMethod X.admits]; exact q4
  obtain ⟨vm₁, X₁, hstep₁⟩ := X.invokevirtual hexec hown hlink hnamed hmethM hstM hkP hkPi hy (a := b) (cell := cellB) hcell
    (fun z h => by rw [h] at hobj; cases hobj) hselP hmethM habM hkP hkPi (g := g) hg (argsL := argsL) (rest := rest) (hlen _ hsigM) hstack hdg
  rcases hK m meth c ⟨T.setVm vm₁, locs, cells, slots⟩ { g with stack := rest } (.invokevirtual index) mk (Value.ref b :: argsL).toArray X₁ hg hsize hdg hW (X₁.named hnamed) (hpre vm₁ X₁.warmed) with ⟨v, B, X', hpost, hsteps⟩ | ⟨q, B, X', hpost, hsteps⟩
  · exact Or.inl ⟨v, vm₁, B, X₁.warmed, X', hpost, fun target h => hstep₁ _ fun acts => by rw [doInvoke_state]; exact hsteps.trans h⟩
  · exact Or.inr ⟨q, vm₁, B, X₁.warmed, X', hpost, hstep₁ _ fun acts => by rw [doInvoke_state]; exact hsteps⟩
theorem vx_callS (X : Stand p l e R s m args below meth c T locs cells slots) (hexec : p.tables.exec = Jvm.exec) {own : String} {index : Nat} {y : MethodName} {bytes : ByteArray} {maxL : Nat} {ret : Option FieldType}
    (hown : s.vm.findClass own = some m.cls) (hlink : (Cond.methodLink own index y).before args s = true) (hstat : (Cond.static y).before args s = true) (hinit : (Cond.initialized y.cls).before args s = true)
    (hcode : (Cond.code y bytes maxL ret).before args s = true) (hy : y.cls ≠ "java/lang/invoke/MethodHandle" ∧ y.cls ≠ "java/lang/invoke/VarHandle")
    {W9 : Nat} {Pre : Pt → Array Value → Prop} {Post : Pt → Array Value → Option Value → Pt → Prop} {PostX : Pt → Array Value → Addr → Pt → Prop} (hK : vx_Back l R p e below s args y 3 W9 Pre Post PostX)
    {g : JFrame} (hg : g.method = m) (hsize : g.locals.size = c.maxLocals) {argsL rest : List Value} (hlen : ∀ sig, parseMethodDescriptor y.desc = some sig → argsL.length = sig.parameters.length)
    (hstack : g.stack = argsL.reverse ++ rest) (hW : 2 * g.monitorRoom + (rest.map fun v => v.category).sum ≤ W9) (hdg : decode c.code g.pc = .ok (.invokestatic index, 3))
    (hpre : ∀ vm₁, s.WarmedH vm₁ → Pre ⟨T.setVm vm₁, locs, cells, slots⟩ argsL.toArray) :
    (∃ (v : Option Value) (vm₁ : Vm) (B : Pt), s.WarmedH vm₁ ∧ Stand p l e R s m args below meth c B.U B.locs B.cells B.slots ∧ Post ⟨T.setVm vm₁, locs, cells, slots⟩ argsL.toArray v B ∧
      ∀ target, Steps p.tables e below (B.U.setTop { g with pc := g.pc + 3, stack := v.toList ++ rest }) target → Steps p.tables e below (T.setTop g) target) ∨
    (∃ (q : Addr) (vm₁ : Vm) (B : Pt), s.WarmedH vm₁ ∧ Stand p l e R s m args below meth c B.U B.locs B.cells B.slots ∧ PostX ⟨T.setVm vm₁, locs, cells, slots⟩ argsL.toArray q B ∧
      Steps p.tables e below (T.setTop g) ((B.U.setTop { g with stack := rest }).pushFrame (.throwing q))) := by
  obtain ⟨mk, hnamed⟩ := Cond.code_named hcode
  obtain ⟨methM, cM, hmethM, -, -, -, -, -, -, hsigM⟩ := Cond.code_spec hnamed hcode
  have hstatic : methM.isStatic = true := Cond.static_spec hnamed hmethM hstat
  obtain ⟨kP, hkP, -⟩ := className_of_methodNamed hnamed
  have hinitP : kP.init = .initialized := Cond.initialized_spec (findClass_of_methodNamed hnamed) hkP hinit
  obtain ⟨vm₁, X₁, hstep₁⟩ := X.invokestatic hexec hown hlink hnamed hmethM hstatic hkP hinitP hy (g := g) hg (argsL := argsL) (rest := rest) (hlen _ hsigM) hstack hdg
  rcases hK m meth c ⟨T.setVm vm₁, locs, cells, slots⟩ { g with stack := rest } (.invokestatic index) mk argsL.toArray X₁ hg hsize hdg hW (X₁.named hnamed) (hpre vm₁ X₁.warmed) with ⟨v, B, X', hpost, hsteps⟩ | ⟨q, B, X', hpost, hsteps⟩
  · exact Or.inl ⟨v, vm₁, B, X₁.warmed, X', hpost, fun target h => hstep₁ _ fun acts => by rw [doInvoke_state]; exact hsteps.trans h⟩
  · exact Or.inr ⟨q, vm₁, B, X₁.warmed, X', hpost, hstep₁ _ fun acts => by rw [doInvoke_state]; exact hsteps⟩
end Calls
theorem vx_cls {s : State} {T : State} {vm₁ : Vm} {E : String} {k : ClassId} (hW : s.WarmedH vm₁) (h : (T.setVm vm₁).vm.findClass E = some k) : s.vm.findClass E = some k := by
  have h1 : vm₁.findClass E = some k := h
  rw [hW.alike.findClass] at h1
  exact h1
/-- the method's frame g, with q thrown over it -/
def vx_W (p : Program) (l : Launch) (e : Env) (R : Room) (s : State) (m : MethodId) (args : Array Value) (below : List Frame) (meth : Method) (c : Code) (H : Heap) (locs : List Loc) (cells slots : Nat) (Q : State → Prop) (g : JFrame) (q : Addr) : Prop :=
  ∀ T : State, T.heap = H → Stand p l e R s m args below meth c T locs cells slots → ∃ t, Steps p.tables e below ((T.setTop g).pushFrame (.throwing q)) t ∧ Q t
def vx_Run (p : Program) (l : Launch) (e : Env) (R : Room) (s : State) (m : MethodId) (args : Array Value) (below : List Frame) (meth : Method) (c : Code) (H : Heap) (locs : List Loc) (cells slots mc ms : Nat) (g : JFrame) (rest : List Value) (Qa : State → Outcome → State → Prop) (XC : String → State → State → Prop) (free : Addr → Prop) : Prop :=
  ∀ T : State, T.heap = H → Stand p l e R s m args below meth c T locs cells slots →
    (∃ (v : Option Value) (st₀ t T' : State) (L : List Loc), st₀.heap = H ∧ Stand p l e R s m args below meth c T' (locs ++ L) (cells + mc) (slots + ms) ∧ (∀ q ∈ L, free q.base) ∧ T'.heap = t.heap ∧ T'.vm = t.vm ∧ Qa st₀ (.returned v) t ∧
      Goes p e below T g T' { g with pc := g.pc + 3, stack := v.toList ++ rest }) ∨
    (∃ (q : Addr) (st₀ t T' : State) (L : List Loc) (E : String) (ce : Cell), st₀.heap = H ∧ Stand p l e R s m args below meth c T' (locs ++ L) (cells + mc) (slots + ms) ∧ (∀ z ∈ L, free z.base) ∧ T'.heap = t.heap ∧ T'.vm = t.vm ∧ XC E st₀ t ∧ t.heap[q]? = some ce ∧ ce.vm = .none ∧ s.vm.findClass E = some ce.cls ∧
      Steps p.tables e below (T.setTop g) ((T'.setTop { g with stack := rest }).pushFrame (.throwing q)))
def vx_X {S : Type} (px : S → Prop) (B : String → S → State → Prop) (A : Nat → Prop) : String → State → State → Prop := fun E st t => ∃ u : S, px u ∧ B E u t ∧ va_F A st t
section Runs
variable {p : Program} {l : Launch} {e : Env} {R : Room} {s : State} {m : MethodId} {args : Array Value} {below : List Frame} {meth : Method} {c : Code} {H : Heap} {locs : List Loc} {cells slots : Nat}
variable {y : MethodName} {bytes cc : ByteArray} {maxL nL mc ms n index : Nat} {ret : Option FieldType} {ws : List Cond} {rm : Room} {Pc : Array Value → State → Prop} {Qc : Array Value → State → Outcome → State → Prop} {XC : String → State → State → Prop} {free : Addr → Prop} {Ts : List Cond} {own C : String} {b : Addr} {As rest : List Value} {g : JFrame}
theorem vx_callBack (cb : CallB R s args own index y bytes maxL ret ws rm mc ms n) (hM : vx_Met l y ws rm Pc Qc XC mc ms free) (hbl : FrameBlind Pc) : vx_Back l R p e below s args y 3 8 (PreOf R mc ms Pc) (PostOf Qc mc ms free) (vx_Post XC mc ms free) := by
  obtain ⟨hrc, hrs, hfr, hlo, hws, hcw, -, hini, -⟩ := cb
  exact vx_back (bytes := bytes) (maxL := maxL) (ret := ret) hM hbl hrc hrs hfr hlo hws hcw (fun a' U hW => word_at hW (Or.inl (by first | rfl | simp [Cond.onTables, Cond.keeps, Cond.steady])) hini)
theorem vx_runV (S : CallFix p m c cc nL s args Ts own) (hM : vx_Met l y ws rm Pc Qc XC mc ms free) (cw : CallW R s args own C index y bytes maxL ret ws rm mc ms n) (hp : PreV s H C b Pc As)
    (hg : g.method = m) (hn : As.length = n) (hsize : g.locals.size = nL) (hstack : g.stack = As.reverse ++ .ref b :: rest) (hW : 2 * g.monitorRoom + (rest.map fun v => v.category).sum ≤ 8) (hdg : decode cc g.pc = .ok (.invokevirtual index, 3)) (hf : cells + mc ≤ R.cells ∧ slots + ms ≤ R.slots) :
    vx_Run p l e R s m args below meth c H locs cells slots mc ms g rest (Qc (Value.ref b :: As).toArray) XC free := by
  have hK : vx_Back l R p e below s args y 3 8 (PreOf R mc ms Pc) (PostOf Qc mc ms free) (vx_Post XC mc ms free) := vx_callBack cw.1 hM hp.1
  obtain ⟨⟨-, -, -, -, -, -, hcode, -, hy, hlen, hl⟩, hin, hse⟩ := cw
  obtain ⟨hx, hb, hml, ho, -⟩ := S
  obtain ⟨-, ⟨cellB, hcB, hoB, hclB⟩, hPc⟩ := hp
  intro T hT X
  rcases vx_callV X hx (C := C) (bytes := bytes) (maxL := maxL) (ret := ret) ho hl hin hse hcode hy hK (by rw [hT]; exact hcB) hoB hclB hg (hsize.trans hml.symm) (argsL := As) (rest := rest) (fun sig h => hn.trans (hlen sig h)) hstack hW (by rw [hb]; exact hdg)
    (fun vm₁ hW₁ => ⟨hf.1, hf.2, hPc (T.setVm vm₁) hT hW₁⟩) with ⟨v, vm₁, ⟨U', l2, c2, s2⟩, hW₁, X', ⟨g', mk, t, L, e1, e2, hq, h1, hL, h2, h3⟩, st⟩ | ⟨q, vm₁, ⟨U', l2, c2, s2⟩, hW₁, X', ⟨g', mk, t, L, E, ce, e1, e2, hq, hce, hcv, hcl, h1, hL, h2, h3⟩, st⟩
  · dsimp only [Pt.U, Pt.locs, Pt.cells, Pt.slots] at X' e1 e2 h1 h2 h3 st
    subst h1; subst h2; subst h3
    exact Or.inl ⟨v, (T.setVm vm₁).calling g' mk (Value.ref b :: As).toArray, t, U', L, hT, X', hL, e1, e2, hq, st⟩
  · dsimp only [Pt.U, Pt.locs, Pt.cells, Pt.slots] at X' e1 e2 h1 h2 h3 st hcl
    subst h1; subst h2; subst h3
    exact Or.inr ⟨q, (T.setVm vm₁).calling g' mk (Value.ref b :: As).toArray, t, U', L, E, ce, hT, X', hL, e1, e2, hq, hce, hcv, vx_cls hW₁ hcl, st⟩
theorem vx_runS (S : CallFix p m c cc nL s args Ts own) (hM : vx_Met l y ws rm Pc Qc XC mc ms free) (cw : CallB R s args own index y bytes maxL ret ws rm mc ms n ∧ (Cond.static y).before args s = true) (hp : PreS s H Pc As)
    (hg : g.method = m) (hn : As.length = n) (hsize : g.locals.size = nL) (hstack : g.stack = As.reverse ++ rest) (hW : 2 * g.monitorRoom + (rest.map fun v => v.category).sum ≤ 8) (hdg : decode cc g.pc = .ok (.invokestatic index, 3)) (hf : cells + mc ≤ R.cells ∧ slots + ms ≤ R.slots) :
    vx_Run p l e R s m args below meth c H locs cells slots mc ms g rest (Qc As.toArray) XC free := by
  have hK : vx_Back l R p e below s args y 3 8 (PreOf R mc ms Pc) (PostOf Qc mc ms free) (vx_Post XC mc ms free) := vx_callBack cw.1 hM hp.1
  obtain ⟨⟨-, -, -, -, -, -, hcode, hini, hy, hlen, hl⟩, hstt⟩ := cw
  obtain ⟨hx, hb, hml, ho, -⟩ := S
  intro T hT X
  rcases vx_callS X hx (bytes := bytes) (maxL := maxL) (ret := ret) ho hl hstt hini hcode hy hK hg (hsize.trans hml.symm) (argsL := As) (rest := rest) (fun sig h => hn.trans (hlen sig h)) hstack hW (by rw [hb]; exact hdg)
    (fun vm₁ hW₁ => ⟨hf.1, hf.2, hp.2 (T.setVm vm₁) hT hW₁⟩) with ⟨v, vm₁, ⟨U', l2, c2, s2⟩, hW₁, X', ⟨g', mk, t, L, e1, e2, hq, h1, hL, h2, h3⟩, st⟩ | ⟨q, vm₁, ⟨U', l2, c2, s2⟩, hW₁, X', ⟨g', mk, t, L, E, ce, e1, e2, hq, hce, hcv, hcl, h1, hL, h2, h3⟩, st⟩
  · dsimp only [Pt.U, Pt.locs, Pt.cells, Pt.slots] at X' e1 e2 h1 h2 h3 st
    subst h1; subst h2; subst h3
    exact Or.inl ⟨v, (T.setVm vm₁).calling g' mk As.toArray, t, U', L, hT, X', hL, e1, e2, hq, st⟩
  · dsimp only [Pt.U, Pt.locs, Pt.cells, Pt.slots] at X' e1 e2 h1 h2 h3 st hcl
    subst h1; subst h2; subst h3
    exact Or.inr ⟨q, (T.setVm vm₁).calling g' mk As.toArray, t, U', L, E, ce, hT, X', hL, e1, e2, hq, hce, hcv, vx_cls hW₁ hcl, st⟩
end Runs
section Rows
variable {p : Program} {l : Launch} {e : Env} {R : Room} {s : State} {m : MethodId} {args : Array Value} {below : List Frame} {meth : Method} {c : Code} {H : Heap} {locs : List Loc} {cells slots : Nat} {Q : State → Prop}
variable {mc ms : Nat} {free : Addr → Prop} {A0 A1 : Nat → Prop} {H0 : Heap} {a : Array Value} {pc : Nat} {ls : Array Slot} {st0 rest : List Value}
theorem vx_keep {st₀ t T' : State} {L : List Loc} (h0 : st₀.heap = H) (e1 : T'.heap = t.heap) (hS : va_S A0 H0 H locs) (hA : ∀ q, q < H.size → A1 q → A0 q) (hf : ∀ q, free q → A0 q) (hL : ∀ q ∈ L, free q.base) (hF : va_F A1 st₀ t) :
    H.size ≤ T'.heap.size ∧ (∀ q : Nat, q < H.size → ¬ A1 q → T'.heap[q]? = H[q]?) ∧ va_S A0 H0 T'.heap (locs ++ L) := by
  obtain ⟨hz, hk⟩ := hF
  rw [h0] at hz hk
  exact ⟨by rw [e1]; exact hz, fun q h1 h2 => by rw [e1]; exact hk q h1 h2,
    ⟨Nat.le_trans hS.1 (by rw [e1]; exact hz), fun q h1 h2 => by rw [e1, hk q (Nat.lt_of_lt_of_le h1 hS.1) (fun z => h2 (hA q (Nat.lt_of_lt_of_le h1 hS.1) z))]; exact hS.2.1 q h1 h2, fun q hq => by
      rcases List.mem_append.mp hq with h | h
      · exact hS.2.2 q h
      · exact hf _ (hL q h)⟩⟩
theorem vx_calli {S SX : Type} {post : Int32 → S → Prop} {px : SX → Prop} {B : S → State → Prop} {BX : String → SX → State → Prop} {AX : Nat → Prop} (hr : vx_Run p l e R s m args below meth c H locs cells slots mc ms (F0 m pc ls st0) rest (va_Qi post B A1 a) (vx_X px BX AX) free) (hS : va_S A0 H0 H locs) (hA : ∀ q, q < H.size → A1 q → A0 q) (hf : ∀ q, free q → A0 q) (hAX : ∀ q, q < H.size → AX q → A0 q)
    (kx : ∀ (E : String) (ce : Cell) (q9 : Addr) (u : SX) (t : State) (H1 : Heap) (locs1 : List Loc), t.heap = H1 → s.vm.Alike t.vm → px u → BX E u t → H.size ≤ H1.size → (∀ q : Nat, q < H.size → ¬ AX q → H1[q]? = H[q]?) → va_S A0 H0 H1 locs1 → H1[q9]? = some ce → ce.vm = .none → s.vm.findClass E = some ce.cls → vx_W p l e R s m args below meth c H1 locs1 (cells + mc) (slots + ms) Q (F0 m pc ls rest) q9)
    (kk : ∀ (r : Int32) (u : S) (t : State) (H1 : Heap) (locs1 : List Loc), t.heap = H1 → s.vm.Alike t.vm → post r u → B u t → H.size ≤ H1.size → (∀ q : Nat, q < H.size → ¬ A1 q → H1[q]? = H[q]?) → va_S A0 H0 H1 locs1 → W p l e R s m args below meth c H1 locs1 (cells + mc) (slots + ms) Q (F0 m (pc + 3) ls (.int r :: rest))) : W p l e R s m args below meth c H locs cells slots Q (F0 m pc ls st0) := by
  intro T hT X
  rcases hr T hT X with ⟨v, st₀, t, T', L, h0, X', hL, e1, e2, ⟨⟨r, u, hv, hp, hb⟩, hF⟩, st⟩ | ⟨q, st₀, t, T', L, E, ce, h0, X', hL, e1, e2, ⟨u, hp, hb, hF⟩, hce, hcv, hcl, st⟩
  · cases hv
    obtain ⟨k1, k2, k3⟩ := vx_keep h0 e1 hS hA hf hL hF
    obtain ⟨t2, a1, b1⟩ := kk r u t T'.heap (locs ++ L) e1.symm (by rw [← e2]; exact X'.warmed.alike) hp hb k1 k2 k3 T' rfl X'
    exact ⟨t2, st t2 a1, b1⟩
  · obtain ⟨k1, k2, k3⟩ := vx_keep h0 e1 hS hAX hf hL hF
    obtain ⟨t2, a1, b1⟩ := kx E ce q u t T'.heap (locs ++ L) e1.symm (by rw [← e2]; exact X'.warmed.alike) hp hb k1 k2 k3 (by rw [e1]; exact hce) hcv hcl T' rfl X'
    exact ⟨t2, st.trans a1, b1⟩
theorem vx_calll {S SX : Type} {post : Int64 → S → Prop} {px : SX → Prop} {B : S → State → Prop} {BX : String → SX → State → Prop} {AX : Nat → Prop} (hr : vx_Run p l e R s m args below meth c H locs cells slots mc ms (F0 m pc ls st0) rest (va_Ql post B A1 a) (vx_X px BX AX) free) (hS : va_S A0 H0 H locs) (hA : ∀ q, q < H.size → A1 q → A0 q) (hf : ∀ q, free q → A0 q) (hAX : ∀ q, q < H.size → AX q → A0 q)
    (kx : ∀ (E : String) (ce : Cell) (q9 : Addr) (u : SX) (t : State) (H1 : Heap) (locs1 : List Loc), t.heap = H1 → s.vm.Alike t.vm → px u → BX E u t → H.size ≤ H1.size → (∀ q : Nat, q < H.size → ¬ AX q → H1[q]? = H[q]?) → va_S A0 H0 H1 locs1 → H1[q9]? = some ce → ce.vm = .none → s.vm.findClass E = some ce.cls → vx_W p l e R s m args below meth c H1 locs1 (cells + mc) (slots + ms) Q (F0 m pc ls rest) q9)
    (kk : ∀ (r : Int64) (u : S) (t : State) (H1 : Heap) (locs1 : List Loc), t.heap = H1 → s.vm.Alike t.vm → post r u → B u t → H.size ≤ H1.size → (∀ q : Nat, q < H.size → ¬ A1 q → H1[q]? = H[q]?) → va_S A0 H0 H1 locs1 → W p l e R s m args below meth c H1 locs1 (cells + mc) (slots + ms) Q (F0 m (pc + 3) ls (.long r :: rest))) : W p l e R s m args below meth c H locs cells slots Q (F0 m pc ls st0) := by
  intro T hT X
  rcases hr T hT X with ⟨v, st₀, t, T', L, h0, X', hL, e1, e2, ⟨⟨r, u, hv, hp, hb⟩, hF⟩, st⟩ | ⟨q, st₀, t, T', L, E, ce, h0, X', hL, e1, e2, ⟨u, hp, hb, hF⟩, hce, hcv, hcl, st⟩
  · cases hv
    obtain ⟨k1, k2, k3⟩ := vx_keep h0 e1 hS hA hf hL hF
    obtain ⟨t2, a1, b1⟩ := kk r u t T'.heap (locs ++ L) e1.symm (by rw [← e2]; exact X'.warmed.alike) hp hb k1 k2 k3 T' rfl X'
    exact ⟨t2, st t2 a1, b1⟩
  · obtain ⟨k1, k2, k3⟩ := vx_keep h0 e1 hS hAX hf hL hF
    obtain ⟨t2, a1, b1⟩ := kx E ce q u t T'.heap (locs ++ L) e1.symm (by rw [← e2]; exact X'.warmed.alike) hp hb k1 k2 k3 (by rw [e1]; exact hce) hcv hcl T' rfl X'
    exact ⟨t2, st.trans a1, b1⟩
theorem vx_callf {S SX : Type} {post : UInt32 → S → Prop} {px : SX → Prop} {B : S → State → Prop} {BX : String → SX → State → Prop} {AX : Nat → Prop} (hr : vx_Run p l e R s m args below meth c H locs cells slots mc ms (F0 m pc ls st0) rest (va_Qf post B A1 a) (vx_X px BX AX) free) (hS : va_S A0 H0 H locs) (hA : ∀ q, q < H.size → A1 q → A0 q) (hf : ∀ q, free q → A0 q) (hAX : ∀ q, q < H.size → AX q → A0 q)
    (kx : ∀ (E : String) (ce : Cell) (q9 : Addr) (u : SX) (t : State) (H1 : Heap) (locs1 : List Loc), t.heap = H1 → s.vm.Alike t.vm → px u → BX E u t → H.size ≤ H1.size → (∀ q : Nat, q < H.size → ¬ AX q → H1[q]? = H[q]?) → va_S A0 H0 H1 locs1 → H1[q9]? = some ce → ce.vm = .none → s.vm.findClass E = some ce.cls → vx_W p l e R s m args below meth c H1 locs1 (cells + mc) (slots + ms) Q (F0 m pc ls rest) q9)
    (kk : ∀ (r : UInt32) (u : S) (t : State) (H1 : Heap) (locs1 : List Loc), t.heap = H1 → s.vm.Alike t.vm → post r u → B u t → H.size ≤ H1.size → (∀ q : Nat, q < H.size → ¬ A1 q → H1[q]? = H[q]?) → va_S A0 H0 H1 locs1 → W p l e R s m args below meth c H1 locs1 (cells + mc) (slots + ms) Q (F0 m (pc + 3) ls (.float r :: rest))) : W p l e R s m args below meth c H locs cells slots Q (F0 m pc ls st0) := by
  intro T hT X
  rcases hr T hT X with ⟨v, st₀, t, T', L, h0, X', hL, e1, e2, ⟨⟨r, u, hv, hp, hb⟩, hF⟩, st⟩ | ⟨q, st₀, t, T', L, E, ce, h0, X', hL, e1, e2, ⟨u, hp, hb, hF⟩, hce, hcv, hcl, st⟩
  · cases hv
    obtain ⟨k1, k2, k3⟩ := vx_keep h0 e1 hS hA hf hL hF
    obtain ⟨t2, a1, b1⟩ := kk r u t T'.heap (locs ++ L) e1.symm (by rw [← e2]; exact X'.warmed.alike) hp hb k1 k2 k3 T' rfl X'
    exact ⟨t2, st t2 a1, b1⟩
  · obtain ⟨k1, k2, k3⟩ := vx_keep h0 e1 hS hAX hf hL hF
    obtain ⟨t2, a1, b1⟩ := kx E ce q u t T'.heap (locs ++ L) e1.symm (by rw [← e2]; exact X'.warmed.alike) hp hb k1 k2 k3 (by rw [e1]; exact hce) hcv hcl T' rfl X'
    exact ⟨t2, st.trans a1, b1⟩
theorem vx_calld {S SX : Type} {post : UInt64 → S → Prop} {px : SX → Prop} {B : S → State → Prop} {BX : String → SX → State → Prop} {AX : Nat → Prop} (hr : vx_Run p l e R s m args below meth c H locs cells slots mc ms (F0 m pc ls st0) rest (va_Qd post B A1 a) (vx_X px BX AX) free) (hS : va_S A0 H0 H locs) (hA : ∀ q, q < H.size → A1 q → A0 q) (hf : ∀ q, free q → A0 q) (hAX : ∀ q, q < H.size → AX q → A0 q)
    (kx : ∀ (E : String) (ce : Cell) (q9 : Addr) (u : SX) (t : State) (H1 : Heap) (locs1 : List Loc), t.heap = H1 → s.vm.Alike t.vm → px u → BX E u t → H.size ≤ H1.size → (∀ q : Nat, q < H.size → ¬ AX q → H1[q]? = H[q]?) → va_S A0 H0 H1 locs1 → H1[q9]? = some ce → ce.vm = .none → s.vm.findClass E = some ce.cls → vx_W p l e R s m args below meth c H1 locs1 (cells + mc) (slots + ms) Q (F0 m pc ls rest) q9)
    (kk : ∀ (r : UInt64) (u : S) (t : State) (H1 : Heap) (locs1 : List Loc), t.heap = H1 → s.vm.Alike t.vm → post r u → B u t → H.size ≤ H1.size → (∀ q : Nat, q < H.size → ¬ A1 q → H1[q]? = H[q]?) → va_S A0 H0 H1 locs1 → W p l e R s m args below meth c H1 locs1 (cells + mc) (slots + ms) Q (F0 m (pc + 3) ls (.double r :: rest))) : W p l e R s m args below meth c H locs cells slots Q (F0 m pc ls st0) := by
  intro T hT X
  rcases hr T hT X with ⟨v, st₀, t, T', L, h0, X', hL, e1, e2, ⟨⟨r, u, hv, hp, hb⟩, hF⟩, st⟩ | ⟨q, st₀, t, T', L, E, ce, h0, X', hL, e1, e2, ⟨u, hp, hb, hF⟩, hce, hcv, hcl, st⟩
  · cases hv
    obtain ⟨k1, k2, k3⟩ := vx_keep h0 e1 hS hA hf hL hF
    obtain ⟨t2, a1, b1⟩ := kk r u t T'.heap (locs ++ L) e1.symm (by rw [← e2]; exact X'.warmed.alike) hp hb k1 k2 k3 T' rfl X'
    exact ⟨t2, st t2 a1, b1⟩
  · obtain ⟨k1, k2, k3⟩ := vx_keep h0 e1 hS hAX hf hL hF
    obtain ⟨t2, a1, b1⟩ := kx E ce q u t T'.heap (locs ++ L) e1.symm (by rw [← e2]; exact X'.warmed.alike) hp hb k1 k2 k3 (by rw [e1]; exact hce) hcv hcl T' rfl X'
    exact ⟨t2, st.trans a1, b1⟩
theorem vx_callv {S SX : Type} {post : S → Prop} {px : SX → Prop} {B : S → State → Prop} {BX : String → SX → State → Prop} {AX : Nat → Prop} (hr : vx_Run p l e R s m args below meth c H locs cells slots mc ms (F0 m pc ls st0) rest (va_Qv post B A1 a) (vx_X px BX AX) free) (hS : va_S A0 H0 H locs) (hA : ∀ q, q < H.size → A1 q → A0 q) (hf : ∀ q, free q → A0 q) (hAX : ∀ q, q < H.size → AX q → A0 q)
    (kx : ∀ (E : String) (ce : Cell) (q9 : Addr) (u : SX) (t : State) (H1 : Heap) (locs1 : List Loc), t.heap = H1 → s.vm.Alike t.vm → px u → BX E u t → H.size ≤ H1.size → (∀ q : Nat, q < H.size → ¬ AX q → H1[q]? = H[q]?) → va_S A0 H0 H1 locs1 → H1[q9]? = some ce → ce.vm = .none → s.vm.findClass E = some ce.cls → vx_W p l e R s m args below meth c H1 locs1 (cells + mc) (slots + ms) Q (F0 m pc ls rest) q9)
    (kk : ∀ (u : S) (t : State) (H1 : Heap) (locs1 : List Loc), t.heap = H1 → s.vm.Alike t.vm → post u → B u t → H.size ≤ H1.size → (∀ q : Nat, q < H.size → ¬ A1 q → H1[q]? = H[q]?) → va_S A0 H0 H1 locs1 → W p l e R s m args below meth c H1 locs1 (cells + mc) (slots + ms) Q (F0 m (pc + 3) ls (rest))) : W p l e R s m args below meth c H locs cells slots Q (F0 m pc ls st0) := by
  intro T hT X
  rcases hr T hT X with ⟨v, st₀, t, T', L, h0, X', hL, e1, e2, ⟨⟨u, hv, hp, hb⟩, hF⟩, st⟩ | ⟨q, st₀, t, T', L, E, ce, h0, X', hL, e1, e2, ⟨u, hp, hb, hF⟩, hce, hcv, hcl, st⟩
  · cases hv
    obtain ⟨k1, k2, k3⟩ := vx_keep h0 e1 hS hA hf hL hF
    obtain ⟨t2, a1, b1⟩ := kk u t T'.heap (locs ++ L) e1.symm (by rw [← e2]; exact X'.warmed.alike) hp hb k1 k2 k3 T' rfl X'
    exact ⟨t2, st t2 a1, b1⟩
  · obtain ⟨k1, k2, k3⟩ := vx_keep h0 e1 hS hAX hf hL hF
    obtain ⟨t2, a1, b1⟩ := kx E ce q u t T'.heap (locs ++ L) e1.symm (by rw [← e2]; exact X'.warmed.alike) hp hb k1 k2 k3 (by rw [e1]; exact hce) hcv hcl T' rfl X'
    exact ⟨t2, st.trans a1, b1⟩
/-- caught by the row x of this method's table; the rows ahead don't take it -/
theorem vx_catch {own name : String} {E : String} {ce : Cell} {q : Addr} (hown : s.vm.findClass own = some m.cls) (pre : List ExceptionTableEntry) (x : ExceptionTableEntry) (suf : List ExceptionTableEntry) (hsplit : c.exceptionTable.toList = pre ++ x :: suf)
    (hpass : ∀ z ∈ pre, covers z pc = false ∨ (z.catchType ≠ 0 ∧ ∃ nm : String, (Cond.classLink own z.catchType nm).before args s = true ∧ va_Nc E nm s)) (hx : covers x pc = true) (h0 : x.catchType ≠ 0)
    (hlink : (Cond.classLink own x.catchType name).before args s = true) (hcast : (Cond.castable E name).before args s = true) (hcell : H[q]? = some ce) (hv : ce.vm = .none) (hcl : s.vm.findClass E = some ce.cls)
    (kk : W p l e R s m args below meth c H locs cells slots Q (F0 m x.handlerPc ls [.ref q])) : vx_W p l e R s m args below meth c H locs cells slots Q (F0 m pc ls rest) q := by
  intro T hT X
  have hpl : e.platform.magicAccessors = ({} : Platform).magicAccessors := by rw [X.admits.platform]
  obtain ⟨c3, c4, hc3, hc4, hasg⟩ := Cond.castable_spec hcast
  cases Option.some.inj (hc3.symm.trans hcl)
  obtain ⟨c5, hc5, hcl5⟩ := Cond.classLink_spec hown hlink e.platform hpl
  cases Option.some.inj (hc4.symm.trans hc5)
  obtain ⟨vm', X', st⟩ := X.thenCaughtThrough q (g := F0 m pc ls rest) rfl (Steps.refl _) (by rw [hT]; exact hcell) (by rw [hv]; rfl) (by obtain ⟨k9, h9, -⟩ := Vm.findClass_spec hcl; exact ⟨k9, h9⟩) pre x suf hsplit
    (fun z hz => by
      rcases hpass z hz with h | ⟨hz0, nm, hl1, hn1⟩
      · exact Or.inl h
      · obtain ⟨c6, hc6, hcl6⟩ := Cond.classLink_spec hown hl1 e.platform hpl
        obtain ⟨a8, b8, h1, h2, h3⟩ := hn1
        cases Option.some.inj (h1.symm.trans hcl)
        cases Option.some.inj (h2.symm.trans hc6)
        exact Or.inr ⟨hz0, _, hcl6, h3⟩) hx (Or.inr ⟨h0, c4, hcl5, hasg⟩)
  obtain ⟨t, a1, b1⟩ := kk (T.setVm vm') hT X'
  exact ⟨t, st.trans a1, b1⟩
end Rows
section Ends
variable {p : Program} {l : Launch} {e : Env} {R : Room} {s : State} {m : MethodId} {args : Array Value} {below : List Frame} {meth : Method} {c : Code} {H : Heap} {locs : List Loc} {cells slots : Nat} {Q : State → Prop}
variable {mc ms : Nat} {free : Addr → Prop} {A0 A1 : Nat → Prop} {H0 : Heap} {a : Array Value} {ls : Array Slot} {st0 rest : List Value}
variable {Qc : Array Value → State → Outcome → State → Prop} {XC : String → State → State → Prop}
/-- what a body that may throw owes at its end -/
def vx_MQ (below : List Frame) (Qc : Array Value → State → Outcome → State → Prop) (XC : String → State → State → Prop) (a : Array Value) (s : State) (mc ms : Nat) (free : Addr → Prop) : State → Prop := fun t =>
  ∃ o, t.status = .running ∧ Ended t below o ∧ vx_Q Qc XC mc ms free a s o t
theorem vx_ret {g : JFrame} {mc ms : Nat} (k : W p l e R s m args below meth c H locs cells slots (MQ below Qc args s mc ms free) g) : W p l e R s m args below meth c H locs cells slots (vx_MQ below Qc XC args s mc ms free) g := by
  intro T hT X
  obtain ⟨t, a1, o, b1, b2, b3, b4⟩ := k T hT X
  exact ⟨t, a1, o, b1, b2, Or.inl ⟨b3, b4⟩⟩
/-- not caught here: it goes on to the caller -/
theorem vx_widen {g : JFrame} {q : Addr} {k n : Nat} (h1 : cells ≤ k) (h2 : slots ≤ n) (kk : vx_W p l e R s m args below meth c H locs k n Q g q) : vx_W p l e R s m args below meth c H locs cells slots Q g q := fun T hT X => kk T hT (stand_widen X h1 h2)
theorem vx_out {pc : Nat} {E : String} {ce : Cell} {q : Addr} {mc ms : Nat} (hout : ∀ x ∈ c.exceptionTable.toList, covers x pc = false) (hlocks : meth.locks = false) (hcell : H[q]? = some ce) (hv : ce.vm = .none) (hcl : s.vm.findClass E = some ce.cls)
    (hx : ∀ t : State, t.heap = H → s.vm.Alike t.vm → XC E s t) (hf : ∀ z ∈ locs, free z.base) (hc : cells ≤ mc) (hs : slots ≤ ms) :
    vx_W p l e R s m args below meth c H locs cells slots (vx_MQ below Qc XC args s mc ms free) (F0 m pc ls rest) q := by
  intro T hT X
  obtain ⟨st1, hrun, hend, hW, hsm⟩ := X.leaveThrown q (g := F0 m pc ls rest) rfl rfl rfl hout hlocks
  have hcell9 : (T.setFrames (.throwing q :: below)).heap[q]? = some ce := by
    show T.heap[q]? = some ce
    rw [hT]; exact hcell
  exact ⟨_, st1, .threw q, hrun, hend, Or.inr ⟨q, rfl, E, ce, locs, hx _ hT hW.alike, hcell9, hv, hcl, hW, hsm.mono hc hs, hf⟩⟩
theorem vx_frame {U : State} {k n : Nat} (h : s.sameButNew ({ U with vm := s.vm } : State) locs k n) : s.heap.size ≤ U.heap.size ∧ ∀ q : Nat, q < s.heap.size → (∀ z ∈ locs, z.base ≠ q) → U.heap[q]? = s.heap[q]? := by
  obtain ⟨-, h2, -, -, -, h6⟩ := h
  refine ⟨h2, fun q hq hz => ?_⟩
  obtain ⟨c9, e1, e2, e3, e4⟩ := h6 q _ (Array.getElem?_eq_getElem hq)
  have hs : c9.slots = (s.heap[q]).slots := Array.ext_getElem? fun i => e4 i fun hm => hz _ hm rfl
  have h9 : c9 = s.heap[q] := by
    rw [hs] at e2
    exact e2
  have e5 : U.heap[q]? = some c9 := e1
  rw [e5, h9, Array.getElem?_eq_getElem hq]
/-- the words of a throw but the four that speak of the heap -/
def vx_no (w : Cond) : Bool := decide (w ≠ .isRef (.static Bundle.tN "UNASSIGNED_STACK" Bundle.steD)) && decide (w ≠ .isRef (.static Bundle.tN "SUPPRESSED_SENTINEL" Bundle.listD)) && decide (w ≠ .laysStatic Bundle.tN "UNASSIGNED_STACK" Bundle.steD) && decide (w ≠ .laysStatic Bundle.tN "SUPPRESSED_SENTINEL" Bundle.listD)
def vx_at0 (own : String) (ic : Nat) (X : String) (names : List String) : List Cond := (Bundle.ownAtoms0 own ic X names).filter vx_no
def vx_atS (own : String) (ic : Nat) (X : String) (names : List String) : List Cond := (Bundle.ownAtoms own ic X names).filter vx_no
/-- a word that the tables alone decide, or a good one -/
def vx_ot (w : Cond) : Bool := w.onTables || goodWord w
theorem vx_ot_at {args a' : Array Value} {s U : State} {w : Cond} (hW : s.WarmedH U.vm) (hvm : s.vm = U.vm) (hg : vx_ot w = true) (h : w.before args s = true) : w.before a' U = true := by
  simp only [vx_ot, Bool.or_eq_true] at hg
  rcases hg with hg | hg
  · exact va_tabs hg hvm h
  · exact word_at hW (good_of_word hg) h
/-- a list's words: the good ones out of the method's own list, the others by premises of their own -/
theorem vx_hat {args : Array Value} {s : State} {L B : List Cond} (h1 : ∀ w ∈ L.filter goodWord, w.before args s = true) (h2 : ∀ w ∈ L.filter (fun w => !goodWord w), w ∈ B) (h3 : ∀ w ∈ B, w.before args s = true) : ∀ w ∈ L, w.before args s = true := by
  intro w hw
  by_cases g : goodWord w = true
  · exact h1 w (List.mem_filter.mpr ⟨hw, g⟩)
  · refine h3 w (h2 w (List.mem_filter.mpr ⟨hw, ?_⟩))
    show (!goodWord w) = true
    cases hgw : goodWord w
    · rfl
    · exact absurd hgw g
theorem vx_c {args : Array Value} {s : State} {w : Cond} {B : List Cond} (h : w.before args s = true) (t : ∀ w ∈ B, w.before args s = true) : ∀ w' ∈ w :: B, w'.before args s = true := fun w' h' => (List.mem_cons.mp h').elim (fun e => by rw [e]; exact h) (t w')
theorem vx_n {args : Array Value} {s : State} : ∀ w ∈ ([] : List Cond), w.before args s = true := fun _ h => nomatch h
theorem vx_own {args : Array Value} {s : State} {L : List Cond} (h1 : ∀ w ∈ L.filter vx_no, w.before args s = true)
    (hU : (Cond.isRef (.static Bundle.tN "UNASSIGNED_STACK" Bundle.steD)).before args s = true) (hN : (Cond.isRef (.static Bundle.tN "SUPPRESSED_SENTINEL" Bundle.listD)).before args s = true)
    (lU : (Cond.laysStatic Bundle.tN "UNASSIGNED_STACK" Bundle.steD).before args s = true) (lN : (Cond.laysStatic Bundle.tN "SUPPRESSED_SENTINEL" Bundle.listD).before args s = true) : ∀ w ∈ L, w.before args s = true := by
  intro w hw
  by_cases e1 : w = .isRef (.static Bundle.tN "UNASSIGNED_STACK" Bundle.steD)
  · rw [e1]; exact hU
  · by_cases e2 : w = .isRef (.static Bundle.tN "SUPPRESSED_SENTINEL" Bundle.listD)
    · rw [e2]; exact hN
    · by_cases e3 : w = .laysStatic Bundle.tN "UNASSIGNED_STACK" Bundle.steD
      · rw [e3]; exact lU
      · by_cases e4 : w = .laysStatic Bundle.tN "SUPPRESSED_SENTINEL" Bundle.listD
        · rw [e4]; exact lN
        · exact h1 w (List.mem_filter.mpr ⟨hw, by unfold vx_no; rw [decide_eq_true e1, decide_eq_true e2, decide_eq_true e3, decide_eq_true e4]; rfl⟩)
/-- where a static field lies, its class's statics cell in H -/
def vx_L (C n d : String) (A : Nat → Prop) (U : State) (H : Heap) : Prop := ∃ (c : ClassId) (k : Class) (i : Nat) (f : Field) (a : Nat) (cell : Cell), U.vm.findClass C = some c ∧ U.fieldFound? C n d = some (c, k, i, f) ∧ f.isStatic = true ∧ k.statics = some a ∧ H[a]? = some cell ∧ cell.vm.isStatics = true ∧ cell.cls = c ∧ f.slot < cell.slots.size ∧ k.staticTypes[f.slot]? = some f.type ∧ ¬ A a
theorem vx_L.moved {C n d : String} {A : Nat → Prop} {u U : State} {H : Heap} (hvm : u.vm.Alike U.vm) (h : vx_L C n d A u H) : vx_L C n d A U H := by
  obtain ⟨c, k, i, f, a, cell, h1, h2, h3, h4, h5, h6, h7, h8, h9, h10⟩ := h
  obtain ⟨k', hi', he⟩ := State.fieldFound?_setVm hvm h2
  exact ⟨c, k', i, f, a, cell, by rw [hvm.findClass]; exact h1, hi', h3, by rw [he]; exact h4, h5, h6, h7, h8, by rw [he]; exact h9, h10⟩
theorem vx_L.kept {C n d : String} {A : Nat → Prop} {U : State} {H H1 : Heap} (h : vx_L C n d A U H) (hq : ∀ a : Nat, a < H.size → ¬ A a → H1[a]? = H[a]?) : vx_L C n d A U H1 := by
  obtain ⟨c, k, i, f, a, cell, h1, h2, h3, h4, h5, h6, h7, h8, h9, h10⟩ := h
  exact ⟨c, k, i, f, a, cell, h1, h2, h3, h4, by rw [hq a (Array.getElem?_eq_some_iff.mp h5).1 h10]; exact h5, h6, h7, h8, h9, h10⟩
theorem vx_L.narrow {C n d : String} {A B : Nat → Prop} {U : State} {H : Heap} (h : vx_L C n d A U H) (hAB : ∀ q, B q → A q) : vx_L C n d B U H := by
  obtain ⟨c, k, i, f, a, cell, h1, h2, h3, h4, h5, h6, h7, h8, h9, h10⟩ := h
  exact ⟨c, k, i, f, a, cell, h1, h2, h3, h4, h5, h6, h7, h8, h9, fun z => h10 (hAB _ z)⟩
theorem vx_L.word {C n d : String} {A : Nat → Prop} {s : State} {args : Array Value} (h : vx_L C n d A s s.heap) : (Cond.laysStatic C n d).before args s = true := by
  obtain ⟨c, k, i, f, a, cell, h1, h2, h3, h4, h5, h6, h7, h8, h9, -⟩ := h
  show (Cond.laysStatic C n d).holds args s none s [] = true
  exact Cond.laysStatic_of h1 h2 h3 h4 h5 h6 h7 h8 h9
/-- .. and what it holds: null or some reference -/
def vx_Zq (C n d : String) (A : Nat → Prop) (U : State) (H : Heap) : Prop := va_Zq C n d A U H ∧ vx_L C n d A U H
theorem vx_Zq.moved {C n d : String} {A : Nat → Prop} {u U : State} {H : Heap} (hvm : u.vm.Alike U.vm) (h : vx_Zq C n d A u H) : vx_Zq C n d A U H := ⟨va_Zq.moved hvm h.1, vx_L.moved hvm h.2⟩
theorem vx_Zq.kept {C n d : String} {A : Nat → Prop} {U : State} {H H1 : Heap} (h : vx_Zq C n d A U H) (hq : ∀ a : Nat, a < H.size → ¬ A a → H1[a]? = H[a]?) : vx_Zq C n d A U H1 := ⟨va_Zq.kept h.1 hq, vx_L.kept h.2 hq⟩
theorem vx_Zq.narrow {C n d : String} {A B : Nat → Prop} {U : State} {H : Heap} (h : vx_Zq C n d A U H) (hAB : ∀ q, B q → A q) : vx_Zq C n d B U H := ⟨va_Zq.narrow h.1 hAB, vx_L.narrow h.2 hAB⟩
theorem vx_Zqof {args : Array Value} {s : State} {C n d : String} {A : Nat → Prop} (hl : (Cond.laysStatic C n d).before args s = true) (hini : (Cond.initialized C).before args s = true) (h : (Cond.isRef (.static C n d)).before args s = true) (hA : ∀ a : Nat, a < s.heap.size → ¬ A a) : vx_Zq C n d A s s.heap := by
  refine ⟨va_Zqof hl hini h hA, ?_⟩
  obtain ⟨c, k, i, f, a, cell, h1, h2, h3, h4, h5, h6, h7, h8, h9⟩ := Cond.laysStatic_spec hl
  exact ⟨c, k, i, f, a, cell, h1, h2, h3, h4, h5, h6, h7, h8, h9, hA a (Array.getElem?_eq_some_iff.mp h5).1⟩
theorem vx_isRef {C n d : String} {v : Value} {A : Nat → Prop} {s : State} {args : Array Value} (h : va_Z C n d v A s s.heap) (hv : v.isRef = true) : (Cond.isRef (.static C n d)).before args s = true := by
  obtain ⟨cf, kf, fi, f, a, cell, h1, h2, h3, h4, h5, h6, h7, -⟩ := h
  have he : (Term.static C n d).eval args s none [] s = some v := by
    simp [Term.eval, State.fieldNamed?, h1, h2, h4, h5, h6, h7]
  simp only [Cond.before, Cond.holds, Cond.value, he]
  cases v <;> simp_all [Value.isRef]
theorem vx_isRefq {C n d : String} {A : Nat → Prop} {s : State} {args : Array Value} (h : va_Zq C n d A s s.heap) : (Cond.isRef (.static C n d)).before args s = true := by
  rcases h with h | ⟨t, h⟩
  · exact vx_isRef h rfl
  · exact vx_isRef h rfl
/-- the same frame, seen from here: as if the method were called anew in this heap -/
theorem vx_rebase {T : State} (X : Stand p l e R s m args below meth c T locs cells slots) {R' : Room} (hf : R'.frames ≤ R.frames) (hl : R'.locals ≤ R.locals) (hc : cells + R'.cells ≤ R.cells) (hs : slots + R'.slots ≤ R.slots) :
    Stand p l e R' ((T.setVm s.vm).setFrames (.invoking m args :: below)) m args below meth c T [] 0 0 := by
  have htop : (T.setVm s.vm).topJava?.isSome := X.here.top
  have hF : ((T.setVm s.vm).setFrames (.invoking m args :: below)).frames = .invoking m args :: below := State.frames_setFrames _ (State.cur_lt_of_top htop)
  obtain ⟨g₀, hg0⟩ := Option.isSome_iff_exists.mp htop
  obtain ⟨r, hr⟩ := State.topJava?_eq_some.mp hg0
  have hl9 : e.platform.stackLimits (T.setVm s.vm).me = e.platform.stackLimits s.me := X.limits
  have hb9 : (T.setVm s.vm).me.stackBytes = s.me.stackBytes := X.bytes
  refine ⟨X.admits, X.cas, X.clock, hF, ?_, X.hears, X.method, X.code, X.here, X.tail, X.warmed, ?_, ?_, ?_⟩
  · have h := X.room
    have hU : ((T.setVm s.vm).setFrames (.invoking m args :: below)).localsInUse = s.localsInUse := by
      rw [State.localsInUse_invoking hF (meth := meth) (c := c) X.method X.code, State.localsInUse_invoking X.frames X.method X.code]
    simp only [State.hasRoom, Bool.and_eq_true, decide_eq_true_eq] at h ⊢
    obtain ⟨⟨⟨⟨h1, h2, h3, h4, h5, h6⟩, h7⟩, h8⟩, h9⟩ := h
    rw [X.frames, List.length_cons] at h2 h3
    have q1 := X.heapSize
    have q2 := X.used
    simp only [hF, hU, List.length_cons, State.stackLimits_setFrames, State.stackBytes_setFrames, hl9, hb9]
    refine ⟨⟨⟨⟨by omega, by omega, by omega, by omega, by omega, h6⟩, ?_⟩, ?_⟩, X.book⟩
    · show T.heap.size + R'.cells ≤ e.platform.maxCells
      omega
    · show T.slotsUsed + R'.slots ≤ e.platform.maxSlots
      omega
  · rw [State.stackLimits_setFrames]; rfl
  · rw [State.stackBytes_setFrames]; rfl
  · refine ⟨?_, Nat.le_refl _, Nat.le_refl _, ?_, ?_, fun a c9 h9 => ⟨c9, h9, rfl, rfl, fun _ _ => rfl⟩⟩
    · obtain ⟨t, ht, -⟩ := State.frames_cons hr
      show T.setVm s.vm = { ((T.setVm s.vm).setFrames (.invoking m args :: below)).setFrames (T.setVm s.vm).frames with heap := T.heap, slotsUsed := T.slotsUsed }
      rw [State.setFrames_setFrames, State.setFrames_self ht]
      rfl
    · show T.slotsUsed = T.slotsUsed + ((T.heap.toList.drop T.heap.size).map (·.slots.size)).sum
      rw [List.drop_eq_nil_of_le (Nat.le_of_eq Array.length_toList)]
      rfl
    · show ((T.heap.toList.drop T.heap.size).map (·.slots.size)).sum ≤ 0
      rw [List.drop_eq_nil_of_le (Nat.le_of_eq Array.length_toList)]
      exact Nat.le_refl _
/-- 'throw new E()': new; dup; invokespecial; athrow -/
theorem vx_throw0 {cc : ByteArray} {pc : Nat} (hexec : p.tables.exec = Jvm.exec) (hb : c.code = cc) (hl : l.stackTraces = false) {own cls : String} {names : List String} {ik ic mc ms : Nat} {A : Nat → Prop}
    (hown : s.vm.findClass own = some m.cls) (hcls : Bundle.fit cls = true) (hnames : ∀ n ∈ names, Bundle.fit n = true)
    (hk : (Cond.classLink own ik cls).before args s = true) (hini : (Cond.initialized cls).before args s = true) (hat : ∀ w ∈ vx_at0 own ic cls names, w.before args s = true)
    (hgood : ∀ w ∈ Cond.classLink own ik cls :: Cond.initialized cls :: vx_at0 own ic cls names, vx_ot w = true)
    (hU : vx_Zq Bundle.tN "UNASSIGNED_STACK" Bundle.steD A s s.heap) (hN : vx_Zq Bundle.tN "SUPPRESSED_SENTINEL" Bundle.listD A s s.heap) (hS : va_S A s.heap H locs) (hsize : ls.size = c.maxLocals)
    (d0 : decode cc pc = .ok (.new ik, 3)) (d3 : decode cc (pc + 3) = .ok (.dup, 1)) (d4 : decode cc (pc + 4) = .ok (.invokespecial ic, 3)) (d7 : decode cc (pc + 7) = .ok (.athrow, 1))
    (hout : ∀ x ∈ c.exceptionTable.toList, covers x (pc + 7) = false)
    (hRframes : names.length + 3 < R.frames) (hRlocals : (rest.map fun v => v.category).sum + (13 * (names.length + 1) + 42) ≤ R.locals) (hRcells : cells + 1 ≤ R.cells) (hRslots : slots + 6 ≤ R.slots) (hlocks : meth.locks = false)
    (hx : ∀ t : State, s.vm.Alike t.vm → H.size ≤ t.heap.size → (∀ q : Nat, q < H.size → t.heap[q]? = H[q]?) → XC cls s t)
    (hf : ∀ z ∈ locs, free z.base) (hc : cells + 1 ≤ mc) (hs : slots + 6 ≤ ms) :
    W p l e R s m args below meth c H locs cells slots (vx_MQ below Qc XC args s mc ms free) (F0 m pc ls rest) := by
  intro T hT X
  have htr : e.platform.stackTraces = false := (show e.platform.stackTraces = l.stackTraces by rw [X.admits.platform]).trans hl
  have Y := vx_rebase X (R' := { frames := R.frames, locals := R.locals, cells := 1, slots := 6 }) (Nat.le_refl _) (Nat.le_refl _) hRcells hRslots
  obtain ⟨s', hA⟩ : ∃ z, z = (T.setVm s.vm).setFrames (.invoking m args :: below) := ⟨_, rfl⟩
  rw [← hA] at Y
  have hvm : s'.vm = s.vm := by rw [hA]; rfl
  have hhp : s'.heap = H := by rw [hA]; exact hT
  have hW0 : s.WarmedH s'.vm := by rw [hvm]; exact State.WarmedH.refl s
  have hat' : ∀ w ∈ vx_at0 own ic cls names, w.before args s' = true := fun w hw => vx_ot_at hW0 hvm.symm (hgood w (List.mem_cons_of_mem _ (List.mem_cons_of_mem _ hw))) (hat w hw)
  have hk' : (Cond.classLink own ik cls).before args s' = true := vx_ot_at hW0 hvm.symm (hgood _ List.mem_cons_self) hk
  have hini' : (Cond.initialized cls).before args s' = true := vx_ot_at hW0 hvm.symm (hgood _ (List.mem_cons_of_mem _ List.mem_cons_self)) hini
  have hU' : vx_Zq Bundle.tN "UNASSIGNED_STACK" Bundle.steD A s' s'.heap := by rw [hhp]; exact vx_Zq.moved hW0.alike (hU.kept hS.2.1)
  have hN' : vx_Zq Bundle.tN "SUPPRESSED_SENTINEL" Bundle.listD A s' s'.heap := by rw [hhp]; exact vx_Zq.moved hW0.alike (hN.kept hS.2.1)
  have h : ∀ w ∈ Bundle.ownAtoms0 own ic cls names, w.before args s' = true := vx_own hat' (vx_isRefq hU'.1) (vx_isRefq hN'.1) hU'.2.word hN'.2.word
  have hown' : s'.vm.findClass own = some m.cls := by rw [hvm]; exact hown
  have hins : (Cond.instantiable cls 6).before args s' = true := h _ (by simp [Bundle.ownAtoms0])
  obtain ⟨vm₁, cX, kX, hfX, hkX, -, -, X₁, st1⟩ := Y.newCold hexec (own := own) (C := cls) (index := ik) (n := 6) hown' hk' hins hini'
    (g := F0 m pc ls rest) rfl (by rw [hb]; exact d0) (Nat.le_refl _) (Nat.le_refl _)
  generalize hT1 : (T.setVm vm₁).pushCell { cls := cX, slots := kX.instanceTypes.map defaultValue, vm := .none } = T1 at X₁ st1
  have hcat : (Value.ref T.heap.size).category = 1 := rfl
  have hcellA : T1.heap[T.heap.size]? = some (freshCell cX kX) := by rw [← hT1]; exact State.heap_pushCell_size _ _
  have d3' : decode c.code (pc + 3) = .ok (.dup, 1) := by rw [hb]; exact d3
  obtain ⟨U, hsteps, hrun, hend, hW, hsame, ce, hce, hO⟩ := X₁.ctorThrow0 hexec htr (own := own) (cls := cls) (names := names) (ic := ic) hown' hcls hnames h (fun x hx => nomatch hx) hfX hkX hcellA (by rw [hhp, hT]; exact Nat.le_refl _)
    (g := { method := m, pc := pc + 4, locals := ls, stack := .ref T.heap.size :: .ref T.heap.size :: rest, locked := none }) rfl hsize rfl rfl (rest := rest) rfl
    (by rw [hb]; exact d4) (by rw [hb]; exact d7) hout hRframes (by simp only [List.map_cons, List.sum_cons, hcat]; omega) hlocks
  obtain ⟨f1, f2⟩ := vx_frame hsame
  rw [hhp] at f1 f2
  have hWs : s.WarmedH U.vm := State.WarmedH.trans hW0 hW
  have hcl : s.vm.findClass cls = some ce.cls := by
    have h9 := hO.cls
    rw [hvm] at h9
    exact h9
  have hall : s.sameButNew ({ U with vm := s.vm } : State) locs mc ms := by
    subst hA
    obtain ⟨e1, e2⟩ := hsame
    rw [State.setFrames_setFrames] at e1
    have h2 : (T.setVm s.vm).sameButNew ({ U with vm := s.vm } : State) [] (0 + 1) (0 + 6) := ⟨e1, e2⟩
    have h3 := X.same.trans h2
    rw [List.append_nil] at h3
    exact h3.mono hc hs
  refine ⟨U, ?_, .threw T.heap.size, hrun, hend, Or.inr ⟨T.heap.size, rfl, cls, ce, locs, hx U hWs.alike f1 (fun q hq => f2 q hq (fun z hz => nomatch hz)), hce, hO.vm, hcl, hWs, hall, hf⟩⟩
  refine st1 _ ?_
  show Steps p.tables e below (T1.setTop { method := m, pc := pc + 3, locals := ls, stack := .ref T.heap.size :: rest, locked := none }) _
  jvm_step X₁.here [X₁.here.top, hexec, d3', Value.category]
  exact hsteps
/-- 'throw new E("text")': new; dup; ldc; invokespecial; athrow -/
theorem vx_throwS {cc : ByteArray} {pc : Nat} (hexec : p.tables.exec = Jvm.exec) (hb : c.code = cc) (hl : l.stackTraces = false) {own cls text : String} {names : List String} {ik is ic mc ms sa : Nat} {A : Nat → Prop}
    (hown : s.vm.findClass own = some m.cls) (hcls : Bundle.fit cls = true) (hnames : ∀ n ∈ names, Bundle.fit n = true)
    (hk : (Cond.classLink own ik cls).before args s = true) (hini : (Cond.initialized cls).before args s = true) (hstr : vk_R own is text sa s) (hat : ∀ w ∈ vx_atS own ic cls names, w.before args s = true)
    (hgood : ∀ w ∈ Cond.classLink own ik cls :: Cond.initialized cls :: vx_atS own ic cls names, vx_ot w = true)
    (hU : vx_Zq Bundle.tN "UNASSIGNED_STACK" Bundle.steD A s s.heap) (hN : vx_Zq Bundle.tN "SUPPRESSED_SENTINEL" Bundle.listD A s s.heap) (hS : va_S A s.heap H locs) (hsize : ls.size = c.maxLocals)
    (d0 : decode cc pc = .ok (.new ik, 3)) (d3 : decode cc (pc + 3) = .ok (.dup, 1)) (d4 : decode cc (pc + 4) = .ok (.ldc is, 2)) (d6 : decode cc (pc + 6) = .ok (.invokespecial ic, 3)) (d9 : decode cc (pc + 9) = .ok (.athrow, 1))
    (hout : ∀ x ∈ c.exceptionTable.toList, covers x (pc + 9) = false)
    (hRframes : names.length + 3 < R.frames) (hRlocals : (rest.map fun v => v.category).sum + (13 * (names.length + 1) + 43) ≤ R.locals) (hRcells : cells + 1 ≤ R.cells) (hRslots : slots + 6 ≤ R.slots) (hlocks : meth.locks = false)
    (hx : ∀ t : State, s.vm.Alike t.vm → H.size ≤ t.heap.size → (∀ q : Nat, q < H.size → t.heap[q]? = H[q]?) → XC cls s t)
    (hf : ∀ z ∈ locs, free z.base) (hc : cells + 1 ≤ mc) (hs : slots + 6 ≤ ms) :
    W p l e R s m args below meth c H locs cells slots (vx_MQ below Qc XC args s mc ms free) (F0 m pc ls rest) := by
  intro T hT X
  have htr : e.platform.stackTraces = false := (show e.platform.stackTraces = l.stackTraces by rw [X.admits.platform]).trans hl
  have Y := vx_rebase X (R' := { frames := R.frames, locals := R.locals, cells := 1, slots := 6 }) (Nat.le_refl _) (Nat.le_refl _) hRcells hRslots
  obtain ⟨s', hA⟩ : ∃ z, z = (T.setVm s.vm).setFrames (.invoking m args :: below) := ⟨_, rfl⟩
  rw [← hA] at Y
  have hvm : s'.vm = s.vm := by rw [hA]; rfl
  have hhp : s'.heap = H := by rw [hA]; exact hT
  have hW0 : s.WarmedH s'.vm := by rw [hvm]; exact State.WarmedH.refl s
  have hat' : ∀ w ∈ vx_atS own ic cls names, w.before args s' = true := fun w hw => vx_ot_at hW0 hvm.symm (hgood w (List.mem_cons_of_mem _ (List.mem_cons_of_mem _ hw))) (hat w hw)
  have hk' : (Cond.classLink own ik cls).before args s' = true := vx_ot_at hW0 hvm.symm (hgood _ List.mem_cons_self) hk
  have hini' : (Cond.initialized cls).before args s' = true := vx_ot_at hW0 hvm.symm (hgood _ (List.mem_cons_of_mem _ List.mem_cons_self)) hini
  have hU' : vx_Zq Bundle.tN "UNASSIGNED_STACK" Bundle.steD A s' s'.heap := by rw [hhp]; exact vx_Zq.moved hW0.alike (hU.kept hS.2.1)
  have hN' : vx_Zq Bundle.tN "SUPPRESSED_SENTINEL" Bundle.listD A s' s'.heap := by rw [hhp]; exact vx_Zq.moved hW0.alike (hN.kept hS.2.1)
  have h : ∀ w ∈ Bundle.ownAtoms own ic cls names, w.before args s' = true := vx_own hat' (vx_isRefq hU'.1) (vx_isRefq hN'.1) hU'.2.word hN'.2.word
  have hown' : s'.vm.findClass own = some m.cls := by rw [hvm]; exact hown
  have hins : (Cond.instantiable cls 6).before args s' = true := h _ (by simp [Bundle.ownAtoms])
  obtain ⟨vm₁, cX, kX, hfX, hkX, -, -, X₁, st1⟩ := Y.newCold hexec (own := own) (C := cls) (index := ik) (n := 6) hown' hk' hins hini'
    (g := F0 m pc ls rest) rfl (by rw [hb]; exact d0) (Nat.le_refl _) (Nat.le_refl _)
  generalize hT1 : (T.setVm vm₁).pushCell { cls := cX, slots := kX.instanceTypes.map defaultValue, vm := .none } = T1 at X₁ st1
  have hcat : (Value.ref T.heap.size).category = 1 := rfl
  have hcellA : T1.heap[T.heap.size]? = some (freshCell cX kX) := by rw [← hT1]; exact State.heap_pushCell_size _ _
  have d3' : decode c.code (pc + 3) = .ok (.dup, 1) := by rw [hb]; exact d3
  have d4' : decode c.code (pc + 4) = .ok (.ldc is, 2) := by rw [hb]; exact d4
  have hstr' : vk_R own is text sa s' := vk_R.warm hW0 hstr
  obtain ⟨U, hsteps, hrun, hend, hW, hsame, ce, hce, hO⟩ := X₁.ctorThrowS hexec htr (own := own) (cls := cls) (names := names) (ic := ic) hown' hcls hnames h (fun x hx => nomatch hx) hfX hkX hcellA (by rw [hhp, hT]; exact Nat.le_refl _) (msg := .ref sa) rfl
    (g := { method := m, pc := pc + 6, locals := ls, stack := .ref sa :: .ref T.heap.size :: .ref T.heap.size :: rest, locked := none }) rfl hsize rfl rfl (rest := rest) rfl
    (by rw [hb]; exact d6) (by rw [hb]; exact d9) hout hRframes (by simp only [List.map_cons, List.sum_cons, hcat]; omega) hlocks
  obtain ⟨f1, f2⟩ := vx_frame hsame
  rw [hhp] at f1 f2
  have hWs : s.WarmedH U.vm := State.WarmedH.trans hW0 hW
  have hcl : s.vm.findClass cls = some ce.cls := by
    have h9 := hO.cls
    rw [hvm] at h9
    exact h9
  have hall : s.sameButNew ({ U with vm := s.vm } : State) locs mc ms := by
    subst hA
    obtain ⟨e1, e2⟩ := hsame
    rw [State.setFrames_setFrames] at e1
    have h2 : (T.setVm s.vm).sameButNew ({ U with vm := s.vm } : State) [] (0 + 1) (0 + 6) := ⟨e1, e2⟩
    have h3 := X.same.trans h2
    rw [List.append_nil] at h3
    exact h3.mono hc hs
  refine ⟨U, ?_, .threw T.heap.size, hrun, hend, Or.inr ⟨T.heap.size, rfl, cls, ce, locs, hx U hWs.alike f1 (fun q hq => f2 q hq (fun z hz => nomatch hz)), hce, hO.vm, hcl, hWs, hall, hf⟩⟩
  refine st1 _ ?_
  show Steps p.tables e below (T1.setTop { method := m, pc := pc + 3, locals := ls, stack := .ref T.heap.size :: rest, locked := none }) _
  jvm_step X₁.here [X₁.here.top, hexec, d3', Value.category]
  exact X₁.ldcString hexec (own := own) (text := text) (index := is) (a := sa) hown' hstr'.1 hstr'.2
    (g := { method := m, pc := pc + 4, locals := ls, stack := .ref T.heap.size :: .ref T.heap.size :: rest, locked := none }) rfl d4' _ hsteps
/-- 'throw new E("text")', the text by a wide index -/
theorem vx_throwSW {cc : ByteArray} {pc : Nat} (hexec : p.tables.exec = Jvm.exec) (hb : c.code = cc) (hl : l.stackTraces = false) {own cls text : String} {names : List String} {ik is ic mc ms sa : Nat} {A : Nat → Prop}
    (hown : s.vm.findClass own = some m.cls) (hcls : Bundle.fit cls = true) (hnames : ∀ n ∈ names, Bundle.fit n = true)
    (hk : (Cond.classLink own ik cls).before args s = true) (hini : (Cond.initialized cls).before args s = true) (hstr : vk_R own is text sa s) (hat : ∀ w ∈ vx_atS own ic cls names, w.before args s = true)
    (hgood : ∀ w ∈ Cond.classLink own ik cls :: Cond.initialized cls :: vx_atS own ic cls names, vx_ot w = true)
    (hU : vx_Zq Bundle.tN "UNASSIGNED_STACK" Bundle.steD A s s.heap) (hN : vx_Zq Bundle.tN "SUPPRESSED_SENTINEL" Bundle.listD A s s.heap) (hS : va_S A s.heap H locs) (hsize : ls.size = c.maxLocals)
    (d0 : decode cc pc = .ok (.new ik, 3)) (d3 : decode cc (pc + 3) = .ok (.dup, 1)) (d4 : decode cc (pc + 4) = .ok (.ldc_w is, 3)) (d7 : decode cc (pc + 7) = .ok (.invokespecial ic, 3)) (d10 : decode cc (pc + 10) = .ok (.athrow, 1))
    (hout : ∀ x ∈ c.exceptionTable.toList, covers x (pc + 10) = false)
    (hRframes : names.length + 3 < R.frames) (hRlocals : (rest.map fun v => v.category).sum + (13 * (names.length + 1) + 43) ≤ R.locals) (hRcells : cells + 1 ≤ R.cells) (hRslots : slots + 6 ≤ R.slots) (hlocks : meth.locks = false)
    (hx : ∀ t : State, s.vm.Alike t.vm → H.size ≤ t.heap.size → (∀ q : Nat, q < H.size → t.heap[q]? = H[q]?) → XC cls s t)
    (hf : ∀ z ∈ locs, free z.base) (hc : cells + 1 ≤ mc) (hs : slots + 6 ≤ ms) :
    W p l e R s m args below meth c H locs cells slots (vx_MQ below Qc XC args s mc ms free) (F0 m pc ls rest) := by
  intro T hT X
  have htr : e.platform.stackTraces = false := (show e.platform.stackTraces = l.stackTraces by rw [X.admits.platform]).trans hl
  have Y := vx_rebase X (R' := { frames := R.frames, locals := R.locals, cells := 1, slots := 6 }) (Nat.le_refl _) (Nat.le_refl _) hRcells hRslots
  obtain ⟨s', hA⟩ : ∃ z, z = (T.setVm s.vm).setFrames (.invoking m args :: below) := ⟨_, rfl⟩
  rw [← hA] at Y
  have hvm : s'.vm = s.vm := by rw [hA]; rfl
  have hhp : s'.heap = H := by rw [hA]; exact hT
  have hW0 : s.WarmedH s'.vm := by rw [hvm]; exact State.WarmedH.refl s
  have hat' : ∀ w ∈ vx_atS own ic cls names, w.before args s' = true := fun w hw => vx_ot_at hW0 hvm.symm (hgood w (List.mem_cons_of_mem _ (List.mem_cons_of_mem _ hw))) (hat w hw)
  have hk' : (Cond.classLink own ik cls).before args s' = true := vx_ot_at hW0 hvm.symm (hgood _ List.mem_cons_self) hk
  have hini' : (Cond.initialized cls).before args s' = true := vx_ot_at hW0 hvm.symm (hgood _ (List.mem_cons_of_mem _ List.mem_cons_self)) hini
  have hU' : vx_Zq Bundle.tN "UNASSIGNED_STACK" Bundle.steD A s' s'.heap := by rw [hhp]; exact vx_Zq.moved hW0.alike (hU.kept hS.2.1)
  have hN' : vx_Zq Bundle.tN "SUPPRESSED_SENTINEL" Bundle.listD A s' s'.heap := by rw [hhp]; exact vx_Zq.moved hW0.alike (hN.kept hS.2.1)
  have h : ∀ w ∈ Bundle.ownAtoms own ic cls names, w.before args s' = true := vx_own hat' (vx_isRefq hU'.1) (vx_isRefq hN'.1) hU'.2.word hN'.2.word
  have hown' : s'.vm.findClass own = some m.cls := by rw [hvm]; exact hown
  have hins : (Cond.instantiable cls 6).before args s' = true := h _ (by simp [Bundle.ownAtoms])
  obtain ⟨vm₁, cX, kX, hfX, hkX, -, -, X₁, st1⟩ := Y.newCold hexec (own := own) (C := cls) (index := ik) (n := 6) hown' hk' hins hini'
    (g := F0 m pc ls rest) rfl (by rw [hb]; exact d0) (Nat.le_refl _) (Nat.le_refl _)
  generalize hT1 : (T.setVm vm₁).pushCell { cls := cX, slots := kX.instanceTypes.map defaultValue, vm := .none } = T1 at X₁ st1
  have hcat : (Value.ref T.heap.size).category = 1 := rfl
  have hcellA : T1.heap[T.heap.size]? = some (freshCell cX kX) := by rw [← hT1]; exact State.heap_pushCell_size _ _
  have d3' : decode c.code (pc + 3) = .ok (.dup, 1) := by rw [hb]; exact d3
  have d4' : decode c.code (pc + 4) = .ok (.ldc_w is, 3) := by rw [hb]; exact d4
  have hstr' : vk_R own is text sa s' := vk_R.warm hW0 hstr
  obtain ⟨U, hsteps, hrun, hend, hW, hsame, ce, hce, hO⟩ := X₁.ctorThrowS hexec htr (own := own) (cls := cls) (names := names) (ic := ic) hown' hcls hnames h (fun x hx => nomatch hx) hfX hkX hcellA (by rw [hhp, hT]; exact Nat.le_refl _) (msg := .ref sa) rfl
    (g := { method := m, pc := pc + 7, locals := ls, stack := .ref sa :: .ref T.heap.size :: .ref T.heap.size :: rest, locked := none }) rfl hsize rfl rfl (rest := rest) rfl
    (by rw [hb]; exact d7) (by rw [hb]; exact d10) hout hRframes (by simp only [List.map_cons, List.sum_cons, hcat]; omega) hlocks
  obtain ⟨f1, f2⟩ := vx_frame hsame
  rw [hhp] at f1 f2
  have hWs : s.WarmedH U.vm := State.WarmedH.trans hW0 hW
  have hcl : s.vm.findClass cls = some ce.cls := by
    have h9 := hO.cls
    rw [hvm] at h9
    exact h9
  have hall : s.sameButNew ({ U with vm := s.vm } : State) locs mc ms := by
    subst hA
    obtain ⟨e1, e2⟩ := hsame
    rw [State.setFrames_setFrames] at e1
    have h2 : (T.setVm s.vm).sameButNew ({ U with vm := s.vm } : State) [] (0 + 1) (0 + 6) := ⟨e1, e2⟩
    have h3 := X.same.trans h2
    rw [List.append_nil] at h3
    exact h3.mono hc hs
  refine ⟨U, ?_, .threw T.heap.size, hrun, hend, Or.inr ⟨T.heap.size, rfl, cls, ce, locs, hx U hWs.alike f1 (fun q hq => f2 q hq (fun z hz => nomatch hz)), hce, hO.vm, hcl, hWs, hall, hf⟩⟩
  refine st1 _ ?_
  show Steps p.tables e below (T1.setTop { method := m, pc := pc + 3, locals := ls, stack := .ref T.heap.size :: rest, locked := none }) _
  jvm_step X₁.here [X₁.here.top, hexec, d3', Value.category]
  exact X₁.ldcStringW hexec (own := own) (text := text) (index := is) (a := sa) hown' hstr'.1 hstr'.2
    (g := { method := m, pc := pc + 4, locals := ls, stack := .ref T.heap.size :: .ref T.heap.size :: rest, locked := none }) rfl d4' _ hsteps
end Ends
section Bodies
variable {l : Launch}
theorem vx_ofW {y : MethodName} {ws ws' : List Cond} {rm : Room} {Pc : Array Value → State → Prop} {Qc : Array Value → State → Outcome → State → Prop} {XC : String → State → State → Prop} {mc ms : Nat} {free : Addr → Prop} {cc : ByteArray} {maxL : Nat} {ret : Option FieldType}
    (hy : plainName y.cls = true) (hw : ws = Cond.code y cc maxL ret :: ws')
    (body : ∀ p e s m args below meth c s₁, BodyLoose p l y (headSpec ws rm) cc maxL ret e s m args below meth c s₁ → c.maxLocals = maxL → (∀ x ∈ c.exceptionTable.toList, False) → Pc args s →
      W p l e (headSpec ws rm).room s m args below meth c s.heap [] 0 0 (vx_MQ below Qc XC args s mc ms free) (entryFrame m args maxL)) : vx_Met l y ws rm Pc Qc XC mc ms free := by
  refine MetFree.of_bodyS (code := cc) (maxLocals := maxL) (ret := ret) hy ?_ ?_
  · intro args s m h hn
    obtain ⟨meth, c, h1, h2, h3, h4, h5, h6, -, -⟩ := Cond.code_spec hn (atoms_spec (ws := ws) h _ (by rw [hw]; exact List.mem_cons_self))
    exact ⟨meth, c, h1, h2, h3, h4, h5, h6⟩
  · intro p e s m args below meth c s₁ B hml hP _
    have hh0 : s₁.heap = s.heap := by rw [B.state]; rfl
    have ht : ∀ x ∈ c.exceptionTable.toList, False := by
      obtain ⟨meth9, c9, h1, h2, -, -, -, -, h7, -⟩ := Cond.code_spec B.named (atoms_spec (ws := ws) B.pre _ (by rw [hw]; exact List.mem_cons_self))
      cases Option.some.inj (h1.symm.trans B.method)
      cases Option.some.inj (h2.symm.trans (Stand.of_body B).code)
      intro x hx
      rw [Array.isEmpty_iff.mp h7] at hx
      cases hx
    obtain ⟨t, a1, o, b1, b2, b3⟩ := body p e s m args below meth c s₁ B hml ht hP s₁ hh0 (Stand.of_body B)
    exact ⟨t, o, a1, b1, b2, b3⟩
/-- the table of a body with handlers -/
theorem vx_table {p : Program} {x y : MethodName} {S : Spec} {cc bytes : ByteArray} {maxL maxL' : Nat} {ret ret' : Option FieldType} {e : Env} {s s₁ : State} {m : MethodId} {args : Array Value} {below : List Frame} {meth : Method} {c : Code} {hh : List (Nat × Nat × Nat × Nat)}
    (B : BodyLoose p l y S cc maxL ret e s m args below meth c s₁) (h : (Cond.codeWith y bytes maxL' ret' hh).before args s = true) : c.exceptionTable.toList = tableOf hh := by
  obtain ⟨m9, meth9, c9, hn9, h1, h2, -, -, h6, -⟩ := Cond.codeWith_spec h
  cases Option.some.inj (hn9.symm.trans B.named)
  cases Option.some.inj (h1.symm.trans B.method)
  cases Option.some.inj (h2.symm.trans (Stand.of_body B).code)
  rw [← h6, table_eq]
end Bodies
end VXA
/-! ===== END ===== -/
/-! ===== BEGIN a static call of a method with an exception table ===== -/
section VXS
variable {p : Program} {l : Launch} {e : Env} {R : Room} {s : State} {m : MethodId} {args : Array Value} {below : List Frame} {meth : Method} {c : Code} {T : State} {H : Heap} {locs : List Loc} {cells slots : Nat}
abbrev vx_CSW (R : Room) (s : State) (args : Array Value) (own : String) (index : Nat) (y : MethodName) (bytes : ByteArray) (maxL : Nat) (ret : Option FieldType) (hh : List (Nat × Nat × Nat × Nat)) (ws : List Cond) (rm : Room) (mc ms n : Nat) : Prop :=
  (rm.cells = mc ∧ rm.slots = ms ∧ rm.frames + 1 ≤ R.frames ∧ 8 + (maxL + 11) + rm.locals ≤ R.locals ∧ (∀ w ∈ ws, ∀ (a' : Array Value) (U : State), s.WarmedH U.vm → w.before a' U = true) ∧ Cond.codeWith y bytes maxL ret hh ∈ ws) ∧
  (Cond.codeWith y bytes maxL ret hh).before args s = true ∧ (Cond.initialized y.cls).before args s = true ∧ (y.cls ≠ "java/lang/invoke/MethodHandle" ∧ y.cls ≠ "java/lang/invoke/VarHandle") ∧
  (∀ sig, parseMethodDescriptor y.desc = some sig → n = sig.parameters.length) ∧ (Cond.methodLink own index y).before args s = true ∧ (Cond.static y).before args s = true
theorem vx_cwSW {own : String} {index maxL mc ms : Nat} {y : MethodName} {bytes : ByteArray} {ret : Option FieldType} {hh : List (Nat × Nat × Nat × Nat)} {Ts ws ws' : List Cond} {rm : Room} (n : Nat) (ht : ∀ w ∈ Ts, w.before args s = true) (hT : GoodIn Ts (va_wsS own index y ws)) (hw : ws = Cond.codeWith y bytes maxL ret hh :: ws') (hrc : rm.cells = mc) (hrs : rm.slots = ms)
    (hd : y.cls ≠ "java/lang/invoke/MethodHandle" ∧ y.cls ≠ "java/lang/invoke/VarHandle" ∧ (parseMethodDescriptor y.desc).map (fun d => d.parameters.length) = some n) (hR : rm.frames + 1 ≤ R.frames ∧ 8 + (maxL + 11) + rm.locals ≤ R.locals) :
    vx_CSW R s args own index y bytes maxL ret hh ws rm mc ms n := by
  have ok : ∀ w ∈ va_wsS own index y ws, w.before args s = true := fun w h => ht w (hT w h).1
  have hG : GoodIn Ts ws := fun w h => hT w (by unfold va_wsS; exact List.mem_append_right _ h)
  have hc : Cond.codeWith y bytes maxL ret hh ∈ ws := by rw [hw]; exact List.mem_cons_self
  refine ⟨⟨hrc, hrs, hR.1, hR.2, pay_in ht hG, hc⟩, ht _ (hG _ hc).1, ok _ (by simp [va_wsS]), ⟨hd.1, hd.2.1⟩, fun sig h => ?_, ok _ (by simp [va_wsS]), ok _ (by simp [va_wsS])⟩
  have h2 := hd.2.2
  rw [h] at h2
  exact (Option.some.inj h2).symm
theorem vx_callSW (X : Stand p l e R s m args below meth c T locs cells slots) (hexec : p.tables.exec = Jvm.exec) {own : String} {index : Nat} {y : MethodName} {bytes : ByteArray} {maxL : Nat} {ret : Option FieldType} {hh : List (Nat × Nat × Nat × Nat)}
    (hown : s.vm.findClass own = some m.cls) (hlink : (Cond.methodLink own index y).before args s = true) (hstat : (Cond.static y).before args s = true) (hinit : (Cond.initialized y.cls).before args s = true)
    (hcode : (Cond.codeWith y bytes maxL ret hh).before args s = true) (hy : y.cls ≠ "java/lang/invoke/MethodHandle" ∧ y.cls ≠ "java/lang/invoke/VarHandle")
    {W9 : Nat} {Pre : Pt → Array Value → Prop} {Post : Pt → Array Value → Option Value → Pt → Prop} (hK : Back l R p e below s args y 3 W9 Pre Post)
    {g : JFrame} (hg : g.method = m) (hsize : g.locals.size = c.maxLocals) {argsL rest : List Value} (hlen : ∀ sig, parseMethodDescriptor y.desc = some sig → argsL.length = sig.parameters.length)
    (hstack : g.stack = argsL.reverse ++ rest) (hW : 2 * g.monitorRoom + (rest.map fun v => v.category).sum ≤ W9) (hdg : decode c.code g.pc = .ok (.invokestatic index, 3))
    (hpre : ∀ vm₁, s.WarmedH vm₁ → Pre ⟨T.setVm vm₁, locs, cells, slots⟩ argsL.toArray) :
    ∃ (v : Option Value) (vm₁ : Vm) (B : Pt), s.WarmedH vm₁ ∧ Stand p l e R s m args below meth c B.U B.locs B.cells B.slots ∧ Post ⟨T.setVm vm₁, locs, cells, slots⟩ argsL.toArray v B ∧
      ∀ target, Steps p.tables e below (B.U.setTop { g with pc := g.pc + 3, stack := v.toList ++ rest }) target → Steps p.tables e below (T.setTop g) target := by
  obtain ⟨mk, methM, cM, hnamed, hmethM, -, -, -, -, -, -, hsigM⟩ := Cond.codeWith_spec hcode
  have hstatic : methM.isStatic = true := Cond.static_spec hnamed hmethM hstat
  obtain ⟨kP, hkP, -⟩ := className_of_methodNamed hnamed
  have hinitP : kP.init = .initialized := Cond.initialized_spec (findClass_of_methodNamed hnamed) hkP hinit
  obtain ⟨vm₁, X₁, hstep₁⟩ := X.invokestatic hexec hown hlink hnamed hmethM hstatic hkP hinitP hy (g := g) hg (argsL := argsL) (rest := rest) (hlen _ hsigM) hstack hdg
  obtain ⟨v, B, X', hpost, hsteps⟩ := hK m meth c ⟨T.setVm vm₁, locs, cells, slots⟩ { g with stack := rest } (.invokestatic index) mk argsL.toArray X₁ hg hsize hdg hW (X₁.named hnamed) (hpre vm₁ X₁.warmed)
  exact ⟨v, vm₁, B, X₁.warmed, X', hpost, fun target h => hstep₁ _ fun acts => by rw [doInvoke_state]; exact hsteps.trans h⟩
theorem vx_runSW {y : MethodName} {bytes cc : ByteArray} {maxL nL mc ms n index : Nat} {ret : Option FieldType} {hh : List (Nat × Nat × Nat × Nat)} {ws : List Cond} {rm : Room} {Pc : Array Value → State → Prop} {Qc : Array Value → State → Outcome → State → Prop} {free : Addr → Prop} {Ts : List Cond} {own : String} {As rest : List Value} {g : JFrame}
    (S : CallFix p m c cc nL s args Ts own) (hM : Met l y ws rm Pc Qc mc ms free) (cw : vx_CSW R s args own index y bytes maxL ret hh ws rm mc ms n) (hp : PreS s H Pc As)
    (hg : g.method = m) (hn : As.length = n) (hsize : g.locals.size = nL) (hstack : g.stack = As.reverse ++ rest) (hW : 2 * g.monitorRoom + (rest.map fun v => v.category).sum ≤ 8) (hdg : decode cc g.pc = .ok (.invokestatic index, 3)) (hf : cells + mc ≤ R.cells ∧ slots + ms ≤ R.slots) :
    va_Run p l e R s m args below meth c H locs cells slots mc ms g rest (Qc As.toArray) (free) := by
  obtain ⟨⟨hrc, hrs, hfr, hlo, hws, hcw⟩, hcode, hini, hy, hlen, hl, hstt⟩ := cw
  have hK : Back l R p e below s args y 3 8 (PreOf R mc ms Pc) (PostOf Qc mc ms free) := va_backW (hh := hh) (bytes := bytes) (maxL := maxL) (ret := ret) hM hp.1 hrc hrs hfr hlo hws hcw (fun a' U hW => word_at hW (Or.inl (by first | rfl | simp [Cond.onTables, Cond.keeps, Cond.steady])) hini)
  obtain ⟨hx, hb, hml, ho, -⟩ := S
  intro T hT X
  obtain ⟨v, vm₁, ⟨U', l2, c2, s2⟩, hW₁, X', ⟨g', mk, t, L, e1, e2, hq, h1, hL, h2, h3⟩, st⟩ := vx_callSW X hx (hh := hh) (bytes := bytes) (maxL := maxL) (ret := ret) ho hl hstt hini hcode hy hK hg (hsize.trans hml.symm) (argsL := As) (rest := rest) (fun sig h => hn.trans (hlen sig h)) hstack hW (by rw [hb]; exact hdg)
    (fun vm₁ hW₁ => ⟨hf.1, hf.2, hp.2 (T.setVm vm₁) hT hW₁⟩)
  dsimp only [Pt.U, Pt.locs, Pt.cells, Pt.slots] at X' e1 e2 h1 h2 h3 st
  subst h1; subst h2; subst h3
  exact ⟨v, (T.setVm vm₁).calling g' mk As.toArray, t, U', L, hT, X', hL, e1, e2, hq, st⟩
/-- not caught here, past rows that name other classes: it goes on to the caller -/
theorem vx_outP {p : Program} {l : Launch} {e : Env} {R : Room} {s : State} {m : MethodId} {args : Array Value} {below : List Frame} {meth : Method} {c : Code} {H : Heap} {locs : List Loc} {cells slots : Nat} {free : Addr → Prop} {ls : Array Slot} {rest : List Value} {Qc : Array Value → State → Outcome → State → Prop} {XC : String → State → State → Prop}
    {pc : Nat} {own E : String} {ce : Cell} {q : Addr} {mc ms : Nat} (hown : s.vm.findClass own = some m.cls) (hlocks : meth.locks = false)
    (hpass : ∀ z ∈ c.exceptionTable.toList, covers z pc = false ∨ (z.catchType ≠ 0 ∧ ∃ nm : String, (Cond.classLink own z.catchType nm).before args s = true ∧ va_Nc E nm s)) (hcell : H[q]? = some ce) (hv : ce.vm = .none) (hcl : s.vm.findClass E = some ce.cls)
    (hx : ∀ t : State, t.heap = H → s.vm.Alike t.vm → XC E s t) (hf : ∀ z ∈ locs, free z.base) (hc : cells ≤ mc) (hs : slots ≤ ms) :
    vx_W p l e R s m args below meth c H locs cells slots (vx_MQ below Qc XC args s mc ms free) (F0 m pc ls rest) q := by
  intro T hT X
  have hpl : e.platform.magicAccessors = ({} : Platform).magicAccessors := by rw [X.admits.platform]
  obtain ⟨vm', hW', X', st⟩ := X.outThrough hlocks q (g := F0 m pc ls rest) rfl rfl rfl (cell := ce) (by rw [hT]; exact hcell) (by rw [hv]; rfl)
    (by obtain ⟨k9, h9, -⟩ := Vm.findClass_spec hcl; exact ⟨k9, h9⟩) (fun z hz => by
      rcases hpass z hz with h | ⟨hz0, nm, hl1, hn1⟩
      · exact Or.inl h
      · obtain ⟨c6, hc6, hcl6⟩ := Cond.classLink_spec hown hl1 e.platform hpl
        obtain ⟨a8, b8, h1, h2, h3⟩ := hn1
        cases Option.some.inj (h1.symm.trans hcl)
        cases Option.some.inj (h2.symm.trans hc6)
        exact Or.inr ⟨hz0, _, hcl6, h3⟩)
  obtain ⟨g₀, hfr⟩ := X'.frames_eq
  have hcell9 : ((T.setVm vm').setFrames (.throwing q :: below)).heap[q]? = some ce := by
    show T.heap[q]? = some ce
    rw [hT]; exact hcell
  have hend : Ended ((T.setVm vm').setFrames (.throwing q :: below)) below (.threw q) := State.frames_setFrames _ (State.cur_lt_of_frames hfr)
  refine ⟨(T.setVm vm').setFrames (.throwing q :: below), ?_, .threw q, X'.here.running, hend, Or.inr ⟨q, rfl, E, ce, locs, hx _ hT (X'.ends _).1.alike, hcell9, hv, hcl, (X'.ends _).1, (X'.ends _).2.mono hc hs, hf⟩⟩
  rw [X.pushThrowing_eq]
  exact st
/-- a thing of a world lies in the heap -/
theorem vx_lt {D : va_G} {cl : List vw_C} {ws : va_W} {H1 : Heap} (h : va_P D cl ws H1) {k : Nat} {q : Nat × va_E} (hk : ws[k]? = some q) : q.1 < H1.size := (h k q hk).lt
end VXS
/-! ===== END ===== -/
/-! ===== BEGIN methods with a table of their own: called by a name, returning or throwing ===== -/
section VXH
/-! vx_backW, vx_callVX, vx_callSX, vx_callVW, vx_runVW, vx_runVX, vx_runSX, vx_ofWH follow the same proofs as their sisters above (Free/Laws.lean, Shelf42/LK1.lean); vx_outP calls Shelf42/NT130.lean (outThrough). -/
section
variable {l : Launch} {R : Room} {p : Program} {e : Env} {below : List Frame} {s : State} {sargs : Array Value} {y : MethodName} {len W9 : Nat}
theorem vx_backW {ws : List Cond} {rm : Room} {Pc : Array Value → State → Prop} {Qc : Array Value → State → Outcome → State → Prop} {XC : String → State → State → Prop} {mc ms : Nat} {free : Addr → Prop} {bytes : ByteArray} {maxL : Nat} {ret : Option FieldType} {hh : List (Nat × Nat × Nat × Nat)}
    (hM : vx_Met l y ws rm Pc Qc XC mc ms free) (hblind : FrameBlind Pc) (hrc : rm.cells = mc) (hrs : rm.slots = ms)
    (hframes : rm.frames + 1 ≤ R.frames) (hlocals : W9 + (maxL + 11) + rm.locals ≤ R.locals)
    (hws : ∀ w ∈ ws, ∀ a' U, s.WarmedH U.vm → w.before a' U = true) (hcode : Cond.codeWith y bytes maxL ret hh ∈ ws) (hinit : ∀ a' U, s.WarmedH U.vm → (Cond.initialized y.cls).before a' U = true) :
    vx_Back l R p e below s sargs y len W9 (PreOf R mc ms Pc) (PostOf Qc mc ms free) (vx_Post XC mc ms free) := by
  intro m meth c A g ig mk a X hg hsize hdg hW hn hp
  have h1 : (headSpec ws rm).pre.before a A.U = true := atoms_intro fun w hw => hws w hw _ _ X.warmed
  have h2 : (Cond.codeWith y bytes maxL ret hh).before a A.U = true := hws _ hcode _ _ X.warmed
  have h3 : (Cond.initialized y.cls).before a A.U = true := hinit _ _ X.warmed
  have h4 : A.cells + (headSpec ws rm).room.cells ≤ R.cells := by rw [show (headSpec ws rm).room.cells = mc from hrc]; exact hp.1
  have h5 : A.slots + (headSpec ws rm).room.slots ≤ R.slots := by rw [show (headSpec ws rm).room.slots = ms from hrs]; exact hp.2.1
  have hPc : Pc a (A.U.calling g mk a) := hblind _ _ _ _ hp.2.2
  obtain ⟨U, Ls, c0, s0⟩ := A
  dsimp only [Pt.U, Pt.locs, Pt.cells, Pt.slots] at h1 h2 h3 h4 h5 X hn hPc ⊢
  obtain ⟨m9, methY, cY, hn9, hmY, hcY, -, hlY, -⟩ := Cond.codeWith_spec h2
  cases Option.some.inj (hn9.symm.trans hn)
  obtain ⟨kY, hkY, -⟩ := className_of_methodNamed hn
  have hinitY : kY.init = .initialized := Cond.initialized_spec (findClass_of_methodNamed hn) hkY h3
  have h : At U g.method c below := by rw [hg]; exact X.here
  have hlocals9 : W9 + (maxL + 11) + (headSpec ws rm).room.locals ≤ R.locals := hlocals
  have happ : (headSpec ws rm).appliesLoose y e.platform (U.calling g mk a) = true :=
    Spec.appliesLoose_calling (g := g) h hdg hn hkY hinitY
      (X.room_calling (g := g) (R' := (headSpec ws rm).room) hsize hmY hcY hframes (by rw [hlY]; omega) h4 h5) h1
  obtain ⟨mid, hmid⟩ := h.above
  have hfr : (U.setTop g).frames = (.java g :: mid) ++ below := by rw [State.frames_setTop' g h.top, hmid]; rfl
  obtain ⟨o, s₂, hsteps, -, hend, hq⟩ := Steps.callFree hM p X.admits X.cas X.clock (acts := []) hfr happ hPc trivial
  have hq' : vx_Q Qc XC mc ms free a (U.calling g mk a) o s₂ := hq
  rw [State.frames_setTop' g h.top] at hend
  obtain ⟨g₀, hg0⟩ := Option.isSome_iff_exists.mp h.top
  obtain ⟨r, hr⟩ := State.topJava?_eq_some.mp hg0
  have hr' : (({ U with heap := s₂.heap, slotsUsed := s₂.slotsUsed } : State).setVm s₂.vm).frames = .java g₀ :: r := hr
  rcases hq' with ⟨hqc, L, hfe, hL⟩ | ⟨q, rfl, E, ce, L, hx, hce, hcv, hcl, hW₂, hsm, hL⟩
  · obtain ⟨⟨v, rfl⟩, hW₂, e2, q2, q3, q4, q5, q6⟩ := id hfe
    have e3 : s₂ = ({ (U.calling g mk a).setFrames s₂.frames with heap := s₂.heap, slotsUsed := s₂.slotsUsed } : State).setVm s₂.vm := by
      have : s₂ = ({ s₂ with vm := (U.calling g mk a).vm } : State).setVm s₂.vm := rfl
      rw [e2] at this
      exact this
    obtain ⟨c₂, i₂, len₂, hc₂, hd₂, hf₂⟩ := hend
    have hW' : U.WarmedH s₂.vm := hW₂
    have hcc : c₂ = c := by
      have h1 : s₂.code? g.method = U.code? g.method := by
        rw [State.code?_eq, State.code?_eq, hW'.alike.method?]
      exact Option.some.inj (hc₂.symm.trans (h1.trans h.code))
    subst hcc
    have hlen : len₂ = len := by rw [hdg] at hd₂; cases hd₂; rfl
    subst hlen
    have hs₂ : s₂ = (({ U with heap := s₂.heap, slotsUsed := s₂.slotsUsed } : State).setVm s₂.vm).setTop { g with pc := g.pc + len₂, stack := v.toList ++ g.stack } := by
      refine e3.trans ?_
      rw [hf₂, State.calling_eq h.top, State.setFrames_setFrames, State.setTop_of_frames _ hr', hr]
      rfl
    have hsame : U.sameButNew ({ U with heap := s₂.heap, slotsUsed := s₂.slotsUsed } : State) L mc ms := by
      refine ⟨?_, q2, q3, q4, q5, q6⟩
      obtain ⟨t, ht, -⟩ := State.frames_cons hr
      show ({ U with heap := s₂.heap, slotsUsed := s₂.slotsUsed } : State) = { U.setFrames U.frames with heap := s₂.heap, slotsUsed := s₂.slotsUsed }
      rw [State.setFrames_self ht]
    subst hg
    refine Or.inl ⟨v, ⟨(({ U with heap := s₂.heap, slotsUsed := s₂.slotsUsed } : State).setVm s₂.vm), Ls ++ L, c0 + mc, s0 + ms⟩,
      ⟨X.admits, X.cas, X.clock, X.frames, X.room, X.hears, X.method, X.code, (X.here.setHeapUsed s₂.heap s₂.slotsUsed).setVm hW'.alike, X.tail, State.WarmedH.trans X.warmed hW', X.limits, X.bytes, X.same.trans (hsame.setVm s.vm)⟩,
      ⟨g, mk, s₂, L, rfl, rfl, hqc, rfl, hL, rfl, rfl⟩, ?_⟩
    show Steps p.tables e below _ ((({ U with heap := s₂.heap, slotsUsed := s₂.slotsUsed } : State).setVm s₂.vm).setTop { g with pc := g.pc + len₂, stack := v.toList ++ g.stack })
    rw [← hs₂]
    exact hsteps
  · obtain ⟨e2, q2, q3, q4, q5, q6⟩ := id hsm
    have e3 : s₂ = ({ (U.calling g mk a).setFrames s₂.frames with heap := s₂.heap, slotsUsed := s₂.slotsUsed } : State).setVm s₂.vm := by
      have : s₂ = ({ s₂ with vm := (U.calling g mk a).vm } : State).setVm s₂.vm := rfl
      rw [e2] at this
      exact this
    have hf₂ : s₂.frames = .throwing q :: .java g :: U.frames.tail := hend
    have hW' : U.WarmedH s₂.vm := hW₂
    have hs₂ : s₂ = ((({ U with heap := s₂.heap, slotsUsed := s₂.slotsUsed } : State).setVm s₂.vm).setTop g).pushFrame (.throwing q) := by
      refine e3.trans ?_
      rw [hf₂, State.calling_eq h.top, State.setFrames_setFrames, State.pushFrame, State.frames_setTop _ hr', State.setTop_of_frames _ hr', State.setFrames_setFrames, hr]
      rfl
    have hsame : U.sameButNew ({ U with heap := s₂.heap, slotsUsed := s₂.slotsUsed } : State) L mc ms := by
      refine ⟨?_, q2, q3, q4, q5, q6⟩
      obtain ⟨t, ht, -⟩ := State.frames_cons hr
      show ({ U with heap := s₂.heap, slotsUsed := s₂.slotsUsed } : State) = { U.setFrames U.frames with heap := s₂.heap, slotsUsed := s₂.slotsUsed }
      rw [State.setFrames_self ht]
    subst hg
    refine Or.inr ⟨q, ⟨(({ U with heap := s₂.heap, slotsUsed := s₂.slotsUsed } : State).setVm s₂.vm), Ls ++ L, c0 + mc, s0 + ms⟩,
      ⟨X.admits, X.cas, X.clock, X.frames, X.room, X.hears, X.method, X.code, (X.here.setHeapUsed s₂.heap s₂.slotsUsed).setVm hW'.alike, X.tail, State.WarmedH.trans X.warmed hW', X.limits, X.bytes, X.same.trans (hsame.setVm s.vm)⟩,
      ⟨g, mk, s₂, L, E, ce, rfl, rfl, hx, hce, hcv, hcl, rfl, hL, rfl, rfl⟩, ?_⟩
    show Steps p.tables e below _ (((({ U with heap := s₂.heap, slotsUsed := s₂.slotsUsed } : State).setVm s₂.vm).setTop g).pushFrame (.throwing q))
    rw [← hs₂]
    exact hsteps
end
variable {p : Program} {l : Launch} {e : Env} {R : Room} {s : State} {m : MethodId} {args : Array Value} {below : List Frame} {meth : Method} {c : Code} {T : State} {H : Heap} {locs : List Loc} {cells slots : Nat}
theorem vx_callVX (X : Stand p l e R s m args below meth c T locs cells slots) (hexec : p.tables.exec = Jvm.exec) {own C : String} {index : Nat} {y : MethodName} {bytes : ByteArray} {maxL : Nat} {ret : Option FieldType} {hh : List (Nat × Nat × Nat × Nat)}
    (hown : s.vm.findClass own = some m.cls) (hlink : (Cond.methodLink own index y).before args s = true) (hinst : (Cond.instanceMethod y).before args s = true) (hsel : (Cond.selects C y y).before args s = true)
    (hcode : (Cond.codeWith y bytes maxL ret hh).before args s = true) (hy : y.cls ≠ "java/lang/invoke/MethodHandle" ∧ y.cls ≠ "java/lang/invoke/VarHandle")
    {W9 : Nat} {Pre : Pt → Array Value → Prop} {Post : Pt → Array Value → Option Value → Pt → Prop} {PostX : Pt → Array Value → Addr → Pt → Prop} (hK : vx_Back l R p e below s args y 3 W9 Pre Post PostX)
    {b : Addr} {cellB : Cell} (hcell : T.heap[b]? = some cellB) (hobj : cellB.vm.isStatics = false) (hcls : s.vm.findClass C = some cellB.cls)
    {g : JFrame} (hg : g.method = m) (hsize : g.locals.size = c.maxLocals) {argsL rest : List Value} (hlen : ∀ sig, parseMethodDescriptor y.desc = some sig → argsL.length = sig.parameters.length)
    (hstack : g.stack = argsL.reverse ++ .ref b :: rest) (hW : 2 * g.monitorRoom + (rest.map fun v => v.category).sum ≤ W9) (hdg : decode c.code g.pc = .ok (.invokevirtual index, 3))
    (hpre : ∀ vm₁, s.WarmedH vm₁ → Pre ⟨T.setVm vm₁, locs, cells, slots⟩ (Value.ref b :: argsL).toArray) :
    (∃ (v : Option Value) (vm₁ : Vm) (B : Pt), s.WarmedH vm₁ ∧ Stand p l e R s m args below meth c B.U B.locs B.cells B.slots ∧ Post ⟨T.setVm vm₁, locs, cells, slots⟩ (Value.ref b :: argsL).toArray v B ∧
      ∀ target, Steps p.tables e below (B.U.setTop { g with pc := g.pc + 3, stack := v.toList ++ rest }) target → Steps p.tables e below (T.setTop g) target) ∨
    (∃ (q : Addr) (vm₁ : Vm) (B : Pt), s.WarmedH vm₁ ∧ Stand p l e R s m args below meth c B.U B.locs B.cells B.slots ∧ PostX ⟨T.setVm vm₁, locs, cells, slots⟩ (Value.ref b :: argsL).toArray q B ∧
      Steps p.tables e below (T.setTop g) ((B.U.setTop { g with stack := rest }).pushFrame (.throwing q))) := by
  obtain ⟨mk, methM, hnamed, hmethM, hstM, habM⟩ := Cond.instanceMethod_spec hinst
  obtain ⟨m8, methM', cM, hn8, hmethM', -, -, -, -, -, -, hsigM⟩ := Cond.codeWith_spec hcode
  cases Option.some.inj (hn8.symm.trans hnamed)
  cases hmethM.symm.trans hmethM'
  obtain ⟨c2, r2, m2, q1, q2, q3, q4, kP, hkP, hkPi⟩ := Cond.selects_spec hsel
  cases hcls.symm.trans q1
  cases (State.methodFound?_of_named hnamed hy).symm.trans q2
  cases hnamed.symm.trans q3
  have hselP : selectMethod e.platform s.vm cellB.cls mk = .method mk := by rw [Launch.admits_selectMethod X.admits]; exact q4
  obtain ⟨vm₁, X₁, hstep₁⟩ := X.invokevirtual hexec hown hlink hnamed hmethM hstM hkP hkPi hy (a := b) (cell := cellB) hcell
    (fun z h => by rw [h] at hobj; cases hobj) hselP hmethM habM hkP hkPi (g := g) hg (argsL := argsL) (rest := rest) (hlen _ hsigM) hstack hdg
  rcases hK m meth c ⟨T.setVm vm₁, locs, cells, slots⟩ { g with stack := rest } (.invokevirtual index) mk (Value.ref b :: argsL).toArray X₁ hg hsize hdg hW (X₁.named hnamed) (hpre vm₁ X₁.warmed) with ⟨v, B, X', hpost, hsteps⟩ | ⟨q, B, X', hpost, hsteps⟩
  · exact Or.inl ⟨v, vm₁, B, X₁.warmed, X', hpost, fun target h => hstep₁ _ fun acts => by rw [doInvoke_state]; exact hsteps.trans h⟩
  · exact Or.inr ⟨q, vm₁, B, X₁.warmed, X', hpost, hstep₁ _ fun acts => by rw [doInvoke_state]; exact hsteps⟩
theorem vx_callSX (X : Stand p l e R s m args below meth c T locs cells slots) (hexec : p.tables.exec = Jvm.exec) {own : String} {index : Nat} {y : MethodName} {bytes : ByteArray} {maxL : Nat} {ret : Option FieldType} {hh : List (Nat × Nat × Nat × Nat)}
    (hown : s.vm.findClass own = some m.cls) (hlink : (Cond.methodLink own index y).before args s = true) (hstat : (Cond.static y).before args s = true) (hinit : (Cond.initialized y.cls).before args s = true)
    (hcode : (Cond.codeWith y bytes maxL ret hh).before args s = true) (hy : y.cls ≠ "java/lang/invoke/MethodHandle" ∧ y.cls ≠ "java/lang/invoke/VarHandle")
    {W9 : Nat} {Pre : Pt → Array Value → Prop} {Post : Pt → Array Value → Option Value → Pt → Prop} {PostX : Pt → Array Value → Addr → Pt → Prop} (hK : vx_Back l R p e below s args y 3 W9 Pre Post PostX)
    {g : JFrame} (hg : g.method = m) (hsize : g.locals.size = c.maxLocals) {argsL rest : List Value} (hlen : ∀ sig, parseMethodDescriptor y.desc = some sig → argsL.length = sig.parameters.length)
    (hstack : g.stack = argsL.reverse ++ rest) (hW : 2 * g.monitorRoom + (rest.map fun v => v.category).sum ≤ W9) (hdg : decode c.code g.pc = .ok (.invokestatic index, 3))
    (hpre : ∀ vm₁, s.WarmedH vm₁ → Pre ⟨T.setVm vm₁, locs, cells, slots⟩ argsL.toArray) :
    (∃ (v : Option Value) (vm₁ : Vm) (B : Pt), s.WarmedH vm₁ ∧ Stand p l e R s m args below meth c B.U B.locs B.cells B.slots ∧ Post ⟨T.setVm vm₁, locs, cells, slots⟩ argsL.toArray v B ∧
      ∀ target, Steps p.tables e below (B.U.setTop { g with pc := g.pc + 3, stack := v.toList ++ rest }) target → Steps p.tables e below (T.setTop g) target) ∨
    (∃ (q : Addr) (vm₁ : Vm) (B : Pt), s.WarmedH vm₁ ∧ Stand p l e R s m args below meth c B.U B.locs B.cells B.slots ∧ PostX ⟨T.setVm vm₁, locs, cells, slots⟩ argsL.toArray q B ∧
      Steps p.tables e below (T.setTop g) ((B.U.setTop { g with stack := rest }).pushFrame (.throwing q))) := by
  obtain ⟨mk, methM, cM, hnamed, hmethM, -, -, -, -, -, -, hsigM⟩ := Cond.codeWith_spec hcode
  have hstatic : methM.isStatic = true := Cond.static_spec hnamed hmethM hstat
  obtain ⟨kP, hkP, -⟩ := className_of_methodNamed hnamed
  have hinitP : kP.init = .initialized := Cond.initialized_spec (findClass_of_methodNamed hnamed) hkP hinit
  obtain ⟨vm₁, X₁, hstep₁⟩ := X.invokestatic hexec hown hlink hnamed hmethM hstatic hkP hinitP hy (g := g) hg (argsL := argsL) (rest := rest) (hlen _ hsigM) hstack hdg
  rcases hK m meth c ⟨T.setVm vm₁, locs, cells, slots⟩ { g with stack := rest } (.invokestatic index) mk argsL.toArray X₁ hg hsize hdg hW (X₁.named hnamed) (hpre vm₁ X₁.warmed) with ⟨v, B, X', hpost, hsteps⟩ | ⟨q, B, X', hpost, hsteps⟩
  · exact Or.inl ⟨v, vm₁, B, X₁.warmed, X', hpost, fun target h => hstep₁ _ fun acts => by rw [doInvoke_state]; exact hsteps.trans h⟩
  · exact Or.inr ⟨q, vm₁, B, X₁.warmed, X', hpost, hstep₁ _ fun acts => by rw [doInvoke_state]; exact hsteps⟩
theorem vx_callVW (X : Stand p l e R s m args below meth c T locs cells slots) (hexec : p.tables.exec = Jvm.exec) {own C : String} {index : Nat} {y : MethodName} {bytes : ByteArray} {maxL : Nat} {ret : Option FieldType} {hh : List (Nat × Nat × Nat × Nat)}
    (hown : s.vm.findClass own = some m.cls) (hlink : (Cond.methodLink own index y).before args s = true) (hinst : (Cond.instanceMethod y).before args s = true) (hsel : (Cond.selects C y y).before args s = true)
    (hcode : (Cond.codeWith y bytes maxL ret hh).before args s = true) (hy : y.cls ≠ "java/lang/invoke/MethodHandle" ∧ y.cls ≠ "java/lang/invoke/VarHandle")
    {W9 : Nat} {Pre : Pt → Array Value → Prop} {Post : Pt → Array Value → Option Value → Pt → Prop} (hK : Back l R p e below s args y 3 W9 Pre Post)
    {b : Addr} {cellB : Cell} (hcell : T.heap[b]? = some cellB) (hobj : cellB.vm.isStatics = false) (hcls : s.vm.findClass C = some cellB.cls)
    {g : JFrame} (hg : g.method = m) (hsize : g.locals.size = c.maxLocals) {argsL rest : List Value} (hlen : ∀ sig, parseMethodDescriptor y.desc = some sig → argsL.length = sig.parameters.length)
    (hstack : g.stack = argsL.reverse ++ .ref b :: rest) (hW : 2 * g.monitorRoom + (rest.map fun v => v.category).sum ≤ W9) (hdg : decode c.code g.pc = .ok (.invokevirtual index, 3))
    (hpre : ∀ vm₁, s.WarmedH vm₁ → Pre ⟨T.setVm vm₁, locs, cells, slots⟩ (Value.ref b :: argsL).toArray) :
    ∃ (v : Option Value) (vm₁ : Vm) (B : Pt), s.WarmedH vm₁ ∧ Stand p l e R s m args below meth c B.U B.locs B.cells B.slots ∧ Post ⟨T.setVm vm₁, locs, cells, slots⟩ (Value.ref b :: argsL).toArray v B ∧
      ∀ target, Steps p.tables e below (B.U.setTop { g with pc := g.pc + 3, stack := v.toList ++ rest }) target → Steps p.tables e below (T.setTop g) target := by
  obtain ⟨mk, methM, hnamed, hmethM, hstM, habM⟩ := Cond.instanceMethod_spec hinst
  obtain ⟨m8, methM', cM, hn8, hmethM', -, -, -, -, -, -, hsigM⟩ := Cond.codeWith_spec hcode
  cases Option.some.inj (hn8.symm.trans hnamed)
  cases hmethM.symm.trans hmethM'
  obtain ⟨c2, r2, m2, q1, q2, q3, q4, kP, hkP, hkPi⟩ := Cond.selects_spec hsel
  cases hcls.symm.trans q1
  cases (State.methodFound?_of_named hnamed hy).symm.trans q2
  cases hnamed.symm.trans q3
  have hselP : selectMethod e.platform s.vm cellB.cls mk = .method mk := by rw [Launch.admits_selectMethod X.admits]; exact q4
  obtain ⟨vm₁, X₁, hstep₁⟩ := X.invokevirtual hexec hown hlink hnamed hmethM hstM hkP hkPi hy (a := b) (cell := cellB) hcell
    (fun z h => by rw [h] at hobj; cases hobj) hselP hmethM habM hkP hkPi (g := g) hg (argsL := argsL) (rest := rest) (hlen _ hsigM) hstack hdg
  obtain ⟨v, B, X', hpost, hsteps⟩ := hK m meth c ⟨T.setVm vm₁, locs, cells, slots⟩ { g with stack := rest } (.invokevirtual index) mk (Value.ref b :: argsL).toArray X₁ hg hsize hdg hW (X₁.named hnamed) (hpre vm₁ X₁.warmed)
  exact ⟨v, vm₁, B, X₁.warmed, X', hpost, fun target h => hstep₁ _ fun acts => by rw [doInvoke_state]; exact hsteps.trans h⟩
abbrev vx_CVW (R : Room) (s : State) (args : Array Value) (own C : String) (index : Nat) (y : MethodName) (bytes : ByteArray) (maxL : Nat) (ret : Option FieldType) (hh : List (Nat × Nat × Nat × Nat)) (ws : List Cond) (rm : Room) (mc ms n : Nat) : Prop :=
  (rm.cells = mc ∧ rm.slots = ms ∧ rm.frames + 1 ≤ R.frames ∧ 8 + (maxL + 11) + rm.locals ≤ R.locals ∧ (∀ w ∈ ws, ∀ (a' : Array Value) (U : State), s.WarmedH U.vm → w.before a' U = true) ∧ Cond.codeWith y bytes maxL ret hh ∈ ws) ∧
  (Cond.codeWith y bytes maxL ret hh).before args s = true ∧ (Cond.initialized y.cls).before args s = true ∧ (y.cls ≠ "java/lang/invoke/MethodHandle" ∧ y.cls ≠ "java/lang/invoke/VarHandle") ∧
  (∀ sig, parseMethodDescriptor y.desc = some sig → n = sig.parameters.length) ∧ (Cond.methodLink own index y).before args s = true ∧ (Cond.instanceMethod y).before args s = true ∧ (Cond.selects C y y).before args s = true
theorem vx_cwVW {own C : String} {index maxL mc ms : Nat} {y : MethodName} {bytes : ByteArray} {ret : Option FieldType} {hh : List (Nat × Nat × Nat × Nat)} {Ts ws ws' : List Cond} {rm : Room} (n : Nat) (ht : ∀ w ∈ Ts, w.before args s = true) (hT : GoodIn Ts (wsV own index C y ws)) (hw : ws = Cond.codeWith y bytes maxL ret hh :: ws') (hrc : rm.cells = mc) (hrs : rm.slots = ms)
    (hd : y.cls = C ∧ y.cls ≠ "java/lang/invoke/MethodHandle" ∧ y.cls ≠ "java/lang/invoke/VarHandle" ∧ (parseMethodDescriptor y.desc).map (fun d => d.parameters.length) = some n) (hR : rm.frames + 1 ≤ R.frames ∧ 8 + (maxL + 11) + rm.locals ≤ R.locals) :
    vx_CVW R s args own C index y bytes maxL ret hh ws rm mc ms n := by
  obtain ⟨hC, hd⟩ := hd
  subst hC
  have ok : ∀ w ∈ wsV own index y.cls y ws, w.before args s = true := fun w h => ht w (hT w h).1
  have hG : GoodIn Ts ws := fun w h => hT w (by unfold wsV; exact List.mem_append_right _ h)
  have hc : Cond.codeWith y bytes maxL ret hh ∈ ws := by rw [hw]; exact List.mem_cons_self
  refine ⟨⟨hrc, hrs, hR.1, hR.2, pay_in ht hG, hc⟩, ht _ (hG _ hc).1, ok _ (by simp [wsV]), ⟨hd.1, hd.2.1⟩, fun sig h => ?_, ok _ (by simp [wsV]), ok _ (by simp [wsV]), ok _ (by simp [wsV])⟩
  have h2 := hd.2.2
  rw [h] at h2
  exact (Option.some.inj h2).symm
theorem vx_runVW {y : MethodName} {bytes cc : ByteArray} {maxL nL mc ms n index : Nat} {ret : Option FieldType} {hh : List (Nat × Nat × Nat × Nat)} {ws : List Cond} {rm : Room} {Pc : Array Value → State → Prop} {Qc : Array Value → State → Outcome → State → Prop} {free : Addr → Prop} {Ts : List Cond} {own C : String} {b : Addr} {As rest : List Value} {g : JFrame}
    (S : CallFix p m c cc nL s args Ts own) (hM : Met l y ws rm Pc Qc mc ms free) (cw : vx_CVW R s args own C index y bytes maxL ret hh ws rm mc ms n) (hp : PreV s H C b Pc As)
    (hg : g.method = m) (hn : As.length = n) (hsize : g.locals.size = nL) (hstack : g.stack = As.reverse ++ .ref b :: rest) (hW : 2 * g.monitorRoom + (rest.map fun v => v.category).sum ≤ 8) (hdg : decode cc g.pc = .ok (.invokevirtual index, 3)) (hf : cells + mc ≤ R.cells ∧ slots + ms ≤ R.slots) :
    va_Run p l e R s m args below meth c H locs cells slots mc ms g rest (Qc (Value.ref b :: As).toArray) free := by
  obtain ⟨⟨hrc, hrs, hfr, hlo, hws, hcw⟩, hcode, hini, hy, hlen, hl, hin, hse⟩ := cw
  have hK : Back l R p e below s args y 3 8 (PreOf R mc ms Pc) (PostOf Qc mc ms free) := va_backW (hh := hh) (bytes := bytes) (maxL := maxL) (ret := ret) hM hp.1 hrc hrs hfr hlo hws hcw (fun a' U hW => word_at hW (Or.inl (by first | rfl | simp [Cond.onTables, Cond.keeps, Cond.steady])) hini)
  obtain ⟨hx, hb, hml, ho, -⟩ := S
  obtain ⟨-, ⟨cellB, hcB, hoB, hclB⟩, hPc⟩ := hp
  intro T hT X
  obtain ⟨v, vm₁, ⟨U', l2, c2, s2⟩, hW₁, X', ⟨g', mk, t, L, e1, e2, hq, h1, hL, h2, h3⟩, st⟩ := vx_callVW X hx (C := C) (hh := hh) (bytes := bytes) (maxL := maxL) (ret := ret) ho hl hin hse hcode hy hK (by rw [hT]; exact hcB) hoB hclB hg (hsize.trans hml.symm) (argsL := As) (rest := rest) (fun sig h => hn.trans (hlen sig h)) hstack hW (by rw [hb]; exact hdg)
    (fun vm₁ hW₁ => ⟨hf.1, hf.2, hPc (T.setVm vm₁) hT hW₁⟩)
  dsimp only [Pt.U, Pt.locs, Pt.cells, Pt.slots] at X' e1 e2 h1 h2 h3 st
  subst h1; subst h2; subst h3
  exact ⟨v, (T.setVm vm₁).calling g' mk (Value.ref b :: As).toArray, t, U', L, hT, X', hL, e1, e2, hq, st⟩
section
variable {y : MethodName} {bytes cc : ByteArray} {maxL nL mc ms n index : Nat} {ret : Option FieldType} {ws : List Cond} {rm : Room} {Pc : Array Value → State → Prop} {Qc : Array Value → State → Outcome → State → Prop} {XC : String → State → State → Prop} {free : Addr → Prop} {Ts : List Cond} {own C : String} {b : Addr} {As rest : List Value} {g : JFrame}
theorem vx_runVX {hh : List (Nat × Nat × Nat × Nat)} (S : CallFix p m c cc nL s args Ts own) (hM : vx_Met l y ws rm Pc Qc XC mc ms free) (cw : vx_CVW R s args own C index y bytes maxL ret hh ws rm mc ms n) (hp : PreV s H C b Pc As)
    (hg : g.method = m) (hn : As.length = n) (hsize : g.locals.size = nL) (hstack : g.stack = As.reverse ++ .ref b :: rest) (hW : 2 * g.monitorRoom + (rest.map fun v => v.category).sum ≤ 8) (hdg : decode cc g.pc = .ok (.invokevirtual index, 3)) (hf : cells + mc ≤ R.cells ∧ slots + ms ≤ R.slots) :
    vx_Run p l e R s m args below meth c H locs cells slots mc ms g rest (Qc (Value.ref b :: As).toArray) XC free := by
  obtain ⟨⟨hrc, hrs, hfr, hlo, hws, hcw⟩, hcode, hini, hy, hlen, hl, hin, hse⟩ := cw
  have hK : vx_Back l R p e below s args y 3 8 (PreOf R mc ms Pc) (PostOf Qc mc ms free) (vx_Post XC mc ms free) := vx_backW (hh := hh) (bytes := bytes) (maxL := maxL) (ret := ret) hM hp.1 hrc hrs hfr hlo hws hcw (fun a' U hW => word_at hW (Or.inl (by first | rfl | simp [Cond.onTables, Cond.keeps, Cond.steady])) hini)
  obtain ⟨hx, hb, hml, ho, -⟩ := S
  obtain ⟨-, ⟨cellB, hcB, hoB, hclB⟩, hPc⟩ := hp
  intro T hT X
  rcases vx_callVX X hx (C := C) (hh := hh) (bytes := bytes) (maxL := maxL) (ret := ret) ho hl hin hse hcode hy hK (by rw [hT]; exact hcB) hoB hclB hg (hsize.trans hml.symm) (argsL := As) (rest := rest) (fun sig h => hn.trans (hlen sig h)) hstack hW (by rw [hb]; exact hdg)
    (fun vm₁ hW₁ => ⟨hf.1, hf.2, hPc (T.setVm vm₁) hT hW₁⟩) with ⟨v, vm₁, ⟨U', l2, c2, s2⟩, hW₁, X', ⟨g', mk, t, L, e1, e2, hq, h1, hL, h2, h3⟩, st⟩ | ⟨q, vm₁, ⟨U', l2, c2, s2⟩, hW₁, X', ⟨g', mk, t, L, E, ce, e1, e2, hq, hce, hcv, hcl, h1, hL, h2, h3⟩, st⟩
  · dsimp only [Pt.U, Pt.locs, Pt.cells, Pt.slots] at X' e1 e2 h1 h2 h3 st
    subst h1; subst h2; subst h3
    exact Or.inl ⟨v, (T.setVm vm₁).calling g' mk (Value.ref b :: As).toArray, t, U', L, hT, X', hL, e1, e2, hq, st⟩
  · dsimp only [Pt.U, Pt.locs, Pt.cells, Pt.slots] at X' e1 e2 h1 h2 h3 st hcl
    subst h1; subst h2; subst h3
    exact Or.inr ⟨q, (T.setVm vm₁).calling g' mk (Value.ref b :: As).toArray, t, U', L, E, ce, hT, X', hL, e1, e2, hq, hce, hcv, vx_cls hW₁ hcl, st⟩
theorem vx_runSX {hh : List (Nat × Nat × Nat × Nat)} (S : CallFix p m c cc nL s args Ts own) (hM : vx_Met l y ws rm Pc Qc XC mc ms free) (cw : vx_CSW R s args own index y bytes maxL ret hh ws rm mc ms n) (hp : PreS s H Pc As)
    (hg : g.method = m) (hn : As.length = n) (hsize : g.locals.size = nL) (hstack : g.stack = As.reverse ++ rest) (hW : 2 * g.monitorRoom + (rest.map fun v => v.category).sum ≤ 8) (hdg : decode cc g.pc = .ok (.invokestatic index, 3)) (hf : cells + mc ≤ R.cells ∧ slots + ms ≤ R.slots) :
    vx_Run p l e R s m args below meth c H locs cells slots mc ms g rest (Qc As.toArray) XC free := by
  obtain ⟨⟨hrc, hrs, hfr, hlo, hws, hcw⟩, hcode, hini, hy, hlen, hl, hstt⟩ := cw
  have hK : vx_Back l R p e below s args y 3 8 (PreOf R mc ms Pc) (PostOf Qc mc ms free) (vx_Post XC mc ms free) := vx_backW (hh := hh) (bytes := bytes) (maxL := maxL) (ret := ret) hM hp.1 hrc hrs hfr hlo hws hcw (fun a' U hW => word_at hW (Or.inl (by first | rfl | simp [Cond.onTables, Cond.keeps, Cond.steady])) hini)
  obtain ⟨hx, hb, hml, ho, -⟩ := S
  intro T hT X
  rcases vx_callSX X hx (hh := hh) (bytes := bytes) (maxL := maxL) (ret := ret) ho hl hstt hini hcode hy hK hg (hsize.trans hml.symm) (argsL := As) (rest := rest) (fun sig h => hn.trans (hlen sig h)) hstack hW (by rw [hb]; exact hdg)
    (fun vm₁ hW₁ => ⟨hf.1, hf.2, hp.2 (T.setVm vm₁) hT hW₁⟩) with ⟨v, vm₁, ⟨U', l2, c2, s2⟩, hW₁, X', ⟨g', mk, t, L, e1, e2, hq, h1, hL, h2, h3⟩, st⟩ | ⟨q, vm₁, ⟨U', l2, c2, s2⟩, hW₁, X', ⟨g', mk, t, L, E, ce, e1, e2, hq, hce, hcv, hcl, h1, hL, h2, h3⟩, st⟩
  · dsimp only [Pt.U, Pt.locs, Pt.cells, Pt.slots] at X' e1 e2 h1 h2 h3 st
    subst h1; subst h2; subst h3
    exact Or.inl ⟨v, (T.setVm vm₁).calling g' mk As.toArray, t, U', L, hT, X', hL, e1, e2, hq, st⟩
  · dsimp only [Pt.U, Pt.locs, Pt.cells, Pt.slots] at X' e1 e2 h1 h2 h3 st hcl
    subst h1; subst h2; subst h3
    exact Or.inr ⟨q, (T.setVm vm₁).calling g' mk As.toArray, t, U', L, E, ce, hT, X', hL, e1, e2, hq, hce, hcv, vx_cls hW₁ hcl, st⟩
end
end VXH
theorem vx_ofWH {l : Launch} {y : MethodName} {ws ws' : List Cond} {rm : Room} {Pc : Array Value → State → Prop} {Qc : Array Value → State → Outcome → State → Prop} {XC : String → State → State → Prop} {mc ms : Nat} {free : Addr → Prop} {cc : ByteArray} {maxL : Nat} {ret : Option FieldType} {hh : List (Nat × Nat × Nat × Nat)}
    (hy : plainName y.cls = true) (hw : ws = Cond.codeWith y cc maxL ret hh :: ws')
    (body : ∀ p e s m args below meth c s₁, BodyLoose p l y (headSpec ws rm) cc maxL ret e s m args below meth c s₁ → c.maxLocals = maxL → Pc args s →
      W p l e (headSpec ws rm).room s m args below meth c s.heap [] 0 0 (vx_MQ below Qc XC args s mc ms free) (entryFrame m args maxL)) : vx_Met l y ws rm Pc Qc XC mc ms free := by
  refine MetFree.of_bodyS (code := cc) (maxLocals := maxL) (ret := ret) hy ?_ ?_
  · intro args s m h hn
    obtain ⟨m9, meth, c, hn9, h1, h2, h3, h4, -, h5, h6, -⟩ := Cond.codeWith_spec (atoms_spec (ws := ws) h _ (by rw [hw]; exact List.mem_cons_self))
    cases hn.symm.trans hn9
    exact ⟨meth, c, h1, h2, h3, h4, h5, h6⟩
  · intro p e s m args below meth c s₁ B hml hP _
    have hh0 : s₁.heap = s.heap := by rw [B.state]; rfl
    obtain ⟨t, a1, o, b1, b2, b3⟩ := body p e s m args below meth c s₁ B hml hP s₁ hh0 (Stand.of_body B)
    exact ⟨t, o, a1, b1, b2, b3⟩
/-! ===== END ===== -/
end
section
/-! ===== BEGIN printed: names, fields, word lists, decode rows ===== -/
def RX0 : String := "HousePlans$Drawing"
def TX0 : u_T := fun k => match k with
  | 0 => ("HousePlans$Drawing", "told", "[I", true)
  | 1 => ("HousePlans$Drawing", "toldExits", "[Z", true)
  | 2 => ("HousePlans$Drawing", "others", "[LHousePlans$Drawing;", true)
  | 3 => ("HousePlans$Drawing", "locker", "I", false)
  | _ => ("HousePlans$Drawing", "borrower", "I", false)
def tyX0 : Nat → FieldType := fun k => match k with
  | 0 => .array .int
  | 1 => .array .boolean
  | 2 => .array (.object "HousePlans$Drawing")
  | 3 => .int
  | _ => .int
theorem nmX0 : ∀ a, a < 5 → ∀ b, b < 5 → a ≠ b → (TX0 a).2.1 ≠ (TX0 b).2.1 := by decide +kernel
theorem tyX0_ok : ∀ k, k < 5 → parseFieldDescriptor (TX0 k).2.2.1 = some (tyX0 k) := by decide +kernel
abbrev cX0_init : ByteArray := prog_2_method_1_code
def yX0_init : MethodName := ⟨RX0, "<init>", "()V"⟩
abbrev cX0_changer : ByteArray := prog_2_method_2_code
def yX0_changer : MethodName := ⟨RX0, "changer", "()I"⟩
abbrev cX0_sideNow : ByteArray := prog_2_method_3_code
def yX0_sideNow : MethodName := ⟨RX0, "sideNow", "(I)I"⟩
abbrev cX0_exitNow : ByteArray := prog_2_method_4_code
def yX0_exitNow : MethodName := ⟨RX0, "exitNow", "(I)Z"⟩
abbrev cX0_leadsTo : ByteArray := prog_2_method_5_code
def yX0_leadsTo : MethodName := ⟨RX0, "leadsTo", "(LHousePlans$Drawing;)Z"⟩
abbrev cX0_sideIn : ByteArray := prog_2_method_6_code
def yX0_sideIn : MethodName := ⟨RX0, "sideIn", "(LHousePlans$Drawing;II)I"⟩
abbrev cX0_exitIn : ByteArray := prog_2_method_7_code
def yX0_exitIn : MethodName := ⟨RX0, "exitIn", "(LHousePlans$Drawing;II)Z"⟩
abbrev cX0_leads : ByteArray := prog_2_method_8_code
def yX0_leads : MethodName := ⟨RX0, "leads", "(LHousePlans$Drawing;LHousePlans$Drawing;I)Z"⟩
def RX1 : String := "HousePlans$Floor"
def TX1 : u_T := fun k => match k with
  | 0 => ("HousePlans$Floor", "state", "LHousePlans$State;", true)
  | 1 => ("HousePlans$Floor", "roomOf", "[I", true)
  | 2 => ("HousePlans$Floor", "doorsOutOf", "[I", true)
  | _ => ("HousePlans$Floor", "doorsFrom", "[I", true)
def tyX1 : Nat → FieldType := fun k => match k with
  | 0 => .object "HousePlans$State"
  | 1 => .array .int
  | 2 => .array .int
  | _ => .array .int
theorem nmX1 : ∀ a, a < 4 → ∀ b, b < 4 → a ≠ b → (TX1 a).2.1 ≠ (TX1 b).2.1 := by decide +kernel
theorem tyX1_ok : ∀ k, k < 4 → parseFieldDescriptor (TX1 k).2.2.1 = some (tyX1 k) := by decide +kernel
abbrev cX1_init : ByteArray := prog_3_method_1_code
def yX1_init : MethodName := ⟨RX1, "<init>", "()V"⟩
abbrev cX1_lookAt : ByteArray := prog_3_method_2_code
def yX1_lookAt : MethodName := ⟨RX1, "lookAt", "(LHousePlans$Drawing;)V"⟩
abbrev cX1_findRooms : ByteArray := prog_3_method_3_code
def yX1_findRooms : MethodName := ⟨RX1, "findRooms", "()V"⟩
abbrev cX1_join : ByteArray := prog_3_method_4_code
def yX1_join : MethodName := ⟨RX1, "join", "(II)V"⟩
abbrev cX1_findWaysOut : ByteArray := prog_3_method_5_code
def yX1_findWaysOut : MethodName := ⟨RX1, "findWaysOut", "()V"⟩
abbrev cX1_goThroughDoors : ByteArray := prog_3_method_6_code
def yX1_goThroughDoors : MethodName := ⟨RX1, "goThroughDoors", "([I)V"⟩
abbrev cX1_goThrough : ByteArray := prog_3_method_7_code
def yX1_goThrough : MethodName := ⟨RX1, "goThrough", "([IIII)Z"⟩
abbrev cX1_countRooms : ByteArray := prog_3_method_8_code
def yX1_countRooms : MethodName := ⟨RX1, "countRooms", "()I"⟩
abbrev cX1_countCells : ByteArray := prog_3_method_9_code
def yX1_countCells : MethodName := ⟨RX1, "countCells", "(I)I"⟩
abbrev cX1_everyRoomHasWayOut : ByteArray := prog_3_method_10_code
def yX1_everyRoomHasWayOut : MethodName := ⟨RX1, "everyRoomHasWayOut", "()Z"⟩
abbrev cX1_wallThatHelps : ByteArray := prog_3_method_11_code
def yX1_wallThatHelps : MethodName := ⟨RX1, "wallThatHelps", "(I)I"⟩
abbrev cX1_leadsOut : ByteArray := prog_3_method_12_code
def yX1_leadsOut : MethodName := ⟨RX1, "leadsOut", "(II)Z"⟩
def RX2 : String := "HousePlans$Permit"
def TX2 : u_T := fun k => match k with
  | 0 => ("HousePlans$Permit", "drawing", "LHousePlans$Drawing;", true)
  | _ => ("HousePlans$Permit", "kept", "LHousePlans$State;", true)
def tyX2 : Nat → FieldType := fun k => match k with
  | 0 => .object "HousePlans$Drawing"
  | _ => .object "HousePlans$State"
theorem nmX2 : ∀ a, a < 2 → ∀ b, b < 2 → a ≠ b → (TX2 a).2.1 ≠ (TX2 b).2.1 := by decide +kernel
theorem tyX2_ok : ∀ k, k < 2 → parseFieldDescriptor (TX2 k).2.2.1 = some (tyX2 k) := by decide +kernel
abbrev cX2_init : ByteArray := prog_4_method_1_code
def yX2_init : MethodName := ⟨RX2, "<init>", "(LHousePlans$Drawing;)V"⟩
abbrev cX2_isValid : ByteArray := prog_4_method_2_code
def yX2_isValid : MethodName := ⟨RX2, "isValid", "()Z"⟩
def RX3 : String := "HousePlans$Print"
def TX3 : u_T := fun k => match k with
  | 0 => ("HousePlans$Print", "drawing", "LHousePlans$Drawing;", true)
  | 1 => ("HousePlans$Print", "kept", "LHousePlans$State;", true)
  | _ => ("HousePlans$Print", "permit", "I", true)
def tyX3 : Nat → FieldType := fun k => match k with
  | 0 => .object "HousePlans$Drawing"
  | 1 => .object "HousePlans$State"
  | _ => .int
theorem nmX3 : ∀ a, a < 3 → ∀ b, b < 3 → a ≠ b → (TX3 a).2.1 ≠ (TX3 b).2.1 := by decide +kernel
theorem tyX3_ok : ∀ k, k < 3 → parseFieldDescriptor (TX3 k).2.2.1 = some (tyX3 k) := by decide +kernel
abbrev cX3_init : ByteArray := prog_5_method_1_code
def yX3_init : MethodName := ⟨RX3, "<init>", "(LHousePlans$Drawing;I)V"⟩
abbrev cX3_isOld : ByteArray := prog_5_method_2_code
def yX3_isOld : MethodName := ⟨RX3, "isOld", "()Z"⟩
def RX4 : String := "HousePlans$State"
def TX4 : u_T := fun k => match k with
  | 0 => ("HousePlans$State", "sides", "[I", true)
  | _ => ("HousePlans$State", "exits", "[Z", true)
def tyX4 : Nat → FieldType := fun k => match k with
  | 0 => .array .int
  | _ => .array .boolean
theorem nmX4 : ∀ a, a < 2 → ∀ b, b < 2 → a ≠ b → (TX4 a).2.1 ≠ (TX4 b).2.1 := by decide +kernel
theorem tyX4_ok : ∀ k, k < 2 → parseFieldDescriptor (TX4 k).2.2.1 = some (tyX4 k) := by decide +kernel
abbrev cX4_init : ByteArray := prog_6_method_1_code
def yX4_init : MethodName := ⟨RX4, "<init>", "()V"⟩
abbrev cX4_takeFrom : ByteArray := prog_6_method_2_code
def yX4_takeFrom : MethodName := ⟨RX4, "takeFrom", "(LHousePlans$Drawing;)V"⟩
abbrev cX4_isThatOf : ByteArray := prog_6_method_3_code
def yX4_isThatOf : MethodName := ⟨RX4, "isThatOf", "(LHousePlans$Drawing;)Z"⟩
def RX5 : String := "HousePlans"
def TX5 : u_T := fun k => match k with
  | 0 => ("HousePlans", "drawingList", "Ljava/util/ArrayList;", true)
  | 1 => ("HousePlans", "permitList", "Ljava/util/ArrayList;", true)
  | 2 => ("HousePlans", "printList", "Ljava/util/ArrayList;", true)
  | _ => ("HousePlans", "floor", "LHousePlans$Floor;", true)
def tyX5 : Nat → FieldType := fun k => match k with
  | 0 => .object "java/util/ArrayList"
  | 1 => .object "java/util/ArrayList"
  | 2 => .object "java/util/ArrayList"
  | _ => .object "HousePlans$Floor"
theorem nmX5 : ∀ a, a < 4 → ∀ b, b < 4 → a ≠ b → (TX5 a).2.1 ≠ (TX5 b).2.1 := by decide +kernel
theorem tyX5_ok : ∀ k, k < 4 → parseFieldDescriptor (TX5 k).2.2.1 = some (tyX5 k) := by decide +kernel
abbrev cX5_init : ByteArray := prog_1_method_1_code
def yX5_init : MethodName := ⟨RX5, "<init>", "()V"⟩
abbrev cX5_begin : ByteArray := prog_1_method_2_code
def yX5_begin : MethodName := ⟨RX5, "begin", "()I"⟩
abbrev cX5_tell : ByteArray := prog_1_method_3_code
def yX5_tell : MethodName := ⟨RX5, "tell", "(IIII)I"⟩
abbrev cX5_setExit : ByteArray := prog_1_method_4_code
def yX5_setExit : MethodName := ⟨RX5, "setExit", "(IIIZ)Z"⟩
abbrev cX5_refer : ByteArray := prog_1_method_5_code
def yX5_refer : MethodName := ⟨RX5, "refer", "(IIIZ)Z"⟩
abbrev cX5_drawings : ByteArray := prog_1_method_6_code
def yX5_drawings : MethodName := ⟨RX5, "drawings", "()I"⟩
abbrev cX5_side : ByteArray := prog_1_method_7_code
def yX5_side : MethodName := ⟨RX5, "side", "(II)I"⟩
abbrev cX5_hasExit : ByteArray := prog_1_method_8_code
def yX5_hasExit : MethodName := ⟨RX5, "hasExit", "(II)Z"⟩
abbrev cX5_rooms : ByteArray := prog_1_method_9_code
def yX5_rooms : MethodName := ⟨RX5, "rooms", "(I)I"⟩
abbrev cX5_room : ByteArray := prog_1_method_10_code
def yX5_room : MethodName := ⟨RX5, "room", "(II)I"⟩
abbrev cX5_size : ByteArray := prog_1_method_11_code
def yX5_size : MethodName := ⟨RX5, "size", "(II)I"⟩
abbrev cX5_doorsOut : ByteArray := prog_1_method_12_code
def yX5_doorsOut : MethodName := ⟨RX5, "doorsOut", "(II)I"⟩
abbrev cX5_doorThatHelps : ByteArray := prog_1_method_13_code
def yX5_doorThatHelps : MethodName := ⟨RX5, "doorThatHelps", "(II)I"⟩
abbrev cX5_lock : ByteArray := prog_1_method_14_code
def yX5_lock : MethodName := ⟨RX5, "lock", "(II)V"⟩
abbrev cX5_unlock : ByteArray := prog_1_method_15_code
def yX5_unlock : MethodName := ⟨RX5, "unlock", "(II)V"⟩
abbrev cX5_lend : ByteArray := prog_1_method_16_code
def yX5_lend : MethodName := ⟨RX5, "lend", "(III)I"⟩
abbrev cX5_canChange : ByteArray := prog_1_method_17_code
def yX5_canChange : MethodName := ⟨RX5, "canChange", "(I)I"⟩
abbrev cX5_grant : ByteArray := prog_1_method_18_code
def yX5_grant : MethodName := ⟨RX5, "grant", "(I)I"⟩
abbrev cX5_holds : ByteArray := prog_1_method_19_code
def yX5_holds : MethodName := ⟨RX5, "holds", "(I)Z"⟩
abbrev cX5_print : ByteArray := prog_1_method_20_code
def yX5_print : MethodName := ⟨RX5, "print", "(I)I"⟩
abbrev cX5_permitOf : ByteArray := prog_1_method_21_code
def yX5_permitOf : MethodName := ⟨RX5, "permitOf", "(I)I"⟩
abbrev cX5_isGood : ByteArray := prog_1_method_22_code
def yX5_isGood : MethodName := ⟨RX5, "isGood", "(I)Z"⟩
abbrev cX5_old : ByteArray := prog_1_method_23_code
def yX5_old : MethodName := ⟨RX5, "old", "()I"⟩
abbrev cX5_drawingAt : ByteArray := prog_1_method_24_code
def yX5_drawingAt : MethodName := ⟨RX5, "drawingAt", "(I)LHousePlans$Drawing;"⟩
abbrev cX5_printAt : ByteArray := prog_1_method_25_code
def yX5_printAt : MethodName := ⟨RX5, "printAt", "(I)LHousePlans$Print;"⟩
abbrev cX5_highestPermit : ByteArray := prog_1_method_26_code
def yX5_highestPermit : MethodName := ⟨RX5, "highestPermit", "(LHousePlans$Drawing;)I"⟩
abbrev cX5_needPerson : ByteArray := prog_1_method_27_code
def yX5_needPerson : MethodName := ⟨RX5, "needPerson", "(I)V"⟩
abbrev cX5_needSide : ByteArray := prog_1_method_28_code
def yX5_needSide : MethodName := ⟨RX5, "needSide", "(I)V"⟩
abbrev cX5_needCell : ByteArray := prog_1_method_29_code
def yX5_needCell : MethodName := ⟨RX5, "needCell", "(I)V"⟩
abbrev cX5_needChanger : ByteArray := prog_1_method_30_code
def yX5_needChanger : MethodName := ⟨RX5, "needChanger", "(LHousePlans$Drawing;I)V"⟩
abbrev cX5_needLocker : ByteArray := prog_1_method_31_code
def yX5_needLocker : MethodName := ⟨RX5, "needLocker", "(LHousePlans$Drawing;I)V"⟩
abbrev cX5_firstCell : ByteArray := prog_1_method_32_code
def yX5_firstCell : MethodName := ⟨RX5, "firstCell", "(I)I"⟩
abbrev cX5_secondCell : ByteArray := prog_1_method_33_code
def yX5_secondCell : MethodName := ⟨RX5, "secondCell", "(I)I"⟩
def RX6 : String := "HousePlansModel"
def TX6 : u_T := fun k => match k with
  | 0 => ("HousePlansModel", "drawings", "I", false)
  | 1 => ("HousePlansModel", "told", "[I", true)
  | 2 => ("HousePlansModel", "exits", "[I", true)
  | 3 => ("HousePlansModel", "refers", "[I", true)
  | 4 => ("HousePlansModel", "locker", "[I", true)
  | 5 => ("HousePlansModel", "lent", "[I", true)
  | 6 => ("HousePlansModel", "sides", "[I", true)
  | 7 => ("HousePlansModel", "outs", "[I", true)
  | 8 => ("HousePlansModel", "room", "[I", true)
  | 9 => ("HousePlansModel", "far", "[I", true)
  | 10 => ("HousePlansModel", "permits", "I", false)
  | 11 => ("HousePlansModel", "permitOf", "[I", true)
  | 12 => ("HousePlansModel", "keptSides", "[I", true)
  | 13 => ("HousePlansModel", "keptOuts", "[I", true)
  | 14 => ("HousePlansModel", "prints", "I", false)
  | 15 => ("HousePlansModel", "printOf", "[I", true)
  | 16 => ("HousePlansModel", "printSides", "[I", true)
  | 17 => ("HousePlansModel", "printOuts", "[I", true)
  | 18 => ("HousePlansModel", "keeps", "[I", true)
  | _ => ("HousePlansModel", "thrown", "I", false)
def tyX6 : Nat → FieldType := fun k => match k with
  | 0 => .int
  | 1 => .array .int
  | 2 => .array .int
  | 3 => .array .int
  | 4 => .array .int
  | 5 => .array .int
  | 6 => .array .int
  | 7 => .array .int
  | 8 => .array .int
  | 9 => .array .int
  | 10 => .int
  | 11 => .array .int
  | 12 => .array .int
  | 13 => .array .int
  | 14 => .int
  | 15 => .array .int
  | 16 => .array .int
  | 17 => .array .int
  | 18 => .array .int
  | _ => .int
theorem nmX6 : ∀ a, a < 20 → ∀ b, b < 20 → a ≠ b → (TX6 a).2.1 ≠ (TX6 b).2.1 := by decide +kernel
theorem tyX6_ok : ∀ k, k < 20 → parseFieldDescriptor (TX6 k).2.2.1 = some (tyX6 k) := by decide +kernel
abbrev cX6_init : ByteArray := prog_8_method_1_code
def yX6_init : MethodName := ⟨RX6, "<init>", "()V"⟩
abbrev cX6_thrown : ByteArray := prog_8_method_2_code
def yX6_thrown : MethodName := ⟨RX6, "thrown", "()I"⟩
abbrev cX6_isIn : ByteArray := prog_8_method_3_code
def yX6_isIn : MethodName := ⟨RX6, "isIn", "(III)Z"⟩
abbrev cX6_isDrawing : ByteArray := prog_8_method_4_code
def yX6_isDrawing : MethodName := ⟨RX6, "isDrawing", "(I)Z"⟩
abbrev cX6_isPerson : ByteArray := prog_8_method_5_code
def yX6_isPerson : MethodName := ⟨RX6, "isPerson", "(I)Z"⟩
abbrev cX6_changer : ByteArray := prog_8_method_6_code
def yX6_changer : MethodName := ⟨RX6, "changer", "(I)I"⟩
abbrev cX6_found : ByteArray := prog_8_method_7_code
def yX6_found : MethodName := ⟨RX6, "found", "(II)I"⟩
abbrev cX6_finds : ByteArray := prog_8_method_8_code
def yX6_finds : MethodName := ⟨RX6, "finds", "()V"⟩
abbrev cX6_low : ByteArray := prog_8_method_9_code
def yX6_low : MethodName := ⟨RX6, "low", "(I)I"⟩
abbrev cX6_high : ByteArray := prog_8_method_10_code
def yX6_high : MethodName := ⟨RX6, "high", "(I)I"⟩
abbrev cX6_looks : ByteArray := prog_8_method_11_code
def yX6_looks : MethodName := ⟨RX6, "looks", "(I)V"⟩
abbrev cX6_isJoined : ByteArray := prog_8_method_12_code
def yX6_isJoined : MethodName := ⟨RX6, "isJoined", "(III)Z"⟩
abbrev cX6_isCell : ByteArray := prog_8_method_13_code
def yX6_isCell : MethodName := ⟨RX6, "isCell", "(I)Z"⟩
abbrev cX6_asks : ByteArray := prog_8_method_14_code
def yX6_asks : MethodName := ⟨RX6, "asks", "(II)Z"⟩
abbrev cX6_begin : ByteArray := prog_8_method_15_code
def yX6_begin : MethodName := ⟨RX6, "begin", "()I"⟩
abbrev cX6_tell : ByteArray := prog_8_method_16_code
def yX6_tell : MethodName := ⟨RX6, "tell", "(IIII)I"⟩
abbrev cX6_setExit : ByteArray := prog_8_method_17_code
def yX6_setExit : MethodName := ⟨RX6, "setExit", "(IIIZ)Z"⟩
abbrev cX6_over : ByteArray := prog_8_method_18_code
def yX6_over : MethodName := ⟨RX6, "over", "(I)I"⟩
abbrev cX6_refer : ByteArray := prog_8_method_19_code
def yX6_refer : MethodName := ⟨RX6, "refer", "(IIIZ)Z"⟩
abbrev cX6_drawings : ByteArray := prog_8_method_20_code
def yX6_drawings : MethodName := ⟨RX6, "drawings", "()I"⟩
abbrev cX6_side : ByteArray := prog_8_method_21_code
def yX6_side : MethodName := ⟨RX6, "side", "(II)I"⟩
abbrev cX6_hasExit : ByteArray := prog_8_method_22_code
def yX6_hasExit : MethodName := ⟨RX6, "hasExit", "(II)Z"⟩
abbrev cX6_rooms : ByteArray := prog_8_method_23_code
def yX6_rooms : MethodName := ⟨RX6, "rooms", "(I)I"⟩
abbrev cX6_room : ByteArray := prog_8_method_24_code
def yX6_room : MethodName := ⟨RX6, "room", "(II)I"⟩
abbrev cX6_size : ByteArray := prog_8_method_25_code
def yX6_size : MethodName := ⟨RX6, "size", "(II)I"⟩
abbrev cX6_doorsOut : ByteArray := prog_8_method_26_code
def yX6_doorsOut : MethodName := ⟨RX6, "doorsOut", "(II)I"⟩
abbrev cX6_doorThatHelps : ByteArray := prog_8_method_27_code
def yX6_doorThatHelps : MethodName := ⟨RX6, "doorThatHelps", "(II)I"⟩
abbrev cX6_lock : ByteArray := prog_8_method_28_code
def yX6_lock : MethodName := ⟨RX6, "lock", "(II)V"⟩
abbrev cX6_unlock : ByteArray := prog_8_method_29_code
def yX6_unlock : MethodName := ⟨RX6, "unlock", "(II)V"⟩
abbrev cX6_lend : ByteArray := prog_8_method_30_code
def yX6_lend : MethodName := ⟨RX6, "lend", "(III)I"⟩
abbrev cX6_canChange : ByteArray := prog_8_method_31_code
def yX6_canChange : MethodName := ⟨RX6, "canChange", "(I)I"⟩
abbrev cX6_stands : ByteArray := prog_8_method_32_code
def yX6_stands : MethodName := ⟨RX6, "stands", "(I)Z"⟩
abbrev cX6_isOld : ByteArray := prog_8_method_33_code
def yX6_isOld : MethodName := ⟨RX6, "isOld", "(I)Z"⟩
abbrev cX6_grant : ByteArray := prog_8_method_34_code
def yX6_grant : MethodName := ⟨RX6, "grant", "(I)I"⟩
abbrev cX6_holds : ByteArray := prog_8_method_35_code
def yX6_holds : MethodName := ⟨RX6, "holds", "(I)Z"⟩
abbrev cX6_print : ByteArray := prog_8_method_36_code
def yX6_print : MethodName := ⟨RX6, "print", "(I)I"⟩
abbrev cX6_isPrint : ByteArray := prog_8_method_37_code
def yX6_isPrint : MethodName := ⟨RX6, "isPrint", "(I)Z"⟩
abbrev cX6_permitOf : ByteArray := prog_8_method_38_code
def yX6_permitOf : MethodName := ⟨RX6, "permitOf", "(I)I"⟩
abbrev cX6_isGood : ByteArray := prog_8_method_39_code
def yX6_isGood : MethodName := ⟨RX6, "isGood", "(I)Z"⟩
abbrev cX6_old : ByteArray := prog_8_method_40_code
def yX6_old : MethodName := ⟨RX6, "old", "()I"⟩
def RJx145de : String := "java/io/Serializable"
def TJx145de : u_T := fun k => match k with
  | _ => ("", "", "", false)
def tyJx145de : Nat → FieldType := fun k => match k with
  | _ => .int
theorem nmJx145de : ∀ a, a < 0 → ∀ b, b < 0 → a ≠ b → (TJx145de a).2.1 ≠ (TJx145de b).2.1 := by decide +kernel
theorem tyJx145de_ok : ∀ k, k < 0 → parseFieldDescriptor (TJx145de k).2.2.1 = some (tyJx145de k) := by decide +kernel
def RJx8e188 : String := "java/lang/Cloneable"
def TJx8e188 : u_T := fun k => match k with
  | _ => ("", "", "", false)
def tyJx8e188 : Nat → FieldType := fun k => match k with
  | _ => .int
theorem nmJx8e188 : ∀ a, a < 0 → ∀ b, b < 0 → a ≠ b → (TJx8e188 a).2.1 ≠ (TJx8e188 b).2.1 := by decide +kernel
theorem tyJx8e188_ok : ∀ k, k < 0 → parseFieldDescriptor (TJx8e188 k).2.2.1 = some (tyJx8e188 k) := by decide +kernel
def RJxab1ab : String := "java/lang/Iterable"
def TJxab1ab : u_T := fun k => match k with
  | _ => ("", "", "", false)
def tyJxab1ab : Nat → FieldType := fun k => match k with
  | _ => .int
theorem nmJxab1ab : ∀ a, a < 0 → ∀ b, b < 0 → a ≠ b → (TJxab1ab a).2.1 ≠ (TJxab1ab b).2.1 := by decide +kernel
theorem tyJxab1ab_ok : ∀ k, k < 0 → parseFieldDescriptor (TJxab1ab k).2.2.1 = some (tyJxab1ab k) := by decide +kernel
def RJ9 : String := "java/lang/Math"
def TJ9 : u_T := fun k => match k with
  | _ => ("", "", "", false)
def tyJ9 : Nat → FieldType := fun k => match k with
  | _ => .int
theorem nmJ9 : ∀ a, a < 0 → ∀ b, b < 0 → a ≠ b → (TJ9 a).2.1 ≠ (TJ9 b).2.1 := by decide +kernel
theorem tyJ9_ok : ∀ k, k < 0 → parseFieldDescriptor (TJ9 k).2.2.1 = some (tyJ9 k) := by decide +kernel
abbrev cJ9_max_7cf53 : ByteArray := prog_16_method_65_code
def yJ9_max_7cf53 : MethodName := ⟨RJ9, "max", "(II)I"⟩
abbrev cJ9_min_7cf53 : ByteArray := prog_16_method_69_code
def yJ9_min_7cf53 : MethodName := ⟨RJ9, "min", "(II)I"⟩
def RJ0 : String := "java/lang/String"
def TJ0 : u_T := fun k => match k with
  | _ => ("", "", "", false)
def tyJ0 : Nat → FieldType := fun k => match k with
  | _ => .int
theorem nmJ0 : ∀ a, a < 0 → ∀ b, b < 0 → a ≠ b → (TJ0 a).2.1 ≠ (TJ0 b).2.1 := by decide +kernel
theorem tyJ0_ok : ∀ k, k < 0 → parseFieldDescriptor (TJ0 k).2.2.1 = some (tyJ0 k) := by decide +kernel
def RJ10 : String := "java/lang/System"
def TJ10 : u_T := fun k => match k with
  | _ => ("", "", "", false)
def tyJ10 : Nat → FieldType := fun k => match k with
  | _ => .int
theorem nmJ10 : ∀ a, a < 0 → ∀ b, b < 0 → a ≠ b → (TJ10 a).2.1 ≠ (TJ10 b).2.1 := by decide +kernel
theorem tyJ10_ok : ∀ k, k < 0 → parseFieldDescriptor (TJ10 k).2.2.1 = some (tyJ10 k) := by decide +kernel
def RJxa1e45 : String := "java/util/AbstractCollection"
def TJxa1e45 : u_T := fun k => match k with
  | _ => ("", "", "", false)
def tyJxa1e45 : Nat → FieldType := fun k => match k with
  | _ => .int
theorem nmJxa1e45 : ∀ a, a < 0 → ∀ b, b < 0 → a ≠ b → (TJxa1e45 a).2.1 ≠ (TJxa1e45 b).2.1 := by decide +kernel
theorem tyJxa1e45_ok : ∀ k, k < 0 → parseFieldDescriptor (TJxa1e45 k).2.2.1 = some (tyJxa1e45 k) := by decide +kernel
abbrev cJxa1e45_init_da8c8 : ByteArray := prog_21_method_1_code
def yJxa1e45_init_da8c8 : MethodName := ⟨RJxa1e45, "<init>", "()V"⟩
def RJxc12de : String := "java/util/AbstractList"
def TJxc12de : u_T := fun k => match k with
  | _ => ("", "", "", false)
def tyJxc12de : Nat → FieldType := fun k => match k with
  | _ => .int
theorem nmJxc12de : ∀ a, a < 0 → ∀ b, b < 0 → a ≠ b → (TJxc12de a).2.1 ≠ (TJxc12de b).2.1 := by decide +kernel
theorem tyJxc12de_ok : ∀ k, k < 0 → parseFieldDescriptor (TJxc12de k).2.2.1 = some (tyJxc12de k) := by decide +kernel
abbrev cJxc12de_init_da8c8 : ByteArray := prog_22_method_1_code
def yJxc12de_init_da8c8 : MethodName := ⟨RJxc12de, "<init>", "()V"⟩
def RJx4a65c : String := "java/util/ArrayList"
def TJx4a65c : u_T := fun k => match k with
  | 0 => ("java/util/AbstractList", "modCount", "I", false)
  | 1 => ("java/util/ArrayList", "elementData", "[Ljava/lang/Object;", false)
  | _ => ("java/util/ArrayList", "size", "I", false)
def tyJx4a65c : Nat → FieldType := fun k => match k with
  | 0 => .int
  | 1 => .array (.object "java/lang/Object")
  | _ => .int
theorem nmJx4a65c : ∀ a, a < 3 → ∀ b, b < 3 → a ≠ b → (TJx4a65c a).2.1 ≠ (TJx4a65c b).2.1 := by decide +kernel
theorem tyJx4a65c_ok : ∀ k, k < 3 → parseFieldDescriptor (TJx4a65c k).2.2.1 = some (tyJx4a65c k) := by decide +kernel
abbrev cJx4a65c_init_da8c8 : ByteArray := prog_23_method_2_code
def yJx4a65c_init_da8c8 : MethodName := ⟨RJx4a65c, "<init>", "()V"⟩
abbrev cJx4a65c_grow_92f84 : ByteArray := prog_23_method_6_code
def yJx4a65c_grow_92f84 : MethodName := ⟨RJx4a65c, "grow", "(I)[Ljava/lang/Object;"⟩
abbrev cJx4a65c_grow_d5877 : ByteArray := prog_23_method_7_code
def yJx4a65c_grow_d5877 : MethodName := ⟨RJx4a65c, "grow", "()[Ljava/lang/Object;"⟩
abbrev cJx4a65c_size_8abf5 : ByteArray := prog_23_method_8_code
def yJx4a65c_size_8abf5 : MethodName := ⟨RJx4a65c, "size", "()I"⟩
abbrev cJx4a65c_elementData_915e3 : ByteArray := prog_23_method_18_code
def yJx4a65c_elementData_915e3 : MethodName := ⟨RJx4a65c, "elementData", "(I)Ljava/lang/Object;"⟩
abbrev cJx4a65c_get_915e3 : ByteArray := prog_23_method_20_code
def yJx4a65c_get_915e3 : MethodName := ⟨RJx4a65c, "get", "(I)Ljava/lang/Object;"⟩
abbrev cJx4a65c_add_72be8 : ByteArray := prog_23_method_24_code
def yJx4a65c_add_72be8 : MethodName := ⟨RJx4a65c, "add", "(Ljava/lang/Object;[Ljava/lang/Object;I)V"⟩
abbrev cJx4a65c_add_9ea2d : ByteArray := prog_23_method_25_code
def yJx4a65c_add_9ea2d : MethodName := ⟨RJx4a65c, "add", "(Ljava/lang/Object;)Z"⟩
def RJ7 : String := "java/util/Arrays"
def TJ7 : u_T := fun k => match k with
  | _ => ("", "", "", false)
def tyJ7 : Nat → FieldType := fun k => match k with
  | _ => .int
theorem nmJ7 : ∀ a, a < 0 → ∀ b, b < 0 → a ≠ b → (TJ7 a).2.1 ≠ (TJ7 b).2.1 := by decide +kernel
theorem tyJ7_ok : ∀ k, k < 0 → parseFieldDescriptor (TJ7 k).2.2.1 = some (tyJ7 k) := by decide +kernel
abbrev cJ7_fill_53178 : ByteArray := prog_24_method_103_code
def yJ7_fill_53178 : MethodName := ⟨RJ7, "fill", "([II)V"⟩
abbrev cJ7_copyOf_1904c : ByteArray := prog_24_method_119_code
def yJ7_copyOf_1904c : MethodName := ⟨RJ7, "copyOf", "([Ljava/lang/Object;I)[Ljava/lang/Object;"⟩
abbrev cJ7_copyOf_6403c : ByteArray := prog_24_method_120_code
def yJ7_copyOf_6403c : MethodName := ⟨RJ7, "copyOf", "([Ljava/lang/Object;ILjava/lang/Class;)[Ljava/lang/Object;"⟩
def RJx5ef63 : String := "java/util/Collection"
def TJx5ef63 : u_T := fun k => match k with
  | _ => ("", "", "", false)
def tyJx5ef63 : Nat → FieldType := fun k => match k with
  | _ => .int
theorem nmJx5ef63 : ∀ a, a < 0 → ∀ b, b < 0 → a ≠ b → (TJx5ef63 a).2.1 ≠ (TJx5ef63 b).2.1 := by decide +kernel
theorem tyJx5ef63_ok : ∀ k, k < 0 → parseFieldDescriptor (TJx5ef63 k).2.2.1 = some (tyJx5ef63 k) := by decide +kernel
def RJxbd725 : String := "java/util/List"
def TJxbd725 : u_T := fun k => match k with
  | _ => ("", "", "", false)
def tyJxbd725 : Nat → FieldType := fun k => match k with
  | _ => .int
theorem nmJxbd725 : ∀ a, a < 0 → ∀ b, b < 0 → a ≠ b → (TJxbd725 a).2.1 ≠ (TJxbd725 b).2.1 := by decide +kernel
theorem tyJxbd725_ok : ∀ k, k < 0 → parseFieldDescriptor (TJxbd725 k).2.2.1 = some (tyJxbd725 k) := by decide +kernel
def RJ15 : String := "java/util/Objects"
def TJ15 : u_T := fun k => match k with
  | _ => ("", "", "", false)
def tyJ15 : Nat → FieldType := fun k => match k with
  | _ => .int
theorem nmJ15 : ∀ a, a < 0 → ∀ b, b < 0 → a ≠ b → (TJ15 a).2.1 ≠ (TJ15 b).2.1 := by decide +kernel
theorem tyJ15_ok : ∀ k, k < 0 → parseFieldDescriptor (TJ15 k).2.2.1 = some (tyJ15 k) := by decide +kernel
abbrev cJ15_checkIndex_7cf53 : ByteArray := prog_27_method_17_code
def yJ15_checkIndex_7cf53 : MethodName := ⟨RJ15, "checkIndex", "(II)I"⟩
def RJxf0a74 : String := "java/util/RandomAccess"
def TJxf0a74 : u_T := fun k => match k with
  | _ => ("", "", "", false)
def tyJxf0a74 : Nat → FieldType := fun k => match k with
  | _ => .int
theorem nmJxf0a74 : ∀ a, a < 0 → ∀ b, b < 0 → a ≠ b → (TJxf0a74 a).2.1 ≠ (TJxf0a74 b).2.1 := by decide +kernel
theorem tyJxf0a74_ok : ∀ k, k < 0 → parseFieldDescriptor (TJxf0a74 k).2.2.1 = some (tyJxf0a74 k) := by decide +kernel
def RJxa66e6 : String := "java/util/SequencedCollection"
def TJxa66e6 : u_T := fun k => match k with
  | _ => ("", "", "", false)
def tyJxa66e6 : Nat → FieldType := fun k => match k with
  | _ => .int
theorem nmJxa66e6 : ∀ a, a < 0 → ∀ b, b < 0 → a ≠ b → (TJxa66e6 a).2.1 ≠ (TJxa66e6 b).2.1 := by decide +kernel
theorem tyJxa66e6_ok : ∀ k, k < 0 → parseFieldDescriptor (TJxa66e6 k).2.2.1 = some (tyJxa66e6 k) := by decide +kernel
def RJ8 : String := "jdk/internal/util/ArraysSupport"
def TJ8 : u_T := fun k => match k with
  | _ => ("", "", "", false)
def tyJ8 : Nat → FieldType := fun k => match k with
  | _ => .int
theorem nmJ8 : ∀ a, a < 0 → ∀ b, b < 0 → a ≠ b → (TJ8 a).2.1 ≠ (TJ8 b).2.1 := by decide +kernel
theorem tyJ8_ok : ∀ k, k < 0 → parseFieldDescriptor (TJ8 k).2.2.1 = some (tyJ8 k) := by decide +kernel
abbrev cJ8_newLength_cabcc : ByteArray := prog_30_method_27_code
def yJ8_newLength_cabcc : MethodName := ⟨RJ8, "newLength", "(III)I"⟩
abbrev cJ8_hugeLength_7cf53 : ByteArray := prog_30_method_28_code
def yJ8_hugeLength_7cf53 : MethodName := ⟨RJ8, "hugeLength", "(II)I"⟩
def RJ3 : String := "jdk/internal/util/Preconditions"
def TJ3 : u_T := fun k => match k with
  | _ => ("", "", "", false)
def tyJ3 : Nat → FieldType := fun k => match k with
  | _ => .int
theorem nmJ3 : ∀ a, a < 0 → ∀ b, b < 0 → a ≠ b → (TJ3 a).2.1 ≠ (TJ3 b).2.1 := by decide +kernel
theorem tyJ3_ok : ∀ k, k < 0 → parseFieldDescriptor (TJ3 k).2.2.1 = some (tyJ3 k) := by decide +kernel
abbrev cJ3_checkIndex_8e157 : ByteArray := prog_31_method_11_code
def yJ3_checkIndex_8e157 : MethodName := ⟨RJ3, "checkIndex", "(IILjava/util/function/BiFunction;)I"⟩
def RL : String := "HousePlansLaw"
abbrev cL_begin : ByteArray := method_3_code
def yL_begin : MethodName := ⟨RL, "begin", "(LHousePlans;[J)I"⟩
abbrev cL_tell : ByteArray := method_4_code
def yL_tell : MethodName := ⟨RL, "tell", "(LHousePlans;IIII[J)I"⟩
abbrev cL_setExit : ByteArray := method_5_code
def yL_setExit : MethodName := ⟨RL, "setExit", "(LHousePlans;IIIZ[J)I"⟩
abbrev cL_refer : ByteArray := method_6_code
def yL_refer : MethodName := ⟨RL, "refer", "(LHousePlans;IIIZ[J)I"⟩
abbrev cL_side : ByteArray := method_7_code
def yL_side : MethodName := ⟨RL, "side", "(LHousePlans;II[J)I"⟩
abbrev cL_hasExit : ByteArray := method_8_code
def yL_hasExit : MethodName := ⟨RL, "hasExit", "(LHousePlans;II[J)I"⟩
abbrev cL_rooms : ByteArray := method_9_code
def yL_rooms : MethodName := ⟨RL, "rooms", "(LHousePlans;I[J)I"⟩
abbrev cL_room : ByteArray := method_10_code
def yL_room : MethodName := ⟨RL, "room", "(LHousePlans;II[J)I"⟩
abbrev cL_size : ByteArray := method_11_code
def yL_size : MethodName := ⟨RL, "size", "(LHousePlans;II[J)I"⟩
abbrev cL_doorsOut : ByteArray := method_12_code
def yL_doorsOut : MethodName := ⟨RL, "doorsOut", "(LHousePlans;II[J)I"⟩
abbrev cL_doorThatHelps : ByteArray := method_13_code
def yL_doorThatHelps : MethodName := ⟨RL, "doorThatHelps", "(LHousePlans;II[J)I"⟩
abbrev cL_lock : ByteArray := method_14_code
def yL_lock : MethodName := ⟨RL, "lock", "(LHousePlans;II)I"⟩
abbrev cL_unlock : ByteArray := method_15_code
def yL_unlock : MethodName := ⟨RL, "unlock", "(LHousePlans;II)I"⟩
abbrev cL_lend : ByteArray := method_16_code
def yL_lend : MethodName := ⟨RL, "lend", "(LHousePlans;III[J)I"⟩
abbrev cL_canChange : ByteArray := method_17_code
def yL_canChange : MethodName := ⟨RL, "canChange", "(LHousePlans;I[J)I"⟩
abbrev cL_grant : ByteArray := method_18_code
def yL_grant : MethodName := ⟨RL, "grant", "(LHousePlans;I[J)I"⟩
abbrev cL_holds : ByteArray := method_19_code
def yL_holds : MethodName := ⟨RL, "holds", "(LHousePlans;I[J)I"⟩
abbrev cL_print : ByteArray := method_20_code
def yL_print : MethodName := ⟨RL, "print", "(LHousePlans;I[J)I"⟩
abbrev cL_permitOf : ByteArray := method_21_code
def yL_permitOf : MethodName := ⟨RL, "permitOf", "(LHousePlans;I[J)I"⟩
abbrev cL_isGood : ByteArray := method_22_code
def yL_isGood : MethodName := ⟨RL, "isGood", "(LHousePlans;I[J)I"⟩
abbrev cL_law : ByteArray := code
def yL_law : MethodName := ⟨RL, "law", "([I)Z"⟩
abbrev vwCl : List vw_C := [(RJx4a65c, TJx4a65c, 3), (RX0, TX0, 5), (RX1, TX1, 4), (RX2, TX2, 2), (RX3, TX3, 3), (RX4, TX4, 2), (RX5, TX5, 4), (RX6, TX6, 20)]
end
section
theorem dX0_init_0 : decode cX0_init 0 = .ok (.aload_n 0, 1) := by decide +kernel
theorem dX0_init_1 : decode cX0_init 1 = .ok (.invokespecial 3, 3) := by decide +kernel
theorem dX0_init_4 : decode cX0_init 4 = .ok (.aload_n 0, 1) := by decide +kernel
theorem dX0_init_5 : decode cX0_init 5 = .ok (.bipush 40, 2) := by decide +kernel
theorem dX0_init_7 : decode cX0_init 7 = .ok (.newarray .int, 2) := by decide +kernel
theorem dX0_init_9 : decode cX0_init 9 = .ok (.putfield 9, 3) := by decide +kernel
theorem dX0_init_12 : decode cX0_init 12 = .ok (.aload_n 0, 1) := by decide +kernel
theorem dX0_init_13 : decode cX0_init 13 = .ok (.bipush 25, 2) := by decide +kernel
theorem dX0_init_15 : decode cX0_init 15 = .ok (.newarray .boolean, 2) := by decide +kernel
theorem dX0_init_17 : decode cX0_init 17 = .ok (.putfield 15, 3) := by decide +kernel
theorem dX0_init_20 : decode cX0_init 20 = .ok (.aload_n 0, 1) := by decide +kernel
theorem dX0_init_21 : decode cX0_init 21 = .ok (.bipush 6, 2) := by decide +kernel
theorem dX0_init_23 : decode cX0_init 23 = .ok (.anewarray 10, 3) := by decide +kernel
theorem dX0_init_26 : decode cX0_init 26 = .ok (.putfield 19, 3) := by decide +kernel
theorem dX0_init_29 : decode cX0_init 29 = .ok (.aload_n 0, 1) := by decide +kernel
theorem dX0_init_30 : decode cX0_init 30 = .ok (.iconst (-1), 1) := by decide +kernel
theorem dX0_init_31 : decode cX0_init 31 = .ok (.putfield 23, 3) := by decide +kernel
theorem dX0_init_34 : decode cX0_init 34 = .ok (.aload_n 0, 1) := by decide +kernel
theorem dX0_init_35 : decode cX0_init 35 = .ok (.iconst (-1), 1) := by decide +kernel
theorem dX0_init_36 : decode cX0_init 36 = .ok (.putfield 27, 3) := by decide +kernel
theorem dX0_init_39 : decode cX0_init 39 = .ok (.aload_n 0, 1) := by decide +kernel
theorem dX0_init_40 : decode cX0_init 40 = .ok (.getfield 9, 3) := by decide +kernel
theorem dX0_init_43 : decode cX0_init 43 = .ok (.iconst (-1), 1) := by decide +kernel
theorem dX0_init_44 : decode cX0_init 44 = .ok (.invokestatic 30, 3) := by decide +kernel
theorem dX0_init_47 : decode cX0_init 47 = .ok (.return_, 1) := by decide +kernel
theorem dX0_changer_0 : decode cX0_changer 0 = .ok (.aload_n 0, 1) := by decide +kernel
theorem dX0_changer_1 : decode cX0_changer 1 = .ok (.getfield 27, 3) := by decide +kernel
theorem dX0_changer_4 : decode cX0_changer 4 = .ok (.iconst (-1), 1) := by decide +kernel
theorem dX0_changer_5 : decode cX0_changer 5 = .ok (.if_icmp .eq 10, 3) := by decide +kernel
theorem dX0_changer_8 : decode cX0_changer 8 = .ok (.aload_n 0, 1) := by decide +kernel
theorem dX0_changer_9 : decode cX0_changer 9 = .ok (.getfield 27, 3) := by decide +kernel
theorem dX0_changer_12 : decode cX0_changer 12 = .ok (.goto 7, 3) := by decide +kernel
theorem dX0_changer_15 : decode cX0_changer 15 = .ok (.aload_n 0, 1) := by decide +kernel
theorem dX0_changer_16 : decode cX0_changer 16 = .ok (.getfield 23, 3) := by decide +kernel
theorem dX0_changer_19 : decode cX0_changer 19 = .ok (.ireturn, 1) := by decide +kernel
theorem dX0_sideNow_0 : decode cX0_sideNow 0 = .ok (.aload_n 0, 1) := by decide +kernel
theorem dX0_sideNow_1 : decode cX0_sideNow 1 = .ok (.iload_n 1, 1) := by decide +kernel
theorem dX0_sideNow_2 : decode cX0_sideNow 2 = .ok (.iconst 0, 1) := by decide +kernel
theorem dX0_sideNow_3 : decode cX0_sideNow 3 = .ok (.invokestatic 36, 3) := by decide +kernel
theorem dX0_sideNow_6 : decode cX0_sideNow 6 = .ok (.ireturn, 1) := by decide +kernel
theorem dX0_exitNow_0 : decode cX0_exitNow 0 = .ok (.aload_n 0, 1) := by decide +kernel
theorem dX0_exitNow_1 : decode cX0_exitNow 1 = .ok (.iload_n 1, 1) := by decide +kernel
theorem dX0_exitNow_2 : decode cX0_exitNow 2 = .ok (.iconst 0, 1) := by decide +kernel
theorem dX0_exitNow_3 : decode cX0_exitNow 3 = .ok (.invokestatic 40, 3) := by decide +kernel
theorem dX0_exitNow_6 : decode cX0_exitNow 6 = .ok (.ireturn, 1) := by decide +kernel
theorem dX0_leadsTo_0 : decode cX0_leadsTo 0 = .ok (.aload_n 0, 1) := by decide +kernel
theorem dX0_leadsTo_1 : decode cX0_leadsTo 1 = .ok (.aload_n 1, 1) := by decide +kernel
theorem dX0_leadsTo_2 : decode cX0_leadsTo 2 = .ok (.iconst 0, 1) := by decide +kernel
theorem dX0_leadsTo_3 : decode cX0_leadsTo 3 = .ok (.invokestatic 44, 3) := by decide +kernel
theorem dX0_leadsTo_6 : decode cX0_leadsTo 6 = .ok (.ireturn, 1) := by decide +kernel
theorem dX0_sideIn_0 : decode cX0_sideIn 0 = .ok (.aload_n 0, 1) := by decide +kernel
theorem dX0_sideIn_1 : decode cX0_sideIn 1 = .ok (.getfield 9, 3) := by decide +kernel
theorem dX0_sideIn_4 : decode cX0_sideIn 4 = .ok (.iload_n 1, 1) := by decide +kernel
theorem dX0_sideIn_5 : decode cX0_sideIn 5 = .ok (.iaload, 1) := by decide +kernel
theorem dX0_sideIn_6 : decode cX0_sideIn 6 = .ok (.iconst (-1), 1) := by decide +kernel
theorem dX0_sideIn_7 : decode cX0_sideIn 7 = .ok (.if_icmp .ne 9, 3) := by decide +kernel
theorem dX0_sideIn_10 : decode cX0_sideIn 10 = .ok (.iload_n 2, 1) := by decide +kernel
theorem dX0_sideIn_11 : decode cX0_sideIn 11 = .ok (.bipush 6, 2) := by decide +kernel
theorem dX0_sideIn_13 : decode cX0_sideIn 13 = .ok (.if_icmp .lt 10, 3) := by decide +kernel
theorem dX0_sideIn_16 : decode cX0_sideIn 16 = .ok (.aload_n 0, 1) := by decide +kernel
theorem dX0_sideIn_17 : decode cX0_sideIn 17 = .ok (.getfield 9, 3) := by decide +kernel
theorem dX0_sideIn_20 : decode cX0_sideIn 20 = .ok (.iload_n 1, 1) := by decide +kernel
theorem dX0_sideIn_21 : decode cX0_sideIn 21 = .ok (.iaload, 1) := by decide +kernel
theorem dX0_sideIn_22 : decode cX0_sideIn 22 = .ok (.ireturn, 1) := by decide +kernel
theorem dX0_sideIn_23 : decode cX0_sideIn 23 = .ok (.aload_n 0, 1) := by decide +kernel
theorem dX0_sideIn_24 : decode cX0_sideIn 24 = .ok (.getfield 19, 3) := by decide +kernel
theorem dX0_sideIn_27 : decode cX0_sideIn 27 = .ok (.astore_n 3, 1) := by decide +kernel
theorem dX0_sideIn_28 : decode cX0_sideIn 28 = .ok (.aload_n 3, 1) := by decide +kernel
theorem dX0_sideIn_29 : decode cX0_sideIn 29 = .ok (.arraylength, 1) := by decide +kernel
theorem dX0_sideIn_30 : decode cX0_sideIn 30 = .ok (.istore 4, 2) := by decide +kernel
theorem dX0_sideIn_32 : decode cX0_sideIn 32 = .ok (.iconst 0, 1) := by decide +kernel
theorem dX0_sideIn_33 : decode cX0_sideIn 33 = .ok (.istore 5, 2) := by decide +kernel
theorem dX0_sideIn_35 : decode cX0_sideIn 35 = .ok (.iload 5, 2) := by decide +kernel
theorem dX0_sideIn_37 : decode cX0_sideIn 37 = .ok (.iload 4, 2) := by decide +kernel
theorem dX0_sideIn_39 : decode cX0_sideIn 39 = .ok (.if_icmp .ge 44, 3) := by decide +kernel
theorem dX0_sideIn_42 : decode cX0_sideIn 42 = .ok (.aload_n 3, 1) := by decide +kernel
theorem dX0_sideIn_43 : decode cX0_sideIn 43 = .ok (.iload 5, 2) := by decide +kernel
theorem dX0_sideIn_45 : decode cX0_sideIn 45 = .ok (.aaload, 1) := by decide +kernel
theorem dX0_sideIn_46 : decode cX0_sideIn 46 = .ok (.astore 6, 2) := by decide +kernel
theorem dX0_sideIn_48 : decode cX0_sideIn 48 = .ok (.aload 6, 2) := by decide +kernel
theorem dX0_sideIn_50 : decode cX0_sideIn 50 = .ok (.ifnonnull 7, 3) := by decide +kernel
theorem dX0_sideIn_53 : decode cX0_sideIn 53 = .ok (.iconst (-1), 1) := by decide +kernel
theorem dX0_sideIn_54 : decode cX0_sideIn 54 = .ok (.goto 12, 3) := by decide +kernel
theorem dX0_sideIn_57 : decode cX0_sideIn 57 = .ok (.aload 6, 2) := by decide +kernel
theorem dX0_sideIn_59 : decode cX0_sideIn 59 = .ok (.iload_n 1, 1) := by decide +kernel
theorem dX0_sideIn_60 : decode cX0_sideIn 60 = .ok (.iload_n 2, 1) := by decide +kernel
theorem dX0_sideIn_61 : decode cX0_sideIn 61 = .ok (.iconst 1, 1) := by decide +kernel
theorem dX0_sideIn_62 : decode cX0_sideIn 62 = .ok (.iadd, 1) := by decide +kernel
theorem dX0_sideIn_63 : decode cX0_sideIn 63 = .ok (.invokestatic 36, 3) := by decide +kernel
theorem dX0_sideIn_66 : decode cX0_sideIn 66 = .ok (.istore 7, 2) := by decide +kernel
theorem dX0_sideIn_68 : decode cX0_sideIn 68 = .ok (.iload 7, 2) := by decide +kernel
theorem dX0_sideIn_70 : decode cX0_sideIn 70 = .ok (.iconst (-1), 1) := by decide +kernel
theorem dX0_sideIn_71 : decode cX0_sideIn 71 = .ok (.if_icmp .eq 6, 3) := by decide +kernel
theorem dX0_sideIn_74 : decode cX0_sideIn 74 = .ok (.iload 7, 2) := by decide +kernel
theorem dX0_sideIn_76 : decode cX0_sideIn 76 = .ok (.ireturn, 1) := by decide +kernel
theorem dX0_sideIn_77 : decode cX0_sideIn 77 = .ok (.iinc 5 1, 3) := by decide +kernel
theorem dX0_sideIn_80 : decode cX0_sideIn 80 = .ok (.goto (-45), 3) := by decide +kernel
theorem dX0_sideIn_83 : decode cX0_sideIn 83 = .ok (.iconst (-1), 1) := by decide +kernel
theorem dX0_sideIn_84 : decode cX0_sideIn 84 = .ok (.ireturn, 1) := by decide +kernel
theorem dX0_exitIn_0 : decode cX0_exitIn 0 = .ok (.aload_n 0, 1) := by decide +kernel
theorem dX0_exitIn_1 : decode cX0_exitIn 1 = .ok (.getfield 15, 3) := by decide +kernel
theorem dX0_exitIn_4 : decode cX0_exitIn 4 = .ok (.iload_n 1, 1) := by decide +kernel
theorem dX0_exitIn_5 : decode cX0_exitIn 5 = .ok (.baload, 1) := by decide +kernel
theorem dX0_exitIn_6 : decode cX0_exitIn 6 = .ok (.ifCond .ne 9, 3) := by decide +kernel
theorem dX0_exitIn_9 : decode cX0_exitIn 9 = .ok (.iload_n 2, 1) := by decide +kernel
theorem dX0_exitIn_10 : decode cX0_exitIn 10 = .ok (.bipush 6, 2) := by decide +kernel
theorem dX0_exitIn_12 : decode cX0_exitIn 12 = .ok (.if_icmp .lt 10, 3) := by decide +kernel
theorem dX0_exitIn_15 : decode cX0_exitIn 15 = .ok (.aload_n 0, 1) := by decide +kernel
theorem dX0_exitIn_16 : decode cX0_exitIn 16 = .ok (.getfield 15, 3) := by decide +kernel
theorem dX0_exitIn_19 : decode cX0_exitIn 19 = .ok (.iload_n 1, 1) := by decide +kernel
theorem dX0_exitIn_20 : decode cX0_exitIn 20 = .ok (.baload, 1) := by decide +kernel
theorem dX0_exitIn_21 : decode cX0_exitIn 21 = .ok (.ireturn, 1) := by decide +kernel
theorem dX0_exitIn_22 : decode cX0_exitIn 22 = .ok (.aload_n 0, 1) := by decide +kernel
theorem dX0_exitIn_23 : decode cX0_exitIn 23 = .ok (.getfield 19, 3) := by decide +kernel
theorem dX0_exitIn_26 : decode cX0_exitIn 26 = .ok (.astore_n 3, 1) := by decide +kernel
theorem dX0_exitIn_27 : decode cX0_exitIn 27 = .ok (.aload_n 3, 1) := by decide +kernel
theorem dX0_exitIn_28 : decode cX0_exitIn 28 = .ok (.arraylength, 1) := by decide +kernel
theorem dX0_exitIn_29 : decode cX0_exitIn 29 = .ok (.istore 4, 2) := by decide +kernel
theorem dX0_exitIn_31 : decode cX0_exitIn 31 = .ok (.iconst 0, 1) := by decide +kernel
theorem dX0_exitIn_32 : decode cX0_exitIn 32 = .ok (.istore 5, 2) := by decide +kernel
theorem dX0_exitIn_34 : decode cX0_exitIn 34 = .ok (.iload 5, 2) := by decide +kernel
theorem dX0_exitIn_36 : decode cX0_exitIn 36 = .ok (.iload 4, 2) := by decide +kernel
theorem dX0_exitIn_38 : decode cX0_exitIn 38 = .ok (.if_icmp .ge 34, 3) := by decide +kernel
theorem dX0_exitIn_41 : decode cX0_exitIn 41 = .ok (.aload_n 3, 1) := by decide +kernel
theorem dX0_exitIn_42 : decode cX0_exitIn 42 = .ok (.iload 5, 2) := by decide +kernel
theorem dX0_exitIn_44 : decode cX0_exitIn 44 = .ok (.aaload, 1) := by decide +kernel
theorem dX0_exitIn_45 : decode cX0_exitIn 45 = .ok (.astore 6, 2) := by decide +kernel
theorem dX0_exitIn_47 : decode cX0_exitIn 47 = .ok (.aload 6, 2) := by decide +kernel
theorem dX0_exitIn_49 : decode cX0_exitIn 49 = .ok (.ifnull 17, 3) := by decide +kernel
theorem dX0_exitIn_52 : decode cX0_exitIn 52 = .ok (.aload 6, 2) := by decide +kernel
theorem dX0_exitIn_54 : decode cX0_exitIn 54 = .ok (.iload_n 1, 1) := by decide +kernel
theorem dX0_exitIn_55 : decode cX0_exitIn 55 = .ok (.iload_n 2, 1) := by decide +kernel
theorem dX0_exitIn_56 : decode cX0_exitIn 56 = .ok (.iconst 1, 1) := by decide +kernel
theorem dX0_exitIn_57 : decode cX0_exitIn 57 = .ok (.iadd, 1) := by decide +kernel
theorem dX0_exitIn_58 : decode cX0_exitIn 58 = .ok (.invokestatic 40, 3) := by decide +kernel
theorem dX0_exitIn_61 : decode cX0_exitIn 61 = .ok (.ifCond .eq 5, 3) := by decide +kernel
theorem dX0_exitIn_64 : decode cX0_exitIn 64 = .ok (.iconst 1, 1) := by decide +kernel
theorem dX0_exitIn_65 : decode cX0_exitIn 65 = .ok (.ireturn, 1) := by decide +kernel
theorem dX0_exitIn_66 : decode cX0_exitIn 66 = .ok (.iinc 5 1, 3) := by decide +kernel
theorem dX0_exitIn_69 : decode cX0_exitIn 69 = .ok (.goto (-35), 3) := by decide +kernel
theorem dX0_exitIn_72 : decode cX0_exitIn 72 = .ok (.iconst 0, 1) := by decide +kernel
theorem dX0_exitIn_73 : decode cX0_exitIn 73 = .ok (.ireturn, 1) := by decide +kernel
theorem dX0_leads_0 : decode cX0_leads 0 = .ok (.aload_n 0, 1) := by decide +kernel
theorem dX0_leads_1 : decode cX0_leads 1 = .ok (.aload_n 1, 1) := by decide +kernel
theorem dX0_leads_2 : decode cX0_leads 2 = .ok (.if_acmp .eq 9, 3) := by decide +kernel
theorem dX0_leads_5 : decode cX0_leads 5 = .ok (.iload_n 2, 1) := by decide +kernel
theorem dX0_leads_6 : decode cX0_leads 6 = .ok (.bipush 6, 2) := by decide +kernel
theorem dX0_leads_8 : decode cX0_leads 8 = .ok (.if_icmp .lt 14, 3) := by decide +kernel
theorem dX0_leads_11 : decode cX0_leads 11 = .ok (.aload_n 0, 1) := by decide +kernel
theorem dX0_leads_12 : decode cX0_leads 12 = .ok (.aload_n 1, 1) := by decide +kernel
theorem dX0_leads_13 : decode cX0_leads 13 = .ok (.if_acmp .ne 7, 3) := by decide +kernel
theorem dX0_leads_16 : decode cX0_leads 16 = .ok (.iconst 1, 1) := by decide +kernel
theorem dX0_leads_17 : decode cX0_leads 17 = .ok (.goto 4, 3) := by decide +kernel
theorem dX0_leads_20 : decode cX0_leads 20 = .ok (.iconst 0, 1) := by decide +kernel
theorem dX0_leads_21 : decode cX0_leads 21 = .ok (.ireturn, 1) := by decide +kernel
theorem dX0_leads_22 : decode cX0_leads 22 = .ok (.aload_n 0, 1) := by decide +kernel
theorem dX0_leads_23 : decode cX0_leads 23 = .ok (.getfield 19, 3) := by decide +kernel
theorem dX0_leads_26 : decode cX0_leads 26 = .ok (.astore_n 3, 1) := by decide +kernel
theorem dX0_leads_27 : decode cX0_leads 27 = .ok (.aload_n 3, 1) := by decide +kernel
theorem dX0_leads_28 : decode cX0_leads 28 = .ok (.arraylength, 1) := by decide +kernel
theorem dX0_leads_29 : decode cX0_leads 29 = .ok (.istore 4, 2) := by decide +kernel
theorem dX0_leads_31 : decode cX0_leads 31 = .ok (.iconst 0, 1) := by decide +kernel
theorem dX0_leads_32 : decode cX0_leads 32 = .ok (.istore 5, 2) := by decide +kernel
theorem dX0_leads_34 : decode cX0_leads 34 = .ok (.iload 5, 2) := by decide +kernel
theorem dX0_leads_36 : decode cX0_leads 36 = .ok (.iload 4, 2) := by decide +kernel
theorem dX0_leads_38 : decode cX0_leads 38 = .ok (.if_icmp .ge 34, 3) := by decide +kernel
theorem dX0_leads_41 : decode cX0_leads 41 = .ok (.aload_n 3, 1) := by decide +kernel
theorem dX0_leads_42 : decode cX0_leads 42 = .ok (.iload 5, 2) := by decide +kernel
theorem dX0_leads_44 : decode cX0_leads 44 = .ok (.aaload, 1) := by decide +kernel
theorem dX0_leads_45 : decode cX0_leads 45 = .ok (.astore 6, 2) := by decide +kernel
theorem dX0_leads_47 : decode cX0_leads 47 = .ok (.aload 6, 2) := by decide +kernel
theorem dX0_leads_49 : decode cX0_leads 49 = .ok (.ifnull 17, 3) := by decide +kernel
theorem dX0_leads_52 : decode cX0_leads 52 = .ok (.aload 6, 2) := by decide +kernel
theorem dX0_leads_54 : decode cX0_leads 54 = .ok (.aload_n 1, 1) := by decide +kernel
theorem dX0_leads_55 : decode cX0_leads 55 = .ok (.iload_n 2, 1) := by decide +kernel
theorem dX0_leads_56 : decode cX0_leads 56 = .ok (.iconst 1, 1) := by decide +kernel
theorem dX0_leads_57 : decode cX0_leads 57 = .ok (.iadd, 1) := by decide +kernel
theorem dX0_leads_58 : decode cX0_leads 58 = .ok (.invokestatic 44, 3) := by decide +kernel
theorem dX0_leads_61 : decode cX0_leads 61 = .ok (.ifCond .eq 5, 3) := by decide +kernel
theorem dX0_leads_64 : decode cX0_leads 64 = .ok (.iconst 1, 1) := by decide +kernel
theorem dX0_leads_65 : decode cX0_leads 65 = .ok (.ireturn, 1) := by decide +kernel
theorem dX0_leads_66 : decode cX0_leads 66 = .ok (.iinc 5 1, 3) := by decide +kernel
theorem dX0_leads_69 : decode cX0_leads 69 = .ok (.goto (-35), 3) := by decide +kernel
theorem dX0_leads_72 : decode cX0_leads 72 = .ok (.iconst 0, 1) := by decide +kernel
theorem dX0_leads_73 : decode cX0_leads 73 = .ok (.ireturn, 1) := by decide +kernel
theorem dX1_init_0 : decode cX1_init 0 = .ok (.aload_n 0, 1) := by decide +kernel
theorem dX1_init_1 : decode cX1_init 1 = .ok (.invokespecial 3, 3) := by decide +kernel
theorem dX1_init_4 : decode cX1_init 4 = .ok (.aload_n 0, 1) := by decide +kernel
theorem dX1_init_5 : decode cX1_init 5 = .ok (.new 9, 3) := by decide +kernel
theorem dX1_init_8 : decode cX1_init 8 = .ok (.dup, 1) := by decide +kernel
theorem dX1_init_9 : decode cX1_init 9 = .ok (.invokespecial 11, 3) := by decide +kernel
theorem dX1_init_12 : decode cX1_init 12 = .ok (.putfield 12, 3) := by decide +kernel
theorem dX1_init_15 : decode cX1_init 15 = .ok (.aload_n 0, 1) := by decide +kernel
theorem dX1_init_16 : decode cX1_init 16 = .ok (.bipush 25, 2) := by decide +kernel
theorem dX1_init_18 : decode cX1_init 18 = .ok (.newarray .int, 2) := by decide +kernel
theorem dX1_init_20 : decode cX1_init 20 = .ok (.putfield 18, 3) := by decide +kernel
theorem dX1_init_23 : decode cX1_init 23 = .ok (.aload_n 0, 1) := by decide +kernel
theorem dX1_init_24 : decode cX1_init 24 = .ok (.bipush 25, 2) := by decide +kernel
theorem dX1_init_26 : decode cX1_init 26 = .ok (.newarray .int, 2) := by decide +kernel
theorem dX1_init_28 : decode cX1_init 28 = .ok (.putfield 22, 3) := by decide +kernel
theorem dX1_init_31 : decode cX1_init 31 = .ok (.aload_n 0, 1) := by decide +kernel
theorem dX1_init_32 : decode cX1_init 32 = .ok (.bipush 25, 2) := by decide +kernel
theorem dX1_init_34 : decode cX1_init 34 = .ok (.newarray .int, 2) := by decide +kernel
theorem dX1_init_36 : decode cX1_init 36 = .ok (.putfield 25, 3) := by decide +kernel
theorem dX1_init_39 : decode cX1_init 39 = .ok (.return_, 1) := by decide +kernel
theorem dX1_lookAt_0 : decode cX1_lookAt 0 = .ok (.aload_n 0, 1) := by decide +kernel
theorem dX1_lookAt_1 : decode cX1_lookAt 1 = .ok (.getfield 12, 3) := by decide +kernel
theorem dX1_lookAt_4 : decode cX1_lookAt 4 = .ok (.aload_n 1, 1) := by decide +kernel
theorem dX1_lookAt_5 : decode cX1_lookAt 5 = .ok (.invokevirtual 28, 3) := by decide +kernel
theorem dX1_lookAt_8 : decode cX1_lookAt 8 = .ok (.aload_n 0, 1) := by decide +kernel
theorem dX1_lookAt_9 : decode cX1_lookAt 9 = .ok (.invokevirtual 32, 3) := by decide +kernel
theorem dX1_lookAt_12 : decode cX1_lookAt 12 = .ok (.aload_n 0, 1) := by decide +kernel
theorem dX1_lookAt_13 : decode cX1_lookAt 13 = .ok (.invokevirtual 35, 3) := by decide +kernel
theorem dX1_lookAt_16 : decode cX1_lookAt 16 = .ok (.return_, 1) := by decide +kernel
theorem dX1_findRooms_0 : decode cX1_findRooms 0 = .ok (.iconst 0, 1) := by decide +kernel
theorem dX1_findRooms_1 : decode cX1_findRooms 1 = .ok (.istore_n 1, 1) := by decide +kernel
theorem dX1_findRooms_2 : decode cX1_findRooms 2 = .ok (.iload_n 1, 1) := by decide +kernel
theorem dX1_findRooms_3 : decode cX1_findRooms 3 = .ok (.bipush 25, 2) := by decide +kernel
theorem dX1_findRooms_5 : decode cX1_findRooms 5 = .ok (.if_icmp .ge 16, 3) := by decide +kernel
theorem dX1_findRooms_8 : decode cX1_findRooms 8 = .ok (.aload_n 0, 1) := by decide +kernel
theorem dX1_findRooms_9 : decode cX1_findRooms 9 = .ok (.getfield 18, 3) := by decide +kernel
theorem dX1_findRooms_12 : decode cX1_findRooms 12 = .ok (.iload_n 1, 1) := by decide +kernel
theorem dX1_findRooms_13 : decode cX1_findRooms 13 = .ok (.iload_n 1, 1) := by decide +kernel
theorem dX1_findRooms_14 : decode cX1_findRooms 14 = .ok (.iastore, 1) := by decide +kernel
theorem dX1_findRooms_15 : decode cX1_findRooms 15 = .ok (.iinc 1 1, 3) := by decide +kernel
theorem dX1_findRooms_18 : decode cX1_findRooms 18 = .ok (.goto (-16), 3) := by decide +kernel
theorem dX1_findRooms_21 : decode cX1_findRooms 21 = .ok (.iconst 0, 1) := by decide +kernel
theorem dX1_findRooms_22 : decode cX1_findRooms 22 = .ok (.istore_n 1, 1) := by decide +kernel
theorem dX1_findRooms_23 : decode cX1_findRooms 23 = .ok (.iload_n 1, 1) := by decide +kernel
theorem dX1_findRooms_24 : decode cX1_findRooms 24 = .ok (.bipush 40, 2) := by decide +kernel
theorem dX1_findRooms_26 : decode cX1_findRooms 26 = .ok (.if_icmp .ge 56, 3) := by decide +kernel
theorem dX1_findRooms_29 : decode cX1_findRooms 29 = .ok (.aload_n 0, 1) := by decide +kernel
theorem dX1_findRooms_30 : decode cX1_findRooms 30 = .ok (.getfield 12, 3) := by decide +kernel
theorem dX1_findRooms_33 : decode cX1_findRooms 33 = .ok (.getfield 38, 3) := by decide +kernel
theorem dX1_findRooms_36 : decode cX1_findRooms 36 = .ok (.iload_n 1, 1) := by decide +kernel
theorem dX1_findRooms_37 : decode cX1_findRooms 37 = .ok (.iaload, 1) := by decide +kernel
theorem dX1_findRooms_38 : decode cX1_findRooms 38 = .ok (.iconst (-1), 1) := by decide +kernel
theorem dX1_findRooms_39 : decode cX1_findRooms 39 = .ok (.if_icmp .eq 15, 3) := by decide +kernel
theorem dX1_findRooms_42 : decode cX1_findRooms 42 = .ok (.aload_n 0, 1) := by decide +kernel
theorem dX1_findRooms_43 : decode cX1_findRooms 43 = .ok (.getfield 12, 3) := by decide +kernel
theorem dX1_findRooms_46 : decode cX1_findRooms 46 = .ok (.getfield 38, 3) := by decide +kernel
theorem dX1_findRooms_49 : decode cX1_findRooms 49 = .ok (.iload_n 1, 1) := by decide +kernel
theorem dX1_findRooms_50 : decode cX1_findRooms 50 = .ok (.iaload, 1) := by decide +kernel
theorem dX1_findRooms_51 : decode cX1_findRooms 51 = .ok (.ifCond .ne 25, 3) := by decide +kernel
theorem dX1_findRooms_54 : decode cX1_findRooms 54 = .ok (.aload_n 0, 1) := by decide +kernel
theorem dX1_findRooms_55 : decode cX1_findRooms 55 = .ok (.aload_n 0, 1) := by decide +kernel
theorem dX1_findRooms_56 : decode cX1_findRooms 56 = .ok (.getfield 18, 3) := by decide +kernel
theorem dX1_findRooms_59 : decode cX1_findRooms 59 = .ok (.iload_n 1, 1) := by decide +kernel
theorem dX1_findRooms_60 : decode cX1_findRooms 60 = .ok (.invokestatic 41, 3) := by decide +kernel
theorem dX1_findRooms_63 : decode cX1_findRooms 63 = .ok (.iaload, 1) := by decide +kernel
theorem dX1_findRooms_64 : decode cX1_findRooms 64 = .ok (.aload_n 0, 1) := by decide +kernel
theorem dX1_findRooms_65 : decode cX1_findRooms 65 = .ok (.getfield 18, 3) := by decide +kernel
theorem dX1_findRooms_68 : decode cX1_findRooms 68 = .ok (.iload_n 1, 1) := by decide +kernel
theorem dX1_findRooms_69 : decode cX1_findRooms 69 = .ok (.invokestatic 45, 3) := by decide +kernel
theorem dX1_findRooms_72 : decode cX1_findRooms 72 = .ok (.iaload, 1) := by decide +kernel
theorem dX1_findRooms_73 : decode cX1_findRooms 73 = .ok (.invokevirtual 48, 3) := by decide +kernel
theorem dX1_findRooms_76 : decode cX1_findRooms 76 = .ok (.iinc 1 1, 3) := by decide +kernel
theorem dX1_findRooms_79 : decode cX1_findRooms 79 = .ok (.goto (-56), 3) := by decide +kernel
theorem dX1_findRooms_82 : decode cX1_findRooms 82 = .ok (.return_, 1) := by decide +kernel
theorem dX1_join_0 : decode cX1_join 0 = .ok (.iload_n 1, 1) := by decide +kernel
theorem dX1_join_1 : decode cX1_join 1 = .ok (.iload_n 2, 1) := by decide +kernel
theorem dX1_join_2 : decode cX1_join 2 = .ok (.invokestatic 52, 3) := by decide +kernel
theorem dX1_join_5 : decode cX1_join 5 = .ok (.istore_n 3, 1) := by decide +kernel
theorem dX1_join_6 : decode cX1_join 6 = .ok (.iload_n 1, 1) := by decide +kernel
theorem dX1_join_7 : decode cX1_join 7 = .ok (.iload_n 2, 1) := by decide +kernel
theorem dX1_join_8 : decode cX1_join 8 = .ok (.invokestatic 58, 3) := by decide +kernel
theorem dX1_join_11 : decode cX1_join 11 = .ok (.istore 4, 2) := by decide +kernel
theorem dX1_join_13 : decode cX1_join 13 = .ok (.iconst 0, 1) := by decide +kernel
theorem dX1_join_14 : decode cX1_join 14 = .ok (.istore 5, 2) := by decide +kernel
theorem dX1_join_16 : decode cX1_join 16 = .ok (.iload 5, 2) := by decide +kernel
theorem dX1_join_18 : decode cX1_join 18 = .ok (.bipush 25, 2) := by decide +kernel
theorem dX1_join_20 : decode cX1_join 20 = .ok (.if_icmp .ge 29, 3) := by decide +kernel
theorem dX1_join_23 : decode cX1_join 23 = .ok (.aload_n 0, 1) := by decide +kernel
theorem dX1_join_24 : decode cX1_join 24 = .ok (.getfield 18, 3) := by decide +kernel
theorem dX1_join_27 : decode cX1_join 27 = .ok (.iload 5, 2) := by decide +kernel
theorem dX1_join_29 : decode cX1_join 29 = .ok (.iaload, 1) := by decide +kernel
theorem dX1_join_30 : decode cX1_join 30 = .ok (.iload 4, 2) := by decide +kernel
theorem dX1_join_32 : decode cX1_join 32 = .ok (.if_icmp .ne 11, 3) := by decide +kernel
theorem dX1_join_35 : decode cX1_join 35 = .ok (.aload_n 0, 1) := by decide +kernel
theorem dX1_join_36 : decode cX1_join 36 = .ok (.getfield 18, 3) := by decide +kernel
theorem dX1_join_39 : decode cX1_join 39 = .ok (.iload 5, 2) := by decide +kernel
theorem dX1_join_41 : decode cX1_join 41 = .ok (.iload_n 3, 1) := by decide +kernel
theorem dX1_join_42 : decode cX1_join 42 = .ok (.iastore, 1) := by decide +kernel
theorem dX1_join_43 : decode cX1_join 43 = .ok (.iinc 5 1, 3) := by decide +kernel
theorem dX1_join_46 : decode cX1_join 46 = .ok (.goto (-30), 3) := by decide +kernel
theorem dX1_join_49 : decode cX1_join 49 = .ok (.return_, 1) := by decide +kernel
theorem dX1_findWaysOut_0 : decode cX1_findWaysOut 0 = .ok (.aload_n 0, 1) := by decide +kernel
theorem dX1_findWaysOut_1 : decode cX1_findWaysOut 1 = .ok (.getfield 22, 3) := by decide +kernel
theorem dX1_findWaysOut_4 : decode cX1_findWaysOut 4 = .ok (.iconst (-1), 1) := by decide +kernel
theorem dX1_findWaysOut_5 : decode cX1_findWaysOut 5 = .ok (.invokestatic 61, 3) := by decide +kernel
theorem dX1_findWaysOut_8 : decode cX1_findWaysOut 8 = .ok (.iconst 0, 1) := by decide +kernel
theorem dX1_findWaysOut_9 : decode cX1_findWaysOut 9 = .ok (.istore_n 1, 1) := by decide +kernel
theorem dX1_findWaysOut_10 : decode cX1_findWaysOut 10 = .ok (.iload_n 1, 1) := by decide +kernel
theorem dX1_findWaysOut_11 : decode cX1_findWaysOut 11 = .ok (.bipush 25, 2) := by decide +kernel
theorem dX1_findWaysOut_13 : decode cX1_findWaysOut 13 = .ok (.if_icmp .ge 33, 3) := by decide +kernel
theorem dX1_findWaysOut_16 : decode cX1_findWaysOut 16 = .ok (.aload_n 0, 1) := by decide +kernel
theorem dX1_findWaysOut_17 : decode cX1_findWaysOut 17 = .ok (.getfield 12, 3) := by decide +kernel
theorem dX1_findWaysOut_20 : decode cX1_findWaysOut 20 = .ok (.getfield 67, 3) := by decide +kernel
theorem dX1_findWaysOut_23 : decode cX1_findWaysOut 23 = .ok (.iload_n 1, 1) := by decide +kernel
theorem dX1_findWaysOut_24 : decode cX1_findWaysOut 24 = .ok (.baload, 1) := by decide +kernel
theorem dX1_findWaysOut_25 : decode cX1_findWaysOut 25 = .ok (.ifCond .eq 15, 3) := by decide +kernel
theorem dX1_findWaysOut_28 : decode cX1_findWaysOut 28 = .ok (.aload_n 0, 1) := by decide +kernel
theorem dX1_findWaysOut_29 : decode cX1_findWaysOut 29 = .ok (.getfield 22, 3) := by decide +kernel
theorem dX1_findWaysOut_32 : decode cX1_findWaysOut 32 = .ok (.aload_n 0, 1) := by decide +kernel
theorem dX1_findWaysOut_33 : decode cX1_findWaysOut 33 = .ok (.getfield 18, 3) := by decide +kernel
theorem dX1_findWaysOut_36 : decode cX1_findWaysOut 36 = .ok (.iload_n 1, 1) := by decide +kernel
theorem dX1_findWaysOut_37 : decode cX1_findWaysOut 37 = .ok (.iaload, 1) := by decide +kernel
theorem dX1_findWaysOut_38 : decode cX1_findWaysOut 38 = .ok (.iconst 0, 1) := by decide +kernel
theorem dX1_findWaysOut_39 : decode cX1_findWaysOut 39 = .ok (.iastore, 1) := by decide +kernel
theorem dX1_findWaysOut_40 : decode cX1_findWaysOut 40 = .ok (.iinc 1 1, 3) := by decide +kernel
theorem dX1_findWaysOut_43 : decode cX1_findWaysOut 43 = .ok (.goto (-33), 3) := by decide +kernel
theorem dX1_findWaysOut_46 : decode cX1_findWaysOut 46 = .ok (.aload_n 0, 1) := by decide +kernel
theorem dX1_findWaysOut_47 : decode cX1_findWaysOut 47 = .ok (.aload_n 0, 1) := by decide +kernel
theorem dX1_findWaysOut_48 : decode cX1_findWaysOut 48 = .ok (.getfield 22, 3) := by decide +kernel
theorem dX1_findWaysOut_51 : decode cX1_findWaysOut 51 = .ok (.invokevirtual 71, 3) := by decide +kernel
theorem dX1_findWaysOut_54 : decode cX1_findWaysOut 54 = .ok (.return_, 1) := by decide +kernel
theorem dX1_goThroughDoors_0 : decode cX1_goThroughDoors 0 = .ok (.iconst 1, 1) := by decide +kernel
theorem dX1_goThroughDoors_1 : decode cX1_goThroughDoors 1 = .ok (.istore_n 2, 1) := by decide +kernel
theorem dX1_goThroughDoors_2 : decode cX1_goThroughDoors 2 = .ok (.iconst 0, 1) := by decide +kernel
theorem dX1_goThroughDoors_3 : decode cX1_goThroughDoors 3 = .ok (.istore_n 3, 1) := by decide +kernel
theorem dX1_goThroughDoors_4 : decode cX1_goThroughDoors 4 = .ok (.iload_n 2, 1) := by decide +kernel
theorem dX1_goThroughDoors_5 : decode cX1_goThroughDoors 5 = .ok (.ifCond .eq 97, 3) := by decide +kernel
theorem dX1_goThroughDoors_8 : decode cX1_goThroughDoors 8 = .ok (.iload_n 3, 1) := by decide +kernel
theorem dX1_goThroughDoors_9 : decode cX1_goThroughDoors 9 = .ok (.bipush 25, 2) := by decide +kernel
theorem dX1_goThroughDoors_11 : decode cX1_goThroughDoors 11 = .ok (.if_icmp .ge 91, 3) := by decide +kernel
theorem dX1_goThroughDoors_14 : decode cX1_goThroughDoors 14 = .ok (.iconst 0, 1) := by decide +kernel
theorem dX1_goThroughDoors_15 : decode cX1_goThroughDoors 15 = .ok (.istore_n 2, 1) := by decide +kernel
theorem dX1_goThroughDoors_16 : decode cX1_goThroughDoors 16 = .ok (.iconst 0, 1) := by decide +kernel
theorem dX1_goThroughDoors_17 : decode cX1_goThroughDoors 17 = .ok (.istore 4, 2) := by decide +kernel
theorem dX1_goThroughDoors_19 : decode cX1_goThroughDoors 19 = .ok (.iload 4, 2) := by decide +kernel
theorem dX1_goThroughDoors_21 : decode cX1_goThroughDoors 21 = .ok (.bipush 40, 2) := by decide +kernel
theorem dX1_goThroughDoors_23 : decode cX1_goThroughDoors 23 = .ok (.if_icmp .ge 73, 3) := by decide +kernel
theorem dX1_goThroughDoors_26 : decode cX1_goThroughDoors 26 = .ok (.aload_n 0, 1) := by decide +kernel
theorem dX1_goThroughDoors_27 : decode cX1_goThroughDoors 27 = .ok (.getfield 12, 3) := by decide +kernel
theorem dX1_goThroughDoors_30 : decode cX1_goThroughDoors 30 = .ok (.getfield 38, 3) := by decide +kernel
theorem dX1_goThroughDoors_33 : decode cX1_goThroughDoors 33 = .ok (.iload 4, 2) := by decide +kernel
theorem dX1_goThroughDoors_35 : decode cX1_goThroughDoors 35 = .ok (.iaload, 1) := by decide +kernel
theorem dX1_goThroughDoors_36 : decode cX1_goThroughDoors 36 = .ok (.iconst 2, 1) := by decide +kernel
theorem dX1_goThroughDoors_37 : decode cX1_goThroughDoors 37 = .ok (.if_icmp .ne 53, 3) := by decide +kernel
theorem dX1_goThroughDoors_40 : decode cX1_goThroughDoors 40 = .ok (.aload_n 0, 1) := by decide +kernel
theorem dX1_goThroughDoors_41 : decode cX1_goThroughDoors 41 = .ok (.getfield 18, 3) := by decide +kernel
theorem dX1_goThroughDoors_44 : decode cX1_goThroughDoors 44 = .ok (.iload 4, 2) := by decide +kernel
theorem dX1_goThroughDoors_46 : decode cX1_goThroughDoors 46 = .ok (.invokestatic 41, 3) := by decide +kernel
theorem dX1_goThroughDoors_49 : decode cX1_goThroughDoors 49 = .ok (.iaload, 1) := by decide +kernel
theorem dX1_goThroughDoors_50 : decode cX1_goThroughDoors 50 = .ok (.istore 5, 2) := by decide +kernel
theorem dX1_goThroughDoors_52 : decode cX1_goThroughDoors 52 = .ok (.aload_n 0, 1) := by decide +kernel
theorem dX1_goThroughDoors_53 : decode cX1_goThroughDoors 53 = .ok (.getfield 18, 3) := by decide +kernel
theorem dX1_goThroughDoors_56 : decode cX1_goThroughDoors 56 = .ok (.iload 4, 2) := by decide +kernel
theorem dX1_goThroughDoors_58 : decode cX1_goThroughDoors 58 = .ok (.invokestatic 45, 3) := by decide +kernel
theorem dX1_goThroughDoors_61 : decode cX1_goThroughDoors 61 = .ok (.iaload, 1) := by decide +kernel
theorem dX1_goThroughDoors_62 : decode cX1_goThroughDoors 62 = .ok (.istore 6, 2) := by decide +kernel
theorem dX1_goThroughDoors_64 : decode cX1_goThroughDoors 64 = .ok (.aload_n 1, 1) := by decide +kernel
theorem dX1_goThroughDoors_65 : decode cX1_goThroughDoors 65 = .ok (.iload 5, 2) := by decide +kernel
theorem dX1_goThroughDoors_67 : decode cX1_goThroughDoors 67 = .ok (.iload 6, 2) := by decide +kernel
theorem dX1_goThroughDoors_69 : decode cX1_goThroughDoors 69 = .ok (.iload_n 3, 1) := by decide +kernel
theorem dX1_goThroughDoors_70 : decode cX1_goThroughDoors 70 = .ok (.invokestatic 75, 3) := by decide +kernel
theorem dX1_goThroughDoors_73 : decode cX1_goThroughDoors 73 = .ok (.ifCond .ne 15, 3) := by decide +kernel
theorem dX1_goThroughDoors_76 : decode cX1_goThroughDoors 76 = .ok (.aload_n 1, 1) := by decide +kernel
theorem dX1_goThroughDoors_77 : decode cX1_goThroughDoors 77 = .ok (.iload 6, 2) := by decide +kernel
theorem dX1_goThroughDoors_79 : decode cX1_goThroughDoors 79 = .ok (.iload 5, 2) := by decide +kernel
theorem dX1_goThroughDoors_81 : decode cX1_goThroughDoors 81 = .ok (.iload_n 3, 1) := by decide +kernel
theorem dX1_goThroughDoors_82 : decode cX1_goThroughDoors 82 = .ok (.invokestatic 75, 3) := by decide +kernel
theorem dX1_goThroughDoors_85 : decode cX1_goThroughDoors 85 = .ok (.ifCond .eq 5, 3) := by decide +kernel
theorem dX1_goThroughDoors_88 : decode cX1_goThroughDoors 88 = .ok (.iconst 1, 1) := by decide +kernel
theorem dX1_goThroughDoors_89 : decode cX1_goThroughDoors 89 = .ok (.istore_n 2, 1) := by decide +kernel
theorem dX1_goThroughDoors_90 : decode cX1_goThroughDoors 90 = .ok (.iinc 4 1, 3) := by decide +kernel
theorem dX1_goThroughDoors_93 : decode cX1_goThroughDoors 93 = .ok (.goto (-74), 3) := by decide +kernel
theorem dX1_goThroughDoors_96 : decode cX1_goThroughDoors 96 = .ok (.iinc 3 1, 3) := by decide +kernel
theorem dX1_goThroughDoors_99 : decode cX1_goThroughDoors 99 = .ok (.goto (-95), 3) := by decide +kernel
theorem dX1_goThroughDoors_102 : decode cX1_goThroughDoors 102 = .ok (.return_, 1) := by decide +kernel
theorem dX1_goThrough_0 : decode cX1_goThrough 0 = .ok (.aload_n 0, 1) := by decide +kernel
theorem dX1_goThrough_1 : decode cX1_goThrough 1 = .ok (.iload_n 1, 1) := by decide +kernel
theorem dX1_goThrough_2 : decode cX1_goThrough 2 = .ok (.iaload, 1) := by decide +kernel
theorem dX1_goThrough_3 : decode cX1_goThrough 3 = .ok (.iload_n 3, 1) := by decide +kernel
theorem dX1_goThrough_4 : decode cX1_goThrough 4 = .ok (.if_icmp .ne 10, 3) := by decide +kernel
theorem dX1_goThrough_7 : decode cX1_goThrough 7 = .ok (.aload_n 0, 1) := by decide +kernel
theorem dX1_goThrough_8 : decode cX1_goThrough 8 = .ok (.iload_n 2, 1) := by decide +kernel
theorem dX1_goThrough_9 : decode cX1_goThrough 9 = .ok (.iaload, 1) := by decide +kernel
theorem dX1_goThrough_10 : decode cX1_goThrough 10 = .ok (.iconst (-1), 1) := by decide +kernel
theorem dX1_goThrough_11 : decode cX1_goThrough 11 = .ok (.if_icmp .eq 5, 3) := by decide +kernel
theorem dX1_goThrough_14 : decode cX1_goThrough 14 = .ok (.iconst 0, 1) := by decide +kernel
theorem dX1_goThrough_15 : decode cX1_goThrough 15 = .ok (.ireturn, 1) := by decide +kernel
theorem dX1_goThrough_16 : decode cX1_goThrough 16 = .ok (.aload_n 0, 1) := by decide +kernel
theorem dX1_goThrough_17 : decode cX1_goThrough 17 = .ok (.iload_n 2, 1) := by decide +kernel
theorem dX1_goThrough_18 : decode cX1_goThrough 18 = .ok (.iload_n 3, 1) := by decide +kernel
theorem dX1_goThrough_19 : decode cX1_goThrough 19 = .ok (.iconst 1, 1) := by decide +kernel
theorem dX1_goThrough_20 : decode cX1_goThrough 20 = .ok (.iadd, 1) := by decide +kernel
theorem dX1_goThrough_21 : decode cX1_goThrough 21 = .ok (.iastore, 1) := by decide +kernel
theorem dX1_goThrough_22 : decode cX1_goThrough 22 = .ok (.iconst 1, 1) := by decide +kernel
theorem dX1_goThrough_23 : decode cX1_goThrough 23 = .ok (.ireturn, 1) := by decide +kernel
theorem dX1_countRooms_0 : decode cX1_countRooms 0 = .ok (.iconst 0, 1) := by decide +kernel
theorem dX1_countRooms_1 : decode cX1_countRooms 1 = .ok (.istore_n 1, 1) := by decide +kernel
theorem dX1_countRooms_2 : decode cX1_countRooms 2 = .ok (.iconst 0, 1) := by decide +kernel
theorem dX1_countRooms_3 : decode cX1_countRooms 3 = .ok (.istore_n 2, 1) := by decide +kernel
theorem dX1_countRooms_4 : decode cX1_countRooms 4 = .ok (.iload_n 2, 1) := by decide +kernel
theorem dX1_countRooms_5 : decode cX1_countRooms 5 = .ok (.bipush 25, 2) := by decide +kernel
theorem dX1_countRooms_7 : decode cX1_countRooms 7 = .ok (.if_icmp .ge 22, 3) := by decide +kernel
theorem dX1_countRooms_10 : decode cX1_countRooms 10 = .ok (.aload_n 0, 1) := by decide +kernel
theorem dX1_countRooms_11 : decode cX1_countRooms 11 = .ok (.getfield 18, 3) := by decide +kernel
theorem dX1_countRooms_14 : decode cX1_countRooms 14 = .ok (.iload_n 2, 1) := by decide +kernel
theorem dX1_countRooms_15 : decode cX1_countRooms 15 = .ok (.iaload, 1) := by decide +kernel
theorem dX1_countRooms_16 : decode cX1_countRooms 16 = .ok (.iload_n 2, 1) := by decide +kernel
theorem dX1_countRooms_17 : decode cX1_countRooms 17 = .ok (.if_icmp .ne 6, 3) := by decide +kernel
theorem dX1_countRooms_20 : decode cX1_countRooms 20 = .ok (.iinc 1 1, 3) := by decide +kernel
theorem dX1_countRooms_23 : decode cX1_countRooms 23 = .ok (.iinc 2 1, 3) := by decide +kernel
theorem dX1_countRooms_26 : decode cX1_countRooms 26 = .ok (.goto (-22), 3) := by decide +kernel
theorem dX1_countRooms_29 : decode cX1_countRooms 29 = .ok (.iload_n 1, 1) := by decide +kernel
theorem dX1_countRooms_30 : decode cX1_countRooms 30 = .ok (.ireturn, 1) := by decide +kernel
theorem dX1_countCells_0 : decode cX1_countCells 0 = .ok (.iconst 0, 1) := by decide +kernel
theorem dX1_countCells_1 : decode cX1_countCells 1 = .ok (.istore_n 2, 1) := by decide +kernel
theorem dX1_countCells_2 : decode cX1_countCells 2 = .ok (.iconst 0, 1) := by decide +kernel
theorem dX1_countCells_3 : decode cX1_countCells 3 = .ok (.istore_n 3, 1) := by decide +kernel
theorem dX1_countCells_4 : decode cX1_countCells 4 = .ok (.iload_n 3, 1) := by decide +kernel
theorem dX1_countCells_5 : decode cX1_countCells 5 = .ok (.bipush 25, 2) := by decide +kernel
theorem dX1_countCells_7 : decode cX1_countCells 7 = .ok (.if_icmp .ge 22, 3) := by decide +kernel
theorem dX1_countCells_10 : decode cX1_countCells 10 = .ok (.aload_n 0, 1) := by decide +kernel
theorem dX1_countCells_11 : decode cX1_countCells 11 = .ok (.getfield 18, 3) := by decide +kernel
theorem dX1_countCells_14 : decode cX1_countCells 14 = .ok (.iload_n 3, 1) := by decide +kernel
theorem dX1_countCells_15 : decode cX1_countCells 15 = .ok (.iaload, 1) := by decide +kernel
theorem dX1_countCells_16 : decode cX1_countCells 16 = .ok (.iload_n 1, 1) := by decide +kernel
theorem dX1_countCells_17 : decode cX1_countCells 17 = .ok (.if_icmp .ne 6, 3) := by decide +kernel
theorem dX1_countCells_20 : decode cX1_countCells 20 = .ok (.iinc 2 1, 3) := by decide +kernel
theorem dX1_countCells_23 : decode cX1_countCells 23 = .ok (.iinc 3 1, 3) := by decide +kernel
theorem dX1_countCells_26 : decode cX1_countCells 26 = .ok (.goto (-22), 3) := by decide +kernel
theorem dX1_countCells_29 : decode cX1_countCells 29 = .ok (.iload_n 2, 1) := by decide +kernel
theorem dX1_countCells_30 : decode cX1_countCells 30 = .ok (.ireturn, 1) := by decide +kernel
theorem dX1_everyRoomHasWayOut_0 : decode cX1_everyRoomHasWayOut 0 = .ok (.iconst 0, 1) := by decide +kernel
theorem dX1_everyRoomHasWayOut_1 : decode cX1_everyRoomHasWayOut 1 = .ok (.istore_n 1, 1) := by decide +kernel
theorem dX1_everyRoomHasWayOut_2 : decode cX1_everyRoomHasWayOut 2 = .ok (.iload_n 1, 1) := by decide +kernel
theorem dX1_everyRoomHasWayOut_3 : decode cX1_everyRoomHasWayOut 3 = .ok (.bipush 25, 2) := by decide +kernel
theorem dX1_everyRoomHasWayOut_5 : decode cX1_everyRoomHasWayOut 5 = .ok (.if_icmp .ge 26, 3) := by decide +kernel
theorem dX1_everyRoomHasWayOut_8 : decode cX1_everyRoomHasWayOut 8 = .ok (.aload_n 0, 1) := by decide +kernel
theorem dX1_everyRoomHasWayOut_9 : decode cX1_everyRoomHasWayOut 9 = .ok (.getfield 22, 3) := by decide +kernel
theorem dX1_everyRoomHasWayOut_12 : decode cX1_everyRoomHasWayOut 12 = .ok (.aload_n 0, 1) := by decide +kernel
theorem dX1_everyRoomHasWayOut_13 : decode cX1_everyRoomHasWayOut 13 = .ok (.getfield 18, 3) := by decide +kernel
theorem dX1_everyRoomHasWayOut_16 : decode cX1_everyRoomHasWayOut 16 = .ok (.iload_n 1, 1) := by decide +kernel
theorem dX1_everyRoomHasWayOut_17 : decode cX1_everyRoomHasWayOut 17 = .ok (.iaload, 1) := by decide +kernel
theorem dX1_everyRoomHasWayOut_18 : decode cX1_everyRoomHasWayOut 18 = .ok (.iaload, 1) := by decide +kernel
theorem dX1_everyRoomHasWayOut_19 : decode cX1_everyRoomHasWayOut 19 = .ok (.iconst (-1), 1) := by decide +kernel
theorem dX1_everyRoomHasWayOut_20 : decode cX1_everyRoomHasWayOut 20 = .ok (.if_icmp .ne 5, 3) := by decide +kernel
theorem dX1_everyRoomHasWayOut_23 : decode cX1_everyRoomHasWayOut 23 = .ok (.iconst 0, 1) := by decide +kernel
theorem dX1_everyRoomHasWayOut_24 : decode cX1_everyRoomHasWayOut 24 = .ok (.ireturn, 1) := by decide +kernel
theorem dX1_everyRoomHasWayOut_25 : decode cX1_everyRoomHasWayOut 25 = .ok (.iinc 1 1, 3) := by decide +kernel
theorem dX1_everyRoomHasWayOut_28 : decode cX1_everyRoomHasWayOut 28 = .ok (.goto (-26), 3) := by decide +kernel
theorem dX1_everyRoomHasWayOut_31 : decode cX1_everyRoomHasWayOut 31 = .ok (.iconst 1, 1) := by decide +kernel
theorem dX1_everyRoomHasWayOut_32 : decode cX1_everyRoomHasWayOut 32 = .ok (.ireturn, 1) := by decide +kernel
theorem dX1_wallThatHelps_0 : decode cX1_wallThatHelps 0 = .ok (.aload_n 0, 1) := by decide +kernel
theorem dX1_wallThatHelps_1 : decode cX1_wallThatHelps 1 = .ok (.getfield 22, 3) := by decide +kernel
theorem dX1_wallThatHelps_4 : decode cX1_wallThatHelps 4 = .ok (.iload_n 1, 1) := by decide +kernel
theorem dX1_wallThatHelps_5 : decode cX1_wallThatHelps 5 = .ok (.iaload, 1) := by decide +kernel
theorem dX1_wallThatHelps_6 : decode cX1_wallThatHelps 6 = .ok (.iconst (-1), 1) := by decide +kernel
theorem dX1_wallThatHelps_7 : decode cX1_wallThatHelps 7 = .ok (.if_icmp .eq 5, 3) := by decide +kernel
theorem dX1_wallThatHelps_10 : decode cX1_wallThatHelps 10 = .ok (.iconst (-1), 1) := by decide +kernel
theorem dX1_wallThatHelps_11 : decode cX1_wallThatHelps 11 = .ok (.ireturn, 1) := by decide +kernel
theorem dX1_wallThatHelps_12 : decode cX1_wallThatHelps 12 = .ok (.aload_n 0, 1) := by decide +kernel
theorem dX1_wallThatHelps_13 : decode cX1_wallThatHelps 13 = .ok (.getfield 25, 3) := by decide +kernel
theorem dX1_wallThatHelps_16 : decode cX1_wallThatHelps 16 = .ok (.iconst (-1), 1) := by decide +kernel
theorem dX1_wallThatHelps_17 : decode cX1_wallThatHelps 17 = .ok (.invokestatic 61, 3) := by decide +kernel
theorem dX1_wallThatHelps_20 : decode cX1_wallThatHelps 20 = .ok (.aload_n 0, 1) := by decide +kernel
theorem dX1_wallThatHelps_21 : decode cX1_wallThatHelps 21 = .ok (.getfield 25, 3) := by decide +kernel
theorem dX1_wallThatHelps_24 : decode cX1_wallThatHelps 24 = .ok (.iload_n 1, 1) := by decide +kernel
theorem dX1_wallThatHelps_25 : decode cX1_wallThatHelps 25 = .ok (.iconst 0, 1) := by decide +kernel
theorem dX1_wallThatHelps_26 : decode cX1_wallThatHelps 26 = .ok (.iastore, 1) := by decide +kernel
theorem dX1_wallThatHelps_27 : decode cX1_wallThatHelps 27 = .ok (.aload_n 0, 1) := by decide +kernel
theorem dX1_wallThatHelps_28 : decode cX1_wallThatHelps 28 = .ok (.aload_n 0, 1) := by decide +kernel
theorem dX1_wallThatHelps_29 : decode cX1_wallThatHelps 29 = .ok (.getfield 25, 3) := by decide +kernel
theorem dX1_wallThatHelps_32 : decode cX1_wallThatHelps 32 = .ok (.invokevirtual 71, 3) := by decide +kernel
theorem dX1_wallThatHelps_35 : decode cX1_wallThatHelps 35 = .ok (.iconst 0, 1) := by decide +kernel
theorem dX1_wallThatHelps_36 : decode cX1_wallThatHelps 36 = .ok (.istore_n 2, 1) := by decide +kernel
theorem dX1_wallThatHelps_37 : decode cX1_wallThatHelps 37 = .ok (.iload_n 2, 1) := by decide +kernel
theorem dX1_wallThatHelps_38 : decode cX1_wallThatHelps 38 = .ok (.bipush 40, 2) := by decide +kernel
theorem dX1_wallThatHelps_40 : decode cX1_wallThatHelps 40 = .ok (.if_icmp .ge 65, 3) := by decide +kernel
theorem dX1_wallThatHelps_43 : decode cX1_wallThatHelps 43 = .ok (.aload_n 0, 1) := by decide +kernel
theorem dX1_wallThatHelps_44 : decode cX1_wallThatHelps 44 = .ok (.getfield 18, 3) := by decide +kernel
theorem dX1_wallThatHelps_47 : decode cX1_wallThatHelps 47 = .ok (.iload_n 2, 1) := by decide +kernel
theorem dX1_wallThatHelps_48 : decode cX1_wallThatHelps 48 = .ok (.invokestatic 41, 3) := by decide +kernel
theorem dX1_wallThatHelps_51 : decode cX1_wallThatHelps 51 = .ok (.iaload, 1) := by decide +kernel
theorem dX1_wallThatHelps_52 : decode cX1_wallThatHelps 52 = .ok (.istore_n 3, 1) := by decide +kernel
theorem dX1_wallThatHelps_53 : decode cX1_wallThatHelps 53 = .ok (.aload_n 0, 1) := by decide +kernel
theorem dX1_wallThatHelps_54 : decode cX1_wallThatHelps 54 = .ok (.getfield 18, 3) := by decide +kernel
theorem dX1_wallThatHelps_57 : decode cX1_wallThatHelps 57 = .ok (.iload_n 2, 1) := by decide +kernel
theorem dX1_wallThatHelps_58 : decode cX1_wallThatHelps 58 = .ok (.invokestatic 45, 3) := by decide +kernel
theorem dX1_wallThatHelps_61 : decode cX1_wallThatHelps 61 = .ok (.iaload, 1) := by decide +kernel
theorem dX1_wallThatHelps_62 : decode cX1_wallThatHelps 62 = .ok (.istore 4, 2) := by decide +kernel
theorem dX1_wallThatHelps_64 : decode cX1_wallThatHelps 64 = .ok (.aload_n 0, 1) := by decide +kernel
theorem dX1_wallThatHelps_65 : decode cX1_wallThatHelps 65 = .ok (.getfield 12, 3) := by decide +kernel
theorem dX1_wallThatHelps_68 : decode cX1_wallThatHelps 68 = .ok (.getfield 38, 3) := by decide +kernel
theorem dX1_wallThatHelps_71 : decode cX1_wallThatHelps 71 = .ok (.iload_n 2, 1) := by decide +kernel
theorem dX1_wallThatHelps_72 : decode cX1_wallThatHelps 72 = .ok (.iaload, 1) := by decide +kernel
theorem dX1_wallThatHelps_73 : decode cX1_wallThatHelps 73 = .ok (.iconst 1, 1) := by decide +kernel
theorem dX1_wallThatHelps_74 : decode cX1_wallThatHelps 74 = .ok (.if_icmp .ne 25, 3) := by decide +kernel
theorem dX1_wallThatHelps_77 : decode cX1_wallThatHelps 77 = .ok (.aload_n 0, 1) := by decide +kernel
theorem dX1_wallThatHelps_78 : decode cX1_wallThatHelps 78 = .ok (.iload_n 3, 1) := by decide +kernel
theorem dX1_wallThatHelps_79 : decode cX1_wallThatHelps 79 = .ok (.iload 4, 2) := by decide +kernel
theorem dX1_wallThatHelps_81 : decode cX1_wallThatHelps 81 = .ok (.invokevirtual 79, 3) := by decide +kernel
theorem dX1_wallThatHelps_84 : decode cX1_wallThatHelps 84 = .ok (.ifCond .ne 13, 3) := by decide +kernel
theorem dX1_wallThatHelps_87 : decode cX1_wallThatHelps 87 = .ok (.aload_n 0, 1) := by decide +kernel
theorem dX1_wallThatHelps_88 : decode cX1_wallThatHelps 88 = .ok (.iload 4, 2) := by decide +kernel
theorem dX1_wallThatHelps_90 : decode cX1_wallThatHelps 90 = .ok (.iload_n 3, 1) := by decide +kernel
theorem dX1_wallThatHelps_91 : decode cX1_wallThatHelps 91 = .ok (.invokevirtual 79, 3) := by decide +kernel
theorem dX1_wallThatHelps_94 : decode cX1_wallThatHelps 94 = .ok (.ifCond .eq 5, 3) := by decide +kernel
theorem dX1_wallThatHelps_97 : decode cX1_wallThatHelps 97 = .ok (.iload_n 2, 1) := by decide +kernel
theorem dX1_wallThatHelps_98 : decode cX1_wallThatHelps 98 = .ok (.ireturn, 1) := by decide +kernel
theorem dX1_wallThatHelps_99 : decode cX1_wallThatHelps 99 = .ok (.iinc 2 1, 3) := by decide +kernel
theorem dX1_wallThatHelps_102 : decode cX1_wallThatHelps 102 = .ok (.goto (-65), 3) := by decide +kernel
theorem dX1_wallThatHelps_105 : decode cX1_wallThatHelps 105 = .ok (.iconst (-1), 1) := by decide +kernel
theorem dX1_wallThatHelps_106 : decode cX1_wallThatHelps 106 = .ok (.ireturn, 1) := by decide +kernel
theorem dX1_leadsOut_0 : decode cX1_leadsOut 0 = .ok (.aload_n 0, 1) := by decide +kernel
theorem dX1_leadsOut_1 : decode cX1_leadsOut 1 = .ok (.getfield 25, 3) := by decide +kernel
theorem dX1_leadsOut_4 : decode cX1_leadsOut 4 = .ok (.iload_n 1, 1) := by decide +kernel
theorem dX1_leadsOut_5 : decode cX1_leadsOut 5 = .ok (.iaload, 1) := by decide +kernel
theorem dX1_leadsOut_6 : decode cX1_leadsOut 6 = .ok (.iconst (-1), 1) := by decide +kernel
theorem dX1_leadsOut_7 : decode cX1_leadsOut 7 = .ok (.if_icmp .eq 17, 3) := by decide +kernel
theorem dX1_leadsOut_10 : decode cX1_leadsOut 10 = .ok (.aload_n 0, 1) := by decide +kernel
theorem dX1_leadsOut_11 : decode cX1_leadsOut 11 = .ok (.getfield 22, 3) := by decide +kernel
theorem dX1_leadsOut_14 : decode cX1_leadsOut 14 = .ok (.iload_n 2, 1) := by decide +kernel
theorem dX1_leadsOut_15 : decode cX1_leadsOut 15 = .ok (.iaload, 1) := by decide +kernel
theorem dX1_leadsOut_16 : decode cX1_leadsOut 16 = .ok (.iconst (-1), 1) := by decide +kernel
theorem dX1_leadsOut_17 : decode cX1_leadsOut 17 = .ok (.if_icmp .eq 7, 3) := by decide +kernel
theorem dX1_leadsOut_20 : decode cX1_leadsOut 20 = .ok (.iconst 1, 1) := by decide +kernel
theorem dX1_leadsOut_21 : decode cX1_leadsOut 21 = .ok (.goto 4, 3) := by decide +kernel
theorem dX1_leadsOut_24 : decode cX1_leadsOut 24 = .ok (.iconst 0, 1) := by decide +kernel
theorem dX1_leadsOut_25 : decode cX1_leadsOut 25 = .ok (.ireturn, 1) := by decide +kernel
theorem dX2_init_0 : decode cX2_init 0 = .ok (.aload_n 0, 1) := by decide +kernel
theorem dX2_init_1 : decode cX2_init 1 = .ok (.invokespecial 1, 3) := by decide +kernel
theorem dX2_init_4 : decode cX2_init 4 = .ok (.aload_n 0, 1) := by decide +kernel
theorem dX2_init_5 : decode cX2_init 5 = .ok (.new 7, 3) := by decide +kernel
theorem dX2_init_8 : decode cX2_init 8 = .ok (.dup, 1) := by decide +kernel
theorem dX2_init_9 : decode cX2_init 9 = .ok (.invokespecial 9, 3) := by decide +kernel
theorem dX2_init_12 : decode cX2_init 12 = .ok (.putfield 10, 3) := by decide +kernel
theorem dX2_init_15 : decode cX2_init 15 = .ok (.aload_n 0, 1) := by decide +kernel
theorem dX2_init_16 : decode cX2_init 16 = .ok (.aload_n 1, 1) := by decide +kernel
theorem dX2_init_17 : decode cX2_init 17 = .ok (.putfield 16, 3) := by decide +kernel
theorem dX2_init_20 : decode cX2_init 20 = .ok (.aload_n 0, 1) := by decide +kernel
theorem dX2_init_21 : decode cX2_init 21 = .ok (.getfield 10, 3) := by decide +kernel
theorem dX2_init_24 : decode cX2_init 24 = .ok (.aload_n 1, 1) := by decide +kernel
theorem dX2_init_25 : decode cX2_init 25 = .ok (.invokevirtual 20, 3) := by decide +kernel
theorem dX2_init_28 : decode cX2_init 28 = .ok (.return_, 1) := by decide +kernel
theorem dX2_isValid_0 : decode cX2_isValid 0 = .ok (.aload_n 0, 1) := by decide +kernel
theorem dX2_isValid_1 : decode cX2_isValid 1 = .ok (.getfield 10, 3) := by decide +kernel
theorem dX2_isValid_4 : decode cX2_isValid 4 = .ok (.aload_n 0, 1) := by decide +kernel
theorem dX2_isValid_5 : decode cX2_isValid 5 = .ok (.getfield 16, 3) := by decide +kernel
theorem dX2_isValid_8 : decode cX2_isValid 8 = .ok (.invokevirtual 24, 3) := by decide +kernel
theorem dX2_isValid_11 : decode cX2_isValid 11 = .ok (.ireturn, 1) := by decide +kernel
theorem dX3_init_0 : decode cX3_init 0 = .ok (.aload_n 0, 1) := by decide +kernel
theorem dX3_init_1 : decode cX3_init 1 = .ok (.invokespecial 1, 3) := by decide +kernel
theorem dX3_init_4 : decode cX3_init 4 = .ok (.aload_n 0, 1) := by decide +kernel
theorem dX3_init_5 : decode cX3_init 5 = .ok (.new 7, 3) := by decide +kernel
theorem dX3_init_8 : decode cX3_init 8 = .ok (.dup, 1) := by decide +kernel
theorem dX3_init_9 : decode cX3_init 9 = .ok (.invokespecial 9, 3) := by decide +kernel
theorem dX3_init_12 : decode cX3_init 12 = .ok (.putfield 10, 3) := by decide +kernel
theorem dX3_init_15 : decode cX3_init 15 = .ok (.aload_n 0, 1) := by decide +kernel
theorem dX3_init_16 : decode cX3_init 16 = .ok (.aload_n 1, 1) := by decide +kernel
theorem dX3_init_17 : decode cX3_init 17 = .ok (.putfield 16, 3) := by decide +kernel
theorem dX3_init_20 : decode cX3_init 20 = .ok (.aload_n 0, 1) := by decide +kernel
theorem dX3_init_21 : decode cX3_init 21 = .ok (.iload_n 2, 1) := by decide +kernel
theorem dX3_init_22 : decode cX3_init 22 = .ok (.putfield 20, 3) := by decide +kernel
theorem dX3_init_25 : decode cX3_init 25 = .ok (.aload_n 0, 1) := by decide +kernel
theorem dX3_init_26 : decode cX3_init 26 = .ok (.getfield 10, 3) := by decide +kernel
theorem dX3_init_29 : decode cX3_init 29 = .ok (.aload_n 1, 1) := by decide +kernel
theorem dX3_init_30 : decode cX3_init 30 = .ok (.invokevirtual 24, 3) := by decide +kernel
theorem dX3_init_33 : decode cX3_init 33 = .ok (.return_, 1) := by decide +kernel
theorem dX3_isOld_0 : decode cX3_isOld 0 = .ok (.aload_n 0, 1) := by decide +kernel
theorem dX3_isOld_1 : decode cX3_isOld 1 = .ok (.getfield 10, 3) := by decide +kernel
theorem dX3_isOld_4 : decode cX3_isOld 4 = .ok (.aload_n 0, 1) := by decide +kernel
theorem dX3_isOld_5 : decode cX3_isOld 5 = .ok (.getfield 16, 3) := by decide +kernel
theorem dX3_isOld_8 : decode cX3_isOld 8 = .ok (.invokevirtual 28, 3) := by decide +kernel
theorem dX3_isOld_11 : decode cX3_isOld 11 = .ok (.ifCond .ne 7, 3) := by decide +kernel
theorem dX3_isOld_14 : decode cX3_isOld 14 = .ok (.iconst 1, 1) := by decide +kernel
theorem dX3_isOld_15 : decode cX3_isOld 15 = .ok (.goto 4, 3) := by decide +kernel
theorem dX3_isOld_18 : decode cX3_isOld 18 = .ok (.iconst 0, 1) := by decide +kernel
theorem dX3_isOld_19 : decode cX3_isOld 19 = .ok (.ireturn, 1) := by decide +kernel
theorem dX4_init_0 : decode cX4_init 0 = .ok (.aload_n 0, 1) := by decide +kernel
theorem dX4_init_1 : decode cX4_init 1 = .ok (.invokespecial 3, 3) := by decide +kernel
theorem dX4_init_4 : decode cX4_init 4 = .ok (.aload_n 0, 1) := by decide +kernel
theorem dX4_init_5 : decode cX4_init 5 = .ok (.bipush 40, 2) := by decide +kernel
theorem dX4_init_7 : decode cX4_init 7 = .ok (.newarray .int, 2) := by decide +kernel
theorem dX4_init_9 : decode cX4_init 9 = .ok (.putfield 9, 3) := by decide +kernel
theorem dX4_init_12 : decode cX4_init 12 = .ok (.aload_n 0, 1) := by decide +kernel
theorem dX4_init_13 : decode cX4_init 13 = .ok (.bipush 25, 2) := by decide +kernel
theorem dX4_init_15 : decode cX4_init 15 = .ok (.newarray .boolean, 2) := by decide +kernel
theorem dX4_init_17 : decode cX4_init 17 = .ok (.putfield 15, 3) := by decide +kernel
theorem dX4_init_20 : decode cX4_init 20 = .ok (.return_, 1) := by decide +kernel
theorem dX4_takeFrom_0 : decode cX4_takeFrom 0 = .ok (.iconst 0, 1) := by decide +kernel
theorem dX4_takeFrom_1 : decode cX4_takeFrom 1 = .ok (.istore_n 2, 1) := by decide +kernel
theorem dX4_takeFrom_2 : decode cX4_takeFrom 2 = .ok (.iload_n 2, 1) := by decide +kernel
theorem dX4_takeFrom_3 : decode cX4_takeFrom 3 = .ok (.bipush 40, 2) := by decide +kernel
theorem dX4_takeFrom_5 : decode cX4_takeFrom 5 = .ok (.if_icmp .ge 20, 3) := by decide +kernel
theorem dX4_takeFrom_8 : decode cX4_takeFrom 8 = .ok (.aload_n 0, 1) := by decide +kernel
theorem dX4_takeFrom_9 : decode cX4_takeFrom 9 = .ok (.getfield 9, 3) := by decide +kernel
theorem dX4_takeFrom_12 : decode cX4_takeFrom 12 = .ok (.iload_n 2, 1) := by decide +kernel
theorem dX4_takeFrom_13 : decode cX4_takeFrom 13 = .ok (.aload_n 1, 1) := by decide +kernel
theorem dX4_takeFrom_14 : decode cX4_takeFrom 14 = .ok (.iload_n 2, 1) := by decide +kernel
theorem dX4_takeFrom_15 : decode cX4_takeFrom 15 = .ok (.invokevirtual 19, 3) := by decide +kernel
theorem dX4_takeFrom_18 : decode cX4_takeFrom 18 = .ok (.iastore, 1) := by decide +kernel
theorem dX4_takeFrom_19 : decode cX4_takeFrom 19 = .ok (.iinc 2 1, 3) := by decide +kernel
theorem dX4_takeFrom_22 : decode cX4_takeFrom 22 = .ok (.goto (-20), 3) := by decide +kernel
theorem dX4_takeFrom_25 : decode cX4_takeFrom 25 = .ok (.iconst 0, 1) := by decide +kernel
theorem dX4_takeFrom_26 : decode cX4_takeFrom 26 = .ok (.istore_n 2, 1) := by decide +kernel
theorem dX4_takeFrom_27 : decode cX4_takeFrom 27 = .ok (.iload_n 2, 1) := by decide +kernel
theorem dX4_takeFrom_28 : decode cX4_takeFrom 28 = .ok (.bipush 25, 2) := by decide +kernel
theorem dX4_takeFrom_30 : decode cX4_takeFrom 30 = .ok (.if_icmp .ge 20, 3) := by decide +kernel
theorem dX4_takeFrom_33 : decode cX4_takeFrom 33 = .ok (.aload_n 0, 1) := by decide +kernel
theorem dX4_takeFrom_34 : decode cX4_takeFrom 34 = .ok (.getfield 15, 3) := by decide +kernel
theorem dX4_takeFrom_37 : decode cX4_takeFrom 37 = .ok (.iload_n 2, 1) := by decide +kernel
theorem dX4_takeFrom_38 : decode cX4_takeFrom 38 = .ok (.aload_n 1, 1) := by decide +kernel
theorem dX4_takeFrom_39 : decode cX4_takeFrom 39 = .ok (.iload_n 2, 1) := by decide +kernel
theorem dX4_takeFrom_40 : decode cX4_takeFrom 40 = .ok (.invokevirtual 25, 3) := by decide +kernel
theorem dX4_takeFrom_43 : decode cX4_takeFrom 43 = .ok (.bastore, 1) := by decide +kernel
theorem dX4_takeFrom_44 : decode cX4_takeFrom 44 = .ok (.iinc 2 1, 3) := by decide +kernel
theorem dX4_takeFrom_47 : decode cX4_takeFrom 47 = .ok (.goto (-20), 3) := by decide +kernel
theorem dX4_takeFrom_50 : decode cX4_takeFrom 50 = .ok (.return_, 1) := by decide +kernel
theorem dX4_isThatOf_0 : decode cX4_isThatOf 0 = .ok (.iconst 0, 1) := by decide +kernel
theorem dX4_isThatOf_1 : decode cX4_isThatOf 1 = .ok (.istore_n 2, 1) := by decide +kernel
theorem dX4_isThatOf_2 : decode cX4_isThatOf 2 = .ok (.iload_n 2, 1) := by decide +kernel
theorem dX4_isThatOf_3 : decode cX4_isThatOf 3 = .ok (.bipush 40, 2) := by decide +kernel
theorem dX4_isThatOf_5 : decode cX4_isThatOf 5 = .ok (.if_icmp .ge 25, 3) := by decide +kernel
theorem dX4_isThatOf_8 : decode cX4_isThatOf 8 = .ok (.aload_n 0, 1) := by decide +kernel
theorem dX4_isThatOf_9 : decode cX4_isThatOf 9 = .ok (.getfield 9, 3) := by decide +kernel
theorem dX4_isThatOf_12 : decode cX4_isThatOf 12 = .ok (.iload_n 2, 1) := by decide +kernel
theorem dX4_isThatOf_13 : decode cX4_isThatOf 13 = .ok (.iaload, 1) := by decide +kernel
theorem dX4_isThatOf_14 : decode cX4_isThatOf 14 = .ok (.aload_n 1, 1) := by decide +kernel
theorem dX4_isThatOf_15 : decode cX4_isThatOf 15 = .ok (.iload_n 2, 1) := by decide +kernel
theorem dX4_isThatOf_16 : decode cX4_isThatOf 16 = .ok (.invokevirtual 19, 3) := by decide +kernel
theorem dX4_isThatOf_19 : decode cX4_isThatOf 19 = .ok (.if_icmp .eq 5, 3) := by decide +kernel
theorem dX4_isThatOf_22 : decode cX4_isThatOf 22 = .ok (.iconst 0, 1) := by decide +kernel
theorem dX4_isThatOf_23 : decode cX4_isThatOf 23 = .ok (.ireturn, 1) := by decide +kernel
theorem dX4_isThatOf_24 : decode cX4_isThatOf 24 = .ok (.iinc 2 1, 3) := by decide +kernel
theorem dX4_isThatOf_27 : decode cX4_isThatOf 27 = .ok (.goto (-25), 3) := by decide +kernel
theorem dX4_isThatOf_30 : decode cX4_isThatOf 30 = .ok (.iconst 0, 1) := by decide +kernel
theorem dX4_isThatOf_31 : decode cX4_isThatOf 31 = .ok (.istore_n 2, 1) := by decide +kernel
theorem dX4_isThatOf_32 : decode cX4_isThatOf 32 = .ok (.iload_n 2, 1) := by decide +kernel
theorem dX4_isThatOf_33 : decode cX4_isThatOf 33 = .ok (.bipush 25, 2) := by decide +kernel
theorem dX4_isThatOf_35 : decode cX4_isThatOf 35 = .ok (.if_icmp .ge 25, 3) := by decide +kernel
theorem dX4_isThatOf_38 : decode cX4_isThatOf 38 = .ok (.aload_n 0, 1) := by decide +kernel
theorem dX4_isThatOf_39 : decode cX4_isThatOf 39 = .ok (.getfield 15, 3) := by decide +kernel
theorem dX4_isThatOf_42 : decode cX4_isThatOf 42 = .ok (.iload_n 2, 1) := by decide +kernel
theorem dX4_isThatOf_43 : decode cX4_isThatOf 43 = .ok (.baload, 1) := by decide +kernel
theorem dX4_isThatOf_44 : decode cX4_isThatOf 44 = .ok (.aload_n 1, 1) := by decide +kernel
theorem dX4_isThatOf_45 : decode cX4_isThatOf 45 = .ok (.iload_n 2, 1) := by decide +kernel
theorem dX4_isThatOf_46 : decode cX4_isThatOf 46 = .ok (.invokevirtual 25, 3) := by decide +kernel
theorem dX4_isThatOf_49 : decode cX4_isThatOf 49 = .ok (.if_icmp .eq 5, 3) := by decide +kernel
theorem dX4_isThatOf_52 : decode cX4_isThatOf 52 = .ok (.iconst 0, 1) := by decide +kernel
theorem dX4_isThatOf_53 : decode cX4_isThatOf 53 = .ok (.ireturn, 1) := by decide +kernel
theorem dX4_isThatOf_54 : decode cX4_isThatOf 54 = .ok (.iinc 2 1, 3) := by decide +kernel
theorem dX4_isThatOf_57 : decode cX4_isThatOf 57 = .ok (.goto (-25), 3) := by decide +kernel
theorem dX4_isThatOf_60 : decode cX4_isThatOf 60 = .ok (.iconst 1, 1) := by decide +kernel
theorem dX4_isThatOf_61 : decode cX4_isThatOf 61 = .ok (.ireturn, 1) := by decide +kernel
theorem dX5_init_0 : decode cX5_init 0 = .ok (.aload_n 0, 1) := by decide +kernel
theorem dX5_init_1 : decode cX5_init 1 = .ok (.invokespecial 1, 3) := by decide +kernel
theorem dX5_init_4 : decode cX5_init 4 = .ok (.aload_n 0, 1) := by decide +kernel
theorem dX5_init_5 : decode cX5_init 5 = .ok (.new 7, 3) := by decide +kernel
theorem dX5_init_8 : decode cX5_init 8 = .ok (.dup, 1) := by decide +kernel
theorem dX5_init_9 : decode cX5_init 9 = .ok (.invokespecial 9, 3) := by decide +kernel
theorem dX5_init_12 : decode cX5_init 12 = .ok (.putfield 10, 3) := by decide +kernel
theorem dX5_init_15 : decode cX5_init 15 = .ok (.aload_n 0, 1) := by decide +kernel
theorem dX5_init_16 : decode cX5_init 16 = .ok (.new 7, 3) := by decide +kernel
theorem dX5_init_19 : decode cX5_init 19 = .ok (.dup, 1) := by decide +kernel
theorem dX5_init_20 : decode cX5_init 20 = .ok (.invokespecial 9, 3) := by decide +kernel
theorem dX5_init_23 : decode cX5_init 23 = .ok (.putfield 16, 3) := by decide +kernel
theorem dX5_init_26 : decode cX5_init 26 = .ok (.aload_n 0, 1) := by decide +kernel
theorem dX5_init_27 : decode cX5_init 27 = .ok (.new 7, 3) := by decide +kernel
theorem dX5_init_30 : decode cX5_init 30 = .ok (.dup, 1) := by decide +kernel
theorem dX5_init_31 : decode cX5_init 31 = .ok (.invokespecial 9, 3) := by decide +kernel
theorem dX5_init_34 : decode cX5_init 34 = .ok (.putfield 19, 3) := by decide +kernel
theorem dX5_init_37 : decode cX5_init 37 = .ok (.aload_n 0, 1) := by decide +kernel
theorem dX5_init_38 : decode cX5_init 38 = .ok (.new 22, 3) := by decide +kernel
theorem dX5_init_41 : decode cX5_init 41 = .ok (.dup, 1) := by decide +kernel
theorem dX5_init_42 : decode cX5_init 42 = .ok (.invokespecial 24, 3) := by decide +kernel
theorem dX5_init_45 : decode cX5_init 45 = .ok (.putfield 25, 3) := by decide +kernel
theorem dX5_init_48 : decode cX5_init 48 = .ok (.return_, 1) := by decide +kernel
theorem dX5_begin_0 : decode cX5_begin 0 = .ok (.aload_n 0, 1) := by decide +kernel
theorem dX5_begin_1 : decode cX5_begin 1 = .ok (.getfield 10, 3) := by decide +kernel
theorem dX5_begin_4 : decode cX5_begin 4 = .ok (.invokevirtual 29, 3) := by decide +kernel
theorem dX5_begin_7 : decode cX5_begin 7 = .ok (.istore_n 1, 1) := by decide +kernel
theorem dX5_begin_8 : decode cX5_begin 8 = .ok (.iload_n 1, 1) := by decide +kernel
theorem dX5_begin_9 : decode cX5_begin 9 = .ok (.bipush 6, 2) := by decide +kernel
theorem dX5_begin_11 : decode cX5_begin 11 = .ok (.if_icmp .lt 13, 3) := by decide +kernel
theorem dX5_begin_14 : decode cX5_begin 14 = .ok (.new 33, 3) := by decide +kernel
theorem dX5_begin_17 : decode cX5_begin 17 = .ok (.dup, 1) := by decide +kernel
theorem dX5_begin_18 : decode cX5_begin 18 = .ok (.ldc 35, 2) := by decide +kernel
theorem dX5_begin_20 : decode cX5_begin 20 = .ok (.invokespecial 37, 3) := by decide +kernel
theorem dX5_begin_23 : decode cX5_begin 23 = .ok (.athrow, 1) := by decide +kernel
theorem dX5_begin_24 : decode cX5_begin 24 = .ok (.aload_n 0, 1) := by decide +kernel
theorem dX5_begin_25 : decode cX5_begin 25 = .ok (.getfield 10, 3) := by decide +kernel
theorem dX5_begin_28 : decode cX5_begin 28 = .ok (.new 40, 3) := by decide +kernel
theorem dX5_begin_31 : decode cX5_begin 31 = .ok (.dup, 1) := by decide +kernel
theorem dX5_begin_32 : decode cX5_begin 32 = .ok (.invokespecial 42, 3) := by decide +kernel
theorem dX5_begin_35 : decode cX5_begin 35 = .ok (.invokevirtual 43, 3) := by decide +kernel
theorem dX5_begin_38 : decode cX5_begin 38 = .ok (.pop, 1) := by decide +kernel
theorem dX5_begin_39 : decode cX5_begin 39 = .ok (.iload_n 1, 1) := by decide +kernel
theorem dX5_begin_40 : decode cX5_begin 40 = .ok (.ireturn, 1) := by decide +kernel
theorem dX5_tell_0 : decode cX5_tell 0 = .ok (.aload_n 0, 1) := by decide +kernel
theorem dX5_tell_1 : decode cX5_tell 1 = .ok (.iload_n 1, 1) := by decide +kernel
theorem dX5_tell_2 : decode cX5_tell 2 = .ok (.invokevirtual 47, 3) := by decide +kernel
theorem dX5_tell_5 : decode cX5_tell 5 = .ok (.astore 5, 2) := by decide +kernel
theorem dX5_tell_7 : decode cX5_tell 7 = .ok (.iload_n 2, 1) := by decide +kernel
theorem dX5_tell_8 : decode cX5_tell 8 = .ok (.invokestatic 51, 3) := by decide +kernel
theorem dX5_tell_11 : decode cX5_tell 11 = .ok (.iload_n 3, 1) := by decide +kernel
theorem dX5_tell_12 : decode cX5_tell 12 = .ok (.invokestatic 55, 3) := by decide +kernel
theorem dX5_tell_15 : decode cX5_tell 15 = .ok (.iload 4, 2) := by decide +kernel
theorem dX5_tell_17 : decode cX5_tell 17 = .ok (.iconst (-1), 1) := by decide +kernel
theorem dX5_tell_18 : decode cX5_tell 18 = .ok (.if_icmp .lt 9, 3) := by decide +kernel
theorem dX5_tell_21 : decode cX5_tell 21 = .ok (.iload 4, 2) := by decide +kernel
theorem dX5_tell_23 : decode cX5_tell 23 = .ok (.iconst 2, 1) := by decide +kernel
theorem dX5_tell_24 : decode cX5_tell 24 = .ok (.if_icmp .le 13, 3) := by decide +kernel
theorem dX5_tell_27 : decode cX5_tell 27 = .ok (.new 58, 3) := by decide +kernel
theorem dX5_tell_30 : decode cX5_tell 30 = .ok (.dup, 1) := by decide +kernel
theorem dX5_tell_31 : decode cX5_tell 31 = .ok (.ldc 60, 2) := by decide +kernel
theorem dX5_tell_33 : decode cX5_tell 33 = .ok (.invokespecial 62, 3) := by decide +kernel
theorem dX5_tell_36 : decode cX5_tell 36 = .ok (.athrow, 1) := by decide +kernel
theorem dX5_tell_37 : decode cX5_tell 37 = .ok (.aload 5, 2) := by decide +kernel
theorem dX5_tell_39 : decode cX5_tell 39 = .ok (.iload_n 2, 1) := by decide +kernel
theorem dX5_tell_40 : decode cX5_tell 40 = .ok (.invokestatic 63, 3) := by decide +kernel
theorem dX5_tell_43 : decode cX5_tell 43 = .ok (.aload 5, 2) := by decide +kernel
theorem dX5_tell_45 : decode cX5_tell 45 = .ok (.getfield 67, 3) := by decide +kernel
theorem dX5_tell_48 : decode cX5_tell 48 = .ok (.iload_n 3, 1) := by decide +kernel
theorem dX5_tell_49 : decode cX5_tell 49 = .ok (.iaload, 1) := by decide +kernel
theorem dX5_tell_50 : decode cX5_tell 50 = .ok (.istore 6, 2) := by decide +kernel
theorem dX5_tell_52 : decode cX5_tell 52 = .ok (.aload 5, 2) := by decide +kernel
theorem dX5_tell_54 : decode cX5_tell 54 = .ok (.getfield 67, 3) := by decide +kernel
theorem dX5_tell_57 : decode cX5_tell 57 = .ok (.iload_n 3, 1) := by decide +kernel
theorem dX5_tell_58 : decode cX5_tell 58 = .ok (.iload 4, 2) := by decide +kernel
theorem dX5_tell_60 : decode cX5_tell 60 = .ok (.iastore, 1) := by decide +kernel
theorem dX5_tell_61 : decode cX5_tell 61 = .ok (.iload 6, 2) := by decide +kernel
theorem dX5_tell_63 : decode cX5_tell 63 = .ok (.ireturn, 1) := by decide +kernel
theorem dX5_setExit_0 : decode cX5_setExit 0 = .ok (.aload_n 0, 1) := by decide +kernel
theorem dX5_setExit_1 : decode cX5_setExit 1 = .ok (.iload_n 1, 1) := by decide +kernel
theorem dX5_setExit_2 : decode cX5_setExit 2 = .ok (.invokevirtual 47, 3) := by decide +kernel
theorem dX5_setExit_5 : decode cX5_setExit 5 = .ok (.astore 5, 2) := by decide +kernel
theorem dX5_setExit_7 : decode cX5_setExit 7 = .ok (.iload_n 2, 1) := by decide +kernel
theorem dX5_setExit_8 : decode cX5_setExit 8 = .ok (.invokestatic 51, 3) := by decide +kernel
theorem dX5_setExit_11 : decode cX5_setExit 11 = .ok (.iload_n 3, 1) := by decide +kernel
theorem dX5_setExit_12 : decode cX5_setExit 12 = .ok (.invokestatic 71, 3) := by decide +kernel
theorem dX5_setExit_15 : decode cX5_setExit 15 = .ok (.aload 5, 2) := by decide +kernel
theorem dX5_setExit_17 : decode cX5_setExit 17 = .ok (.iload_n 2, 1) := by decide +kernel
theorem dX5_setExit_18 : decode cX5_setExit 18 = .ok (.invokestatic 63, 3) := by decide +kernel
theorem dX5_setExit_21 : decode cX5_setExit 21 = .ok (.aload 5, 2) := by decide +kernel
theorem dX5_setExit_23 : decode cX5_setExit 23 = .ok (.getfield 74, 3) := by decide +kernel
theorem dX5_setExit_26 : decode cX5_setExit 26 = .ok (.iload_n 3, 1) := by decide +kernel
theorem dX5_setExit_27 : decode cX5_setExit 27 = .ok (.baload, 1) := by decide +kernel
theorem dX5_setExit_28 : decode cX5_setExit 28 = .ok (.istore 6, 2) := by decide +kernel
theorem dX5_setExit_30 : decode cX5_setExit 30 = .ok (.aload 5, 2) := by decide +kernel
theorem dX5_setExit_32 : decode cX5_setExit 32 = .ok (.getfield 74, 3) := by decide +kernel
theorem dX5_setExit_35 : decode cX5_setExit 35 = .ok (.iload_n 3, 1) := by decide +kernel
theorem dX5_setExit_36 : decode cX5_setExit 36 = .ok (.iload 4, 2) := by decide +kernel
theorem dX5_setExit_38 : decode cX5_setExit 38 = .ok (.bastore, 1) := by decide +kernel
theorem dX5_setExit_39 : decode cX5_setExit 39 = .ok (.iload 6, 2) := by decide +kernel
theorem dX5_setExit_41 : decode cX5_setExit 41 = .ok (.ireturn, 1) := by decide +kernel
theorem dX5_refer_0 : decode cX5_refer 0 = .ok (.aload_n 0, 1) := by decide +kernel
theorem dX5_refer_1 : decode cX5_refer 1 = .ok (.iload_n 1, 1) := by decide +kernel
theorem dX5_refer_2 : decode cX5_refer 2 = .ok (.invokevirtual 47, 3) := by decide +kernel
theorem dX5_refer_5 : decode cX5_refer 5 = .ok (.astore 5, 2) := by decide +kernel
theorem dX5_refer_7 : decode cX5_refer 7 = .ok (.aload_n 0, 1) := by decide +kernel
theorem dX5_refer_8 : decode cX5_refer 8 = .ok (.iload_n 3, 1) := by decide +kernel
theorem dX5_refer_9 : decode cX5_refer 9 = .ok (.invokevirtual 47, 3) := by decide +kernel
theorem dX5_refer_12 : decode cX5_refer 12 = .ok (.astore 6, 2) := by decide +kernel
theorem dX5_refer_14 : decode cX5_refer 14 = .ok (.iload_n 2, 1) := by decide +kernel
theorem dX5_refer_15 : decode cX5_refer 15 = .ok (.invokestatic 51, 3) := by decide +kernel
theorem dX5_refer_18 : decode cX5_refer 18 = .ok (.aload 5, 2) := by decide +kernel
theorem dX5_refer_20 : decode cX5_refer 20 = .ok (.iload_n 2, 1) := by decide +kernel
theorem dX5_refer_21 : decode cX5_refer 21 = .ok (.invokestatic 63, 3) := by decide +kernel
theorem dX5_refer_24 : decode cX5_refer 24 = .ok (.iload 4, 2) := by decide +kernel
theorem dX5_refer_26 : decode cX5_refer 26 = .ok (.ifCond .eq 23, 3) := by decide +kernel
theorem dX5_refer_29 : decode cX5_refer 29 = .ok (.aload 6, 2) := by decide +kernel
theorem dX5_refer_31 : decode cX5_refer 31 = .ok (.aload 5, 2) := by decide +kernel
theorem dX5_refer_33 : decode cX5_refer 33 = .ok (.invokevirtual 78, 3) := by decide +kernel
theorem dX5_refer_36 : decode cX5_refer 36 = .ok (.ifCond .eq 13, 3) := by decide +kernel
theorem dX5_refer_39 : decode cX5_refer 39 = .ok (.new 33, 3) := by decide +kernel
theorem dX5_refer_42 : decode cX5_refer 42 = .ok (.dup, 1) := by decide +kernel
theorem dX5_refer_43 : decode cX5_refer 43 = .ok (.ldc 82, 2) := by decide +kernel
theorem dX5_refer_45 : decode cX5_refer 45 = .ok (.invokespecial 37, 3) := by decide +kernel
theorem dX5_refer_48 : decode cX5_refer 48 = .ok (.athrow, 1) := by decide +kernel
theorem dX5_refer_49 : decode cX5_refer 49 = .ok (.aload 5, 2) := by decide +kernel
theorem dX5_refer_51 : decode cX5_refer 51 = .ok (.getfield 84, 3) := by decide +kernel
theorem dX5_refer_54 : decode cX5_refer 54 = .ok (.iload_n 3, 1) := by decide +kernel
theorem dX5_refer_55 : decode cX5_refer 55 = .ok (.aaload, 1) := by decide +kernel
theorem dX5_refer_56 : decode cX5_refer 56 = .ok (.ifnull 7, 3) := by decide +kernel
theorem dX5_refer_59 : decode cX5_refer 59 = .ok (.iconst 1, 1) := by decide +kernel
theorem dX5_refer_60 : decode cX5_refer 60 = .ok (.goto 4, 3) := by decide +kernel
theorem dX5_refer_63 : decode cX5_refer 63 = .ok (.iconst 0, 1) := by decide +kernel
theorem dX5_refer_64 : decode cX5_refer 64 = .ok (.istore 7, 2) := by decide +kernel
theorem dX5_refer_66 : decode cX5_refer 66 = .ok (.aload 5, 2) := by decide +kernel
theorem dX5_refer_68 : decode cX5_refer 68 = .ok (.getfield 84, 3) := by decide +kernel
theorem dX5_refer_71 : decode cX5_refer 71 = .ok (.iload_n 3, 1) := by decide +kernel
theorem dX5_refer_72 : decode cX5_refer 72 = .ok (.iload 4, 2) := by decide +kernel
theorem dX5_refer_74 : decode cX5_refer 74 = .ok (.ifCond .eq 8, 3) := by decide +kernel
theorem dX5_refer_77 : decode cX5_refer 77 = .ok (.aload 6, 2) := by decide +kernel
theorem dX5_refer_79 : decode cX5_refer 79 = .ok (.goto 4, 3) := by decide +kernel
theorem dX5_refer_82 : decode cX5_refer 82 = .ok (.aconst_null, 1) := by decide +kernel
theorem dX5_refer_83 : decode cX5_refer 83 = .ok (.aastore, 1) := by decide +kernel
theorem dX5_refer_84 : decode cX5_refer 84 = .ok (.iload 7, 2) := by decide +kernel
theorem dX5_refer_86 : decode cX5_refer 86 = .ok (.ireturn, 1) := by decide +kernel
theorem dX5_drawings_0 : decode cX5_drawings 0 = .ok (.aload_n 0, 1) := by decide +kernel
theorem dX5_drawings_1 : decode cX5_drawings 1 = .ok (.getfield 10, 3) := by decide +kernel
theorem dX5_drawings_4 : decode cX5_drawings 4 = .ok (.invokevirtual 29, 3) := by decide +kernel
theorem dX5_drawings_7 : decode cX5_drawings 7 = .ok (.ireturn, 1) := by decide +kernel
theorem dX5_side_0 : decode cX5_side 0 = .ok (.aload_n 0, 1) := by decide +kernel
theorem dX5_side_1 : decode cX5_side 1 = .ok (.iload_n 1, 1) := by decide +kernel
theorem dX5_side_2 : decode cX5_side 2 = .ok (.invokevirtual 47, 3) := by decide +kernel
theorem dX5_side_5 : decode cX5_side 5 = .ok (.astore_n 3, 1) := by decide +kernel
theorem dX5_side_6 : decode cX5_side 6 = .ok (.iload_n 2, 1) := by decide +kernel
theorem dX5_side_7 : decode cX5_side 7 = .ok (.invokestatic 55, 3) := by decide +kernel
theorem dX5_side_10 : decode cX5_side 10 = .ok (.aload_n 3, 1) := by decide +kernel
theorem dX5_side_11 : decode cX5_side 11 = .ok (.iload_n 2, 1) := by decide +kernel
theorem dX5_side_12 : decode cX5_side 12 = .ok (.invokevirtual 88, 3) := by decide +kernel
theorem dX5_side_15 : decode cX5_side 15 = .ok (.ireturn, 1) := by decide +kernel
theorem dX5_hasExit_0 : decode cX5_hasExit 0 = .ok (.aload_n 0, 1) := by decide +kernel
theorem dX5_hasExit_1 : decode cX5_hasExit 1 = .ok (.iload_n 1, 1) := by decide +kernel
theorem dX5_hasExit_2 : decode cX5_hasExit 2 = .ok (.invokevirtual 47, 3) := by decide +kernel
theorem dX5_hasExit_5 : decode cX5_hasExit 5 = .ok (.astore_n 3, 1) := by decide +kernel
theorem dX5_hasExit_6 : decode cX5_hasExit 6 = .ok (.iload_n 2, 1) := by decide +kernel
theorem dX5_hasExit_7 : decode cX5_hasExit 7 = .ok (.invokestatic 71, 3) := by decide +kernel
theorem dX5_hasExit_10 : decode cX5_hasExit 10 = .ok (.aload_n 3, 1) := by decide +kernel
theorem dX5_hasExit_11 : decode cX5_hasExit 11 = .ok (.iload_n 2, 1) := by decide +kernel
theorem dX5_hasExit_12 : decode cX5_hasExit 12 = .ok (.invokevirtual 92, 3) := by decide +kernel
theorem dX5_hasExit_15 : decode cX5_hasExit 15 = .ok (.ireturn, 1) := by decide +kernel
theorem dX5_rooms_0 : decode cX5_rooms 0 = .ok (.aload_n 0, 1) := by decide +kernel
theorem dX5_rooms_1 : decode cX5_rooms 1 = .ok (.getfield 25, 3) := by decide +kernel
theorem dX5_rooms_4 : decode cX5_rooms 4 = .ok (.aload_n 0, 1) := by decide +kernel
theorem dX5_rooms_5 : decode cX5_rooms 5 = .ok (.iload_n 1, 1) := by decide +kernel
theorem dX5_rooms_6 : decode cX5_rooms 6 = .ok (.invokevirtual 47, 3) := by decide +kernel
theorem dX5_rooms_9 : decode cX5_rooms 9 = .ok (.invokevirtual 96, 3) := by decide +kernel
theorem dX5_rooms_12 : decode cX5_rooms 12 = .ok (.aload_n 0, 1) := by decide +kernel
theorem dX5_rooms_13 : decode cX5_rooms 13 = .ok (.getfield 25, 3) := by decide +kernel
theorem dX5_rooms_16 : decode cX5_rooms 16 = .ok (.invokevirtual 100, 3) := by decide +kernel
theorem dX5_rooms_19 : decode cX5_rooms 19 = .ok (.ireturn, 1) := by decide +kernel
theorem dX5_room_0 : decode cX5_room 0 = .ok (.aload_n 0, 1) := by decide +kernel
theorem dX5_room_1 : decode cX5_room 1 = .ok (.iload_n 1, 1) := by decide +kernel
theorem dX5_room_2 : decode cX5_room 2 = .ok (.invokevirtual 47, 3) := by decide +kernel
theorem dX5_room_5 : decode cX5_room 5 = .ok (.astore_n 3, 1) := by decide +kernel
theorem dX5_room_6 : decode cX5_room 6 = .ok (.iload_n 2, 1) := by decide +kernel
theorem dX5_room_7 : decode cX5_room 7 = .ok (.invokestatic 71, 3) := by decide +kernel
theorem dX5_room_10 : decode cX5_room 10 = .ok (.aload_n 0, 1) := by decide +kernel
theorem dX5_room_11 : decode cX5_room 11 = .ok (.getfield 25, 3) := by decide +kernel
theorem dX5_room_14 : decode cX5_room 14 = .ok (.aload_n 3, 1) := by decide +kernel
theorem dX5_room_15 : decode cX5_room 15 = .ok (.invokevirtual 96, 3) := by decide +kernel
theorem dX5_room_18 : decode cX5_room 18 = .ok (.aload_n 0, 1) := by decide +kernel
theorem dX5_room_19 : decode cX5_room 19 = .ok (.getfield 25, 3) := by decide +kernel
theorem dX5_room_22 : decode cX5_room 22 = .ok (.getfield 103, 3) := by decide +kernel
theorem dX5_room_25 : decode cX5_room 25 = .ok (.iload_n 2, 1) := by decide +kernel
theorem dX5_room_26 : decode cX5_room 26 = .ok (.iaload, 1) := by decide +kernel
theorem dX5_room_27 : decode cX5_room 27 = .ok (.ireturn, 1) := by decide +kernel
theorem dX5_size_0 : decode cX5_size 0 = .ok (.aload_n 0, 1) := by decide +kernel
theorem dX5_size_1 : decode cX5_size 1 = .ok (.iload_n 1, 1) := by decide +kernel
theorem dX5_size_2 : decode cX5_size 2 = .ok (.invokevirtual 47, 3) := by decide +kernel
theorem dX5_size_5 : decode cX5_size 5 = .ok (.astore_n 3, 1) := by decide +kernel
theorem dX5_size_6 : decode cX5_size 6 = .ok (.iload_n 2, 1) := by decide +kernel
theorem dX5_size_7 : decode cX5_size 7 = .ok (.invokestatic 71, 3) := by decide +kernel
theorem dX5_size_10 : decode cX5_size 10 = .ok (.aload_n 0, 1) := by decide +kernel
theorem dX5_size_11 : decode cX5_size 11 = .ok (.getfield 25, 3) := by decide +kernel
theorem dX5_size_14 : decode cX5_size 14 = .ok (.aload_n 3, 1) := by decide +kernel
theorem dX5_size_15 : decode cX5_size 15 = .ok (.invokevirtual 96, 3) := by decide +kernel
theorem dX5_size_18 : decode cX5_size 18 = .ok (.aload_n 0, 1) := by decide +kernel
theorem dX5_size_19 : decode cX5_size 19 = .ok (.getfield 25, 3) := by decide +kernel
theorem dX5_size_22 : decode cX5_size 22 = .ok (.aload_n 0, 1) := by decide +kernel
theorem dX5_size_23 : decode cX5_size 23 = .ok (.getfield 25, 3) := by decide +kernel
theorem dX5_size_26 : decode cX5_size 26 = .ok (.getfield 103, 3) := by decide +kernel
theorem dX5_size_29 : decode cX5_size 29 = .ok (.iload_n 2, 1) := by decide +kernel
theorem dX5_size_30 : decode cX5_size 30 = .ok (.iaload, 1) := by decide +kernel
theorem dX5_size_31 : decode cX5_size 31 = .ok (.invokevirtual 106, 3) := by decide +kernel
theorem dX5_size_34 : decode cX5_size 34 = .ok (.ireturn, 1) := by decide +kernel
theorem dX5_doorsOut_0 : decode cX5_doorsOut 0 = .ok (.aload_n 0, 1) := by decide +kernel
theorem dX5_doorsOut_1 : decode cX5_doorsOut 1 = .ok (.iload_n 1, 1) := by decide +kernel
theorem dX5_doorsOut_2 : decode cX5_doorsOut 2 = .ok (.invokevirtual 47, 3) := by decide +kernel
theorem dX5_doorsOut_5 : decode cX5_doorsOut 5 = .ok (.astore_n 3, 1) := by decide +kernel
theorem dX5_doorsOut_6 : decode cX5_doorsOut 6 = .ok (.iload_n 2, 1) := by decide +kernel
theorem dX5_doorsOut_7 : decode cX5_doorsOut 7 = .ok (.invokestatic 71, 3) := by decide +kernel
theorem dX5_doorsOut_10 : decode cX5_doorsOut 10 = .ok (.aload_n 0, 1) := by decide +kernel
theorem dX5_doorsOut_11 : decode cX5_doorsOut 11 = .ok (.getfield 25, 3) := by decide +kernel
theorem dX5_doorsOut_14 : decode cX5_doorsOut 14 = .ok (.aload_n 3, 1) := by decide +kernel
theorem dX5_doorsOut_15 : decode cX5_doorsOut 15 = .ok (.invokevirtual 96, 3) := by decide +kernel
theorem dX5_doorsOut_18 : decode cX5_doorsOut 18 = .ok (.aload_n 0, 1) := by decide +kernel
theorem dX5_doorsOut_19 : decode cX5_doorsOut 19 = .ok (.getfield 25, 3) := by decide +kernel
theorem dX5_doorsOut_22 : decode cX5_doorsOut 22 = .ok (.getfield 109, 3) := by decide +kernel
theorem dX5_doorsOut_25 : decode cX5_doorsOut 25 = .ok (.aload_n 0, 1) := by decide +kernel
theorem dX5_doorsOut_26 : decode cX5_doorsOut 26 = .ok (.getfield 25, 3) := by decide +kernel
theorem dX5_doorsOut_29 : decode cX5_doorsOut 29 = .ok (.getfield 103, 3) := by decide +kernel
theorem dX5_doorsOut_32 : decode cX5_doorsOut 32 = .ok (.iload_n 2, 1) := by decide +kernel
theorem dX5_doorsOut_33 : decode cX5_doorsOut 33 = .ok (.iaload, 1) := by decide +kernel
theorem dX5_doorsOut_34 : decode cX5_doorsOut 34 = .ok (.iaload, 1) := by decide +kernel
theorem dX5_doorsOut_35 : decode cX5_doorsOut 35 = .ok (.ireturn, 1) := by decide +kernel
theorem dX5_doorThatHelps_0 : decode cX5_doorThatHelps 0 = .ok (.aload_n 0, 1) := by decide +kernel
theorem dX5_doorThatHelps_1 : decode cX5_doorThatHelps 1 = .ok (.iload_n 1, 1) := by decide +kernel
theorem dX5_doorThatHelps_2 : decode cX5_doorThatHelps 2 = .ok (.invokevirtual 47, 3) := by decide +kernel
theorem dX5_doorThatHelps_5 : decode cX5_doorThatHelps 5 = .ok (.astore_n 3, 1) := by decide +kernel
theorem dX5_doorThatHelps_6 : decode cX5_doorThatHelps 6 = .ok (.iload_n 2, 1) := by decide +kernel
theorem dX5_doorThatHelps_7 : decode cX5_doorThatHelps 7 = .ok (.invokestatic 71, 3) := by decide +kernel
theorem dX5_doorThatHelps_10 : decode cX5_doorThatHelps 10 = .ok (.aload_n 0, 1) := by decide +kernel
end
section
theorem dX5_doorThatHelps_11 : decode cX5_doorThatHelps 11 = .ok (.getfield 25, 3) := by decide +kernel
theorem dX5_doorThatHelps_14 : decode cX5_doorThatHelps 14 = .ok (.aload_n 3, 1) := by decide +kernel
theorem dX5_doorThatHelps_15 : decode cX5_doorThatHelps 15 = .ok (.invokevirtual 96, 3) := by decide +kernel
theorem dX5_doorThatHelps_18 : decode cX5_doorThatHelps 18 = .ok (.aload_n 0, 1) := by decide +kernel
theorem dX5_doorThatHelps_19 : decode cX5_doorThatHelps 19 = .ok (.getfield 25, 3) := by decide +kernel
theorem dX5_doorThatHelps_22 : decode cX5_doorThatHelps 22 = .ok (.aload_n 0, 1) := by decide +kernel
theorem dX5_doorThatHelps_23 : decode cX5_doorThatHelps 23 = .ok (.getfield 25, 3) := by decide +kernel
theorem dX5_doorThatHelps_26 : decode cX5_doorThatHelps 26 = .ok (.getfield 103, 3) := by decide +kernel
theorem dX5_doorThatHelps_29 : decode cX5_doorThatHelps 29 = .ok (.iload_n 2, 1) := by decide +kernel
theorem dX5_doorThatHelps_30 : decode cX5_doorThatHelps 30 = .ok (.iaload, 1) := by decide +kernel
theorem dX5_doorThatHelps_31 : decode cX5_doorThatHelps 31 = .ok (.invokevirtual 112, 3) := by decide +kernel
theorem dX5_doorThatHelps_34 : decode cX5_doorThatHelps 34 = .ok (.ireturn, 1) := by decide +kernel
theorem dX5_lock_0 : decode cX5_lock 0 = .ok (.aload_n 0, 1) := by decide +kernel
theorem dX5_lock_1 : decode cX5_lock 1 = .ok (.iload_n 1, 1) := by decide +kernel
theorem dX5_lock_2 : decode cX5_lock 2 = .ok (.invokevirtual 47, 3) := by decide +kernel
theorem dX5_lock_5 : decode cX5_lock 5 = .ok (.astore_n 3, 1) := by decide +kernel
theorem dX5_lock_6 : decode cX5_lock 6 = .ok (.iload_n 2, 1) := by decide +kernel
theorem dX5_lock_7 : decode cX5_lock 7 = .ok (.invokestatic 51, 3) := by decide +kernel
theorem dX5_lock_10 : decode cX5_lock 10 = .ok (.aload_n 3, 1) := by decide +kernel
theorem dX5_lock_11 : decode cX5_lock 11 = .ok (.getfield 115, 3) := by decide +kernel
theorem dX5_lock_14 : decode cX5_lock 14 = .ok (.iconst (-1), 1) := by decide +kernel
theorem dX5_lock_15 : decode cX5_lock 15 = .ok (.if_icmp .eq 13, 3) := by decide +kernel
theorem dX5_lock_18 : decode cX5_lock 18 = .ok (.new 33, 3) := by decide +kernel
theorem dX5_lock_21 : decode cX5_lock 21 = .ok (.dup, 1) := by decide +kernel
theorem dX5_lock_22 : decode cX5_lock 22 = .ok (.ldc 119, 2) := by decide +kernel
theorem dX5_lock_24 : decode cX5_lock 24 = .ok (.invokespecial 37, 3) := by decide +kernel
theorem dX5_lock_27 : decode cX5_lock 27 = .ok (.athrow, 1) := by decide +kernel
theorem dX5_lock_28 : decode cX5_lock 28 = .ok (.aload_n 3, 1) := by decide +kernel
theorem dX5_lock_29 : decode cX5_lock 29 = .ok (.iload_n 2, 1) := by decide +kernel
theorem dX5_lock_30 : decode cX5_lock 30 = .ok (.putfield 115, 3) := by decide +kernel
theorem dX5_lock_33 : decode cX5_lock 33 = .ok (.return_, 1) := by decide +kernel
theorem dX5_unlock_0 : decode cX5_unlock 0 = .ok (.aload_n 0, 1) := by decide +kernel
theorem dX5_unlock_1 : decode cX5_unlock 1 = .ok (.iload_n 1, 1) := by decide +kernel
theorem dX5_unlock_2 : decode cX5_unlock 2 = .ok (.invokevirtual 47, 3) := by decide +kernel
theorem dX5_unlock_5 : decode cX5_unlock 5 = .ok (.astore_n 3, 1) := by decide +kernel
theorem dX5_unlock_6 : decode cX5_unlock 6 = .ok (.iload_n 2, 1) := by decide +kernel
theorem dX5_unlock_7 : decode cX5_unlock 7 = .ok (.invokestatic 51, 3) := by decide +kernel
theorem dX5_unlock_10 : decode cX5_unlock 10 = .ok (.aload_n 3, 1) := by decide +kernel
theorem dX5_unlock_11 : decode cX5_unlock 11 = .ok (.iload_n 2, 1) := by decide +kernel
theorem dX5_unlock_12 : decode cX5_unlock 12 = .ok (.invokestatic 121, 3) := by decide +kernel
theorem dX5_unlock_15 : decode cX5_unlock 15 = .ok (.aload_n 3, 1) := by decide +kernel
theorem dX5_unlock_16 : decode cX5_unlock 16 = .ok (.getfield 124, 3) := by decide +kernel
theorem dX5_unlock_19 : decode cX5_unlock 19 = .ok (.iconst (-1), 1) := by decide +kernel
theorem dX5_unlock_20 : decode cX5_unlock 20 = .ok (.if_icmp .eq 13, 3) := by decide +kernel
theorem dX5_unlock_23 : decode cX5_unlock 23 = .ok (.new 33, 3) := by decide +kernel
theorem dX5_unlock_26 : decode cX5_unlock 26 = .ok (.dup, 1) := by decide +kernel
theorem dX5_unlock_27 : decode cX5_unlock 27 = .ok (.ldc 127, 2) := by decide +kernel
theorem dX5_unlock_29 : decode cX5_unlock 29 = .ok (.invokespecial 37, 3) := by decide +kernel
theorem dX5_unlock_32 : decode cX5_unlock 32 = .ok (.athrow, 1) := by decide +kernel
theorem dX5_unlock_33 : decode cX5_unlock 33 = .ok (.aload_n 3, 1) := by decide +kernel
theorem dX5_unlock_34 : decode cX5_unlock 34 = .ok (.iconst (-1), 1) := by decide +kernel
theorem dX5_unlock_35 : decode cX5_unlock 35 = .ok (.putfield 115, 3) := by decide +kernel
theorem dX5_unlock_38 : decode cX5_unlock 38 = .ok (.return_, 1) := by decide +kernel
theorem dX5_lend_0 : decode cX5_lend 0 = .ok (.aload_n 0, 1) := by decide +kernel
theorem dX5_lend_1 : decode cX5_lend 1 = .ok (.iload_n 1, 1) := by decide +kernel
theorem dX5_lend_2 : decode cX5_lend 2 = .ok (.invokevirtual 47, 3) := by decide +kernel
theorem dX5_lend_5 : decode cX5_lend 5 = .ok (.astore 4, 2) := by decide +kernel
theorem dX5_lend_7 : decode cX5_lend 7 = .ok (.iload_n 2, 1) := by decide +kernel
theorem dX5_lend_8 : decode cX5_lend 8 = .ok (.invokestatic 51, 3) := by decide +kernel
theorem dX5_lend_11 : decode cX5_lend 11 = .ok (.iload_n 3, 1) := by decide +kernel
theorem dX5_lend_12 : decode cX5_lend 12 = .ok (.iconst (-1), 1) := by decide +kernel
theorem dX5_lend_13 : decode cX5_lend 13 = .ok (.if_icmp .eq 7, 3) := by decide +kernel
theorem dX5_lend_16 : decode cX5_lend 16 = .ok (.iload_n 3, 1) := by decide +kernel
theorem dX5_lend_17 : decode cX5_lend 17 = .ok (.invokestatic 51, 3) := by decide +kernel
theorem dX5_lend_20 : decode cX5_lend 20 = .ok (.iload_n 2, 1) := by decide +kernel
theorem dX5_lend_21 : decode cX5_lend 21 = .ok (.iload_n 3, 1) := by decide +kernel
theorem dX5_lend_22 : decode cX5_lend 22 = .ok (.if_icmp .ne 13, 3) := by decide +kernel
theorem dX5_lend_25 : decode cX5_lend 25 = .ok (.new 58, 3) := by decide +kernel
theorem dX5_lend_28 : decode cX5_lend 28 = .ok (.dup, 1) := by decide +kernel
theorem dX5_lend_29 : decode cX5_lend 29 = .ok (.ldc 129, 2) := by decide +kernel
theorem dX5_lend_31 : decode cX5_lend 31 = .ok (.invokespecial 62, 3) := by decide +kernel
theorem dX5_lend_34 : decode cX5_lend 34 = .ok (.athrow, 1) := by decide +kernel
theorem dX5_lend_35 : decode cX5_lend 35 = .ok (.aload 4, 2) := by decide +kernel
theorem dX5_lend_37 : decode cX5_lend 37 = .ok (.iload_n 2, 1) := by decide +kernel
theorem dX5_lend_38 : decode cX5_lend 38 = .ok (.invokestatic 121, 3) := by decide +kernel
theorem dX5_lend_41 : decode cX5_lend 41 = .ok (.aload 4, 2) := by decide +kernel
theorem dX5_lend_43 : decode cX5_lend 43 = .ok (.getfield 124, 3) := by decide +kernel
theorem dX5_lend_46 : decode cX5_lend 46 = .ok (.istore 5, 2) := by decide +kernel
theorem dX5_lend_48 : decode cX5_lend 48 = .ok (.aload 4, 2) := by decide +kernel
theorem dX5_lend_50 : decode cX5_lend 50 = .ok (.iload_n 3, 1) := by decide +kernel
theorem dX5_lend_51 : decode cX5_lend 51 = .ok (.putfield 124, 3) := by decide +kernel
theorem dX5_lend_54 : decode cX5_lend 54 = .ok (.iload 5, 2) := by decide +kernel
theorem dX5_lend_56 : decode cX5_lend 56 = .ok (.ireturn, 1) := by decide +kernel
theorem dX5_canChange_0 : decode cX5_canChange 0 = .ok (.aload_n 0, 1) := by decide +kernel
theorem dX5_canChange_1 : decode cX5_canChange 1 = .ok (.iload_n 1, 1) := by decide +kernel
theorem dX5_canChange_2 : decode cX5_canChange 2 = .ok (.invokevirtual 47, 3) := by decide +kernel
theorem dX5_canChange_5 : decode cX5_canChange 5 = .ok (.invokevirtual 131, 3) := by decide +kernel
theorem dX5_canChange_8 : decode cX5_canChange 8 = .ok (.ireturn, 1) := by decide +kernel
theorem dX5_grant_0 : decode cX5_grant 0 = .ok (.aload_n 0, 1) := by decide +kernel
theorem dX5_grant_1 : decode cX5_grant 1 = .ok (.iload_n 1, 1) := by decide +kernel
theorem dX5_grant_2 : decode cX5_grant 2 = .ok (.invokevirtual 47, 3) := by decide +kernel
theorem dX5_grant_5 : decode cX5_grant 5 = .ok (.astore_n 2, 1) := by decide +kernel
theorem dX5_grant_6 : decode cX5_grant 6 = .ok (.aload_n 0, 1) := by decide +kernel
theorem dX5_grant_7 : decode cX5_grant 7 = .ok (.getfield 16, 3) := by decide +kernel
theorem dX5_grant_10 : decode cX5_grant 10 = .ok (.invokevirtual 29, 3) := by decide +kernel
theorem dX5_grant_13 : decode cX5_grant 13 = .ok (.istore_n 3, 1) := by decide +kernel
theorem dX5_grant_14 : decode cX5_grant 14 = .ok (.iload_n 3, 1) := by decide +kernel
theorem dX5_grant_15 : decode cX5_grant 15 = .ok (.bipush 20, 2) := by decide +kernel
theorem dX5_grant_17 : decode cX5_grant 17 = .ok (.if_icmp .lt 13, 3) := by decide +kernel
theorem dX5_grant_20 : decode cX5_grant 20 = .ok (.new 33, 3) := by decide +kernel
theorem dX5_grant_23 : decode cX5_grant 23 = .ok (.dup, 1) := by decide +kernel
theorem dX5_grant_24 : decode cX5_grant 24 = .ok (.ldc 134, 2) := by decide +kernel
theorem dX5_grant_26 : decode cX5_grant 26 = .ok (.invokespecial 37, 3) := by decide +kernel
theorem dX5_grant_29 : decode cX5_grant 29 = .ok (.athrow, 1) := by decide +kernel
theorem dX5_grant_30 : decode cX5_grant 30 = .ok (.aload_n 0, 1) := by decide +kernel
theorem dX5_grant_31 : decode cX5_grant 31 = .ok (.getfield 25, 3) := by decide +kernel
theorem dX5_grant_34 : decode cX5_grant 34 = .ok (.aload_n 2, 1) := by decide +kernel
theorem dX5_grant_35 : decode cX5_grant 35 = .ok (.invokevirtual 96, 3) := by decide +kernel
theorem dX5_grant_38 : decode cX5_grant 38 = .ok (.aload_n 0, 1) := by decide +kernel
theorem dX5_grant_39 : decode cX5_grant 39 = .ok (.getfield 25, 3) := by decide +kernel
theorem dX5_grant_42 : decode cX5_grant 42 = .ok (.invokevirtual 136, 3) := by decide +kernel
theorem dX5_grant_45 : decode cX5_grant 45 = .ok (.ifCond .ne 13, 3) := by decide +kernel
theorem dX5_grant_48 : decode cX5_grant 48 = .ok (.new 33, 3) := by decide +kernel
theorem dX5_grant_51 : decode cX5_grant 51 = .ok (.dup, 1) := by decide +kernel
theorem dX5_grant_52 : decode cX5_grant 52 = .ok (.ldc 140, 2) := by decide +kernel
theorem dX5_grant_54 : decode cX5_grant 54 = .ok (.invokespecial 37, 3) := by decide +kernel
theorem dX5_grant_57 : decode cX5_grant 57 = .ok (.athrow, 1) := by decide +kernel
theorem dX5_grant_58 : decode cX5_grant 58 = .ok (.aload_n 0, 1) := by decide +kernel
theorem dX5_grant_59 : decode cX5_grant 59 = .ok (.getfield 16, 3) := by decide +kernel
theorem dX5_grant_62 : decode cX5_grant 62 = .ok (.new 142, 3) := by decide +kernel
theorem dX5_grant_65 : decode cX5_grant 65 = .ok (.dup, 1) := by decide +kernel
theorem dX5_grant_66 : decode cX5_grant 66 = .ok (.aload_n 2, 1) := by decide +kernel
theorem dX5_grant_67 : decode cX5_grant 67 = .ok (.invokespecial 144, 3) := by decide +kernel
theorem dX5_grant_70 : decode cX5_grant 70 = .ok (.invokevirtual 43, 3) := by decide +kernel
theorem dX5_grant_73 : decode cX5_grant 73 = .ok (.pop, 1) := by decide +kernel
theorem dX5_grant_74 : decode cX5_grant 74 = .ok (.iload_n 3, 1) := by decide +kernel
theorem dX5_grant_75 : decode cX5_grant 75 = .ok (.ireturn, 1) := by decide +kernel
theorem dX5_holds_0 : decode cX5_holds 0 = .ok (.iload_n 1, 1) := by decide +kernel
theorem dX5_holds_1 : decode cX5_holds 1 = .ok (.ifCond .lt 14, 3) := by decide +kernel
theorem dX5_holds_4 : decode cX5_holds 4 = .ok (.iload_n 1, 1) := by decide +kernel
theorem dX5_holds_5 : decode cX5_holds 5 = .ok (.aload_n 0, 1) := by decide +kernel
theorem dX5_holds_6 : decode cX5_holds 6 = .ok (.getfield 16, 3) := by decide +kernel
theorem dX5_holds_9 : decode cX5_holds 9 = .ok (.invokevirtual 29, 3) := by decide +kernel
theorem dX5_holds_12 : decode cX5_holds 12 = .ok (.if_icmp .lt 13, 3) := by decide +kernel
theorem dX5_holds_15 : decode cX5_holds 15 = .ok (.new 146, 3) := by decide +kernel
theorem dX5_holds_18 : decode cX5_holds 18 = .ok (.dup, 1) := by decide +kernel
theorem dX5_holds_19 : decode cX5_holds 19 = .ok (.ldc 148, 2) := by decide +kernel
theorem dX5_holds_21 : decode cX5_holds 21 = .ok (.invokespecial 150, 3) := by decide +kernel
theorem dX5_holds_24 : decode cX5_holds 24 = .ok (.athrow, 1) := by decide +kernel
theorem dX5_holds_25 : decode cX5_holds 25 = .ok (.aload_n 0, 1) := by decide +kernel
theorem dX5_holds_26 : decode cX5_holds 26 = .ok (.getfield 16, 3) := by decide +kernel
theorem dX5_holds_29 : decode cX5_holds 29 = .ok (.iload_n 1, 1) := by decide +kernel
theorem dX5_holds_30 : decode cX5_holds 30 = .ok (.invokevirtual 151, 3) := by decide +kernel
theorem dX5_holds_33 : decode cX5_holds 33 = .ok (.checkcast 142, 3) := by decide +kernel
theorem dX5_holds_36 : decode cX5_holds 36 = .ok (.invokevirtual 155, 3) := by decide +kernel
theorem dX5_holds_39 : decode cX5_holds 39 = .ok (.ireturn, 1) := by decide +kernel
theorem dX5_print_0 : decode cX5_print 0 = .ok (.aload_n 0, 1) := by decide +kernel
theorem dX5_print_1 : decode cX5_print 1 = .ok (.iload_n 1, 1) := by decide +kernel
theorem dX5_print_2 : decode cX5_print 2 = .ok (.invokevirtual 47, 3) := by decide +kernel
theorem dX5_print_5 : decode cX5_print 5 = .ok (.astore_n 2, 1) := by decide +kernel
theorem dX5_print_6 : decode cX5_print 6 = .ok (.aload_n 0, 1) := by decide +kernel
theorem dX5_print_7 : decode cX5_print 7 = .ok (.getfield 19, 3) := by decide +kernel
theorem dX5_print_10 : decode cX5_print 10 = .ok (.invokevirtual 29, 3) := by decide +kernel
theorem dX5_print_13 : decode cX5_print 13 = .ok (.istore_n 3, 1) := by decide +kernel
theorem dX5_print_14 : decode cX5_print 14 = .ok (.iload_n 3, 1) := by decide +kernel
theorem dX5_print_15 : decode cX5_print 15 = .ok (.bipush 30, 2) := by decide +kernel
theorem dX5_print_17 : decode cX5_print 17 = .ok (.if_icmp .lt 13, 3) := by decide +kernel
theorem dX5_print_20 : decode cX5_print 20 = .ok (.new 33, 3) := by decide +kernel
theorem dX5_print_23 : decode cX5_print 23 = .ok (.dup, 1) := by decide +kernel
theorem dX5_print_24 : decode cX5_print 24 = .ok (.ldc 158, 2) := by decide +kernel
theorem dX5_print_26 : decode cX5_print 26 = .ok (.invokespecial 37, 3) := by decide +kernel
theorem dX5_print_29 : decode cX5_print 29 = .ok (.athrow, 1) := by decide +kernel
theorem dX5_print_30 : decode cX5_print 30 = .ok (.aload_n 0, 1) := by decide +kernel
theorem dX5_print_31 : decode cX5_print 31 = .ok (.getfield 19, 3) := by decide +kernel
theorem dX5_print_34 : decode cX5_print 34 = .ok (.new 160, 3) := by decide +kernel
theorem dX5_print_37 : decode cX5_print 37 = .ok (.dup, 1) := by decide +kernel
theorem dX5_print_38 : decode cX5_print 38 = .ok (.aload_n 2, 1) := by decide +kernel
theorem dX5_print_39 : decode cX5_print 39 = .ok (.aload_n 0, 1) := by decide +kernel
theorem dX5_print_40 : decode cX5_print 40 = .ok (.aload_n 2, 1) := by decide +kernel
theorem dX5_print_41 : decode cX5_print 41 = .ok (.invokevirtual 162, 3) := by decide +kernel
theorem dX5_print_44 : decode cX5_print 44 = .ok (.invokespecial 166, 3) := by decide +kernel
theorem dX5_print_47 : decode cX5_print 47 = .ok (.invokevirtual 43, 3) := by decide +kernel
theorem dX5_print_50 : decode cX5_print 50 = .ok (.pop, 1) := by decide +kernel
theorem dX5_print_51 : decode cX5_print 51 = .ok (.iload_n 3, 1) := by decide +kernel
theorem dX5_print_52 : decode cX5_print 52 = .ok (.ireturn, 1) := by decide +kernel
theorem dX5_permitOf_0 : decode cX5_permitOf 0 = .ok (.aload_n 0, 1) := by decide +kernel
theorem dX5_permitOf_1 : decode cX5_permitOf 1 = .ok (.iload_n 1, 1) := by decide +kernel
theorem dX5_permitOf_2 : decode cX5_permitOf 2 = .ok (.invokevirtual 168, 3) := by decide +kernel
theorem dX5_permitOf_5 : decode cX5_permitOf 5 = .ok (.getfield 172, 3) := by decide +kernel
theorem dX5_permitOf_8 : decode cX5_permitOf 8 = .ok (.ireturn, 1) := by decide +kernel
theorem dX5_isGood_0 : decode cX5_isGood 0 = .ok (.aload_n 0, 1) := by decide +kernel
theorem dX5_isGood_1 : decode cX5_isGood 1 = .ok (.iload_n 1, 1) := by decide +kernel
theorem dX5_isGood_2 : decode cX5_isGood 2 = .ok (.invokevirtual 168, 3) := by decide +kernel
theorem dX5_isGood_5 : decode cX5_isGood 5 = .ok (.astore_n 2, 1) := by decide +kernel
theorem dX5_isGood_6 : decode cX5_isGood 6 = .ok (.aload_n 2, 1) := by decide +kernel
theorem dX5_isGood_7 : decode cX5_isGood 7 = .ok (.getfield 172, 3) := by decide +kernel
theorem dX5_isGood_10 : decode cX5_isGood 10 = .ok (.iconst (-1), 1) := by decide +kernel
theorem dX5_isGood_11 : decode cX5_isGood 11 = .ok (.if_icmp .eq 14, 3) := by decide +kernel
theorem dX5_isGood_14 : decode cX5_isGood 14 = .ok (.aload_n 2, 1) := by decide +kernel
theorem dX5_isGood_15 : decode cX5_isGood 15 = .ok (.invokevirtual 175, 3) := by decide +kernel
theorem dX5_isGood_18 : decode cX5_isGood 18 = .ok (.ifCond .ne 7, 3) := by decide +kernel
theorem dX5_isGood_21 : decode cX5_isGood 21 = .ok (.iconst 1, 1) := by decide +kernel
theorem dX5_isGood_22 : decode cX5_isGood 22 = .ok (.goto 4, 3) := by decide +kernel
theorem dX5_isGood_25 : decode cX5_isGood 25 = .ok (.iconst 0, 1) := by decide +kernel
theorem dX5_isGood_26 : decode cX5_isGood 26 = .ok (.ireturn, 1) := by decide +kernel
theorem dX5_old_0 : decode cX5_old 0 = .ok (.iconst 0, 1) := by decide +kernel
theorem dX5_old_1 : decode cX5_old 1 = .ok (.istore_n 1, 1) := by decide +kernel
theorem dX5_old_2 : decode cX5_old 2 = .ok (.iconst 0, 1) := by decide +kernel
theorem dX5_old_3 : decode cX5_old 3 = .ok (.istore_n 2, 1) := by decide +kernel
theorem dX5_old_4 : decode cX5_old 4 = .ok (.iload_n 2, 1) := by decide +kernel
theorem dX5_old_5 : decode cX5_old 5 = .ok (.aload_n 0, 1) := by decide +kernel
theorem dX5_old_6 : decode cX5_old 6 = .ok (.getfield 19, 3) := by decide +kernel
theorem dX5_old_9 : decode cX5_old 9 = .ok (.invokevirtual 29, 3) := by decide +kernel
theorem dX5_old_12 : decode cX5_old 12 = .ok (.if_icmp .ge 29, 3) := by decide +kernel
theorem dX5_old_15 : decode cX5_old 15 = .ok (.aload_n 0, 1) := by decide +kernel
theorem dX5_old_16 : decode cX5_old 16 = .ok (.getfield 19, 3) := by decide +kernel
theorem dX5_old_19 : decode cX5_old 19 = .ok (.iload_n 2, 1) := by decide +kernel
theorem dX5_old_20 : decode cX5_old 20 = .ok (.invokevirtual 151, 3) := by decide +kernel
theorem dX5_old_23 : decode cX5_old 23 = .ok (.checkcast 160, 3) := by decide +kernel
theorem dX5_old_26 : decode cX5_old 26 = .ok (.invokevirtual 175, 3) := by decide +kernel
theorem dX5_old_29 : decode cX5_old 29 = .ok (.ifCond .eq 6, 3) := by decide +kernel
theorem dX5_old_32 : decode cX5_old 32 = .ok (.iinc 1 1, 3) := by decide +kernel
theorem dX5_old_35 : decode cX5_old 35 = .ok (.iinc 2 1, 3) := by decide +kernel
theorem dX5_old_38 : decode cX5_old 38 = .ok (.goto (-34), 3) := by decide +kernel
theorem dX5_old_41 : decode cX5_old 41 = .ok (.iload_n 1, 1) := by decide +kernel
theorem dX5_old_42 : decode cX5_old 42 = .ok (.ireturn, 1) := by decide +kernel
theorem dX5_drawingAt_0 : decode cX5_drawingAt 0 = .ok (.iload_n 1, 1) := by decide +kernel
theorem dX5_drawingAt_1 : decode cX5_drawingAt 1 = .ok (.ifCond .lt 14, 3) := by decide +kernel
theorem dX5_drawingAt_4 : decode cX5_drawingAt 4 = .ok (.iload_n 1, 1) := by decide +kernel
theorem dX5_drawingAt_5 : decode cX5_drawingAt 5 = .ok (.aload_n 0, 1) := by decide +kernel
theorem dX5_drawingAt_6 : decode cX5_drawingAt 6 = .ok (.getfield 10, 3) := by decide +kernel
theorem dX5_drawingAt_9 : decode cX5_drawingAt 9 = .ok (.invokevirtual 29, 3) := by decide +kernel
theorem dX5_drawingAt_12 : decode cX5_drawingAt 12 = .ok (.if_icmp .lt 13, 3) := by decide +kernel
theorem dX5_drawingAt_15 : decode cX5_drawingAt 15 = .ok (.new 146, 3) := by decide +kernel
theorem dX5_drawingAt_18 : decode cX5_drawingAt 18 = .ok (.dup, 1) := by decide +kernel
theorem dX5_drawingAt_19 : decode cX5_drawingAt 19 = .ok (.ldc 178, 2) := by decide +kernel
theorem dX5_drawingAt_21 : decode cX5_drawingAt 21 = .ok (.invokespecial 150, 3) := by decide +kernel
theorem dX5_drawingAt_24 : decode cX5_drawingAt 24 = .ok (.athrow, 1) := by decide +kernel
theorem dX5_drawingAt_25 : decode cX5_drawingAt 25 = .ok (.aload_n 0, 1) := by decide +kernel
theorem dX5_drawingAt_26 : decode cX5_drawingAt 26 = .ok (.getfield 10, 3) := by decide +kernel
theorem dX5_drawingAt_29 : decode cX5_drawingAt 29 = .ok (.iload_n 1, 1) := by decide +kernel
theorem dX5_drawingAt_30 : decode cX5_drawingAt 30 = .ok (.invokevirtual 151, 3) := by decide +kernel
theorem dX5_drawingAt_33 : decode cX5_drawingAt 33 = .ok (.checkcast 40, 3) := by decide +kernel
theorem dX5_drawingAt_36 : decode cX5_drawingAt 36 = .ok (.areturn, 1) := by decide +kernel
theorem dX5_printAt_0 : decode cX5_printAt 0 = .ok (.iload_n 1, 1) := by decide +kernel
theorem dX5_printAt_1 : decode cX5_printAt 1 = .ok (.ifCond .lt 14, 3) := by decide +kernel
theorem dX5_printAt_4 : decode cX5_printAt 4 = .ok (.iload_n 1, 1) := by decide +kernel
theorem dX5_printAt_5 : decode cX5_printAt 5 = .ok (.aload_n 0, 1) := by decide +kernel
theorem dX5_printAt_6 : decode cX5_printAt 6 = .ok (.getfield 19, 3) := by decide +kernel
theorem dX5_printAt_9 : decode cX5_printAt 9 = .ok (.invokevirtual 29, 3) := by decide +kernel
theorem dX5_printAt_12 : decode cX5_printAt 12 = .ok (.if_icmp .lt 13, 3) := by decide +kernel
theorem dX5_printAt_15 : decode cX5_printAt 15 = .ok (.new 146, 3) := by decide +kernel
theorem dX5_printAt_18 : decode cX5_printAt 18 = .ok (.dup, 1) := by decide +kernel
theorem dX5_printAt_19 : decode cX5_printAt 19 = .ok (.ldc 180, 2) := by decide +kernel
theorem dX5_printAt_21 : decode cX5_printAt 21 = .ok (.invokespecial 150, 3) := by decide +kernel
theorem dX5_printAt_24 : decode cX5_printAt 24 = .ok (.athrow, 1) := by decide +kernel
theorem dX5_printAt_25 : decode cX5_printAt 25 = .ok (.aload_n 0, 1) := by decide +kernel
theorem dX5_printAt_26 : decode cX5_printAt 26 = .ok (.getfield 19, 3) := by decide +kernel
theorem dX5_printAt_29 : decode cX5_printAt 29 = .ok (.iload_n 1, 1) := by decide +kernel
theorem dX5_printAt_30 : decode cX5_printAt 30 = .ok (.invokevirtual 151, 3) := by decide +kernel
theorem dX5_printAt_33 : decode cX5_printAt 33 = .ok (.checkcast 160, 3) := by decide +kernel
theorem dX5_printAt_36 : decode cX5_printAt 36 = .ok (.areturn, 1) := by decide +kernel
theorem dX5_highestPermit_0 : decode cX5_highestPermit 0 = .ok (.aload_n 0, 1) := by decide +kernel
theorem dX5_highestPermit_1 : decode cX5_highestPermit 1 = .ok (.getfield 16, 3) := by decide +kernel
theorem dX5_highestPermit_4 : decode cX5_highestPermit 4 = .ok (.invokevirtual 29, 3) := by decide +kernel
theorem dX5_highestPermit_7 : decode cX5_highestPermit 7 = .ok (.iconst 1, 1) := by decide +kernel
theorem dX5_highestPermit_8 : decode cX5_highestPermit 8 = .ok (.isub, 1) := by decide +kernel
theorem dX5_highestPermit_9 : decode cX5_highestPermit 9 = .ok (.istore_n 2, 1) := by decide +kernel
theorem dX5_highestPermit_10 : decode cX5_highestPermit 10 = .ok (.iload_n 2, 1) := by decide +kernel
theorem dX5_highestPermit_11 : decode cX5_highestPermit 11 = .ok (.ifCond .lt 38, 3) := by decide +kernel
theorem dX5_highestPermit_14 : decode cX5_highestPermit 14 = .ok (.aload_n 0, 1) := by decide +kernel
theorem dX5_highestPermit_15 : decode cX5_highestPermit 15 = .ok (.getfield 16, 3) := by decide +kernel
theorem dX5_highestPermit_18 : decode cX5_highestPermit 18 = .ok (.iload_n 2, 1) := by decide +kernel
theorem dX5_highestPermit_19 : decode cX5_highestPermit 19 = .ok (.invokevirtual 151, 3) := by decide +kernel
theorem dX5_highestPermit_22 : decode cX5_highestPermit 22 = .ok (.checkcast 142, 3) := by decide +kernel
theorem dX5_highestPermit_25 : decode cX5_highestPermit 25 = .ok (.astore_n 3, 1) := by decide +kernel
theorem dX5_highestPermit_26 : decode cX5_highestPermit 26 = .ok (.aload_n 3, 1) := by decide +kernel
theorem dX5_highestPermit_27 : decode cX5_highestPermit 27 = .ok (.getfield 182, 3) := by decide +kernel
theorem dX5_highestPermit_30 : decode cX5_highestPermit 30 = .ok (.aload_n 1, 1) := by decide +kernel
theorem dX5_highestPermit_31 : decode cX5_highestPermit 31 = .ok (.if_acmp .ne 12, 3) := by decide +kernel
theorem dX5_highestPermit_34 : decode cX5_highestPermit 34 = .ok (.aload_n 3, 1) := by decide +kernel
theorem dX5_highestPermit_35 : decode cX5_highestPermit 35 = .ok (.invokevirtual 155, 3) := by decide +kernel
theorem dX5_highestPermit_38 : decode cX5_highestPermit 38 = .ok (.ifCond .eq 5, 3) := by decide +kernel
theorem dX5_highestPermit_41 : decode cX5_highestPermit 41 = .ok (.iload_n 2, 1) := by decide +kernel
theorem dX5_highestPermit_42 : decode cX5_highestPermit 42 = .ok (.ireturn, 1) := by decide +kernel
theorem dX5_highestPermit_43 : decode cX5_highestPermit 43 = .ok (.iinc 2 (-1), 3) := by decide +kernel
theorem dX5_highestPermit_46 : decode cX5_highestPermit 46 = .ok (.goto (-36), 3) := by decide +kernel
theorem dX5_highestPermit_49 : decode cX5_highestPermit 49 = .ok (.iconst (-1), 1) := by decide +kernel
theorem dX5_highestPermit_50 : decode cX5_highestPermit 50 = .ok (.ireturn, 1) := by decide +kernel
theorem dX5_needPerson_0 : decode cX5_needPerson 0 = .ok (.iload_n 0, 1) := by decide +kernel
theorem dX5_needPerson_1 : decode cX5_needPerson 1 = .ok (.ifCond .lt 9, 3) := by decide +kernel
theorem dX5_needPerson_4 : decode cX5_needPerson 4 = .ok (.iload_n 0, 1) := by decide +kernel
theorem dX5_needPerson_5 : decode cX5_needPerson 5 = .ok (.bipush 6, 2) := by decide +kernel
theorem dX5_needPerson_7 : decode cX5_needPerson 7 = .ok (.if_icmp .lt 13, 3) := by decide +kernel
theorem dX5_needPerson_10 : decode cX5_needPerson 10 = .ok (.new 58, 3) := by decide +kernel
theorem dX5_needPerson_13 : decode cX5_needPerson 13 = .ok (.dup, 1) := by decide +kernel
theorem dX5_needPerson_14 : decode cX5_needPerson 14 = .ok (.ldc 186, 2) := by decide +kernel
theorem dX5_needPerson_16 : decode cX5_needPerson 16 = .ok (.invokespecial 62, 3) := by decide +kernel
theorem dX5_needPerson_19 : decode cX5_needPerson 19 = .ok (.athrow, 1) := by decide +kernel
theorem dX5_needPerson_20 : decode cX5_needPerson 20 = .ok (.return_, 1) := by decide +kernel
theorem dX5_needSide_0 : decode cX5_needSide 0 = .ok (.iload_n 0, 1) := by decide +kernel
theorem dX5_needSide_1 : decode cX5_needSide 1 = .ok (.ifCond .lt 9, 3) := by decide +kernel
theorem dX5_needSide_4 : decode cX5_needSide 4 = .ok (.iload_n 0, 1) := by decide +kernel
theorem dX5_needSide_5 : decode cX5_needSide 5 = .ok (.bipush 40, 2) := by decide +kernel
theorem dX5_needSide_7 : decode cX5_needSide 7 = .ok (.if_icmp .lt 13, 3) := by decide +kernel
theorem dX5_needSide_10 : decode cX5_needSide 10 = .ok (.new 58, 3) := by decide +kernel
theorem dX5_needSide_13 : decode cX5_needSide 13 = .ok (.dup, 1) := by decide +kernel
theorem dX5_needSide_14 : decode cX5_needSide 14 = .ok (.ldc 188, 2) := by decide +kernel
theorem dX5_needSide_16 : decode cX5_needSide 16 = .ok (.invokespecial 62, 3) := by decide +kernel
theorem dX5_needSide_19 : decode cX5_needSide 19 = .ok (.athrow, 1) := by decide +kernel
theorem dX5_needSide_20 : decode cX5_needSide 20 = .ok (.return_, 1) := by decide +kernel
theorem dX5_needCell_0 : decode cX5_needCell 0 = .ok (.iload_n 0, 1) := by decide +kernel
theorem dX5_needCell_1 : decode cX5_needCell 1 = .ok (.ifCond .lt 9, 3) := by decide +kernel
theorem dX5_needCell_4 : decode cX5_needCell 4 = .ok (.iload_n 0, 1) := by decide +kernel
theorem dX5_needCell_5 : decode cX5_needCell 5 = .ok (.bipush 25, 2) := by decide +kernel
theorem dX5_needCell_7 : decode cX5_needCell 7 = .ok (.if_icmp .lt 13, 3) := by decide +kernel
theorem dX5_needCell_10 : decode cX5_needCell 10 = .ok (.new 58, 3) := by decide +kernel
theorem dX5_needCell_13 : decode cX5_needCell 13 = .ok (.dup, 1) := by decide +kernel
theorem dX5_needCell_14 : decode cX5_needCell 14 = .ok (.ldc 190, 2) := by decide +kernel
theorem dX5_needCell_16 : decode cX5_needCell 16 = .ok (.invokespecial 62, 3) := by decide +kernel
theorem dX5_needCell_19 : decode cX5_needCell 19 = .ok (.athrow, 1) := by decide +kernel
theorem dX5_needCell_20 : decode cX5_needCell 20 = .ok (.return_, 1) := by decide +kernel
theorem dX5_needChanger_0 : decode cX5_needChanger 0 = .ok (.aload_n 0, 1) := by decide +kernel
theorem dX5_needChanger_1 : decode cX5_needChanger 1 = .ok (.invokevirtual 131, 3) := by decide +kernel
theorem dX5_needChanger_4 : decode cX5_needChanger 4 = .ok (.iload_n 1, 1) := by decide +kernel
theorem dX5_needChanger_5 : decode cX5_needChanger 5 = .ok (.if_icmp .eq 13, 3) := by decide +kernel
theorem dX5_needChanger_8 : decode cX5_needChanger 8 = .ok (.new 33, 3) := by decide +kernel
theorem dX5_needChanger_11 : decode cX5_needChanger 11 = .ok (.dup, 1) := by decide +kernel
theorem dX5_needChanger_12 : decode cX5_needChanger 12 = .ok (.ldc 192, 2) := by decide +kernel
theorem dX5_needChanger_14 : decode cX5_needChanger 14 = .ok (.invokespecial 37, 3) := by decide +kernel
theorem dX5_needChanger_17 : decode cX5_needChanger 17 = .ok (.athrow, 1) := by decide +kernel
theorem dX5_needChanger_18 : decode cX5_needChanger 18 = .ok (.return_, 1) := by decide +kernel
theorem dX5_needLocker_0 : decode cX5_needLocker 0 = .ok (.aload_n 0, 1) := by decide +kernel
theorem dX5_needLocker_1 : decode cX5_needLocker 1 = .ok (.getfield 115, 3) := by decide +kernel
theorem dX5_needLocker_4 : decode cX5_needLocker 4 = .ok (.iload_n 1, 1) := by decide +kernel
theorem dX5_needLocker_5 : decode cX5_needLocker 5 = .ok (.if_icmp .eq 13, 3) := by decide +kernel
theorem dX5_needLocker_8 : decode cX5_needLocker 8 = .ok (.new 33, 3) := by decide +kernel
theorem dX5_needLocker_11 : decode cX5_needLocker 11 = .ok (.dup, 1) := by decide +kernel
theorem dX5_needLocker_12 : decode cX5_needLocker 12 = .ok (.ldc 194, 2) := by decide +kernel
theorem dX5_needLocker_14 : decode cX5_needLocker 14 = .ok (.invokespecial 37, 3) := by decide +kernel
theorem dX5_needLocker_17 : decode cX5_needLocker 17 = .ok (.athrow, 1) := by decide +kernel
theorem dX5_needLocker_18 : decode cX5_needLocker 18 = .ok (.return_, 1) := by decide +kernel
theorem dX5_firstCell_0 : decode cX5_firstCell 0 = .ok (.iload_n 0, 1) := by decide +kernel
theorem dX5_firstCell_1 : decode cX5_firstCell 1 = .ok (.bipush 20, 2) := by decide +kernel
theorem dX5_firstCell_3 : decode cX5_firstCell 3 = .ok (.if_icmp .ge 13, 3) := by decide +kernel
theorem dX5_firstCell_6 : decode cX5_firstCell 6 = .ok (.iconst 5, 1) := by decide +kernel
theorem dX5_firstCell_7 : decode cX5_firstCell 7 = .ok (.iload_n 0, 1) := by decide +kernel
theorem dX5_firstCell_8 : decode cX5_firstCell 8 = .ok (.iconst 4, 1) := by decide +kernel
theorem dX5_firstCell_9 : decode cX5_firstCell 9 = .ok (.idiv, 1) := by decide +kernel
theorem dX5_firstCell_10 : decode cX5_firstCell 10 = .ok (.imul, 1) := by decide +kernel
theorem dX5_firstCell_11 : decode cX5_firstCell 11 = .ok (.iload_n 0, 1) := by decide +kernel
theorem dX5_firstCell_12 : decode cX5_firstCell 12 = .ok (.iconst 4, 1) := by decide +kernel
theorem dX5_firstCell_13 : decode cX5_firstCell 13 = .ok (.irem, 1) := by decide +kernel
theorem dX5_firstCell_14 : decode cX5_firstCell 14 = .ok (.iadd, 1) := by decide +kernel
theorem dX5_firstCell_15 : decode cX5_firstCell 15 = .ok (.ireturn, 1) := by decide +kernel
theorem dX5_firstCell_16 : decode cX5_firstCell 16 = .ok (.iload_n 0, 1) := by decide +kernel
theorem dX5_firstCell_17 : decode cX5_firstCell 17 = .ok (.bipush 20, 2) := by decide +kernel
theorem dX5_firstCell_19 : decode cX5_firstCell 19 = .ok (.isub, 1) := by decide +kernel
theorem dX5_firstCell_20 : decode cX5_firstCell 20 = .ok (.ireturn, 1) := by decide +kernel
theorem dX5_secondCell_0 : decode cX5_secondCell 0 = .ok (.iload_n 0, 1) := by decide +kernel
theorem dX5_secondCell_1 : decode cX5_secondCell 1 = .ok (.invokestatic 196, 3) := by decide +kernel
theorem dX5_secondCell_4 : decode cX5_secondCell 4 = .ok (.iload_n 0, 1) := by decide +kernel
theorem dX5_secondCell_5 : decode cX5_secondCell 5 = .ok (.bipush 20, 2) := by decide +kernel
theorem dX5_secondCell_7 : decode cX5_secondCell 7 = .ok (.if_icmp .ge 7, 3) := by decide +kernel
theorem dX5_secondCell_10 : decode cX5_secondCell 10 = .ok (.iconst 1, 1) := by decide +kernel
theorem dX5_secondCell_11 : decode cX5_secondCell 11 = .ok (.goto 4, 3) := by decide +kernel
theorem dX5_secondCell_14 : decode cX5_secondCell 14 = .ok (.iconst 5, 1) := by decide +kernel
theorem dX5_secondCell_15 : decode cX5_secondCell 15 = .ok (.iadd, 1) := by decide +kernel
theorem dX5_secondCell_16 : decode cX5_secondCell 16 = .ok (.ireturn, 1) := by decide +kernel
theorem dX6_init_0 : decode cX6_init 0 = .ok (.aload_n 0, 1) := by decide +kernel
theorem dX6_init_1 : decode cX6_init 1 = .ok (.invokespecial 1, 3) := by decide +kernel
theorem dX6_init_4 : decode cX6_init 4 = .ok (.aload_n 0, 1) := by decide +kernel
theorem dX6_init_5 : decode cX6_init 5 = .ok (.sipush 240, 3) := by decide +kernel
theorem dX6_init_8 : decode cX6_init 8 = .ok (.newarray .int, 2) := by decide +kernel
theorem dX6_init_10 : decode cX6_init 10 = .ok (.putfield 7, 3) := by decide +kernel
theorem dX6_init_13 : decode cX6_init 13 = .ok (.aload_n 0, 1) := by decide +kernel
theorem dX6_init_14 : decode cX6_init 14 = .ok (.bipush 6, 2) := by decide +kernel
theorem dX6_init_16 : decode cX6_init 16 = .ok (.newarray .int, 2) := by decide +kernel
theorem dX6_init_18 : decode cX6_init 18 = .ok (.putfield 13, 3) := by decide +kernel
theorem dX6_init_21 : decode cX6_init 21 = .ok (.aload_n 0, 1) := by decide +kernel
theorem dX6_init_22 : decode cX6_init 22 = .ok (.bipush 6, 2) := by decide +kernel
theorem dX6_init_24 : decode cX6_init 24 = .ok (.newarray .int, 2) := by decide +kernel
theorem dX6_init_26 : decode cX6_init 26 = .ok (.putfield 16, 3) := by decide +kernel
theorem dX6_init_29 : decode cX6_init 29 = .ok (.aload_n 0, 1) := by decide +kernel
theorem dX6_init_30 : decode cX6_init 30 = .ok (.bipush 6, 2) := by decide +kernel
theorem dX6_init_32 : decode cX6_init 32 = .ok (.newarray .int, 2) := by decide +kernel
theorem dX6_init_34 : decode cX6_init 34 = .ok (.putfield 19, 3) := by decide +kernel
theorem dX6_init_37 : decode cX6_init 37 = .ok (.aload_n 0, 1) := by decide +kernel
theorem dX6_init_38 : decode cX6_init 38 = .ok (.bipush 6, 2) := by decide +kernel
theorem dX6_init_40 : decode cX6_init 40 = .ok (.newarray .int, 2) := by decide +kernel
theorem dX6_init_42 : decode cX6_init 42 = .ok (.putfield 22, 3) := by decide +kernel
theorem dX6_init_45 : decode cX6_init 45 = .ok (.aload_n 0, 1) := by decide +kernel
theorem dX6_init_46 : decode cX6_init 46 = .ok (.sipush 240, 3) := by decide +kernel
theorem dX6_init_49 : decode cX6_init 49 = .ok (.newarray .int, 2) := by decide +kernel
theorem dX6_init_51 : decode cX6_init 51 = .ok (.putfield 25, 3) := by decide +kernel
theorem dX6_init_54 : decode cX6_init 54 = .ok (.aload_n 0, 1) := by decide +kernel
theorem dX6_init_55 : decode cX6_init 55 = .ok (.bipush 6, 2) := by decide +kernel
theorem dX6_init_57 : decode cX6_init 57 = .ok (.newarray .int, 2) := by decide +kernel
theorem dX6_init_59 : decode cX6_init 59 = .ok (.putfield 28, 3) := by decide +kernel
theorem dX6_init_62 : decode cX6_init 62 = .ok (.aload_n 0, 1) := by decide +kernel
theorem dX6_init_63 : decode cX6_init 63 = .ok (.bipush 25, 2) := by decide +kernel
theorem dX6_init_65 : decode cX6_init 65 = .ok (.newarray .int, 2) := by decide +kernel
theorem dX6_init_67 : decode cX6_init 67 = .ok (.putfield 31, 3) := by decide +kernel
theorem dX6_init_70 : decode cX6_init 70 = .ok (.aload_n 0, 1) := by decide +kernel
theorem dX6_init_71 : decode cX6_init 71 = .ok (.bipush 25, 2) := by decide +kernel
theorem dX6_init_73 : decode cX6_init 73 = .ok (.newarray .int, 2) := by decide +kernel
theorem dX6_init_75 : decode cX6_init 75 = .ok (.putfield 34, 3) := by decide +kernel
theorem dX6_init_78 : decode cX6_init 78 = .ok (.aload_n 0, 1) := by decide +kernel
theorem dX6_init_79 : decode cX6_init 79 = .ok (.bipush 20, 2) := by decide +kernel
theorem dX6_init_81 : decode cX6_init 81 = .ok (.newarray .int, 2) := by decide +kernel
theorem dX6_init_83 : decode cX6_init 83 = .ok (.putfield 37, 3) := by decide +kernel
theorem dX6_init_86 : decode cX6_init 86 = .ok (.aload_n 0, 1) := by decide +kernel
theorem dX6_init_87 : decode cX6_init 87 = .ok (.sipush 800, 3) := by decide +kernel
theorem dX6_init_90 : decode cX6_init 90 = .ok (.newarray .int, 2) := by decide +kernel
theorem dX6_init_92 : decode cX6_init 92 = .ok (.putfield 40, 3) := by decide +kernel
theorem dX6_init_95 : decode cX6_init 95 = .ok (.aload_n 0, 1) := by decide +kernel
theorem dX6_init_96 : decode cX6_init 96 = .ok (.bipush 20, 2) := by decide +kernel
theorem dX6_init_98 : decode cX6_init 98 = .ok (.newarray .int, 2) := by decide +kernel
theorem dX6_init_100 : decode cX6_init 100 = .ok (.putfield 43, 3) := by decide +kernel
theorem dX6_init_103 : decode cX6_init 103 = .ok (.aload_n 0, 1) := by decide +kernel
theorem dX6_init_104 : decode cX6_init 104 = .ok (.bipush 30, 2) := by decide +kernel
theorem dX6_init_106 : decode cX6_init 106 = .ok (.newarray .int, 2) := by decide +kernel
theorem dX6_init_108 : decode cX6_init 108 = .ok (.putfield 46, 3) := by decide +kernel
theorem dX6_init_111 : decode cX6_init 111 = .ok (.aload_n 0, 1) := by decide +kernel
theorem dX6_init_112 : decode cX6_init 112 = .ok (.sipush 1200, 3) := by decide +kernel
theorem dX6_init_115 : decode cX6_init 115 = .ok (.newarray .int, 2) := by decide +kernel
theorem dX6_init_117 : decode cX6_init 117 = .ok (.putfield 49, 3) := by decide +kernel
theorem dX6_init_120 : decode cX6_init 120 = .ok (.aload_n 0, 1) := by decide +kernel
theorem dX6_init_121 : decode cX6_init 121 = .ok (.bipush 30, 2) := by decide +kernel
theorem dX6_init_123 : decode cX6_init 123 = .ok (.newarray .int, 2) := by decide +kernel
theorem dX6_init_125 : decode cX6_init 125 = .ok (.putfield 52, 3) := by decide +kernel
theorem dX6_init_128 : decode cX6_init 128 = .ok (.aload_n 0, 1) := by decide +kernel
theorem dX6_init_129 : decode cX6_init 129 = .ok (.bipush 30, 2) := by decide +kernel
theorem dX6_init_131 : decode cX6_init 131 = .ok (.newarray .int, 2) := by decide +kernel
theorem dX6_init_133 : decode cX6_init 133 = .ok (.putfield 55, 3) := by decide +kernel
theorem dX6_init_136 : decode cX6_init 136 = .ok (.return_, 1) := by decide +kernel
theorem dX6_thrown_0 : decode cX6_thrown 0 = .ok (.aload_n 0, 1) := by decide +kernel
theorem dX6_thrown_1 : decode cX6_thrown 1 = .ok (.getfield 58, 3) := by decide +kernel
theorem dX6_thrown_4 : decode cX6_thrown 4 = .ok (.ireturn, 1) := by decide +kernel
theorem dX6_isIn_0 : decode cX6_isIn 0 = .ok (.iload_n 0, 1) := by decide +kernel
theorem dX6_isIn_1 : decode cX6_isIn 1 = .ok (.iload_n 1, 1) := by decide +kernel
theorem dX6_isIn_2 : decode cX6_isIn 2 = .ok (.if_icmp .lt 12, 3) := by decide +kernel
theorem dX6_isIn_5 : decode cX6_isIn 5 = .ok (.iload_n 0, 1) := by decide +kernel
theorem dX6_isIn_6 : decode cX6_isIn 6 = .ok (.iload_n 2, 1) := by decide +kernel
theorem dX6_isIn_7 : decode cX6_isIn 7 = .ok (.if_icmp .gt 7, 3) := by decide +kernel
theorem dX6_isIn_10 : decode cX6_isIn 10 = .ok (.iconst 1, 1) := by decide +kernel
theorem dX6_isIn_11 : decode cX6_isIn 11 = .ok (.goto 4, 3) := by decide +kernel
theorem dX6_isIn_14 : decode cX6_isIn 14 = .ok (.iconst 0, 1) := by decide +kernel
theorem dX6_isIn_15 : decode cX6_isIn 15 = .ok (.ireturn, 1) := by decide +kernel
theorem dX6_isDrawing_0 : decode cX6_isDrawing 0 = .ok (.iload_n 1, 1) := by decide +kernel
theorem dX6_isDrawing_1 : decode cX6_isDrawing 1 = .ok (.iconst 0, 1) := by decide +kernel
theorem dX6_isDrawing_2 : decode cX6_isDrawing 2 = .ok (.aload_n 0, 1) := by decide +kernel
theorem dX6_isDrawing_3 : decode cX6_isDrawing 3 = .ok (.getfield 62, 3) := by decide +kernel
theorem dX6_isDrawing_6 : decode cX6_isDrawing 6 = .ok (.iconst 1, 1) := by decide +kernel
theorem dX6_isDrawing_7 : decode cX6_isDrawing 7 = .ok (.isub, 1) := by decide +kernel
theorem dX6_isDrawing_8 : decode cX6_isDrawing 8 = .ok (.invokestatic 65, 3) := by decide +kernel
theorem dX6_isDrawing_11 : decode cX6_isDrawing 11 = .ok (.ireturn, 1) := by decide +kernel
theorem dX6_isPerson_0 : decode cX6_isPerson 0 = .ok (.iload_n 0, 1) := by decide +kernel
theorem dX6_isPerson_1 : decode cX6_isPerson 1 = .ok (.iconst 0, 1) := by decide +kernel
theorem dX6_isPerson_2 : decode cX6_isPerson 2 = .ok (.iconst 5, 1) := by decide +kernel
theorem dX6_isPerson_3 : decode cX6_isPerson 3 = .ok (.invokestatic 65, 3) := by decide +kernel
theorem dX6_isPerson_6 : decode cX6_isPerson 6 = .ok (.ireturn, 1) := by decide +kernel
theorem dX6_changer_0 : decode cX6_changer 0 = .ok (.aload_n 0, 1) := by decide +kernel
theorem dX6_changer_1 : decode cX6_changer 1 = .ok (.getfield 22, 3) := by decide +kernel
theorem dX6_changer_4 : decode cX6_changer 4 = .ok (.iload_n 1, 1) := by decide +kernel
theorem dX6_changer_5 : decode cX6_changer 5 = .ok (.iaload, 1) := by decide +kernel
theorem dX6_changer_6 : decode cX6_changer 6 = .ok (.ifCond .lt 12, 3) := by decide +kernel
theorem dX6_changer_9 : decode cX6_changer 9 = .ok (.aload_n 0, 1) := by decide +kernel
theorem dX6_changer_10 : decode cX6_changer 10 = .ok (.getfield 22, 3) := by decide +kernel
theorem dX6_changer_13 : decode cX6_changer 13 = .ok (.iload_n 1, 1) := by decide +kernel
theorem dX6_changer_14 : decode cX6_changer 14 = .ok (.iaload, 1) := by decide +kernel
theorem dX6_changer_15 : decode cX6_changer 15 = .ok (.goto 9, 3) := by decide +kernel
theorem dX6_changer_18 : decode cX6_changer 18 = .ok (.aload_n 0, 1) := by decide +kernel
theorem dX6_changer_19 : decode cX6_changer 19 = .ok (.getfield 19, 3) := by decide +kernel
theorem dX6_changer_22 : decode cX6_changer 22 = .ok (.iload_n 1, 1) := by decide +kernel
theorem dX6_changer_23 : decode cX6_changer 23 = .ok (.iaload, 1) := by decide +kernel
theorem dX6_changer_24 : decode cX6_changer 24 = .ok (.ireturn, 1) := by decide +kernel
theorem dX6_found_0 : decode cX6_found 0 = .ok (.aload_n 0, 1) := by decide +kernel
theorem dX6_found_1 : decode cX6_found 1 = .ok (.getfield 7, 3) := by decide +kernel
theorem dX6_found_4 : decode cX6_found 4 = .ok (.bipush 40, 2) := by decide +kernel
theorem dX6_found_6 : decode cX6_found 6 = .ok (.iload_n 1, 1) := by decide +kernel
theorem dX6_found_7 : decode cX6_found 7 = .ok (.imul, 1) := by decide +kernel
theorem dX6_found_8 : decode cX6_found 8 = .ok (.iload_n 2, 1) := by decide +kernel
theorem dX6_found_9 : decode cX6_found 9 = .ok (.iadd, 1) := by decide +kernel
theorem dX6_found_10 : decode cX6_found 10 = .ok (.iaload, 1) := by decide +kernel
theorem dX6_found_11 : decode cX6_found 11 = .ok (.istore_n 3, 1) := by decide +kernel
theorem dX6_found_12 : decode cX6_found 12 = .ok (.iconst 0, 1) := by decide +kernel
theorem dX6_found_13 : decode cX6_found 13 = .ok (.istore 4, 2) := by decide +kernel
theorem dX6_found_15 : decode cX6_found 15 = .ok (.iload 4, 2) := by decide +kernel
theorem dX6_found_17 : decode cX6_found 17 = .ok (.aload_n 0, 1) := by decide +kernel
theorem dX6_found_18 : decode cX6_found 18 = .ok (.getfield 62, 3) := by decide +kernel
theorem dX6_found_21 : decode cX6_found 21 = .ok (.if_icmp .ge 45, 3) := by decide +kernel
theorem dX6_found_24 : decode cX6_found 24 = .ok (.iload_n 3, 1) := by decide +kernel
theorem dX6_found_25 : decode cX6_found 25 = .ok (.ifCond .ge 41, 3) := by decide +kernel
theorem dX6_found_28 : decode cX6_found 28 = .ok (.aload_n 0, 1) := by decide +kernel
theorem dX6_found_29 : decode cX6_found 29 = .ok (.getfield 16, 3) := by decide +kernel
theorem dX6_found_32 : decode cX6_found 32 = .ok (.iload_n 1, 1) := by decide +kernel
theorem dX6_found_33 : decode cX6_found 33 = .ok (.iaload, 1) := by decide +kernel
theorem dX6_found_34 : decode cX6_found 34 = .ok (.iload 4, 2) := by decide +kernel
theorem dX6_found_36 : decode cX6_found 36 = .ok (.ishr, 1) := by decide +kernel
theorem dX6_found_37 : decode cX6_found 37 = .ok (.iconst 1, 1) := by decide +kernel
theorem dX6_found_38 : decode cX6_found 38 = .ok (.iand, 1) := by decide +kernel
theorem dX6_found_39 : decode cX6_found 39 = .ok (.iconst 1, 1) := by decide +kernel
theorem dX6_found_40 : decode cX6_found 40 = .ok (.if_icmp .ne 18, 3) := by decide +kernel
theorem dX6_found_43 : decode cX6_found 43 = .ok (.aload_n 0, 1) := by decide +kernel
theorem dX6_found_44 : decode cX6_found 44 = .ok (.getfield 25, 3) := by decide +kernel
theorem dX6_found_47 : decode cX6_found 47 = .ok (.bipush 40, 2) := by decide +kernel
theorem dX6_found_49 : decode cX6_found 49 = .ok (.iload 4, 2) := by decide +kernel
theorem dX6_found_51 : decode cX6_found 51 = .ok (.imul, 1) := by decide +kernel
theorem dX6_found_52 : decode cX6_found 52 = .ok (.iload_n 2, 1) := by decide +kernel
theorem dX6_found_53 : decode cX6_found 53 = .ok (.iadd, 1) := by decide +kernel
theorem dX6_found_54 : decode cX6_found 54 = .ok (.iaload, 1) := by decide +kernel
theorem dX6_found_55 : decode cX6_found 55 = .ok (.goto 4, 3) := by decide +kernel
theorem dX6_found_58 : decode cX6_found 58 = .ok (.iload_n 3, 1) := by decide +kernel
theorem dX6_found_59 : decode cX6_found 59 = .ok (.istore_n 3, 1) := by decide +kernel
theorem dX6_found_60 : decode cX6_found 60 = .ok (.iinc 4 1, 3) := by decide +kernel
theorem dX6_found_63 : decode cX6_found 63 = .ok (.goto (-48), 3) := by decide +kernel
theorem dX6_found_66 : decode cX6_found 66 = .ok (.iload_n 3, 1) := by decide +kernel
theorem dX6_found_67 : decode cX6_found 67 = .ok (.ireturn, 1) := by decide +kernel
theorem dX6_finds_0 : decode cX6_finds 0 = .ok (.iconst 0, 1) := by decide +kernel
theorem dX6_finds_1 : decode cX6_finds 1 = .ok (.istore_n 1, 1) := by decide +kernel
theorem dX6_finds_2 : decode cX6_finds 2 = .ok (.iload_n 1, 1) := by decide +kernel
theorem dX6_finds_3 : decode cX6_finds 3 = .ok (.bipush 6, 2) := by decide +kernel
theorem dX6_finds_5 : decode cX6_finds 5 = .ok (.if_icmp .ge 152, 3) := by decide +kernel
theorem dX6_finds_8 : decode cX6_finds 8 = .ok (.iconst 0, 1) := by decide +kernel
theorem dX6_finds_9 : decode cX6_finds 9 = .ok (.istore_n 2, 1) := by decide +kernel
theorem dX6_finds_10 : decode cX6_finds 10 = .ok (.iload_n 2, 1) := by decide +kernel
theorem dX6_finds_11 : decode cX6_finds 11 = .ok (.aload_n 0, 1) := by decide +kernel
theorem dX6_finds_12 : decode cX6_finds 12 = .ok (.getfield 62, 3) := by decide +kernel
theorem dX6_finds_15 : decode cX6_finds 15 = .ok (.if_icmp .ge 136, 3) := by decide +kernel
theorem dX6_finds_18 : decode cX6_finds 18 = .ok (.iconst 0, 1) := by decide +kernel
theorem dX6_finds_19 : decode cX6_finds 19 = .ok (.istore_n 3, 1) := by decide +kernel
theorem dX6_finds_20 : decode cX6_finds 20 = .ok (.iload_n 3, 1) := by decide +kernel
theorem dX6_finds_21 : decode cX6_finds 21 = .ok (.bipush 40, 2) := by decide +kernel
theorem dX6_finds_23 : decode cX6_finds 23 = .ok (.if_icmp .ge 44, 3) := by decide +kernel
theorem dX6_finds_26 : decode cX6_finds 26 = .ok (.aload_n 0, 1) := by decide +kernel
theorem dX6_finds_27 : decode cX6_finds 27 = .ok (.getfield 25, 3) := by decide +kernel
theorem dX6_finds_30 : decode cX6_finds 30 = .ok (.bipush 40, 2) := by decide +kernel
theorem dX6_finds_32 : decode cX6_finds 32 = .ok (.iload_n 2, 1) := by decide +kernel
theorem dX6_finds_33 : decode cX6_finds 33 = .ok (.imul, 1) := by decide +kernel
theorem dX6_finds_34 : decode cX6_finds 34 = .ok (.iload_n 3, 1) := by decide +kernel
theorem dX6_finds_35 : decode cX6_finds 35 = .ok (.iadd, 1) := by decide +kernel
theorem dX6_finds_36 : decode cX6_finds 36 = .ok (.iload_n 1, 1) := by decide +kernel
theorem dX6_finds_37 : decode cX6_finds 37 = .ok (.ifCond .ne 17, 3) := by decide +kernel
theorem dX6_finds_40 : decode cX6_finds 40 = .ok (.aload_n 0, 1) := by decide +kernel
theorem dX6_finds_41 : decode cX6_finds 41 = .ok (.getfield 7, 3) := by decide +kernel
theorem dX6_finds_44 : decode cX6_finds 44 = .ok (.bipush 40, 2) := by decide +kernel
theorem dX6_finds_46 : decode cX6_finds 46 = .ok (.iload_n 2, 1) := by decide +kernel
theorem dX6_finds_47 : decode cX6_finds 47 = .ok (.imul, 1) := by decide +kernel
theorem dX6_finds_48 : decode cX6_finds 48 = .ok (.iload_n 3, 1) := by decide +kernel
theorem dX6_finds_49 : decode cX6_finds 49 = .ok (.iadd, 1) := by decide +kernel
theorem dX6_finds_50 : decode cX6_finds 50 = .ok (.iaload, 1) := by decide +kernel
theorem dX6_finds_51 : decode cX6_finds 51 = .ok (.goto 9, 3) := by decide +kernel
theorem dX6_finds_54 : decode cX6_finds 54 = .ok (.aload_n 0, 1) := by decide +kernel
theorem dX6_finds_55 : decode cX6_finds 55 = .ok (.iload_n 2, 1) := by decide +kernel
theorem dX6_finds_56 : decode cX6_finds 56 = .ok (.iload_n 3, 1) := by decide +kernel
theorem dX6_finds_57 : decode cX6_finds 57 = .ok (.invokevirtual 69, 3) := by decide +kernel
theorem dX6_finds_60 : decode cX6_finds 60 = .ok (.iastore, 1) := by decide +kernel
theorem dX6_finds_61 : decode cX6_finds 61 = .ok (.iinc 3 1, 3) := by decide +kernel
theorem dX6_finds_64 : decode cX6_finds 64 = .ok (.goto (-44), 3) := by decide +kernel
theorem dX6_finds_67 : decode cX6_finds 67 = .ok (.aload_n 0, 1) := by decide +kernel
theorem dX6_finds_68 : decode cX6_finds 68 = .ok (.getfield 28, 3) := by decide +kernel
theorem dX6_finds_71 : decode cX6_finds 71 = .ok (.iload_n 2, 1) := by decide +kernel
theorem dX6_finds_72 : decode cX6_finds 72 = .ok (.iload_n 1, 1) := by decide +kernel
theorem dX6_finds_73 : decode cX6_finds 73 = .ok (.ifCond .ne 12, 3) := by decide +kernel
theorem dX6_finds_76 : decode cX6_finds 76 = .ok (.aload_n 0, 1) := by decide +kernel
theorem dX6_finds_77 : decode cX6_finds 77 = .ok (.getfield 13, 3) := by decide +kernel
theorem dX6_finds_80 : decode cX6_finds 80 = .ok (.iload_n 2, 1) := by decide +kernel
theorem dX6_finds_81 : decode cX6_finds 81 = .ok (.iaload, 1) := by decide +kernel
theorem dX6_finds_82 : decode cX6_finds 82 = .ok (.goto 9, 3) := by decide +kernel
theorem dX6_finds_85 : decode cX6_finds 85 = .ok (.aload_n 0, 1) := by decide +kernel
theorem dX6_finds_86 : decode cX6_finds 86 = .ok (.getfield 28, 3) := by decide +kernel
theorem dX6_finds_89 : decode cX6_finds 89 = .ok (.iload_n 2, 1) := by decide +kernel
theorem dX6_finds_90 : decode cX6_finds 90 = .ok (.iaload, 1) := by decide +kernel
theorem dX6_finds_91 : decode cX6_finds 91 = .ok (.iastore, 1) := by decide +kernel
theorem dX6_finds_92 : decode cX6_finds 92 = .ok (.iconst 0, 1) := by decide +kernel
theorem dX6_finds_93 : decode cX6_finds 93 = .ok (.istore_n 3, 1) := by decide +kernel
theorem dX6_finds_94 : decode cX6_finds 94 = .ok (.iload_n 3, 1) := by decide +kernel
theorem dX6_finds_95 : decode cX6_finds 95 = .ok (.aload_n 0, 1) := by decide +kernel
theorem dX6_finds_96 : decode cX6_finds 96 = .ok (.getfield 62, 3) := by decide +kernel
theorem dX6_finds_99 : decode cX6_finds 99 = .ok (.if_icmp .ge 46, 3) := by decide +kernel
theorem dX6_finds_102 : decode cX6_finds 102 = .ok (.aload_n 0, 1) := by decide +kernel
theorem dX6_finds_103 : decode cX6_finds 103 = .ok (.getfield 28, 3) := by decide +kernel
theorem dX6_finds_106 : decode cX6_finds 106 = .ok (.iload_n 2, 1) := by decide +kernel
theorem dX6_finds_107 : decode cX6_finds 107 = .ok (.dup2, 1) := by decide +kernel
theorem dX6_finds_108 : decode cX6_finds 108 = .ok (.iaload, 1) := by decide +kernel
theorem dX6_finds_109 : decode cX6_finds 109 = .ok (.iload_n 1, 1) := by decide +kernel
theorem dX6_finds_110 : decode cX6_finds 110 = .ok (.ifCond .le 26, 3) := by decide +kernel
theorem dX6_finds_113 : decode cX6_finds 113 = .ok (.aload_n 0, 1) := by decide +kernel
theorem dX6_finds_114 : decode cX6_finds 114 = .ok (.getfield 16, 3) := by decide +kernel
theorem dX6_finds_117 : decode cX6_finds 117 = .ok (.iload_n 2, 1) := by decide +kernel
theorem dX6_finds_118 : decode cX6_finds 118 = .ok (.iaload, 1) := by decide +kernel
theorem dX6_finds_119 : decode cX6_finds 119 = .ok (.iload_n 3, 1) := by decide +kernel
theorem dX6_finds_120 : decode cX6_finds 120 = .ok (.ishr, 1) := by decide +kernel
theorem dX6_finds_121 : decode cX6_finds 121 = .ok (.iconst 1, 1) := by decide +kernel
theorem dX6_finds_122 : decode cX6_finds 122 = .ok (.iand, 1) := by decide +kernel
theorem dX6_finds_123 : decode cX6_finds 123 = .ok (.iconst 1, 1) := by decide +kernel
theorem dX6_finds_124 : decode cX6_finds 124 = .ok (.if_icmp .ne 12, 3) := by decide +kernel
theorem dX6_finds_127 : decode cX6_finds 127 = .ok (.aload_n 0, 1) := by decide +kernel
theorem dX6_finds_128 : decode cX6_finds 128 = .ok (.getfield 28, 3) := by decide +kernel
theorem dX6_finds_131 : decode cX6_finds 131 = .ok (.iload_n 3, 1) := by decide +kernel
theorem dX6_finds_132 : decode cX6_finds 132 = .ok (.iaload, 1) := by decide +kernel
theorem dX6_finds_133 : decode cX6_finds 133 = .ok (.goto 4, 3) := by decide +kernel
theorem dX6_finds_136 : decode cX6_finds 136 = .ok (.iconst 0, 1) := by decide +kernel
theorem dX6_finds_137 : decode cX6_finds 137 = .ok (.ior, 1) := by decide +kernel
theorem dX6_finds_138 : decode cX6_finds 138 = .ok (.iastore, 1) := by decide +kernel
theorem dX6_finds_139 : decode cX6_finds 139 = .ok (.iinc 3 1, 3) := by decide +kernel
theorem dX6_finds_142 : decode cX6_finds 142 = .ok (.goto (-48), 3) := by decide +kernel
theorem dX6_finds_145 : decode cX6_finds 145 = .ok (.iinc 2 1, 3) := by decide +kernel
theorem dX6_finds_148 : decode cX6_finds 148 = .ok (.goto (-138), 3) := by decide +kernel
theorem dX6_finds_151 : decode cX6_finds 151 = .ok (.iinc 1 1, 3) := by decide +kernel
theorem dX6_finds_154 : decode cX6_finds 154 = .ok (.goto (-152), 3) := by decide +kernel
theorem dX6_finds_157 : decode cX6_finds 157 = .ok (.return_, 1) := by decide +kernel
theorem dX6_low_0 : decode cX6_low 0 = .ok (.iload_n 0, 1) := by decide +kernel
theorem dX6_low_1 : decode cX6_low 1 = .ok (.bipush 20, 2) := by decide +kernel
theorem dX6_low_3 : decode cX6_low 3 = .ok (.if_icmp .ge 15, 3) := by decide +kernel
theorem dX6_low_6 : decode cX6_low 6 = .ok (.iload_n 0, 1) := by decide +kernel
theorem dX6_low_7 : decode cX6_low 7 = .ok (.iconst 4, 1) := by decide +kernel
theorem dX6_low_8 : decode cX6_low 8 = .ok (.idiv, 1) := by decide +kernel
theorem dX6_low_9 : decode cX6_low 9 = .ok (.iconst 5, 1) := by decide +kernel
theorem dX6_low_10 : decode cX6_low 10 = .ok (.imul, 1) := by decide +kernel
theorem dX6_low_11 : decode cX6_low 11 = .ok (.iload_n 0, 1) := by decide +kernel
theorem dX6_low_12 : decode cX6_low 12 = .ok (.iconst 4, 1) := by decide +kernel
theorem dX6_low_13 : decode cX6_low 13 = .ok (.irem, 1) := by decide +kernel
theorem dX6_low_14 : decode cX6_low 14 = .ok (.iadd, 1) := by decide +kernel
theorem dX6_low_15 : decode cX6_low 15 = .ok (.goto 7, 3) := by decide +kernel
theorem dX6_low_18 : decode cX6_low 18 = .ok (.iload_n 0, 1) := by decide +kernel
theorem dX6_low_19 : decode cX6_low 19 = .ok (.bipush 20, 2) := by decide +kernel
theorem dX6_low_21 : decode cX6_low 21 = .ok (.isub, 1) := by decide +kernel
theorem dX6_low_22 : decode cX6_low 22 = .ok (.ireturn, 1) := by decide +kernel
theorem dX6_high_0 : decode cX6_high 0 = .ok (.iload_n 0, 1) := by decide +kernel
theorem dX6_high_1 : decode cX6_high 1 = .ok (.bipush 20, 2) := by decide +kernel
theorem dX6_high_3 : decode cX6_high 3 = .ok (.if_icmp .ge 12, 3) := by decide +kernel
theorem dX6_high_6 : decode cX6_high 6 = .ok (.iload_n 0, 1) := by decide +kernel
theorem dX6_high_7 : decode cX6_high 7 = .ok (.invokestatic 73, 3) := by decide +kernel
theorem dX6_high_10 : decode cX6_high 10 = .ok (.iconst 1, 1) := by decide +kernel
theorem dX6_high_11 : decode cX6_high 11 = .ok (.iadd, 1) := by decide +kernel
theorem dX6_high_12 : decode cX6_high 12 = .ok (.goto 7, 3) := by decide +kernel
theorem dX6_high_15 : decode cX6_high 15 = .ok (.iload_n 0, 1) := by decide +kernel
theorem dX6_high_16 : decode cX6_high 16 = .ok (.bipush 15, 2) := by decide +kernel
theorem dX6_high_18 : decode cX6_high 18 = .ok (.isub, 1) := by decide +kernel
theorem dX6_high_19 : decode cX6_high 19 = .ok (.ireturn, 1) := by decide +kernel
theorem dX6_looks_0 : decode cX6_looks 0 = .ok (.aload_n 0, 1) := by decide +kernel
theorem dX6_looks_1 : decode cX6_looks 1 = .ok (.invokevirtual 77, 3) := by decide +kernel
theorem dX6_looks_4 : decode cX6_looks 4 = .ok (.iconst 0, 1) := by decide +kernel
theorem dX6_looks_5 : decode cX6_looks 5 = .ok (.istore_n 2, 1) := by decide +kernel
theorem dX6_looks_6 : decode cX6_looks 6 = .ok (.iload_n 2, 1) := by decide +kernel
theorem dX6_looks_7 : decode cX6_looks 7 = .ok (.bipush 25, 2) := by decide +kernel
theorem dX6_looks_9 : decode cX6_looks 9 = .ok (.if_icmp .ge 16, 3) := by decide +kernel
theorem dX6_looks_12 : decode cX6_looks 12 = .ok (.aload_n 0, 1) := by decide +kernel
theorem dX6_looks_13 : decode cX6_looks 13 = .ok (.getfield 31, 3) := by decide +kernel
theorem dX6_looks_16 : decode cX6_looks 16 = .ok (.iload_n 2, 1) := by decide +kernel
theorem dX6_looks_17 : decode cX6_looks 17 = .ok (.iload_n 2, 1) := by decide +kernel
theorem dX6_looks_18 : decode cX6_looks 18 = .ok (.iastore, 1) := by decide +kernel
theorem dX6_looks_19 : decode cX6_looks 19 = .ok (.iinc 2 1, 3) := by decide +kernel
theorem dX6_looks_22 : decode cX6_looks 22 = .ok (.goto (-16), 3) := by decide +kernel
theorem dX6_looks_25 : decode cX6_looks 25 = .ok (.iconst 0, 1) := by decide +kernel
theorem dX6_looks_26 : decode cX6_looks 26 = .ok (.istore_n 2, 1) := by decide +kernel
theorem dX6_looks_27 : decode cX6_looks 27 = .ok (.iload_n 2, 1) := by decide +kernel
theorem dX6_looks_28 : decode cX6_looks 28 = .ok (.bipush 25, 2) := by decide +kernel
theorem dX6_looks_30 : decode cX6_looks 30 = .ok (.if_icmp .ge 104, 3) := by decide +kernel
theorem dX6_looks_33 : decode cX6_looks 33 = .ok (.iconst 0, 1) := by decide +kernel
theorem dX6_looks_34 : decode cX6_looks 34 = .ok (.istore_n 3, 1) := by decide +kernel
theorem dX6_looks_35 : decode cX6_looks 35 = .ok (.iload_n 3, 1) := by decide +kernel
theorem dX6_looks_36 : decode cX6_looks 36 = .ok (.bipush 40, 2) := by decide +kernel
theorem dX6_looks_38 : decode cX6_looks 38 = .ok (.if_icmp .ge 90, 3) := by decide +kernel
theorem dX6_looks_41 : decode cX6_looks 41 = .ok (.aload_n 0, 1) := by decide +kernel
theorem dX6_looks_42 : decode cX6_looks 42 = .ok (.getfield 25, 3) := by decide +kernel
theorem dX6_looks_45 : decode cX6_looks 45 = .ok (.bipush 40, 2) := by decide +kernel
theorem dX6_looks_47 : decode cX6_looks 47 = .ok (.iload_n 1, 1) := by decide +kernel
theorem dX6_looks_48 : decode cX6_looks 48 = .ok (.imul, 1) := by decide +kernel
theorem dX6_looks_49 : decode cX6_looks 49 = .ok (.iload_n 3, 1) := by decide +kernel
theorem dX6_looks_50 : decode cX6_looks 50 = .ok (.iadd, 1) := by decide +kernel
theorem dX6_looks_51 : decode cX6_looks 51 = .ok (.iaload, 1) := by decide +kernel
theorem dX6_looks_52 : decode cX6_looks 52 = .ok (.iconst 1, 1) := by decide +kernel
theorem dX6_looks_53 : decode cX6_looks 53 = .ok (.if_icmp .ge 69, 3) := by decide +kernel
theorem dX6_looks_56 : decode cX6_looks 56 = .ok (.aload_n 0, 1) := by decide +kernel
theorem dX6_looks_57 : decode cX6_looks 57 = .ok (.getfield 31, 3) := by decide +kernel
theorem dX6_looks_60 : decode cX6_looks 60 = .ok (.iload_n 3, 1) := by decide +kernel
theorem dX6_looks_61 : decode cX6_looks 61 = .ok (.invokestatic 73, 3) := by decide +kernel
theorem dX6_looks_64 : decode cX6_looks 64 = .ok (.iaload, 1) := by decide +kernel
theorem dX6_looks_65 : decode cX6_looks 65 = .ok (.aload_n 0, 1) := by decide +kernel
theorem dX6_looks_66 : decode cX6_looks 66 = .ok (.getfield 31, 3) := by decide +kernel
theorem dX6_looks_69 : decode cX6_looks 69 = .ok (.iload_n 3, 1) := by decide +kernel
theorem dX6_looks_70 : decode cX6_looks 70 = .ok (.invokestatic 80, 3) := by decide +kernel
theorem dX6_looks_73 : decode cX6_looks 73 = .ok (.iaload, 1) := by decide +kernel
theorem dX6_looks_74 : decode cX6_looks 74 = .ok (.if_icmp .ge 15, 3) := by decide +kernel
theorem dX6_looks_77 : decode cX6_looks 77 = .ok (.aload_n 0, 1) := by decide +kernel
theorem dX6_looks_78 : decode cX6_looks 78 = .ok (.getfield 31, 3) := by decide +kernel
theorem dX6_looks_81 : decode cX6_looks 81 = .ok (.iload_n 3, 1) := by decide +kernel
theorem dX6_looks_82 : decode cX6_looks 82 = .ok (.invokestatic 73, 3) := by decide +kernel
theorem dX6_looks_85 : decode cX6_looks 85 = .ok (.iaload, 1) := by decide +kernel
theorem dX6_looks_86 : decode cX6_looks 86 = .ok (.goto 12, 3) := by decide +kernel
theorem dX6_looks_89 : decode cX6_looks 89 = .ok (.aload_n 0, 1) := by decide +kernel
theorem dX6_looks_90 : decode cX6_looks 90 = .ok (.getfield 31, 3) := by decide +kernel
theorem dX6_looks_93 : decode cX6_looks 93 = .ok (.iload_n 3, 1) := by decide +kernel
theorem dX6_looks_94 : decode cX6_looks 94 = .ok (.invokestatic 80, 3) := by decide +kernel
theorem dX6_looks_97 : decode cX6_looks 97 = .ok (.iaload, 1) := by decide +kernel
theorem dX6_looks_98 : decode cX6_looks 98 = .ok (.istore 4, 2) := by decide +kernel
theorem dX6_looks_100 : decode cX6_looks 100 = .ok (.aload_n 0, 1) := by decide +kernel
theorem dX6_looks_101 : decode cX6_looks 101 = .ok (.getfield 31, 3) := by decide +kernel
theorem dX6_looks_104 : decode cX6_looks 104 = .ok (.iload_n 3, 1) := by decide +kernel
theorem dX6_looks_105 : decode cX6_looks 105 = .ok (.invokestatic 73, 3) := by decide +kernel
theorem dX6_looks_108 : decode cX6_looks 108 = .ok (.iload 4, 2) := by decide +kernel
theorem dX6_looks_110 : decode cX6_looks 110 = .ok (.iastore, 1) := by decide +kernel
theorem dX6_looks_111 : decode cX6_looks 111 = .ok (.aload_n 0, 1) := by decide +kernel
theorem dX6_looks_112 : decode cX6_looks 112 = .ok (.getfield 31, 3) := by decide +kernel
theorem dX6_looks_115 : decode cX6_looks 115 = .ok (.iload_n 3, 1) := by decide +kernel
theorem dX6_looks_116 : decode cX6_looks 116 = .ok (.invokestatic 80, 3) := by decide +kernel
theorem dX6_looks_119 : decode cX6_looks 119 = .ok (.iload 4, 2) := by decide +kernel
theorem dX6_looks_121 : decode cX6_looks 121 = .ok (.iastore, 1) := by decide +kernel
theorem dX6_looks_122 : decode cX6_looks 122 = .ok (.iinc 3 1, 3) := by decide +kernel
theorem dX6_looks_125 : decode cX6_looks 125 = .ok (.goto (-90), 3) := by decide +kernel
theorem dX6_looks_128 : decode cX6_looks 128 = .ok (.iinc 2 1, 3) := by decide +kernel
theorem dX6_looks_131 : decode cX6_looks 131 = .ok (.goto (-104), 3) := by decide +kernel
theorem dX6_looks_134 : decode cX6_looks 134 = .ok (.iconst 0, 1) := by decide +kernel
theorem dX6_looks_135 : decode cX6_looks 135 = .ok (.istore_n 2, 1) := by decide +kernel
theorem dX6_looks_136 : decode cX6_looks 136 = .ok (.iload_n 2, 1) := by decide +kernel
theorem dX6_looks_137 : decode cX6_looks 137 = .ok (.bipush 25, 2) := by decide +kernel
theorem dX6_looks_139 : decode cX6_looks 139 = .ok (.if_icmp .ge 17, 3) := by decide +kernel
theorem dX6_looks_142 : decode cX6_looks 142 = .ok (.aload_n 0, 1) := by decide +kernel
theorem dX6_looks_143 : decode cX6_looks 143 = .ok (.getfield 34, 3) := by decide +kernel
theorem dX6_looks_146 : decode cX6_looks 146 = .ok (.iload_n 2, 1) := by decide +kernel
theorem dX6_looks_147 : decode cX6_looks 147 = .ok (.bipush 99, 2) := by decide +kernel
theorem dX6_looks_149 : decode cX6_looks 149 = .ok (.iastore, 1) := by decide +kernel
theorem dX6_looks_150 : decode cX6_looks 150 = .ok (.iinc 2 1, 3) := by decide +kernel
theorem dX6_looks_153 : decode cX6_looks 153 = .ok (.goto (-17), 3) := by decide +kernel
theorem dX6_looks_156 : decode cX6_looks 156 = .ok (.iconst 0, 1) := by decide +kernel
theorem dX6_looks_157 : decode cX6_looks 157 = .ok (.istore_n 2, 1) := by decide +kernel
theorem dX6_looks_158 : decode cX6_looks 158 = .ok (.iload_n 2, 1) := by decide +kernel
theorem dX6_looks_159 : decode cX6_looks 159 = .ok (.bipush 25, 2) := by decide +kernel
theorem dX6_looks_161 : decode cX6_looks 161 = .ok (.if_icmp .ge 49, 3) := by decide +kernel
theorem dX6_looks_164 : decode cX6_looks 164 = .ok (.aload_n 0, 1) := by decide +kernel
theorem dX6_looks_165 : decode cX6_looks 165 = .ok (.getfield 34, 3) := by decide +kernel
theorem dX6_looks_168 : decode cX6_looks 168 = .ok (.aload_n 0, 1) := by decide +kernel
theorem dX6_looks_169 : decode cX6_looks 169 = .ok (.getfield 31, 3) := by decide +kernel
theorem dX6_looks_172 : decode cX6_looks 172 = .ok (.iload_n 2, 1) := by decide +kernel
theorem dX6_looks_173 : decode cX6_looks 173 = .ok (.iaload, 1) := by decide +kernel
theorem dX6_looks_174 : decode cX6_looks 174 = .ok (.aload_n 0, 1) := by decide +kernel
theorem dX6_looks_175 : decode cX6_looks 175 = .ok (.getfield 28, 3) := by decide +kernel
theorem dX6_looks_178 : decode cX6_looks 178 = .ok (.iload_n 1, 1) := by decide +kernel
theorem dX6_looks_179 : decode cX6_looks 179 = .ok (.iaload, 1) := by decide +kernel
theorem dX6_looks_180 : decode cX6_looks 180 = .ok (.iload_n 2, 1) := by decide +kernel
theorem dX6_looks_181 : decode cX6_looks 181 = .ok (.ishr, 1) := by decide +kernel
theorem dX6_looks_182 : decode cX6_looks 182 = .ok (.iconst 1, 1) := by decide +kernel
theorem dX6_looks_183 : decode cX6_looks 183 = .ok (.iand, 1) := by decide +kernel
theorem dX6_looks_184 : decode cX6_looks 184 = .ok (.iconst 1, 1) := by decide +kernel
theorem dX6_looks_185 : decode cX6_looks 185 = .ok (.if_icmp .ne 7, 3) := by decide +kernel
theorem dX6_looks_188 : decode cX6_looks 188 = .ok (.iconst 0, 1) := by decide +kernel
theorem dX6_looks_189 : decode cX6_looks 189 = .ok (.goto 14, 3) := by decide +kernel
theorem dX6_looks_192 : decode cX6_looks 192 = .ok (.aload_n 0, 1) := by decide +kernel
theorem dX6_looks_193 : decode cX6_looks 193 = .ok (.getfield 34, 3) := by decide +kernel
theorem dX6_looks_196 : decode cX6_looks 196 = .ok (.aload_n 0, 1) := by decide +kernel
theorem dX6_looks_197 : decode cX6_looks 197 = .ok (.getfield 31, 3) := by decide +kernel
theorem dX6_looks_200 : decode cX6_looks 200 = .ok (.iload_n 2, 1) := by decide +kernel
theorem dX6_looks_201 : decode cX6_looks 201 = .ok (.iaload, 1) := by decide +kernel
theorem dX6_looks_202 : decode cX6_looks 202 = .ok (.iaload, 1) := by decide +kernel
theorem dX6_looks_203 : decode cX6_looks 203 = .ok (.iastore, 1) := by decide +kernel
theorem dX6_looks_204 : decode cX6_looks 204 = .ok (.iinc 2 1, 3) := by decide +kernel
theorem dX6_looks_207 : decode cX6_looks 207 = .ok (.goto (-49), 3) := by decide +kernel
theorem dX6_looks_210 : decode cX6_looks 210 = .ok (.iconst 0, 1) := by decide +kernel
theorem dX6_looks_211 : decode cX6_looks 211 = .ok (.istore_n 2, 1) := by decide +kernel
theorem dX6_looks_212 : decode cX6_looks 212 = .ok (.iload_n 2, 1) := by decide +kernel
theorem dX6_looks_213 : decode cX6_looks 213 = .ok (.bipush 25, 2) := by decide +kernel
theorem dX6_looks_215 : decode cX6_looks 215 = .ok (.if_icmp .ge 150, 3) := by decide +kernel
theorem dX6_looks_218 : decode cX6_looks 218 = .ok (.iconst 0, 1) := by decide +kernel
theorem dX6_looks_219 : decode cX6_looks 219 = .ok (.istore_n 3, 1) := by decide +kernel
theorem dX6_looks_220 : decode cX6_looks 220 = .ok (.iload_n 3, 1) := by decide +kernel
theorem dX6_looks_221 : decode cX6_looks 221 = .ok (.bipush 40, 2) := by decide +kernel
theorem dX6_looks_223 : decode cX6_looks 223 = .ok (.if_icmp .ge 136, 3) := by decide +kernel
theorem dX6_looks_226 : decode cX6_looks 226 = .ok (.aload_n 0, 1) := by decide +kernel
theorem dX6_looks_227 : decode cX6_looks 227 = .ok (.getfield 25, 3) := by decide +kernel
theorem dX6_looks_230 : decode cX6_looks 230 = .ok (.bipush 40, 2) := by decide +kernel
theorem dX6_looks_232 : decode cX6_looks 232 = .ok (.iload_n 1, 1) := by decide +kernel
theorem dX6_looks_233 : decode cX6_looks 233 = .ok (.imul, 1) := by decide +kernel
theorem dX6_looks_234 : decode cX6_looks 234 = .ok (.iload_n 3, 1) := by decide +kernel
theorem dX6_looks_235 : decode cX6_looks 235 = .ok (.iadd, 1) := by decide +kernel
theorem dX6_looks_236 : decode cX6_looks 236 = .ok (.iaload, 1) := by decide +kernel
theorem dX6_looks_237 : decode cX6_looks 237 = .ok (.iconst 2, 1) := by decide +kernel
theorem dX6_looks_238 : decode cX6_looks 238 = .ok (.if_icmp .ne 115, 3) := by decide +kernel
theorem dX6_looks_241 : decode cX6_looks 241 = .ok (.aload_n 0, 1) := by decide +kernel
theorem dX6_looks_242 : decode cX6_looks 242 = .ok (.getfield 31, 3) := by decide +kernel
theorem dX6_looks_245 : decode cX6_looks 245 = .ok (.iload_n 3, 1) := by decide +kernel
theorem dX6_looks_246 : decode cX6_looks 246 = .ok (.invokestatic 73, 3) := by decide +kernel
theorem dX6_looks_249 : decode cX6_looks 249 = .ok (.iaload, 1) := by decide +kernel
theorem dX6_looks_250 : decode cX6_looks 250 = .ok (.istore 4, 2) := by decide +kernel
theorem dX6_looks_252 : decode cX6_looks 252 = .ok (.aload_n 0, 1) := by decide +kernel
theorem dX6_looks_253 : decode cX6_looks 253 = .ok (.getfield 31, 3) := by decide +kernel
theorem dX6_looks_256 : decode cX6_looks 256 = .ok (.iload_n 3, 1) := by decide +kernel
theorem dX6_looks_257 : decode cX6_looks 257 = .ok (.invokestatic 80, 3) := by decide +kernel
theorem dX6_looks_260 : decode cX6_looks 260 = .ok (.iaload, 1) := by decide +kernel
theorem dX6_looks_261 : decode cX6_looks 261 = .ok (.istore 5, 2) := by decide +kernel
theorem dX6_looks_263 : decode cX6_looks 263 = .ok (.aload_n 0, 1) := by decide +kernel
theorem dX6_looks_264 : decode cX6_looks 264 = .ok (.getfield 34, 3) := by decide +kernel
theorem dX6_looks_267 : decode cX6_looks 267 = .ok (.iload 4, 2) := by decide +kernel
theorem dX6_looks_269 : decode cX6_looks 269 = .ok (.aload_n 0, 1) := by decide +kernel
theorem dX6_looks_270 : decode cX6_looks 270 = .ok (.getfield 34, 3) := by decide +kernel
theorem dX6_looks_273 : decode cX6_looks 273 = .ok (.iload 5, 2) := by decide +kernel
theorem dX6_looks_275 : decode cX6_looks 275 = .ok (.iaload, 1) := by decide +kernel
theorem dX6_looks_276 : decode cX6_looks 276 = .ok (.iconst 1, 1) := by decide +kernel
theorem dX6_looks_277 : decode cX6_looks 277 = .ok (.iadd, 1) := by decide +kernel
theorem dX6_looks_278 : decode cX6_looks 278 = .ok (.aload_n 0, 1) := by decide +kernel
theorem dX6_looks_279 : decode cX6_looks 279 = .ok (.getfield 34, 3) := by decide +kernel
theorem dX6_looks_282 : decode cX6_looks 282 = .ok (.iload 4, 2) := by decide +kernel
theorem dX6_looks_284 : decode cX6_looks 284 = .ok (.iaload, 1) := by decide +kernel
theorem dX6_looks_285 : decode cX6_looks 285 = .ok (.if_icmp .ge 15, 3) := by decide +kernel
theorem dX6_looks_288 : decode cX6_looks 288 = .ok (.aload_n 0, 1) := by decide +kernel
theorem dX6_looks_289 : decode cX6_looks 289 = .ok (.getfield 34, 3) := by decide +kernel
theorem dX6_looks_292 : decode cX6_looks 292 = .ok (.iload 5, 2) := by decide +kernel
theorem dX6_looks_294 : decode cX6_looks 294 = .ok (.iaload, 1) := by decide +kernel
theorem dX6_looks_295 : decode cX6_looks 295 = .ok (.iconst 1, 1) := by decide +kernel
theorem dX6_looks_296 : decode cX6_looks 296 = .ok (.iadd, 1) := by decide +kernel
theorem dX6_looks_297 : decode cX6_looks 297 = .ok (.goto 10, 3) := by decide +kernel
theorem dX6_looks_300 : decode cX6_looks 300 = .ok (.aload_n 0, 1) := by decide +kernel
theorem dX6_looks_301 : decode cX6_looks 301 = .ok (.getfield 34, 3) := by decide +kernel
theorem dX6_looks_304 : decode cX6_looks 304 = .ok (.iload 4, 2) := by decide +kernel
theorem dX6_looks_306 : decode cX6_looks 306 = .ok (.iaload, 1) := by decide +kernel
theorem dX6_looks_307 : decode cX6_looks 307 = .ok (.iastore, 1) := by decide +kernel
theorem dX6_looks_308 : decode cX6_looks 308 = .ok (.aload_n 0, 1) := by decide +kernel
theorem dX6_looks_309 : decode cX6_looks 309 = .ok (.getfield 34, 3) := by decide +kernel
theorem dX6_looks_312 : decode cX6_looks 312 = .ok (.iload 5, 2) := by decide +kernel
theorem dX6_looks_314 : decode cX6_looks 314 = .ok (.aload_n 0, 1) := by decide +kernel
theorem dX6_looks_315 : decode cX6_looks 315 = .ok (.getfield 34, 3) := by decide +kernel
theorem dX6_looks_318 : decode cX6_looks 318 = .ok (.iload 4, 2) := by decide +kernel
theorem dX6_looks_320 : decode cX6_looks 320 = .ok (.iaload, 1) := by decide +kernel
theorem dX6_looks_321 : decode cX6_looks 321 = .ok (.iconst 1, 1) := by decide +kernel
theorem dX6_looks_322 : decode cX6_looks 322 = .ok (.iadd, 1) := by decide +kernel
theorem dX6_looks_323 : decode cX6_looks 323 = .ok (.aload_n 0, 1) := by decide +kernel
theorem dX6_looks_324 : decode cX6_looks 324 = .ok (.getfield 34, 3) := by decide +kernel
theorem dX6_looks_327 : decode cX6_looks 327 = .ok (.iload 5, 2) := by decide +kernel
theorem dX6_looks_329 : decode cX6_looks 329 = .ok (.iaload, 1) := by decide +kernel
theorem dX6_looks_330 : decode cX6_looks 330 = .ok (.if_icmp .ge 15, 3) := by decide +kernel
theorem dX6_looks_333 : decode cX6_looks 333 = .ok (.aload_n 0, 1) := by decide +kernel
theorem dX6_looks_334 : decode cX6_looks 334 = .ok (.getfield 34, 3) := by decide +kernel
theorem dX6_looks_337 : decode cX6_looks 337 = .ok (.iload 4, 2) := by decide +kernel
theorem dX6_looks_339 : decode cX6_looks 339 = .ok (.iaload, 1) := by decide +kernel
theorem dX6_looks_340 : decode cX6_looks 340 = .ok (.iconst 1, 1) := by decide +kernel
theorem dX6_looks_341 : decode cX6_looks 341 = .ok (.iadd, 1) := by decide +kernel
theorem dX6_looks_342 : decode cX6_looks 342 = .ok (.goto 10, 3) := by decide +kernel
theorem dX6_looks_345 : decode cX6_looks 345 = .ok (.aload_n 0, 1) := by decide +kernel
theorem dX6_looks_346 : decode cX6_looks 346 = .ok (.getfield 34, 3) := by decide +kernel
theorem dX6_looks_349 : decode cX6_looks 349 = .ok (.iload 5, 2) := by decide +kernel
theorem dX6_looks_351 : decode cX6_looks 351 = .ok (.iaload, 1) := by decide +kernel
theorem dX6_looks_352 : decode cX6_looks 352 = .ok (.iastore, 1) := by decide +kernel
theorem dX6_looks_353 : decode cX6_looks 353 = .ok (.iinc 3 1, 3) := by decide +kernel
theorem dX6_looks_356 : decode cX6_looks 356 = .ok (.goto (-136), 3) := by decide +kernel
theorem dX6_looks_359 : decode cX6_looks 359 = .ok (.iinc 2 1, 3) := by decide +kernel
theorem dX6_looks_362 : decode cX6_looks 362 = .ok (.goto (-150), 3) := by decide +kernel
theorem dX6_looks_365 : decode cX6_looks 365 = .ok (.return_, 1) := by decide +kernel
theorem dX6_isJoined_0 : decode cX6_isJoined 0 = .ok (.iconst 1, 1) := by decide +kernel
theorem dX6_isJoined_1 : decode cX6_isJoined 1 = .ok (.iload_n 2, 1) := by decide +kernel
theorem dX6_isJoined_2 : decode cX6_isJoined 2 = .ok (.ishl, 1) := by decide +kernel
theorem dX6_isJoined_3 : decode cX6_isJoined 3 = .ok (.istore 4, 2) := by decide +kernel
theorem dX6_isJoined_5 : decode cX6_isJoined 5 = .ok (.iconst 0, 1) := by decide +kernel
theorem dX6_isJoined_6 : decode cX6_isJoined 6 = .ok (.istore 5, 2) := by decide +kernel
theorem dX6_isJoined_8 : decode cX6_isJoined 8 = .ok (.iload 5, 2) := by decide +kernel
theorem dX6_isJoined_10 : decode cX6_isJoined 10 = .ok (.bipush 25, 2) := by decide +kernel
theorem dX6_isJoined_12 : decode cX6_isJoined 12 = .ok (.if_icmp .ge 87, 3) := by decide +kernel
theorem dX6_isJoined_15 : decode cX6_isJoined 15 = .ok (.iconst 0, 1) := by decide +kernel
theorem dX6_isJoined_16 : decode cX6_isJoined 16 = .ok (.istore 6, 2) := by decide +kernel
theorem dX6_isJoined_18 : decode cX6_isJoined 18 = .ok (.iload 6, 2) := by decide +kernel
theorem dX6_isJoined_20 : decode cX6_isJoined 20 = .ok (.bipush 40, 2) := by decide +kernel
theorem dX6_isJoined_22 : decode cX6_isJoined 22 = .ok (.if_icmp .ge 71, 3) := by decide +kernel
theorem dX6_isJoined_25 : decode cX6_isJoined 25 = .ok (.iconst 1, 1) := by decide +kernel
theorem dX6_isJoined_26 : decode cX6_isJoined 26 = .ok (.aload_n 0, 1) := by decide +kernel
theorem dX6_isJoined_27 : decode cX6_isJoined 27 = .ok (.getfield 31, 3) := by decide +kernel
theorem dX6_isJoined_30 : decode cX6_isJoined 30 = .ok (.iload 6, 2) := by decide +kernel
theorem dX6_isJoined_32 : decode cX6_isJoined 32 = .ok (.invokestatic 73, 3) := by decide +kernel
theorem dX6_isJoined_35 : decode cX6_isJoined 35 = .ok (.iaload, 1) := by decide +kernel
theorem dX6_isJoined_36 : decode cX6_isJoined 36 = .ok (.ishl, 1) := by decide +kernel
theorem dX6_isJoined_37 : decode cX6_isJoined 37 = .ok (.iconst 1, 1) := by decide +kernel
theorem dX6_isJoined_38 : decode cX6_isJoined 38 = .ok (.aload_n 0, 1) := by decide +kernel
theorem dX6_isJoined_39 : decode cX6_isJoined 39 = .ok (.getfield 31, 3) := by decide +kernel
theorem dX6_isJoined_42 : decode cX6_isJoined 42 = .ok (.iload 6, 2) := by decide +kernel
theorem dX6_isJoined_44 : decode cX6_isJoined 44 = .ok (.invokestatic 80, 3) := by decide +kernel
theorem dX6_isJoined_47 : decode cX6_isJoined 47 = .ok (.iaload, 1) := by decide +kernel
theorem dX6_isJoined_48 : decode cX6_isJoined 48 = .ok (.ishl, 1) := by decide +kernel
theorem dX6_isJoined_49 : decode cX6_isJoined 49 = .ok (.ior, 1) := by decide +kernel
theorem dX6_isJoined_50 : decode cX6_isJoined 50 = .ok (.istore 7, 2) := by decide +kernel
theorem dX6_isJoined_52 : decode cX6_isJoined 52 = .ok (.iload 4, 2) := by decide +kernel
theorem dX6_isJoined_54 : decode cX6_isJoined 54 = .ok (.aload_n 0, 1) := by decide +kernel
theorem dX6_isJoined_55 : decode cX6_isJoined 55 = .ok (.getfield 25, 3) := by decide +kernel
theorem dX6_isJoined_58 : decode cX6_isJoined 58 = .ok (.bipush 40, 2) := by decide +kernel
theorem dX6_isJoined_60 : decode cX6_isJoined 60 = .ok (.iload_n 1, 1) := by decide +kernel
theorem dX6_isJoined_61 : decode cX6_isJoined 61 = .ok (.imul, 1) := by decide +kernel
theorem dX6_isJoined_62 : decode cX6_isJoined 62 = .ok (.iload 6, 2) := by decide +kernel
theorem dX6_isJoined_64 : decode cX6_isJoined 64 = .ok (.iadd, 1) := by decide +kernel
theorem dX6_isJoined_65 : decode cX6_isJoined 65 = .ok (.iaload, 1) := by decide +kernel
theorem dX6_isJoined_66 : decode cX6_isJoined 66 = .ok (.iconst 2, 1) := by decide +kernel
theorem dX6_isJoined_67 : decode cX6_isJoined 67 = .ok (.if_icmp .ne 16, 3) := by decide +kernel
theorem dX6_isJoined_70 : decode cX6_isJoined 70 = .ok (.iload 4, 2) := by decide +kernel
theorem dX6_isJoined_72 : decode cX6_isJoined 72 = .ok (.iload 7, 2) := by decide +kernel
theorem dX6_isJoined_74 : decode cX6_isJoined 74 = .ok (.iand, 1) := by decide +kernel
theorem dX6_isJoined_75 : decode cX6_isJoined 75 = .ok (.ifCond .eq 8, 3) := by decide +kernel
theorem dX6_isJoined_78 : decode cX6_isJoined 78 = .ok (.iload 7, 2) := by decide +kernel
theorem dX6_isJoined_80 : decode cX6_isJoined 80 = .ok (.goto 4, 3) := by decide +kernel
theorem dX6_isJoined_83 : decode cX6_isJoined 83 = .ok (.iconst 0, 1) := by decide +kernel
theorem dX6_isJoined_84 : decode cX6_isJoined 84 = .ok (.ior, 1) := by decide +kernel
theorem dX6_isJoined_85 : decode cX6_isJoined 85 = .ok (.istore 4, 2) := by decide +kernel
end
section
theorem dX6_isJoined_87 : decode cX6_isJoined 87 = .ok (.iinc 6 1, 3) := by decide +kernel
theorem dX6_isJoined_90 : decode cX6_isJoined 90 = .ok (.goto (-72), 3) := by decide +kernel
theorem dX6_isJoined_93 : decode cX6_isJoined 93 = .ok (.iinc 5 1, 3) := by decide +kernel
theorem dX6_isJoined_96 : decode cX6_isJoined 96 = .ok (.goto (-88), 3) := by decide +kernel
theorem dX6_isJoined_99 : decode cX6_isJoined 99 = .ok (.iload 4, 2) := by decide +kernel
theorem dX6_isJoined_101 : decode cX6_isJoined 101 = .ok (.iload_n 3, 1) := by decide +kernel
theorem dX6_isJoined_102 : decode cX6_isJoined 102 = .ok (.ishr, 1) := by decide +kernel
theorem dX6_isJoined_103 : decode cX6_isJoined 103 = .ok (.iconst 1, 1) := by decide +kernel
theorem dX6_isJoined_104 : decode cX6_isJoined 104 = .ok (.iand, 1) := by decide +kernel
theorem dX6_isJoined_105 : decode cX6_isJoined 105 = .ok (.iconst 1, 1) := by decide +kernel
theorem dX6_isJoined_106 : decode cX6_isJoined 106 = .ok (.if_icmp .ne 7, 3) := by decide +kernel
theorem dX6_isJoined_109 : decode cX6_isJoined 109 = .ok (.iconst 1, 1) := by decide +kernel
theorem dX6_isJoined_110 : decode cX6_isJoined 110 = .ok (.goto 4, 3) := by decide +kernel
theorem dX6_isJoined_113 : decode cX6_isJoined 113 = .ok (.iconst 0, 1) := by decide +kernel
theorem dX6_isJoined_114 : decode cX6_isJoined 114 = .ok (.ireturn, 1) := by decide +kernel
theorem dX6_isCell_0 : decode cX6_isCell 0 = .ok (.iload_n 0, 1) := by decide +kernel
theorem dX6_isCell_1 : decode cX6_isCell 1 = .ok (.iconst 0, 1) := by decide +kernel
theorem dX6_isCell_2 : decode cX6_isCell 2 = .ok (.bipush 24, 2) := by decide +kernel
theorem dX6_isCell_4 : decode cX6_isCell 4 = .ok (.invokestatic 65, 3) := by decide +kernel
theorem dX6_isCell_7 : decode cX6_isCell 7 = .ok (.ireturn, 1) := by decide +kernel
theorem dX6_asks_0 : decode cX6_asks 0 = .ok (.aload_n 0, 1) := by decide +kernel
theorem dX6_asks_1 : decode cX6_asks 1 = .ok (.aload_n 0, 1) := by decide +kernel
theorem dX6_asks_2 : decode cX6_asks 2 = .ok (.iload_n 1, 1) := by decide +kernel
theorem dX6_asks_3 : decode cX6_asks 3 = .ok (.invokevirtual 83, 3) := by decide +kernel
theorem dX6_asks_6 : decode cX6_asks 6 = .ok (.ifCond .ne 7, 3) := by decide +kernel
theorem dX6_asks_9 : decode cX6_asks 9 = .ok (.iconst 1, 1) := by decide +kernel
theorem dX6_asks_10 : decode cX6_asks 10 = .ok (.goto 15, 3) := by decide +kernel
theorem dX6_asks_13 : decode cX6_asks 13 = .ok (.iload_n 2, 1) := by decide +kernel
theorem dX6_asks_14 : decode cX6_asks 14 = .ok (.invokestatic 87, 3) := by decide +kernel
theorem dX6_asks_17 : decode cX6_asks 17 = .ok (.ifCond .eq 7, 3) := by decide +kernel
theorem dX6_asks_20 : decode cX6_asks 20 = .ok (.iconst 0, 1) := by decide +kernel
theorem dX6_asks_21 : decode cX6_asks 21 = .ok (.goto 4, 3) := by decide +kernel
theorem dX6_asks_24 : decode cX6_asks 24 = .ok (.iconst 2, 1) := by decide +kernel
theorem dX6_asks_25 : decode cX6_asks 25 = .ok (.putfield 58, 3) := by decide +kernel
theorem dX6_asks_28 : decode cX6_asks 28 = .ok (.aload_n 0, 1) := by decide +kernel
theorem dX6_asks_29 : decode cX6_asks 29 = .ok (.getfield 58, 3) := by decide +kernel
theorem dX6_asks_32 : decode cX6_asks 32 = .ok (.ifCond .ne 8, 3) := by decide +kernel
theorem dX6_asks_35 : decode cX6_asks 35 = .ok (.aload_n 0, 1) := by decide +kernel
theorem dX6_asks_36 : decode cX6_asks 36 = .ok (.iload_n 1, 1) := by decide +kernel
theorem dX6_asks_37 : decode cX6_asks 37 = .ok (.invokevirtual 90, 3) := by decide +kernel
theorem dX6_asks_40 : decode cX6_asks 40 = .ok (.aload_n 0, 1) := by decide +kernel
theorem dX6_asks_41 : decode cX6_asks 41 = .ok (.getfield 58, 3) := by decide +kernel
theorem dX6_asks_44 : decode cX6_asks 44 = .ok (.ifCond .ne 7, 3) := by decide +kernel
theorem dX6_asks_47 : decode cX6_asks 47 = .ok (.iconst 1, 1) := by decide +kernel
theorem dX6_asks_48 : decode cX6_asks 48 = .ok (.goto 4, 3) := by decide +kernel
theorem dX6_asks_51 : decode cX6_asks 51 = .ok (.iconst 0, 1) := by decide +kernel
theorem dX6_asks_52 : decode cX6_asks 52 = .ok (.ireturn, 1) := by decide +kernel
theorem dX6_begin_0 : decode cX6_begin 0 = .ok (.aload_n 0, 1) := by decide +kernel
theorem dX6_begin_1 : decode cX6_begin 1 = .ok (.aload_n 0, 1) := by decide +kernel
theorem dX6_begin_2 : decode cX6_begin 2 = .ok (.getfield 62, 3) := by decide +kernel
theorem dX6_begin_5 : decode cX6_begin 5 = .ok (.bipush 6, 2) := by decide +kernel
theorem dX6_begin_7 : decode cX6_begin 7 = .ok (.if_icmp .ne 7, 3) := by decide +kernel
theorem dX6_begin_10 : decode cX6_begin 10 = .ok (.iconst 1, 1) := by decide +kernel
theorem dX6_begin_11 : decode cX6_begin 11 = .ok (.goto 4, 3) := by decide +kernel
theorem dX6_begin_14 : decode cX6_begin 14 = .ok (.iconst 0, 1) := by decide +kernel
theorem dX6_begin_15 : decode cX6_begin 15 = .ok (.putfield 58, 3) := by decide +kernel
theorem dX6_begin_18 : decode cX6_begin 18 = .ok (.aload_n 0, 1) := by decide +kernel
theorem dX6_begin_19 : decode cX6_begin 19 = .ok (.getfield 58, 3) := by decide +kernel
theorem dX6_begin_22 : decode cX6_begin 22 = .ok (.ifCond .le 5, 3) := by decide +kernel
theorem dX6_begin_25 : decode cX6_begin 25 = .ok (.iconst 0, 1) := by decide +kernel
theorem dX6_begin_26 : decode cX6_begin 26 = .ok (.ireturn, 1) := by decide +kernel
theorem dX6_begin_27 : decode cX6_begin 27 = .ok (.iconst 0, 1) := by decide +kernel
theorem dX6_begin_28 : decode cX6_begin 28 = .ok (.istore_n 1, 1) := by decide +kernel
theorem dX6_begin_29 : decode cX6_begin 29 = .ok (.iload_n 1, 1) := by decide +kernel
theorem dX6_begin_30 : decode cX6_begin 30 = .ok (.bipush 40, 2) := by decide +kernel
theorem dX6_begin_32 : decode cX6_begin 32 = .ok (.if_icmp .ge 24, 3) := by decide +kernel
theorem dX6_begin_35 : decode cX6_begin 35 = .ok (.aload_n 0, 1) := by decide +kernel
theorem dX6_begin_36 : decode cX6_begin 36 = .ok (.getfield 7, 3) := by decide +kernel
theorem dX6_begin_39 : decode cX6_begin 39 = .ok (.bipush 40, 2) := by decide +kernel
theorem dX6_begin_41 : decode cX6_begin 41 = .ok (.aload_n 0, 1) := by decide +kernel
theorem dX6_begin_42 : decode cX6_begin 42 = .ok (.getfield 62, 3) := by decide +kernel
theorem dX6_begin_45 : decode cX6_begin 45 = .ok (.imul, 1) := by decide +kernel
theorem dX6_begin_46 : decode cX6_begin 46 = .ok (.iload_n 1, 1) := by decide +kernel
theorem dX6_begin_47 : decode cX6_begin 47 = .ok (.iadd, 1) := by decide +kernel
theorem dX6_begin_48 : decode cX6_begin 48 = .ok (.iconst (-1), 1) := by decide +kernel
theorem dX6_begin_49 : decode cX6_begin 49 = .ok (.iastore, 1) := by decide +kernel
theorem dX6_begin_50 : decode cX6_begin 50 = .ok (.iinc 1 1, 3) := by decide +kernel
theorem dX6_begin_53 : decode cX6_begin 53 = .ok (.goto (-24), 3) := by decide +kernel
theorem dX6_begin_56 : decode cX6_begin 56 = .ok (.aload_n 0, 1) := by decide +kernel
theorem dX6_begin_57 : decode cX6_begin 57 = .ok (.getfield 19, 3) := by decide +kernel
theorem dX6_begin_60 : decode cX6_begin 60 = .ok (.aload_n 0, 1) := by decide +kernel
theorem dX6_begin_61 : decode cX6_begin 61 = .ok (.getfield 62, 3) := by decide +kernel
theorem dX6_begin_64 : decode cX6_begin 64 = .ok (.iconst (-1), 1) := by decide +kernel
theorem dX6_begin_65 : decode cX6_begin 65 = .ok (.iastore, 1) := by decide +kernel
theorem dX6_begin_66 : decode cX6_begin 66 = .ok (.aload_n 0, 1) := by decide +kernel
theorem dX6_begin_67 : decode cX6_begin 67 = .ok (.getfield 22, 3) := by decide +kernel
theorem dX6_begin_70 : decode cX6_begin 70 = .ok (.aload_n 0, 1) := by decide +kernel
theorem dX6_begin_71 : decode cX6_begin 71 = .ok (.getfield 62, 3) := by decide +kernel
theorem dX6_begin_74 : decode cX6_begin 74 = .ok (.iconst (-1), 1) := by decide +kernel
theorem dX6_begin_75 : decode cX6_begin 75 = .ok (.iastore, 1) := by decide +kernel
theorem dX6_begin_76 : decode cX6_begin 76 = .ok (.aload_n 0, 1) := by decide +kernel
theorem dX6_begin_77 : decode cX6_begin 77 = .ok (.dup, 1) := by decide +kernel
theorem dX6_begin_78 : decode cX6_begin 78 = .ok (.getfield 62, 3) := by decide +kernel
theorem dX6_begin_81 : decode cX6_begin 81 = .ok (.iconst 1, 1) := by decide +kernel
theorem dX6_begin_82 : decode cX6_begin 82 = .ok (.iadd, 1) := by decide +kernel
theorem dX6_begin_83 : decode cX6_begin 83 = .ok (.putfield 62, 3) := by decide +kernel
theorem dX6_begin_86 : decode cX6_begin 86 = .ok (.aload_n 0, 1) := by decide +kernel
theorem dX6_begin_87 : decode cX6_begin 87 = .ok (.getfield 62, 3) := by decide +kernel
theorem dX6_begin_90 : decode cX6_begin 90 = .ok (.iconst 1, 1) := by decide +kernel
theorem dX6_begin_91 : decode cX6_begin 91 = .ok (.isub, 1) := by decide +kernel
theorem dX6_begin_92 : decode cX6_begin 92 = .ok (.ireturn, 1) := by decide +kernel
theorem dX6_tell_0 : decode cX6_tell 0 = .ok (.iload_n 2, 1) := by decide +kernel
theorem dX6_tell_1 : decode cX6_tell 1 = .ok (.invokestatic 94, 3) := by decide +kernel
theorem dX6_tell_4 : decode cX6_tell 4 = .ok (.ifCond .eq 27, 3) := by decide +kernel
theorem dX6_tell_7 : decode cX6_tell 7 = .ok (.iload_n 3, 1) := by decide +kernel
theorem dX6_tell_8 : decode cX6_tell 8 = .ok (.iconst 0, 1) := by decide +kernel
theorem dX6_tell_9 : decode cX6_tell 9 = .ok (.bipush 39, 2) := by decide +kernel
theorem dX6_tell_11 : decode cX6_tell 11 = .ok (.invokestatic 65, 3) := by decide +kernel
theorem dX6_tell_14 : decode cX6_tell 14 = .ok (.ifCond .eq 17, 3) := by decide +kernel
theorem dX6_tell_17 : decode cX6_tell 17 = .ok (.iload 4, 2) := by decide +kernel
theorem dX6_tell_19 : decode cX6_tell 19 = .ok (.iconst (-1), 1) := by decide +kernel
theorem dX6_tell_20 : decode cX6_tell 20 = .ok (.iconst 2, 1) := by decide +kernel
theorem dX6_tell_21 : decode cX6_tell 21 = .ok (.invokestatic 65, 3) := by decide +kernel
theorem dX6_tell_24 : decode cX6_tell 24 = .ok (.ifCond .eq 7, 3) := by decide +kernel
theorem dX6_tell_27 : decode cX6_tell 27 = .ok (.iconst 1, 1) := by decide +kernel
theorem dX6_tell_28 : decode cX6_tell 28 = .ok (.goto 4, 3) := by decide +kernel
theorem dX6_tell_31 : decode cX6_tell 31 = .ok (.iconst 0, 1) := by decide +kernel
theorem dX6_tell_32 : decode cX6_tell 32 = .ok (.istore 5, 2) := by decide +kernel
theorem dX6_tell_34 : decode cX6_tell 34 = .ok (.aload_n 0, 1) := by decide +kernel
theorem dX6_tell_35 : decode cX6_tell 35 = .ok (.aload_n 0, 1) := by decide +kernel
theorem dX6_tell_36 : decode cX6_tell 36 = .ok (.iload_n 1, 1) := by decide +kernel
theorem dX6_tell_37 : decode cX6_tell 37 = .ok (.invokevirtual 83, 3) := by decide +kernel
theorem dX6_tell_40 : decode cX6_tell 40 = .ok (.ifCond .ne 7, 3) := by decide +kernel
theorem dX6_tell_43 : decode cX6_tell 43 = .ok (.iconst 1, 1) := by decide +kernel
theorem dX6_tell_44 : decode cX6_tell 44 = .ok (.goto 26, 3) := by decide +kernel
theorem dX6_tell_47 : decode cX6_tell 47 = .ok (.iload 5, 2) := by decide +kernel
theorem dX6_tell_49 : decode cX6_tell 49 = .ok (.ifCond .ne 7, 3) := by decide +kernel
theorem dX6_tell_52 : decode cX6_tell 52 = .ok (.iconst 2, 1) := by decide +kernel
theorem dX6_tell_53 : decode cX6_tell 53 = .ok (.goto 17, 3) := by decide +kernel
theorem dX6_tell_56 : decode cX6_tell 56 = .ok (.aload_n 0, 1) := by decide +kernel
theorem dX6_tell_57 : decode cX6_tell 57 = .ok (.iload_n 1, 1) := by decide +kernel
theorem dX6_tell_58 : decode cX6_tell 58 = .ok (.invokevirtual 97, 3) := by decide +kernel
theorem dX6_tell_61 : decode cX6_tell 61 = .ok (.iload_n 2, 1) := by decide +kernel
theorem dX6_tell_62 : decode cX6_tell 62 = .ok (.if_icmp .ne 7, 3) := by decide +kernel
theorem dX6_tell_65 : decode cX6_tell 65 = .ok (.iconst 0, 1) := by decide +kernel
theorem dX6_tell_66 : decode cX6_tell 66 = .ok (.goto 4, 3) := by decide +kernel
theorem dX6_tell_69 : decode cX6_tell 69 = .ok (.iconst 3, 1) := by decide +kernel
theorem dX6_tell_70 : decode cX6_tell 70 = .ok (.putfield 58, 3) := by decide +kernel
theorem dX6_tell_73 : decode cX6_tell 73 = .ok (.aload_n 0, 1) := by decide +kernel
theorem dX6_tell_74 : decode cX6_tell 74 = .ok (.getfield 58, 3) := by decide +kernel
theorem dX6_tell_77 : decode cX6_tell 77 = .ok (.ifCond .le 5, 3) := by decide +kernel
theorem dX6_tell_80 : decode cX6_tell 80 = .ok (.iconst 0, 1) := by decide +kernel
theorem dX6_tell_81 : decode cX6_tell 81 = .ok (.ireturn, 1) := by decide +kernel
theorem dX6_tell_82 : decode cX6_tell 82 = .ok (.aload_n 0, 1) := by decide +kernel
theorem dX6_tell_83 : decode cX6_tell 83 = .ok (.getfield 7, 3) := by decide +kernel
theorem dX6_tell_86 : decode cX6_tell 86 = .ok (.bipush 40, 2) := by decide +kernel
theorem dX6_tell_88 : decode cX6_tell 88 = .ok (.iload_n 1, 1) := by decide +kernel
theorem dX6_tell_89 : decode cX6_tell 89 = .ok (.imul, 1) := by decide +kernel
theorem dX6_tell_90 : decode cX6_tell 90 = .ok (.iload_n 3, 1) := by decide +kernel
theorem dX6_tell_91 : decode cX6_tell 91 = .ok (.iadd, 1) := by decide +kernel
theorem dX6_tell_92 : decode cX6_tell 92 = .ok (.iaload, 1) := by decide +kernel
theorem dX6_tell_93 : decode cX6_tell 93 = .ok (.istore 6, 2) := by decide +kernel
theorem dX6_tell_95 : decode cX6_tell 95 = .ok (.aload_n 0, 1) := by decide +kernel
theorem dX6_tell_96 : decode cX6_tell 96 = .ok (.getfield 7, 3) := by decide +kernel
theorem dX6_tell_99 : decode cX6_tell 99 = .ok (.bipush 40, 2) := by decide +kernel
theorem dX6_tell_101 : decode cX6_tell 101 = .ok (.iload_n 1, 1) := by decide +kernel
theorem dX6_tell_102 : decode cX6_tell 102 = .ok (.imul, 1) := by decide +kernel
theorem dX6_tell_103 : decode cX6_tell 103 = .ok (.iload_n 3, 1) := by decide +kernel
theorem dX6_tell_104 : decode cX6_tell 104 = .ok (.iadd, 1) := by decide +kernel
theorem dX6_tell_105 : decode cX6_tell 105 = .ok (.iload 4, 2) := by decide +kernel
theorem dX6_tell_107 : decode cX6_tell 107 = .ok (.iastore, 1) := by decide +kernel
theorem dX6_tell_108 : decode cX6_tell 108 = .ok (.iload 6, 2) := by decide +kernel
theorem dX6_tell_110 : decode cX6_tell 110 = .ok (.ireturn, 1) := by decide +kernel
theorem dX6_setExit_0 : decode cX6_setExit 0 = .ok (.iload_n 2, 1) := by decide +kernel
theorem dX6_setExit_1 : decode cX6_setExit 1 = .ok (.invokestatic 94, 3) := by decide +kernel
theorem dX6_setExit_4 : decode cX6_setExit 4 = .ok (.ifCond .eq 14, 3) := by decide +kernel
theorem dX6_setExit_7 : decode cX6_setExit 7 = .ok (.iload_n 3, 1) := by decide +kernel
theorem dX6_setExit_8 : decode cX6_setExit 8 = .ok (.invokestatic 87, 3) := by decide +kernel
theorem dX6_setExit_11 : decode cX6_setExit 11 = .ok (.ifCond .eq 7, 3) := by decide +kernel
theorem dX6_setExit_14 : decode cX6_setExit 14 = .ok (.iconst 1, 1) := by decide +kernel
theorem dX6_setExit_15 : decode cX6_setExit 15 = .ok (.goto 4, 3) := by decide +kernel
theorem dX6_setExit_18 : decode cX6_setExit 18 = .ok (.iconst 0, 1) := by decide +kernel
theorem dX6_setExit_19 : decode cX6_setExit 19 = .ok (.istore 5, 2) := by decide +kernel
theorem dX6_setExit_21 : decode cX6_setExit 21 = .ok (.aload_n 0, 1) := by decide +kernel
theorem dX6_setExit_22 : decode cX6_setExit 22 = .ok (.aload_n 0, 1) := by decide +kernel
theorem dX6_setExit_23 : decode cX6_setExit 23 = .ok (.iload_n 1, 1) := by decide +kernel
theorem dX6_setExit_24 : decode cX6_setExit 24 = .ok (.invokevirtual 83, 3) := by decide +kernel
theorem dX6_setExit_27 : decode cX6_setExit 27 = .ok (.ifCond .ne 7, 3) := by decide +kernel
theorem dX6_setExit_30 : decode cX6_setExit 30 = .ok (.iconst 1, 1) := by decide +kernel
theorem dX6_setExit_31 : decode cX6_setExit 31 = .ok (.goto 26, 3) := by decide +kernel
theorem dX6_setExit_34 : decode cX6_setExit 34 = .ok (.iload 5, 2) := by decide +kernel
theorem dX6_setExit_36 : decode cX6_setExit 36 = .ok (.ifCond .ne 7, 3) := by decide +kernel
theorem dX6_setExit_39 : decode cX6_setExit 39 = .ok (.iconst 2, 1) := by decide +kernel
theorem dX6_setExit_40 : decode cX6_setExit 40 = .ok (.goto 17, 3) := by decide +kernel
theorem dX6_setExit_43 : decode cX6_setExit 43 = .ok (.aload_n 0, 1) := by decide +kernel
theorem dX6_setExit_44 : decode cX6_setExit 44 = .ok (.iload_n 1, 1) := by decide +kernel
theorem dX6_setExit_45 : decode cX6_setExit 45 = .ok (.invokevirtual 97, 3) := by decide +kernel
theorem dX6_setExit_48 : decode cX6_setExit 48 = .ok (.iload_n 2, 1) := by decide +kernel
theorem dX6_setExit_49 : decode cX6_setExit 49 = .ok (.if_icmp .ne 7, 3) := by decide +kernel
theorem dX6_setExit_52 : decode cX6_setExit 52 = .ok (.iconst 0, 1) := by decide +kernel
theorem dX6_setExit_53 : decode cX6_setExit 53 = .ok (.goto 4, 3) := by decide +kernel
theorem dX6_setExit_56 : decode cX6_setExit 56 = .ok (.iconst 3, 1) := by decide +kernel
theorem dX6_setExit_57 : decode cX6_setExit 57 = .ok (.putfield 58, 3) := by decide +kernel
theorem dX6_setExit_60 : decode cX6_setExit 60 = .ok (.aload_n 0, 1) := by decide +kernel
theorem dX6_setExit_61 : decode cX6_setExit 61 = .ok (.getfield 58, 3) := by decide +kernel
theorem dX6_setExit_64 : decode cX6_setExit 64 = .ok (.ifCond .le 5, 3) := by decide +kernel
theorem dX6_setExit_67 : decode cX6_setExit 67 = .ok (.iconst 0, 1) := by decide +kernel
theorem dX6_setExit_68 : decode cX6_setExit 68 = .ok (.ireturn, 1) := by decide +kernel
theorem dX6_setExit_69 : decode cX6_setExit 69 = .ok (.aload_n 0, 1) := by decide +kernel
theorem dX6_setExit_70 : decode cX6_setExit 70 = .ok (.getfield 13, 3) := by decide +kernel
theorem dX6_setExit_73 : decode cX6_setExit 73 = .ok (.iload_n 1, 1) := by decide +kernel
theorem dX6_setExit_74 : decode cX6_setExit 74 = .ok (.iaload, 1) := by decide +kernel
theorem dX6_setExit_75 : decode cX6_setExit 75 = .ok (.iload_n 3, 1) := by decide +kernel
theorem dX6_setExit_76 : decode cX6_setExit 76 = .ok (.ishr, 1) := by decide +kernel
theorem dX6_setExit_77 : decode cX6_setExit 77 = .ok (.iconst 1, 1) := by decide +kernel
theorem dX6_setExit_78 : decode cX6_setExit 78 = .ok (.iand, 1) := by decide +kernel
theorem dX6_setExit_79 : decode cX6_setExit 79 = .ok (.iconst 1, 1) := by decide +kernel
theorem dX6_setExit_80 : decode cX6_setExit 80 = .ok (.if_icmp .ne 7, 3) := by decide +kernel
theorem dX6_setExit_83 : decode cX6_setExit 83 = .ok (.iconst 1, 1) := by decide +kernel
theorem dX6_setExit_84 : decode cX6_setExit 84 = .ok (.goto 4, 3) := by decide +kernel
theorem dX6_setExit_87 : decode cX6_setExit 87 = .ok (.iconst 0, 1) := by decide +kernel
theorem dX6_setExit_88 : decode cX6_setExit 88 = .ok (.istore 6, 2) := by decide +kernel
theorem dX6_setExit_90 : decode cX6_setExit 90 = .ok (.aload_n 0, 1) := by decide +kernel
theorem dX6_setExit_91 : decode cX6_setExit 91 = .ok (.getfield 13, 3) := by decide +kernel
theorem dX6_setExit_94 : decode cX6_setExit 94 = .ok (.iload_n 1, 1) := by decide +kernel
theorem dX6_setExit_95 : decode cX6_setExit 95 = .ok (.iload 4, 2) := by decide +kernel
theorem dX6_setExit_97 : decode cX6_setExit 97 = .ok (.ifCond .eq 16, 3) := by decide +kernel
theorem dX6_setExit_100 : decode cX6_setExit 100 = .ok (.aload_n 0, 1) := by decide +kernel
theorem dX6_setExit_101 : decode cX6_setExit 101 = .ok (.getfield 13, 3) := by decide +kernel
theorem dX6_setExit_104 : decode cX6_setExit 104 = .ok (.iload_n 1, 1) := by decide +kernel
theorem dX6_setExit_105 : decode cX6_setExit 105 = .ok (.iaload, 1) := by decide +kernel
theorem dX6_setExit_106 : decode cX6_setExit 106 = .ok (.iconst 1, 1) := by decide +kernel
theorem dX6_setExit_107 : decode cX6_setExit 107 = .ok (.iload_n 3, 1) := by decide +kernel
theorem dX6_setExit_108 : decode cX6_setExit 108 = .ok (.ishl, 1) := by decide +kernel
theorem dX6_setExit_109 : decode cX6_setExit 109 = .ok (.ior, 1) := by decide +kernel
theorem dX6_setExit_110 : decode cX6_setExit 110 = .ok (.goto 15, 3) := by decide +kernel
theorem dX6_setExit_113 : decode cX6_setExit 113 = .ok (.aload_n 0, 1) := by decide +kernel
theorem dX6_setExit_114 : decode cX6_setExit 114 = .ok (.getfield 13, 3) := by decide +kernel
theorem dX6_setExit_117 : decode cX6_setExit 117 = .ok (.iload_n 1, 1) := by decide +kernel
theorem dX6_setExit_118 : decode cX6_setExit 118 = .ok (.iaload, 1) := by decide +kernel
theorem dX6_setExit_119 : decode cX6_setExit 119 = .ok (.iconst 1, 1) := by decide +kernel
theorem dX6_setExit_120 : decode cX6_setExit 120 = .ok (.iload_n 3, 1) := by decide +kernel
theorem dX6_setExit_121 : decode cX6_setExit 121 = .ok (.ishl, 1) := by decide +kernel
theorem dX6_setExit_122 : decode cX6_setExit 122 = .ok (.iconst (-1), 1) := by decide +kernel
theorem dX6_setExit_123 : decode cX6_setExit 123 = .ok (.ixor, 1) := by decide +kernel
theorem dX6_setExit_124 : decode cX6_setExit 124 = .ok (.iand, 1) := by decide +kernel
theorem dX6_setExit_125 : decode cX6_setExit 125 = .ok (.iastore, 1) := by decide +kernel
theorem dX6_setExit_126 : decode cX6_setExit 126 = .ok (.iload 6, 2) := by decide +kernel
theorem dX6_setExit_128 : decode cX6_setExit 128 = .ok (.ireturn, 1) := by decide +kernel
theorem dX6_over_0 : decode cX6_over 0 = .ok (.iconst 1, 1) := by decide +kernel
theorem dX6_over_1 : decode cX6_over 1 = .ok (.iload_n 1, 1) := by decide +kernel
theorem dX6_over_2 : decode cX6_over 2 = .ok (.ishl, 1) := by decide +kernel
theorem dX6_over_3 : decode cX6_over 3 = .ok (.istore_n 2, 1) := by decide +kernel
theorem dX6_over_4 : decode cX6_over 4 = .ok (.iconst 0, 1) := by decide +kernel
theorem dX6_over_5 : decode cX6_over 5 = .ok (.istore_n 3, 1) := by decide +kernel
theorem dX6_over_6 : decode cX6_over 6 = .ok (.iload_n 3, 1) := by decide +kernel
theorem dX6_over_7 : decode cX6_over 7 = .ok (.bipush 6, 2) := by decide +kernel
theorem dX6_over_9 : decode cX6_over 9 = .ok (.if_icmp .ge 51, 3) := by decide +kernel
theorem dX6_over_12 : decode cX6_over 12 = .ok (.iconst 0, 1) := by decide +kernel
theorem dX6_over_13 : decode cX6_over 13 = .ok (.istore 4, 2) := by decide +kernel
theorem dX6_over_15 : decode cX6_over 15 = .ok (.iload 4, 2) := by decide +kernel
theorem dX6_over_17 : decode cX6_over 17 = .ok (.aload_n 0, 1) := by decide +kernel
theorem dX6_over_18 : decode cX6_over 18 = .ok (.getfield 62, 3) := by decide +kernel
theorem dX6_over_21 : decode cX6_over 21 = .ok (.if_icmp .ge 33, 3) := by decide +kernel
theorem dX6_over_24 : decode cX6_over 24 = .ok (.iload_n 2, 1) := by decide +kernel
theorem dX6_over_25 : decode cX6_over 25 = .ok (.iload_n 2, 1) := by decide +kernel
theorem dX6_over_26 : decode cX6_over 26 = .ok (.iload 4, 2) := by decide +kernel
theorem dX6_over_28 : decode cX6_over 28 = .ok (.ishr, 1) := by decide +kernel
theorem dX6_over_29 : decode cX6_over 29 = .ok (.iconst 1, 1) := by decide +kernel
theorem dX6_over_30 : decode cX6_over 30 = .ok (.iand, 1) := by decide +kernel
theorem dX6_over_31 : decode cX6_over 31 = .ok (.iconst 1, 1) := by decide +kernel
theorem dX6_over_32 : decode cX6_over 32 = .ok (.if_icmp .ne 13, 3) := by decide +kernel
theorem dX6_over_35 : decode cX6_over 35 = .ok (.aload_n 0, 1) := by decide +kernel
theorem dX6_over_36 : decode cX6_over 36 = .ok (.getfield 16, 3) := by decide +kernel
theorem dX6_over_39 : decode cX6_over 39 = .ok (.iload 4, 2) := by decide +kernel
theorem dX6_over_41 : decode cX6_over 41 = .ok (.iaload, 1) := by decide +kernel
theorem dX6_over_42 : decode cX6_over 42 = .ok (.goto 4, 3) := by decide +kernel
theorem dX6_over_45 : decode cX6_over 45 = .ok (.iconst 0, 1) := by decide +kernel
theorem dX6_over_46 : decode cX6_over 46 = .ok (.ior, 1) := by decide +kernel
theorem dX6_over_47 : decode cX6_over 47 = .ok (.istore_n 2, 1) := by decide +kernel
theorem dX6_over_48 : decode cX6_over 48 = .ok (.iinc 4 1, 3) := by decide +kernel
theorem dX6_over_51 : decode cX6_over 51 = .ok (.goto (-36), 3) := by decide +kernel
theorem dX6_over_54 : decode cX6_over 54 = .ok (.iinc 3 1, 3) := by decide +kernel
theorem dX6_over_57 : decode cX6_over 57 = .ok (.goto (-51), 3) := by decide +kernel
theorem dX6_over_60 : decode cX6_over 60 = .ok (.iload_n 2, 1) := by decide +kernel
theorem dX6_over_61 : decode cX6_over 61 = .ok (.ireturn, 1) := by decide +kernel
theorem dX6_refer_0 : decode cX6_refer 0 = .ok (.aload_n 0, 1) := by decide +kernel
theorem dX6_refer_1 : decode cX6_refer 1 = .ok (.aload_n 0, 1) := by decide +kernel
theorem dX6_refer_2 : decode cX6_refer 2 = .ok (.iload_n 1, 1) := by decide +kernel
theorem dX6_refer_3 : decode cX6_refer 3 = .ok (.invokevirtual 83, 3) := by decide +kernel
theorem dX6_refer_6 : decode cX6_refer 6 = .ok (.ifCond .eq 11, 3) := by decide +kernel
theorem dX6_refer_9 : decode cX6_refer 9 = .ok (.aload_n 0, 1) := by decide +kernel
theorem dX6_refer_10 : decode cX6_refer 10 = .ok (.iload_n 3, 1) := by decide +kernel
theorem dX6_refer_11 : decode cX6_refer 11 = .ok (.invokevirtual 83, 3) := by decide +kernel
theorem dX6_refer_14 : decode cX6_refer 14 = .ok (.ifCond .ne 7, 3) := by decide +kernel
theorem dX6_refer_17 : decode cX6_refer 17 = .ok (.iconst 1, 1) := by decide +kernel
theorem dX6_refer_18 : decode cX6_refer 18 = .ok (.goto 15, 3) := by decide +kernel
theorem dX6_refer_21 : decode cX6_refer 21 = .ok (.iload_n 2, 1) := by decide +kernel
theorem dX6_refer_22 : decode cX6_refer 22 = .ok (.invokestatic 94, 3) := by decide +kernel
theorem dX6_refer_25 : decode cX6_refer 25 = .ok (.ifCond .eq 7, 3) := by decide +kernel
theorem dX6_refer_28 : decode cX6_refer 28 = .ok (.iconst 0, 1) := by decide +kernel
theorem dX6_refer_29 : decode cX6_refer 29 = .ok (.goto 4, 3) := by decide +kernel
theorem dX6_refer_32 : decode cX6_refer 32 = .ok (.iconst 2, 1) := by decide +kernel
theorem dX6_refer_33 : decode cX6_refer 33 = .ok (.putfield 58, 3) := by decide +kernel
theorem dX6_refer_36 : decode cX6_refer 36 = .ok (.aload_n 0, 1) := by decide +kernel
theorem dX6_refer_37 : decode cX6_refer 37 = .ok (.getfield 58, 3) := by decide +kernel
theorem dX6_refer_40 : decode cX6_refer 40 = .ok (.ifCond .le 5, 3) := by decide +kernel
theorem dX6_refer_43 : decode cX6_refer 43 = .ok (.iconst 0, 1) := by decide +kernel
theorem dX6_refer_44 : decode cX6_refer 44 = .ok (.ireturn, 1) := by decide +kernel
theorem dX6_refer_45 : decode cX6_refer 45 = .ok (.iload 4, 2) := by decide +kernel
theorem dX6_refer_47 : decode cX6_refer 47 = .ok (.ifCond .eq 20, 3) := by decide +kernel
theorem dX6_refer_50 : decode cX6_refer 50 = .ok (.aload_n 0, 1) := by decide +kernel
theorem dX6_refer_51 : decode cX6_refer 51 = .ok (.iload_n 3, 1) := by decide +kernel
theorem dX6_refer_52 : decode cX6_refer 52 = .ok (.invokevirtual 100, 3) := by decide +kernel
theorem dX6_refer_55 : decode cX6_refer 55 = .ok (.iload_n 1, 1) := by decide +kernel
theorem dX6_refer_56 : decode cX6_refer 56 = .ok (.ishr, 1) := by decide +kernel
theorem dX6_refer_57 : decode cX6_refer 57 = .ok (.iconst 1, 1) := by decide +kernel
theorem dX6_refer_58 : decode cX6_refer 58 = .ok (.iand, 1) := by decide +kernel
theorem dX6_refer_59 : decode cX6_refer 59 = .ok (.iconst 1, 1) := by decide +kernel
theorem dX6_refer_60 : decode cX6_refer 60 = .ok (.if_icmp .ne 7, 3) := by decide +kernel
theorem dX6_refer_63 : decode cX6_refer 63 = .ok (.iconst 1, 1) := by decide +kernel
theorem dX6_refer_64 : decode cX6_refer 64 = .ok (.goto 4, 3) := by decide +kernel
theorem dX6_refer_67 : decode cX6_refer 67 = .ok (.iconst 0, 1) := by decide +kernel
theorem dX6_refer_68 : decode cX6_refer 68 = .ok (.istore 5, 2) := by decide +kernel
theorem dX6_refer_70 : decode cX6_refer 70 = .ok (.aload_n 0, 1) := by decide +kernel
theorem dX6_refer_71 : decode cX6_refer 71 = .ok (.aload_n 0, 1) := by decide +kernel
theorem dX6_refer_72 : decode cX6_refer 72 = .ok (.iload_n 1, 1) := by decide +kernel
theorem dX6_refer_73 : decode cX6_refer 73 = .ok (.invokevirtual 97, 3) := by decide +kernel
theorem dX6_refer_76 : decode cX6_refer 76 = .ok (.iload_n 2, 1) := by decide +kernel
theorem dX6_refer_77 : decode cX6_refer 77 = .ok (.if_icmp .ne 8, 3) := by decide +kernel
theorem dX6_refer_80 : decode cX6_refer 80 = .ok (.iload 5, 2) := by decide +kernel
theorem dX6_refer_82 : decode cX6_refer 82 = .ok (.ifCond .eq 7, 3) := by decide +kernel
theorem dX6_refer_85 : decode cX6_refer 85 = .ok (.iconst 3, 1) := by decide +kernel
theorem dX6_refer_86 : decode cX6_refer 86 = .ok (.goto 4, 3) := by decide +kernel
theorem dX6_refer_89 : decode cX6_refer 89 = .ok (.iconst 0, 1) := by decide +kernel
theorem dX6_refer_90 : decode cX6_refer 90 = .ok (.putfield 58, 3) := by decide +kernel
theorem dX6_refer_93 : decode cX6_refer 93 = .ok (.aload_n 0, 1) := by decide +kernel
theorem dX6_refer_94 : decode cX6_refer 94 = .ok (.getfield 58, 3) := by decide +kernel
theorem dX6_refer_97 : decode cX6_refer 97 = .ok (.ifCond .le 5, 3) := by decide +kernel
theorem dX6_refer_100 : decode cX6_refer 100 = .ok (.iconst 0, 1) := by decide +kernel
theorem dX6_refer_101 : decode cX6_refer 101 = .ok (.ireturn, 1) := by decide +kernel
theorem dX6_refer_102 : decode cX6_refer 102 = .ok (.aload_n 0, 1) := by decide +kernel
theorem dX6_refer_103 : decode cX6_refer 103 = .ok (.getfield 16, 3) := by decide +kernel
theorem dX6_refer_106 : decode cX6_refer 106 = .ok (.iload_n 1, 1) := by decide +kernel
theorem dX6_refer_107 : decode cX6_refer 107 = .ok (.iaload, 1) := by decide +kernel
theorem dX6_refer_108 : decode cX6_refer 108 = .ok (.iload_n 3, 1) := by decide +kernel
theorem dX6_refer_109 : decode cX6_refer 109 = .ok (.ishr, 1) := by decide +kernel
theorem dX6_refer_110 : decode cX6_refer 110 = .ok (.iconst 1, 1) := by decide +kernel
theorem dX6_refer_111 : decode cX6_refer 111 = .ok (.iand, 1) := by decide +kernel
theorem dX6_refer_112 : decode cX6_refer 112 = .ok (.iconst 1, 1) := by decide +kernel
theorem dX6_refer_113 : decode cX6_refer 113 = .ok (.if_icmp .ne 7, 3) := by decide +kernel
theorem dX6_refer_116 : decode cX6_refer 116 = .ok (.iconst 1, 1) := by decide +kernel
theorem dX6_refer_117 : decode cX6_refer 117 = .ok (.goto 4, 3) := by decide +kernel
theorem dX6_refer_120 : decode cX6_refer 120 = .ok (.iconst 0, 1) := by decide +kernel
theorem dX6_refer_121 : decode cX6_refer 121 = .ok (.istore 6, 2) := by decide +kernel
theorem dX6_refer_123 : decode cX6_refer 123 = .ok (.aload_n 0, 1) := by decide +kernel
theorem dX6_refer_124 : decode cX6_refer 124 = .ok (.getfield 16, 3) := by decide +kernel
theorem dX6_refer_127 : decode cX6_refer 127 = .ok (.iload_n 1, 1) := by decide +kernel
theorem dX6_refer_128 : decode cX6_refer 128 = .ok (.iload 4, 2) := by decide +kernel
theorem dX6_refer_130 : decode cX6_refer 130 = .ok (.ifCond .eq 16, 3) := by decide +kernel
theorem dX6_refer_133 : decode cX6_refer 133 = .ok (.aload_n 0, 1) := by decide +kernel
theorem dX6_refer_134 : decode cX6_refer 134 = .ok (.getfield 16, 3) := by decide +kernel
theorem dX6_refer_137 : decode cX6_refer 137 = .ok (.iload_n 1, 1) := by decide +kernel
theorem dX6_refer_138 : decode cX6_refer 138 = .ok (.iaload, 1) := by decide +kernel
theorem dX6_refer_139 : decode cX6_refer 139 = .ok (.iconst 1, 1) := by decide +kernel
theorem dX6_refer_140 : decode cX6_refer 140 = .ok (.iload_n 3, 1) := by decide +kernel
theorem dX6_refer_141 : decode cX6_refer 141 = .ok (.ishl, 1) := by decide +kernel
theorem dX6_refer_142 : decode cX6_refer 142 = .ok (.ior, 1) := by decide +kernel
theorem dX6_refer_143 : decode cX6_refer 143 = .ok (.goto 15, 3) := by decide +kernel
theorem dX6_refer_146 : decode cX6_refer 146 = .ok (.aload_n 0, 1) := by decide +kernel
theorem dX6_refer_147 : decode cX6_refer 147 = .ok (.getfield 16, 3) := by decide +kernel
theorem dX6_refer_150 : decode cX6_refer 150 = .ok (.iload_n 1, 1) := by decide +kernel
theorem dX6_refer_151 : decode cX6_refer 151 = .ok (.iaload, 1) := by decide +kernel
theorem dX6_refer_152 : decode cX6_refer 152 = .ok (.iconst 1, 1) := by decide +kernel
theorem dX6_refer_153 : decode cX6_refer 153 = .ok (.iload_n 3, 1) := by decide +kernel
theorem dX6_refer_154 : decode cX6_refer 154 = .ok (.ishl, 1) := by decide +kernel
theorem dX6_refer_155 : decode cX6_refer 155 = .ok (.iconst (-1), 1) := by decide +kernel
theorem dX6_refer_156 : decode cX6_refer 156 = .ok (.ixor, 1) := by decide +kernel
theorem dX6_refer_157 : decode cX6_refer 157 = .ok (.iand, 1) := by decide +kernel
theorem dX6_refer_158 : decode cX6_refer 158 = .ok (.iastore, 1) := by decide +kernel
theorem dX6_refer_159 : decode cX6_refer 159 = .ok (.iload 6, 2) := by decide +kernel
theorem dX6_refer_161 : decode cX6_refer 161 = .ok (.ireturn, 1) := by decide +kernel
theorem dX6_drawings_0 : decode cX6_drawings 0 = .ok (.aload_n 0, 1) := by decide +kernel
theorem dX6_drawings_1 : decode cX6_drawings 1 = .ok (.iconst 0, 1) := by decide +kernel
theorem dX6_drawings_2 : decode cX6_drawings 2 = .ok (.putfield 58, 3) := by decide +kernel
theorem dX6_drawings_5 : decode cX6_drawings 5 = .ok (.aload_n 0, 1) := by decide +kernel
theorem dX6_drawings_6 : decode cX6_drawings 6 = .ok (.getfield 62, 3) := by decide +kernel
theorem dX6_drawings_9 : decode cX6_drawings 9 = .ok (.ireturn, 1) := by decide +kernel
theorem dX6_side_0 : decode cX6_side 0 = .ok (.aload_n 0, 1) := by decide +kernel
theorem dX6_side_1 : decode cX6_side 1 = .ok (.aload_n 0, 1) := by decide +kernel
theorem dX6_side_2 : decode cX6_side 2 = .ok (.iload_n 1, 1) := by decide +kernel
theorem dX6_side_3 : decode cX6_side 3 = .ok (.invokevirtual 83, 3) := by decide +kernel
theorem dX6_side_6 : decode cX6_side 6 = .ok (.ifCond .ne 7, 3) := by decide +kernel
theorem dX6_side_9 : decode cX6_side 9 = .ok (.iconst 1, 1) := by decide +kernel
theorem dX6_side_10 : decode cX6_side 10 = .ok (.goto 18, 3) := by decide +kernel
theorem dX6_side_13 : decode cX6_side 13 = .ok (.iload_n 2, 1) := by decide +kernel
theorem dX6_side_14 : decode cX6_side 14 = .ok (.iconst 0, 1) := by decide +kernel
theorem dX6_side_15 : decode cX6_side 15 = .ok (.bipush 39, 2) := by decide +kernel
theorem dX6_side_17 : decode cX6_side 17 = .ok (.invokestatic 65, 3) := by decide +kernel
theorem dX6_side_20 : decode cX6_side 20 = .ok (.ifCond .eq 7, 3) := by decide +kernel
theorem dX6_side_23 : decode cX6_side 23 = .ok (.iconst 0, 1) := by decide +kernel
theorem dX6_side_24 : decode cX6_side 24 = .ok (.goto 4, 3) := by decide +kernel
theorem dX6_side_27 : decode cX6_side 27 = .ok (.iconst 2, 1) := by decide +kernel
theorem dX6_side_28 : decode cX6_side 28 = .ok (.putfield 58, 3) := by decide +kernel
theorem dX6_side_31 : decode cX6_side 31 = .ok (.aload_n 0, 1) := by decide +kernel
theorem dX6_side_32 : decode cX6_side 32 = .ok (.getfield 58, 3) := by decide +kernel
theorem dX6_side_35 : decode cX6_side 35 = .ok (.ifCond .le 5, 3) := by decide +kernel
theorem dX6_side_38 : decode cX6_side 38 = .ok (.iconst 0, 1) := by decide +kernel
theorem dX6_side_39 : decode cX6_side 39 = .ok (.ireturn, 1) := by decide +kernel
theorem dX6_side_40 : decode cX6_side 40 = .ok (.aload_n 0, 1) := by decide +kernel
theorem dX6_side_41 : decode cX6_side 41 = .ok (.invokevirtual 77, 3) := by decide +kernel
theorem dX6_side_44 : decode cX6_side 44 = .ok (.aload_n 0, 1) := by decide +kernel
theorem dX6_side_45 : decode cX6_side 45 = .ok (.getfield 25, 3) := by decide +kernel
theorem dX6_side_48 : decode cX6_side 48 = .ok (.bipush 40, 2) := by decide +kernel
theorem dX6_side_50 : decode cX6_side 50 = .ok (.iload_n 1, 1) := by decide +kernel
theorem dX6_side_51 : decode cX6_side 51 = .ok (.imul, 1) := by decide +kernel
theorem dX6_side_52 : decode cX6_side 52 = .ok (.iload_n 2, 1) := by decide +kernel
theorem dX6_side_53 : decode cX6_side 53 = .ok (.iadd, 1) := by decide +kernel
theorem dX6_side_54 : decode cX6_side 54 = .ok (.iaload, 1) := by decide +kernel
theorem dX6_side_55 : decode cX6_side 55 = .ok (.ireturn, 1) := by decide +kernel
theorem dX6_hasExit_0 : decode cX6_hasExit 0 = .ok (.aload_n 0, 1) := by decide +kernel
theorem dX6_hasExit_1 : decode cX6_hasExit 1 = .ok (.iload_n 1, 1) := by decide +kernel
theorem dX6_hasExit_2 : decode cX6_hasExit 2 = .ok (.iload_n 2, 1) := by decide +kernel
theorem dX6_hasExit_3 : decode cX6_hasExit 3 = .ok (.invokevirtual 103, 3) := by decide +kernel
theorem dX6_hasExit_6 : decode cX6_hasExit 6 = .ok (.ifCond .eq 21, 3) := by decide +kernel
theorem dX6_hasExit_9 : decode cX6_hasExit 9 = .ok (.aload_n 0, 1) := by decide +kernel
theorem dX6_hasExit_10 : decode cX6_hasExit 10 = .ok (.getfield 28, 3) := by decide +kernel
theorem dX6_hasExit_13 : decode cX6_hasExit 13 = .ok (.iload_n 1, 1) := by decide +kernel
theorem dX6_hasExit_14 : decode cX6_hasExit 14 = .ok (.iaload, 1) := by decide +kernel
theorem dX6_hasExit_15 : decode cX6_hasExit 15 = .ok (.iload_n 2, 1) := by decide +kernel
theorem dX6_hasExit_16 : decode cX6_hasExit 16 = .ok (.ishr, 1) := by decide +kernel
theorem dX6_hasExit_17 : decode cX6_hasExit 17 = .ok (.iconst 1, 1) := by decide +kernel
theorem dX6_hasExit_18 : decode cX6_hasExit 18 = .ok (.iand, 1) := by decide +kernel
theorem dX6_hasExit_19 : decode cX6_hasExit 19 = .ok (.iconst 1, 1) := by decide +kernel
theorem dX6_hasExit_20 : decode cX6_hasExit 20 = .ok (.if_icmp .ne 7, 3) := by decide +kernel
theorem dX6_hasExit_23 : decode cX6_hasExit 23 = .ok (.iconst 1, 1) := by decide +kernel
theorem dX6_hasExit_24 : decode cX6_hasExit 24 = .ok (.goto 4, 3) := by decide +kernel
theorem dX6_hasExit_27 : decode cX6_hasExit 27 = .ok (.iconst 0, 1) := by decide +kernel
theorem dX6_hasExit_28 : decode cX6_hasExit 28 = .ok (.ireturn, 1) := by decide +kernel
theorem dX6_rooms_0 : decode cX6_rooms 0 = .ok (.iconst 0, 1) := by decide +kernel
theorem dX6_rooms_1 : decode cX6_rooms 1 = .ok (.istore_n 2, 1) := by decide +kernel
theorem dX6_rooms_2 : decode cX6_rooms 2 = .ok (.aload_n 0, 1) := by decide +kernel
theorem dX6_rooms_3 : decode cX6_rooms 3 = .ok (.iload_n 1, 1) := by decide +kernel
theorem dX6_rooms_4 : decode cX6_rooms 4 = .ok (.iconst 0, 1) := by decide +kernel
theorem dX6_rooms_5 : decode cX6_rooms 5 = .ok (.invokevirtual 103, 3) := by decide +kernel
theorem dX6_rooms_8 : decode cX6_rooms 8 = .ok (.istore_n 3, 1) := by decide +kernel
theorem dX6_rooms_9 : decode cX6_rooms 9 = .ok (.iconst 0, 1) := by decide +kernel
theorem dX6_rooms_10 : decode cX6_rooms 10 = .ok (.istore 4, 2) := by decide +kernel
theorem dX6_rooms_12 : decode cX6_rooms 12 = .ok (.iload 4, 2) := by decide +kernel
theorem dX6_rooms_14 : decode cX6_rooms 14 = .ok (.bipush 25, 2) := by decide +kernel
theorem dX6_rooms_16 : decode cX6_rooms 16 = .ok (.if_icmp .ge 33, 3) := by decide +kernel
theorem dX6_rooms_19 : decode cX6_rooms 19 = .ok (.iload_n 3, 1) := by decide +kernel
theorem dX6_rooms_20 : decode cX6_rooms 20 = .ok (.ifCond .eq 29, 3) := by decide +kernel
theorem dX6_rooms_23 : decode cX6_rooms 23 = .ok (.iload_n 2, 1) := by decide +kernel
theorem dX6_rooms_24 : decode cX6_rooms 24 = .ok (.aload_n 0, 1) := by decide +kernel
theorem dX6_rooms_25 : decode cX6_rooms 25 = .ok (.getfield 31, 3) := by decide +kernel
theorem dX6_rooms_28 : decode cX6_rooms 28 = .ok (.iload 4, 2) := by decide +kernel
theorem dX6_rooms_30 : decode cX6_rooms 30 = .ok (.iaload, 1) := by decide +kernel
theorem dX6_rooms_31 : decode cX6_rooms 31 = .ok (.iload 4, 2) := by decide +kernel
theorem dX6_rooms_33 : decode cX6_rooms 33 = .ok (.if_icmp .ne 7, 3) := by decide +kernel
theorem dX6_rooms_36 : decode cX6_rooms 36 = .ok (.iconst 1, 1) := by decide +kernel
theorem dX6_rooms_37 : decode cX6_rooms 37 = .ok (.goto 4, 3) := by decide +kernel
theorem dX6_rooms_40 : decode cX6_rooms 40 = .ok (.iconst 0, 1) := by decide +kernel
theorem dX6_rooms_41 : decode cX6_rooms 41 = .ok (.iadd, 1) := by decide +kernel
theorem dX6_rooms_42 : decode cX6_rooms 42 = .ok (.istore_n 2, 1) := by decide +kernel
theorem dX6_rooms_43 : decode cX6_rooms 43 = .ok (.iinc 4 1, 3) := by decide +kernel
theorem dX6_rooms_46 : decode cX6_rooms 46 = .ok (.goto (-34), 3) := by decide +kernel
theorem dX6_rooms_49 : decode cX6_rooms 49 = .ok (.iload_n 2, 1) := by decide +kernel
theorem dX6_rooms_50 : decode cX6_rooms 50 = .ok (.ireturn, 1) := by decide +kernel
theorem dX6_room_0 : decode cX6_room 0 = .ok (.aload_n 0, 1) := by decide +kernel
theorem dX6_room_1 : decode cX6_room 1 = .ok (.iload_n 1, 1) := by decide +kernel
theorem dX6_room_2 : decode cX6_room 2 = .ok (.iload_n 2, 1) := by decide +kernel
theorem dX6_room_3 : decode cX6_room 3 = .ok (.invokevirtual 103, 3) := by decide +kernel
theorem dX6_room_6 : decode cX6_room 6 = .ok (.ifCond .eq 12, 3) := by decide +kernel
theorem dX6_room_9 : decode cX6_room 9 = .ok (.aload_n 0, 1) := by decide +kernel
theorem dX6_room_10 : decode cX6_room 10 = .ok (.getfield 31, 3) := by decide +kernel
theorem dX6_room_13 : decode cX6_room 13 = .ok (.iload_n 2, 1) := by decide +kernel
theorem dX6_room_14 : decode cX6_room 14 = .ok (.iaload, 1) := by decide +kernel
theorem dX6_room_15 : decode cX6_room 15 = .ok (.goto 4, 3) := by decide +kernel
theorem dX6_room_18 : decode cX6_room 18 = .ok (.iconst 0, 1) := by decide +kernel
theorem dX6_room_19 : decode cX6_room 19 = .ok (.ireturn, 1) := by decide +kernel
theorem dX6_size_0 : decode cX6_size 0 = .ok (.iconst 0, 1) := by decide +kernel
theorem dX6_size_1 : decode cX6_size 1 = .ok (.istore_n 3, 1) := by decide +kernel
theorem dX6_size_2 : decode cX6_size 2 = .ok (.aload_n 0, 1) := by decide +kernel
theorem dX6_size_3 : decode cX6_size 3 = .ok (.iload_n 1, 1) := by decide +kernel
theorem dX6_size_4 : decode cX6_size 4 = .ok (.iload_n 2, 1) := by decide +kernel
theorem dX6_size_5 : decode cX6_size 5 = .ok (.invokevirtual 103, 3) := by decide +kernel
theorem dX6_size_8 : decode cX6_size 8 = .ok (.istore 4, 2) := by decide +kernel
theorem dX6_size_10 : decode cX6_size 10 = .ok (.iconst 0, 1) := by decide +kernel
theorem dX6_size_11 : decode cX6_size 11 = .ok (.istore 5, 2) := by decide +kernel
theorem dX6_size_13 : decode cX6_size 13 = .ok (.iload 5, 2) := by decide +kernel
theorem dX6_size_15 : decode cX6_size 15 = .ok (.bipush 25, 2) := by decide +kernel
theorem dX6_size_17 : decode cX6_size 17 = .ok (.if_icmp .ge 38, 3) := by decide +kernel
theorem dX6_size_20 : decode cX6_size 20 = .ok (.iload 4, 2) := by decide +kernel
theorem dX6_size_22 : decode cX6_size 22 = .ok (.ifCond .eq 33, 3) := by decide +kernel
theorem dX6_size_25 : decode cX6_size 25 = .ok (.iload_n 3, 1) := by decide +kernel
theorem dX6_size_26 : decode cX6_size 26 = .ok (.aload_n 0, 1) := by decide +kernel
theorem dX6_size_27 : decode cX6_size 27 = .ok (.getfield 31, 3) := by decide +kernel
theorem dX6_size_30 : decode cX6_size 30 = .ok (.iload 5, 2) := by decide +kernel
theorem dX6_size_32 : decode cX6_size 32 = .ok (.iaload, 1) := by decide +kernel
theorem dX6_size_33 : decode cX6_size 33 = .ok (.aload_n 0, 1) := by decide +kernel
theorem dX6_size_34 : decode cX6_size 34 = .ok (.getfield 31, 3) := by decide +kernel
theorem dX6_size_37 : decode cX6_size 37 = .ok (.iload_n 2, 1) := by decide +kernel
theorem dX6_size_38 : decode cX6_size 38 = .ok (.iaload, 1) := by decide +kernel
theorem dX6_size_39 : decode cX6_size 39 = .ok (.if_icmp .ne 7, 3) := by decide +kernel
theorem dX6_size_42 : decode cX6_size 42 = .ok (.iconst 1, 1) := by decide +kernel
theorem dX6_size_43 : decode cX6_size 43 = .ok (.goto 4, 3) := by decide +kernel
theorem dX6_size_46 : decode cX6_size 46 = .ok (.iconst 0, 1) := by decide +kernel
theorem dX6_size_47 : decode cX6_size 47 = .ok (.iadd, 1) := by decide +kernel
theorem dX6_size_48 : decode cX6_size 48 = .ok (.istore_n 3, 1) := by decide +kernel
theorem dX6_size_49 : decode cX6_size 49 = .ok (.iinc 5 1, 3) := by decide +kernel
theorem dX6_size_52 : decode cX6_size 52 = .ok (.goto (-39), 3) := by decide +kernel
theorem dX6_size_55 : decode cX6_size 55 = .ok (.iload_n 3, 1) := by decide +kernel
theorem dX6_size_56 : decode cX6_size 56 = .ok (.ireturn, 1) := by decide +kernel
theorem dX6_doorsOut_0 : decode cX6_doorsOut 0 = .ok (.aload_n 0, 1) := by decide +kernel
theorem dX6_doorsOut_1 : decode cX6_doorsOut 1 = .ok (.iload_n 1, 1) := by decide +kernel
theorem dX6_doorsOut_2 : decode cX6_doorsOut 2 = .ok (.iload_n 2, 1) := by decide +kernel
theorem dX6_doorsOut_3 : decode cX6_doorsOut 3 = .ok (.invokevirtual 103, 3) := by decide +kernel
theorem dX6_doorsOut_6 : decode cX6_doorsOut 6 = .ok (.ifCond .ne 5, 3) := by decide +kernel
theorem dX6_doorsOut_9 : decode cX6_doorsOut 9 = .ok (.iconst 0, 1) := by decide +kernel
theorem dX6_doorsOut_10 : decode cX6_doorsOut 10 = .ok (.ireturn, 1) := by decide +kernel
theorem dX6_doorsOut_11 : decode cX6_doorsOut 11 = .ok (.aload_n 0, 1) := by decide +kernel
theorem dX6_doorsOut_12 : decode cX6_doorsOut 12 = .ok (.getfield 34, 3) := by decide +kernel
theorem dX6_doorsOut_15 : decode cX6_doorsOut 15 = .ok (.aload_n 0, 1) := by decide +kernel
theorem dX6_doorsOut_16 : decode cX6_doorsOut 16 = .ok (.getfield 31, 3) := by decide +kernel
theorem dX6_doorsOut_19 : decode cX6_doorsOut 19 = .ok (.iload_n 2, 1) := by decide +kernel
theorem dX6_doorsOut_20 : decode cX6_doorsOut 20 = .ok (.iaload, 1) := by decide +kernel
theorem dX6_doorsOut_21 : decode cX6_doorsOut 21 = .ok (.iaload, 1) := by decide +kernel
theorem dX6_doorsOut_22 : decode cX6_doorsOut 22 = .ok (.istore_n 3, 1) := by decide +kernel
theorem dX6_doorsOut_23 : decode cX6_doorsOut 23 = .ok (.iload_n 3, 1) := by decide +kernel
theorem dX6_doorsOut_24 : decode cX6_doorsOut 24 = .ok (.bipush 99, 2) := by decide +kernel
theorem dX6_doorsOut_26 : decode cX6_doorsOut 26 = .ok (.if_icmp .ne 7, 3) := by decide +kernel
theorem dX6_doorsOut_29 : decode cX6_doorsOut 29 = .ok (.iconst (-1), 1) := by decide +kernel
theorem dX6_doorsOut_30 : decode cX6_doorsOut 30 = .ok (.goto 4, 3) := by decide +kernel
theorem dX6_doorsOut_33 : decode cX6_doorsOut 33 = .ok (.iload_n 3, 1) := by decide +kernel
theorem dX6_doorsOut_34 : decode cX6_doorsOut 34 = .ok (.ireturn, 1) := by decide +kernel
theorem dX6_doorThatHelps_0 : decode cX6_doorThatHelps 0 = .ok (.aload_n 0, 1) := by decide +kernel
theorem dX6_doorThatHelps_1 : decode cX6_doorThatHelps 1 = .ok (.iload_n 1, 1) := by decide +kernel
theorem dX6_doorThatHelps_2 : decode cX6_doorThatHelps 2 = .ok (.iload_n 2, 1) := by decide +kernel
theorem dX6_doorThatHelps_3 : decode cX6_doorThatHelps 3 = .ok (.invokevirtual 103, 3) := by decide +kernel
theorem dX6_doorThatHelps_6 : decode cX6_doorThatHelps 6 = .ok (.ifCond .ne 5, 3) := by decide +kernel
theorem dX6_doorThatHelps_9 : decode cX6_doorThatHelps 9 = .ok (.iconst 0, 1) := by decide +kernel
theorem dX6_doorThatHelps_10 : decode cX6_doorThatHelps 10 = .ok (.ireturn, 1) := by decide +kernel
theorem dX6_doorThatHelps_11 : decode cX6_doorThatHelps 11 = .ok (.iconst (-1), 1) := by decide +kernel
theorem dX6_doorThatHelps_12 : decode cX6_doorThatHelps 12 = .ok (.istore_n 3, 1) := by decide +kernel
theorem dX6_doorThatHelps_13 : decode cX6_doorThatHelps 13 = .ok (.bipush 39, 2) := by decide +kernel
theorem dX6_doorThatHelps_15 : decode cX6_doorThatHelps 15 = .ok (.istore 4, 2) := by decide +kernel
theorem dX6_doorThatHelps_17 : decode cX6_doorThatHelps 17 = .ok (.iload 4, 2) := by decide +kernel
theorem dX6_doorThatHelps_19 : decode cX6_doorThatHelps 19 = .ok (.ifCond .lt 140, 3) := by decide +kernel
theorem dX6_doorThatHelps_22 : decode cX6_doorThatHelps 22 = .ok (.aload_n 0, 1) := by decide +kernel
theorem dX6_doorThatHelps_23 : decode cX6_doorThatHelps 23 = .ok (.getfield 34, 3) := by decide +kernel
theorem dX6_doorThatHelps_26 : decode cX6_doorThatHelps 26 = .ok (.aload_n 0, 1) := by decide +kernel
theorem dX6_doorThatHelps_27 : decode cX6_doorThatHelps 27 = .ok (.getfield 31, 3) := by decide +kernel
theorem dX6_doorThatHelps_30 : decode cX6_doorThatHelps 30 = .ok (.iload_n 2, 1) := by decide +kernel
theorem dX6_doorThatHelps_31 : decode cX6_doorThatHelps 31 = .ok (.iaload, 1) := by decide +kernel
theorem dX6_doorThatHelps_32 : decode cX6_doorThatHelps 32 = .ok (.iaload, 1) := by decide +kernel
theorem dX6_doorThatHelps_33 : decode cX6_doorThatHelps 33 = .ok (.bipush 99, 2) := by decide +kernel
theorem dX6_doorThatHelps_35 : decode cX6_doorThatHelps 35 = .ok (.if_icmp .ne 124, 3) := by decide +kernel
theorem dX6_doorThatHelps_38 : decode cX6_doorThatHelps 38 = .ok (.aload_n 0, 1) := by decide +kernel
theorem dX6_doorThatHelps_39 : decode cX6_doorThatHelps 39 = .ok (.getfield 31, 3) := by decide +kernel
theorem dX6_doorThatHelps_42 : decode cX6_doorThatHelps 42 = .ok (.iload 4, 2) := by decide +kernel
theorem dX6_doorThatHelps_44 : decode cX6_doorThatHelps 44 = .ok (.invokestatic 73, 3) := by decide +kernel
theorem dX6_doorThatHelps_47 : decode cX6_doorThatHelps 47 = .ok (.iaload, 1) := by decide +kernel
theorem dX6_doorThatHelps_48 : decode cX6_doorThatHelps 48 = .ok (.istore 5, 2) := by decide +kernel
theorem dX6_doorThatHelps_50 : decode cX6_doorThatHelps 50 = .ok (.aload_n 0, 1) := by decide +kernel
theorem dX6_doorThatHelps_51 : decode cX6_doorThatHelps 51 = .ok (.getfield 31, 3) := by decide +kernel
theorem dX6_doorThatHelps_54 : decode cX6_doorThatHelps 54 = .ok (.iload 4, 2) := by decide +kernel
theorem dX6_doorThatHelps_56 : decode cX6_doorThatHelps 56 = .ok (.invokestatic 80, 3) := by decide +kernel
theorem dX6_doorThatHelps_59 : decode cX6_doorThatHelps 59 = .ok (.iaload, 1) := by decide +kernel
theorem dX6_doorThatHelps_60 : decode cX6_doorThatHelps 60 = .ok (.istore 6, 2) := by decide +kernel
theorem dX6_doorThatHelps_62 : decode cX6_doorThatHelps 62 = .ok (.aload_n 0, 1) := by decide +kernel
theorem dX6_doorThatHelps_63 : decode cX6_doorThatHelps 63 = .ok (.getfield 34, 3) := by decide +kernel
theorem dX6_doorThatHelps_66 : decode cX6_doorThatHelps 66 = .ok (.iload 5, 2) := by decide +kernel
theorem dX6_doorThatHelps_68 : decode cX6_doorThatHelps 68 = .ok (.iaload, 1) := by decide +kernel
theorem dX6_doorThatHelps_69 : decode cX6_doorThatHelps 69 = .ok (.bipush 99, 2) := by decide +kernel
theorem dX6_doorThatHelps_71 : decode cX6_doorThatHelps 71 = .ok (.if_icmp .ge 19, 3) := by decide +kernel
theorem dX6_doorThatHelps_74 : decode cX6_doorThatHelps 74 = .ok (.aload_n 0, 1) := by decide +kernel
theorem dX6_doorThatHelps_75 : decode cX6_doorThatHelps 75 = .ok (.iload_n 1, 1) := by decide +kernel
theorem dX6_doorThatHelps_76 : decode cX6_doorThatHelps 76 = .ok (.aload_n 0, 1) := by decide +kernel
theorem dX6_doorThatHelps_77 : decode cX6_doorThatHelps 77 = .ok (.getfield 31, 3) := by decide +kernel
theorem dX6_doorThatHelps_80 : decode cX6_doorThatHelps 80 = .ok (.iload_n 2, 1) := by decide +kernel
theorem dX6_doorThatHelps_81 : decode cX6_doorThatHelps 81 = .ok (.iaload, 1) := by decide +kernel
theorem dX6_doorThatHelps_82 : decode cX6_doorThatHelps 82 = .ok (.iload 6, 2) := by decide +kernel
theorem dX6_doorThatHelps_84 : decode cX6_doorThatHelps 84 = .ok (.invokevirtual 107, 3) := by decide +kernel
theorem dX6_doorThatHelps_87 : decode cX6_doorThatHelps 87 = .ok (.ifCond .ne 31, 3) := by decide +kernel
theorem dX6_doorThatHelps_90 : decode cX6_doorThatHelps 90 = .ok (.aload_n 0, 1) := by decide +kernel
theorem dX6_doorThatHelps_91 : decode cX6_doorThatHelps 91 = .ok (.getfield 34, 3) := by decide +kernel
theorem dX6_doorThatHelps_94 : decode cX6_doorThatHelps 94 = .ok (.iload 6, 2) := by decide +kernel
theorem dX6_doorThatHelps_96 : decode cX6_doorThatHelps 96 = .ok (.iaload, 1) := by decide +kernel
theorem dX6_doorThatHelps_97 : decode cX6_doorThatHelps 97 = .ok (.bipush 99, 2) := by decide +kernel
theorem dX6_doorThatHelps_99 : decode cX6_doorThatHelps 99 = .ok (.if_icmp .ge 23, 3) := by decide +kernel
theorem dX6_doorThatHelps_102 : decode cX6_doorThatHelps 102 = .ok (.aload_n 0, 1) := by decide +kernel
theorem dX6_doorThatHelps_103 : decode cX6_doorThatHelps 103 = .ok (.iload_n 1, 1) := by decide +kernel
theorem dX6_doorThatHelps_104 : decode cX6_doorThatHelps 104 = .ok (.aload_n 0, 1) := by decide +kernel
theorem dX6_doorThatHelps_105 : decode cX6_doorThatHelps 105 = .ok (.getfield 31, 3) := by decide +kernel
theorem dX6_doorThatHelps_108 : decode cX6_doorThatHelps 108 = .ok (.iload_n 2, 1) := by decide +kernel
theorem dX6_doorThatHelps_109 : decode cX6_doorThatHelps 109 = .ok (.iaload, 1) := by decide +kernel
theorem dX6_doorThatHelps_110 : decode cX6_doorThatHelps 110 = .ok (.iload 5, 2) := by decide +kernel
theorem dX6_doorThatHelps_112 : decode cX6_doorThatHelps 112 = .ok (.invokevirtual 107, 3) := by decide +kernel
theorem dX6_doorThatHelps_115 : decode cX6_doorThatHelps 115 = .ok (.ifCond .eq 7, 3) := by decide +kernel
theorem dX6_doorThatHelps_118 : decode cX6_doorThatHelps 118 = .ok (.iconst 1, 1) := by decide +kernel
theorem dX6_doorThatHelps_119 : decode cX6_doorThatHelps 119 = .ok (.goto 4, 3) := by decide +kernel
theorem dX6_doorThatHelps_122 : decode cX6_doorThatHelps 122 = .ok (.iconst 0, 1) := by decide +kernel
theorem dX6_doorThatHelps_123 : decode cX6_doorThatHelps 123 = .ok (.istore 7, 2) := by decide +kernel
theorem dX6_doorThatHelps_125 : decode cX6_doorThatHelps 125 = .ok (.aload_n 0, 1) := by decide +kernel
theorem dX6_doorThatHelps_126 : decode cX6_doorThatHelps 126 = .ok (.getfield 25, 3) := by decide +kernel
theorem dX6_doorThatHelps_129 : decode cX6_doorThatHelps 129 = .ok (.bipush 40, 2) := by decide +kernel
theorem dX6_doorThatHelps_131 : decode cX6_doorThatHelps 131 = .ok (.iload_n 1, 1) := by decide +kernel
theorem dX6_doorThatHelps_132 : decode cX6_doorThatHelps 132 = .ok (.imul, 1) := by decide +kernel
theorem dX6_doorThatHelps_133 : decode cX6_doorThatHelps 133 = .ok (.iload 4, 2) := by decide +kernel
theorem dX6_doorThatHelps_135 : decode cX6_doorThatHelps 135 = .ok (.iadd, 1) := by decide +kernel
theorem dX6_doorThatHelps_136 : decode cX6_doorThatHelps 136 = .ok (.iaload, 1) := by decide +kernel
theorem dX6_doorThatHelps_137 : decode cX6_doorThatHelps 137 = .ok (.iconst 1, 1) := by decide +kernel
theorem dX6_doorThatHelps_138 : decode cX6_doorThatHelps 138 = .ok (.if_icmp .ne 13, 3) := by decide +kernel
theorem dX6_doorThatHelps_141 : decode cX6_doorThatHelps 141 = .ok (.iload 7, 2) := by decide +kernel
theorem dX6_doorThatHelps_143 : decode cX6_doorThatHelps 143 = .ok (.ifCond .eq 8, 3) := by decide +kernel
theorem dX6_doorThatHelps_146 : decode cX6_doorThatHelps 146 = .ok (.iload 4, 2) := by decide +kernel
theorem dX6_doorThatHelps_148 : decode cX6_doorThatHelps 148 = .ok (.goto 4, 3) := by decide +kernel
theorem dX6_doorThatHelps_151 : decode cX6_doorThatHelps 151 = .ok (.iload_n 3, 1) := by decide +kernel
theorem dX6_doorThatHelps_152 : decode cX6_doorThatHelps 152 = .ok (.istore_n 3, 1) := by decide +kernel
theorem dX6_doorThatHelps_153 : decode cX6_doorThatHelps 153 = .ok (.iinc 4 (-1), 3) := by decide +kernel
theorem dX6_doorThatHelps_156 : decode cX6_doorThatHelps 156 = .ok (.goto (-139), 3) := by decide +kernel
theorem dX6_doorThatHelps_159 : decode cX6_doorThatHelps 159 = .ok (.iload_n 3, 1) := by decide +kernel
theorem dX6_doorThatHelps_160 : decode cX6_doorThatHelps 160 = .ok (.ireturn, 1) := by decide +kernel
theorem dX6_lock_0 : decode cX6_lock 0 = .ok (.aload_n 0, 1) := by decide +kernel
theorem dX6_lock_1 : decode cX6_lock 1 = .ok (.aload_n 0, 1) := by decide +kernel
theorem dX6_lock_2 : decode cX6_lock 2 = .ok (.iload_n 1, 1) := by decide +kernel
theorem dX6_lock_3 : decode cX6_lock 3 = .ok (.invokevirtual 83, 3) := by decide +kernel
theorem dX6_lock_6 : decode cX6_lock 6 = .ok (.ifCond .ne 7, 3) := by decide +kernel
theorem dX6_lock_9 : decode cX6_lock 9 = .ok (.iconst 1, 1) := by decide +kernel
theorem dX6_lock_10 : decode cX6_lock 10 = .ok (.goto 28, 3) := by decide +kernel
theorem dX6_lock_13 : decode cX6_lock 13 = .ok (.iload_n 2, 1) := by decide +kernel
theorem dX6_lock_14 : decode cX6_lock 14 = .ok (.invokestatic 94, 3) := by decide +kernel
theorem dX6_lock_17 : decode cX6_lock 17 = .ok (.ifCond .ne 7, 3) := by decide +kernel
theorem dX6_lock_20 : decode cX6_lock 20 = .ok (.iconst 2, 1) := by decide +kernel
theorem dX6_lock_21 : decode cX6_lock 21 = .ok (.goto 17, 3) := by decide +kernel
theorem dX6_lock_24 : decode cX6_lock 24 = .ok (.aload_n 0, 1) := by decide +kernel
theorem dX6_lock_25 : decode cX6_lock 25 = .ok (.getfield 19, 3) := by decide +kernel
theorem dX6_lock_28 : decode cX6_lock 28 = .ok (.iload_n 1, 1) := by decide +kernel
theorem dX6_lock_29 : decode cX6_lock 29 = .ok (.iaload, 1) := by decide +kernel
theorem dX6_lock_30 : decode cX6_lock 30 = .ok (.ifCond .lt 7, 3) := by decide +kernel
theorem dX6_lock_33 : decode cX6_lock 33 = .ok (.iconst 3, 1) := by decide +kernel
theorem dX6_lock_34 : decode cX6_lock 34 = .ok (.goto 4, 3) := by decide +kernel
theorem dX6_lock_37 : decode cX6_lock 37 = .ok (.iconst 0, 1) := by decide +kernel
theorem dX6_lock_38 : decode cX6_lock 38 = .ok (.putfield 58, 3) := by decide +kernel
theorem dX6_lock_41 : decode cX6_lock 41 = .ok (.aload_n 0, 1) := by decide +kernel
theorem dX6_lock_42 : decode cX6_lock 42 = .ok (.getfield 58, 3) := by decide +kernel
theorem dX6_lock_45 : decode cX6_lock 45 = .ok (.ifCond .ne 10, 3) := by decide +kernel
theorem dX6_lock_48 : decode cX6_lock 48 = .ok (.aload_n 0, 1) := by decide +kernel
theorem dX6_lock_49 : decode cX6_lock 49 = .ok (.getfield 19, 3) := by decide +kernel
theorem dX6_lock_52 : decode cX6_lock 52 = .ok (.iload_n 1, 1) := by decide +kernel
theorem dX6_lock_53 : decode cX6_lock 53 = .ok (.iload_n 2, 1) := by decide +kernel
theorem dX6_lock_54 : decode cX6_lock 54 = .ok (.iastore, 1) := by decide +kernel
theorem dX6_lock_55 : decode cX6_lock 55 = .ok (.return_, 1) := by decide +kernel
theorem dX6_unlock_0 : decode cX6_unlock 0 = .ok (.aload_n 0, 1) := by decide +kernel
theorem dX6_unlock_1 : decode cX6_unlock 1 = .ok (.aload_n 0, 1) := by decide +kernel
theorem dX6_unlock_2 : decode cX6_unlock 2 = .ok (.iload_n 1, 1) := by decide +kernel
theorem dX6_unlock_3 : decode cX6_unlock 3 = .ok (.invokevirtual 83, 3) := by decide +kernel
theorem dX6_unlock_6 : decode cX6_unlock 6 = .ok (.ifCond .ne 7, 3) := by decide +kernel
theorem dX6_unlock_9 : decode cX6_unlock 9 = .ok (.iconst 1, 1) := by decide +kernel
theorem dX6_unlock_10 : decode cX6_unlock 10 = .ok (.goto 38, 3) := by decide +kernel
theorem dX6_unlock_13 : decode cX6_unlock 13 = .ok (.iload_n 2, 1) := by decide +kernel
theorem dX6_unlock_14 : decode cX6_unlock 14 = .ok (.invokestatic 94, 3) := by decide +kernel
theorem dX6_unlock_17 : decode cX6_unlock 17 = .ok (.ifCond .ne 7, 3) := by decide +kernel
theorem dX6_unlock_20 : decode cX6_unlock 20 = .ok (.iconst 2, 1) := by decide +kernel
theorem dX6_unlock_21 : decode cX6_unlock 21 = .ok (.goto 27, 3) := by decide +kernel
theorem dX6_unlock_24 : decode cX6_unlock 24 = .ok (.aload_n 0, 1) := by decide +kernel
theorem dX6_unlock_25 : decode cX6_unlock 25 = .ok (.getfield 19, 3) := by decide +kernel
theorem dX6_unlock_28 : decode cX6_unlock 28 = .ok (.iload_n 1, 1) := by decide +kernel
theorem dX6_unlock_29 : decode cX6_unlock 29 = .ok (.iaload, 1) := by decide +kernel
theorem dX6_unlock_30 : decode cX6_unlock 30 = .ok (.iload_n 2, 1) := by decide +kernel
theorem dX6_unlock_31 : decode cX6_unlock 31 = .ok (.if_icmp .ne 12, 3) := by decide +kernel
theorem dX6_unlock_34 : decode cX6_unlock 34 = .ok (.aload_n 0, 1) := by decide +kernel
theorem dX6_unlock_35 : decode cX6_unlock 35 = .ok (.getfield 22, 3) := by decide +kernel
theorem dX6_unlock_38 : decode cX6_unlock 38 = .ok (.iload_n 1, 1) := by decide +kernel
theorem dX6_unlock_39 : decode cX6_unlock 39 = .ok (.iaload, 1) := by decide +kernel
theorem dX6_unlock_40 : decode cX6_unlock 40 = .ok (.ifCond .lt 7, 3) := by decide +kernel
theorem dX6_unlock_43 : decode cX6_unlock 43 = .ok (.iconst 3, 1) := by decide +kernel
theorem dX6_unlock_44 : decode cX6_unlock 44 = .ok (.goto 4, 3) := by decide +kernel
theorem dX6_unlock_47 : decode cX6_unlock 47 = .ok (.iconst 0, 1) := by decide +kernel
theorem dX6_unlock_48 : decode cX6_unlock 48 = .ok (.putfield 58, 3) := by decide +kernel
theorem dX6_unlock_51 : decode cX6_unlock 51 = .ok (.aload_n 0, 1) := by decide +kernel
theorem dX6_unlock_52 : decode cX6_unlock 52 = .ok (.getfield 58, 3) := by decide +kernel
theorem dX6_unlock_55 : decode cX6_unlock 55 = .ok (.ifCond .ne 10, 3) := by decide +kernel
theorem dX6_unlock_58 : decode cX6_unlock 58 = .ok (.aload_n 0, 1) := by decide +kernel
theorem dX6_unlock_59 : decode cX6_unlock 59 = .ok (.getfield 19, 3) := by decide +kernel
theorem dX6_unlock_62 : decode cX6_unlock 62 = .ok (.iload_n 1, 1) := by decide +kernel
theorem dX6_unlock_63 : decode cX6_unlock 63 = .ok (.iconst (-1), 1) := by decide +kernel
theorem dX6_unlock_64 : decode cX6_unlock 64 = .ok (.iastore, 1) := by decide +kernel
theorem dX6_unlock_65 : decode cX6_unlock 65 = .ok (.return_, 1) := by decide +kernel
theorem dX6_lend_0 : decode cX6_lend 0 = .ok (.iload_n 2, 1) := by decide +kernel
theorem dX6_lend_1 : decode cX6_lend 1 = .ok (.invokestatic 94, 3) := by decide +kernel
theorem dX6_lend_4 : decode cX6_lend 4 = .ok (.ifCond .eq 21, 3) := by decide +kernel
theorem dX6_lend_7 : decode cX6_lend 7 = .ok (.iload_n 3, 1) := by decide +kernel
theorem dX6_lend_8 : decode cX6_lend 8 = .ok (.iconst (-1), 1) := by decide +kernel
theorem dX6_lend_9 : decode cX6_lend 9 = .ok (.iconst 5, 1) := by decide +kernel
theorem dX6_lend_10 : decode cX6_lend 10 = .ok (.invokestatic 65, 3) := by decide +kernel
theorem dX6_lend_13 : decode cX6_lend 13 = .ok (.ifCond .eq 12, 3) := by decide +kernel
theorem dX6_lend_16 : decode cX6_lend 16 = .ok (.iload_n 2, 1) := by decide +kernel
theorem dX6_lend_17 : decode cX6_lend 17 = .ok (.iload_n 3, 1) := by decide +kernel
theorem dX6_lend_18 : decode cX6_lend 18 = .ok (.if_icmp .eq 7, 3) := by decide +kernel
theorem dX6_lend_21 : decode cX6_lend 21 = .ok (.iconst 1, 1) := by decide +kernel
theorem dX6_lend_22 : decode cX6_lend 22 = .ok (.goto 4, 3) := by decide +kernel
theorem dX6_lend_25 : decode cX6_lend 25 = .ok (.iconst 0, 1) := by decide +kernel
theorem dX6_lend_26 : decode cX6_lend 26 = .ok (.istore 4, 2) := by decide +kernel
theorem dX6_lend_28 : decode cX6_lend 28 = .ok (.aload_n 0, 1) := by decide +kernel
theorem dX6_lend_29 : decode cX6_lend 29 = .ok (.aload_n 0, 1) := by decide +kernel
theorem dX6_lend_30 : decode cX6_lend 30 = .ok (.iload_n 1, 1) := by decide +kernel
theorem dX6_lend_31 : decode cX6_lend 31 = .ok (.invokevirtual 83, 3) := by decide +kernel
theorem dX6_lend_34 : decode cX6_lend 34 = .ok (.ifCond .ne 7, 3) := by decide +kernel
theorem dX6_lend_37 : decode cX6_lend 37 = .ok (.iconst 1, 1) := by decide +kernel
theorem dX6_lend_38 : decode cX6_lend 38 = .ok (.goto 27, 3) := by decide +kernel
theorem dX6_lend_41 : decode cX6_lend 41 = .ok (.iload 4, 2) := by decide +kernel
theorem dX6_lend_43 : decode cX6_lend 43 = .ok (.ifCond .ne 7, 3) := by decide +kernel
theorem dX6_lend_46 : decode cX6_lend 46 = .ok (.iconst 2, 1) := by decide +kernel
theorem dX6_lend_47 : decode cX6_lend 47 = .ok (.goto 18, 3) := by decide +kernel
theorem dX6_lend_50 : decode cX6_lend 50 = .ok (.aload_n 0, 1) := by decide +kernel
theorem dX6_lend_51 : decode cX6_lend 51 = .ok (.getfield 19, 3) := by decide +kernel
theorem dX6_lend_54 : decode cX6_lend 54 = .ok (.iload_n 1, 1) := by decide +kernel
theorem dX6_lend_55 : decode cX6_lend 55 = .ok (.iaload, 1) := by decide +kernel
theorem dX6_lend_56 : decode cX6_lend 56 = .ok (.iload_n 2, 1) := by decide +kernel
theorem dX6_lend_57 : decode cX6_lend 57 = .ok (.if_icmp .ne 7, 3) := by decide +kernel
theorem dX6_lend_60 : decode cX6_lend 60 = .ok (.iconst 0, 1) := by decide +kernel
theorem dX6_lend_61 : decode cX6_lend 61 = .ok (.goto 4, 3) := by decide +kernel
theorem dX6_lend_64 : decode cX6_lend 64 = .ok (.iconst 3, 1) := by decide +kernel
theorem dX6_lend_65 : decode cX6_lend 65 = .ok (.putfield 58, 3) := by decide +kernel
theorem dX6_lend_68 : decode cX6_lend 68 = .ok (.aload_n 0, 1) := by decide +kernel
theorem dX6_lend_69 : decode cX6_lend 69 = .ok (.getfield 58, 3) := by decide +kernel
theorem dX6_lend_72 : decode cX6_lend 72 = .ok (.ifCond .le 5, 3) := by decide +kernel
theorem dX6_lend_75 : decode cX6_lend 75 = .ok (.iconst 0, 1) := by decide +kernel
theorem dX6_lend_76 : decode cX6_lend 76 = .ok (.ireturn, 1) := by decide +kernel
theorem dX6_lend_77 : decode cX6_lend 77 = .ok (.aload_n 0, 1) := by decide +kernel
theorem dX6_lend_78 : decode cX6_lend 78 = .ok (.getfield 22, 3) := by decide +kernel
theorem dX6_lend_81 : decode cX6_lend 81 = .ok (.iload_n 1, 1) := by decide +kernel
theorem dX6_lend_82 : decode cX6_lend 82 = .ok (.iaload, 1) := by decide +kernel
theorem dX6_lend_83 : decode cX6_lend 83 = .ok (.istore 5, 2) := by decide +kernel
theorem dX6_lend_85 : decode cX6_lend 85 = .ok (.aload_n 0, 1) := by decide +kernel
theorem dX6_lend_86 : decode cX6_lend 86 = .ok (.getfield 22, 3) := by decide +kernel
theorem dX6_lend_89 : decode cX6_lend 89 = .ok (.iload_n 1, 1) := by decide +kernel
theorem dX6_lend_90 : decode cX6_lend 90 = .ok (.iload_n 3, 1) := by decide +kernel
theorem dX6_lend_91 : decode cX6_lend 91 = .ok (.iastore, 1) := by decide +kernel
theorem dX6_lend_92 : decode cX6_lend 92 = .ok (.iload 5, 2) := by decide +kernel
theorem dX6_lend_94 : decode cX6_lend 94 = .ok (.ireturn, 1) := by decide +kernel
theorem dX6_canChange_0 : decode cX6_canChange 0 = .ok (.aload_n 0, 1) := by decide +kernel
theorem dX6_canChange_1 : decode cX6_canChange 1 = .ok (.aload_n 0, 1) := by decide +kernel
theorem dX6_canChange_2 : decode cX6_canChange 2 = .ok (.iload_n 1, 1) := by decide +kernel
theorem dX6_canChange_3 : decode cX6_canChange 3 = .ok (.invokevirtual 83, 3) := by decide +kernel
theorem dX6_canChange_6 : decode cX6_canChange 6 = .ok (.ifCond .eq 7, 3) := by decide +kernel
theorem dX6_canChange_9 : decode cX6_canChange 9 = .ok (.iconst 0, 1) := by decide +kernel
theorem dX6_canChange_10 : decode cX6_canChange 10 = .ok (.goto 4, 3) := by decide +kernel
theorem dX6_canChange_13 : decode cX6_canChange 13 = .ok (.iconst 1, 1) := by decide +kernel
theorem dX6_canChange_14 : decode cX6_canChange 14 = .ok (.putfield 58, 3) := by decide +kernel
theorem dX6_canChange_17 : decode cX6_canChange 17 = .ok (.aload_n 0, 1) := by decide +kernel
theorem dX6_canChange_18 : decode cX6_canChange 18 = .ok (.getfield 58, 3) := by decide +kernel
theorem dX6_canChange_21 : decode cX6_canChange 21 = .ok (.ifCond .le 7, 3) := by decide +kernel
theorem dX6_canChange_24 : decode cX6_canChange 24 = .ok (.iconst 0, 1) := by decide +kernel
theorem dX6_canChange_25 : decode cX6_canChange 25 = .ok (.goto 8, 3) := by decide +kernel
theorem dX6_canChange_28 : decode cX6_canChange 28 = .ok (.aload_n 0, 1) := by decide +kernel
theorem dX6_canChange_29 : decode cX6_canChange 29 = .ok (.iload_n 1, 1) := by decide +kernel
theorem dX6_canChange_30 : decode cX6_canChange 30 = .ok (.invokevirtual 97, 3) := by decide +kernel
theorem dX6_canChange_33 : decode cX6_canChange 33 = .ok (.ireturn, 1) := by decide +kernel
theorem dX6_stands_0 : decode cX6_stands 0 = .ok (.aload_n 0, 1) := by decide +kernel
theorem dX6_stands_1 : decode cX6_stands 1 = .ok (.getfield 37, 3) := by decide +kernel
theorem dX6_stands_4 : decode cX6_stands 4 = .ok (.iload_n 1, 1) := by decide +kernel
theorem dX6_stands_5 : decode cX6_stands 5 = .ok (.iaload, 1) := by decide +kernel
theorem dX6_stands_6 : decode cX6_stands 6 = .ok (.istore_n 2, 1) := by decide +kernel
theorem dX6_stands_7 : decode cX6_stands 7 = .ok (.aload_n 0, 1) := by decide +kernel
theorem dX6_stands_8 : decode cX6_stands 8 = .ok (.getfield 43, 3) := by decide +kernel
theorem dX6_stands_11 : decode cX6_stands 11 = .ok (.iload_n 1, 1) := by decide +kernel
theorem dX6_stands_12 : decode cX6_stands 12 = .ok (.iaload, 1) := by decide +kernel
theorem dX6_stands_13 : decode cX6_stands 13 = .ok (.aload_n 0, 1) := by decide +kernel
theorem dX6_stands_14 : decode cX6_stands 14 = .ok (.getfield 28, 3) := by decide +kernel
theorem dX6_stands_17 : decode cX6_stands 17 = .ok (.iload_n 2, 1) := by decide +kernel
theorem dX6_stands_18 : decode cX6_stands 18 = .ok (.iaload, 1) := by decide +kernel
theorem dX6_stands_19 : decode cX6_stands 19 = .ok (.if_icmp .ne 7, 3) := by decide +kernel
theorem dX6_stands_22 : decode cX6_stands 22 = .ok (.iconst 1, 1) := by decide +kernel
theorem dX6_stands_23 : decode cX6_stands 23 = .ok (.goto 4, 3) := by decide +kernel
theorem dX6_stands_26 : decode cX6_stands 26 = .ok (.iconst 0, 1) := by decide +kernel
theorem dX6_stands_27 : decode cX6_stands 27 = .ok (.istore_n 3, 1) := by decide +kernel
theorem dX6_stands_28 : decode cX6_stands 28 = .ok (.iconst 0, 1) := by decide +kernel
theorem dX6_stands_29 : decode cX6_stands 29 = .ok (.istore 4, 2) := by decide +kernel
theorem dX6_stands_31 : decode cX6_stands 31 = .ok (.iload 4, 2) := by decide +kernel
theorem dX6_stands_33 : decode cX6_stands 33 = .ok (.bipush 40, 2) := by decide +kernel
theorem dX6_stands_35 : decode cX6_stands 35 = .ok (.if_icmp .ge 44, 3) := by decide +kernel
theorem dX6_stands_38 : decode cX6_stands 38 = .ok (.iload_n 3, 1) := by decide +kernel
theorem dX6_stands_39 : decode cX6_stands 39 = .ok (.aload_n 0, 1) := by decide +kernel
theorem dX6_stands_40 : decode cX6_stands 40 = .ok (.getfield 40, 3) := by decide +kernel
theorem dX6_stands_43 : decode cX6_stands 43 = .ok (.bipush 40, 2) := by decide +kernel
theorem dX6_stands_45 : decode cX6_stands 45 = .ok (.iload_n 1, 1) := by decide +kernel
theorem dX6_stands_46 : decode cX6_stands 46 = .ok (.imul, 1) := by decide +kernel
theorem dX6_stands_47 : decode cX6_stands 47 = .ok (.iload 4, 2) := by decide +kernel
theorem dX6_stands_49 : decode cX6_stands 49 = .ok (.iadd, 1) := by decide +kernel
theorem dX6_stands_50 : decode cX6_stands 50 = .ok (.iaload, 1) := by decide +kernel
theorem dX6_stands_51 : decode cX6_stands 51 = .ok (.aload_n 0, 1) := by decide +kernel
theorem dX6_stands_52 : decode cX6_stands 52 = .ok (.getfield 25, 3) := by decide +kernel
theorem dX6_stands_55 : decode cX6_stands 55 = .ok (.bipush 40, 2) := by decide +kernel
theorem dX6_stands_57 : decode cX6_stands 57 = .ok (.iload_n 2, 1) := by decide +kernel
theorem dX6_stands_58 : decode cX6_stands 58 = .ok (.imul, 1) := by decide +kernel
theorem dX6_stands_59 : decode cX6_stands 59 = .ok (.iload 4, 2) := by decide +kernel
theorem dX6_stands_61 : decode cX6_stands 61 = .ok (.iadd, 1) := by decide +kernel
theorem dX6_stands_62 : decode cX6_stands 62 = .ok (.iaload, 1) := by decide +kernel
theorem dX6_stands_63 : decode cX6_stands 63 = .ok (.if_icmp .ne 7, 3) := by decide +kernel
theorem dX6_stands_66 : decode cX6_stands 66 = .ok (.iconst 1, 1) := by decide +kernel
theorem dX6_stands_67 : decode cX6_stands 67 = .ok (.goto 4, 3) := by decide +kernel
theorem dX6_stands_70 : decode cX6_stands 70 = .ok (.iconst 0, 1) := by decide +kernel
theorem dX6_stands_71 : decode cX6_stands 71 = .ok (.iand, 1) := by decide +kernel
theorem dX6_stands_72 : decode cX6_stands 72 = .ok (.istore_n 3, 1) := by decide +kernel
theorem dX6_stands_73 : decode cX6_stands 73 = .ok (.iinc 4 1, 3) := by decide +kernel
theorem dX6_stands_76 : decode cX6_stands 76 = .ok (.goto (-45), 3) := by decide +kernel
theorem dX6_stands_79 : decode cX6_stands 79 = .ok (.iload_n 3, 1) := by decide +kernel
theorem dX6_stands_80 : decode cX6_stands 80 = .ok (.ireturn, 1) := by decide +kernel
theorem dX6_isOld_0 : decode cX6_isOld 0 = .ok (.aload_n 0, 1) := by decide +kernel
theorem dX6_isOld_1 : decode cX6_isOld 1 = .ok (.getfield 46, 3) := by decide +kernel
theorem dX6_isOld_4 : decode cX6_isOld 4 = .ok (.iload_n 1, 1) := by decide +kernel
theorem dX6_isOld_5 : decode cX6_isOld 5 = .ok (.iaload, 1) := by decide +kernel
theorem dX6_isOld_6 : decode cX6_isOld 6 = .ok (.istore_n 2, 1) := by decide +kernel
theorem dX6_isOld_7 : decode cX6_isOld 7 = .ok (.aload_n 0, 1) := by decide +kernel
theorem dX6_isOld_8 : decode cX6_isOld 8 = .ok (.getfield 52, 3) := by decide +kernel
theorem dX6_isOld_11 : decode cX6_isOld 11 = .ok (.iload_n 1, 1) := by decide +kernel
theorem dX6_isOld_12 : decode cX6_isOld 12 = .ok (.iaload, 1) := by decide +kernel
theorem dX6_isOld_13 : decode cX6_isOld 13 = .ok (.aload_n 0, 1) := by decide +kernel
theorem dX6_isOld_14 : decode cX6_isOld 14 = .ok (.getfield 28, 3) := by decide +kernel
theorem dX6_isOld_17 : decode cX6_isOld 17 = .ok (.iload_n 2, 1) := by decide +kernel
theorem dX6_isOld_18 : decode cX6_isOld 18 = .ok (.iaload, 1) := by decide +kernel
theorem dX6_isOld_19 : decode cX6_isOld 19 = .ok (.if_icmp .eq 7, 3) := by decide +kernel
theorem dX6_isOld_22 : decode cX6_isOld 22 = .ok (.iconst 1, 1) := by decide +kernel
theorem dX6_isOld_23 : decode cX6_isOld 23 = .ok (.goto 4, 3) := by decide +kernel
theorem dX6_isOld_26 : decode cX6_isOld 26 = .ok (.iconst 0, 1) := by decide +kernel
theorem dX6_isOld_27 : decode cX6_isOld 27 = .ok (.istore_n 3, 1) := by decide +kernel
theorem dX6_isOld_28 : decode cX6_isOld 28 = .ok (.iconst 0, 1) := by decide +kernel
theorem dX6_isOld_29 : decode cX6_isOld 29 = .ok (.istore 4, 2) := by decide +kernel
theorem dX6_isOld_31 : decode cX6_isOld 31 = .ok (.iload 4, 2) := by decide +kernel
theorem dX6_isOld_33 : decode cX6_isOld 33 = .ok (.bipush 40, 2) := by decide +kernel
theorem dX6_isOld_35 : decode cX6_isOld 35 = .ok (.if_icmp .ge 44, 3) := by decide +kernel
theorem dX6_isOld_38 : decode cX6_isOld 38 = .ok (.iload_n 3, 1) := by decide +kernel
theorem dX6_isOld_39 : decode cX6_isOld 39 = .ok (.aload_n 0, 1) := by decide +kernel
theorem dX6_isOld_40 : decode cX6_isOld 40 = .ok (.getfield 49, 3) := by decide +kernel
theorem dX6_isOld_43 : decode cX6_isOld 43 = .ok (.bipush 40, 2) := by decide +kernel
theorem dX6_isOld_45 : decode cX6_isOld 45 = .ok (.iload_n 1, 1) := by decide +kernel
theorem dX6_isOld_46 : decode cX6_isOld 46 = .ok (.imul, 1) := by decide +kernel
theorem dX6_isOld_47 : decode cX6_isOld 47 = .ok (.iload 4, 2) := by decide +kernel
theorem dX6_isOld_49 : decode cX6_isOld 49 = .ok (.iadd, 1) := by decide +kernel
theorem dX6_isOld_50 : decode cX6_isOld 50 = .ok (.iaload, 1) := by decide +kernel
theorem dX6_isOld_51 : decode cX6_isOld 51 = .ok (.aload_n 0, 1) := by decide +kernel
theorem dX6_isOld_52 : decode cX6_isOld 52 = .ok (.getfield 25, 3) := by decide +kernel
theorem dX6_isOld_55 : decode cX6_isOld 55 = .ok (.bipush 40, 2) := by decide +kernel
theorem dX6_isOld_57 : decode cX6_isOld 57 = .ok (.iload_n 2, 1) := by decide +kernel
theorem dX6_isOld_58 : decode cX6_isOld 58 = .ok (.imul, 1) := by decide +kernel
theorem dX6_isOld_59 : decode cX6_isOld 59 = .ok (.iload 4, 2) := by decide +kernel
theorem dX6_isOld_61 : decode cX6_isOld 61 = .ok (.iadd, 1) := by decide +kernel
theorem dX6_isOld_62 : decode cX6_isOld 62 = .ok (.iaload, 1) := by decide +kernel
theorem dX6_isOld_63 : decode cX6_isOld 63 = .ok (.if_icmp .eq 7, 3) := by decide +kernel
theorem dX6_isOld_66 : decode cX6_isOld 66 = .ok (.iconst 1, 1) := by decide +kernel
theorem dX6_isOld_67 : decode cX6_isOld 67 = .ok (.goto 4, 3) := by decide +kernel
theorem dX6_isOld_70 : decode cX6_isOld 70 = .ok (.iconst 0, 1) := by decide +kernel
theorem dX6_isOld_71 : decode cX6_isOld 71 = .ok (.ior, 1) := by decide +kernel
theorem dX6_isOld_72 : decode cX6_isOld 72 = .ok (.istore_n 3, 1) := by decide +kernel
theorem dX6_isOld_73 : decode cX6_isOld 73 = .ok (.iinc 4 1, 3) := by decide +kernel
theorem dX6_isOld_76 : decode cX6_isOld 76 = .ok (.goto (-45), 3) := by decide +kernel
theorem dX6_isOld_79 : decode cX6_isOld 79 = .ok (.iload_n 3, 1) := by decide +kernel
theorem dX6_isOld_80 : decode cX6_isOld 80 = .ok (.ireturn, 1) := by decide +kernel
theorem dX6_grant_0 : decode cX6_grant 0 = .ok (.aload_n 0, 1) := by decide +kernel
theorem dX6_grant_1 : decode cX6_grant 1 = .ok (.iload_n 1, 1) := by decide +kernel
theorem dX6_grant_2 : decode cX6_grant 2 = .ok (.iconst 0, 1) := by decide +kernel
theorem dX6_grant_3 : decode cX6_grant 3 = .ok (.invokevirtual 103, 3) := by decide +kernel
theorem dX6_grant_6 : decode cX6_grant 6 = .ok (.ifCond .ne 5, 3) := by decide +kernel
theorem dX6_grant_9 : decode cX6_grant 9 = .ok (.iconst 0, 1) := by decide +kernel
theorem dX6_grant_10 : decode cX6_grant 10 = .ok (.ireturn, 1) := by decide +kernel
theorem dX6_grant_11 : decode cX6_grant 11 = .ok (.aload_n 0, 1) := by decide +kernel
theorem dX6_grant_12 : decode cX6_grant 12 = .ok (.getfield 110, 3) := by decide +kernel
theorem dX6_grant_15 : decode cX6_grant 15 = .ok (.bipush 20, 2) := by decide +kernel
theorem dX6_grant_17 : decode cX6_grant 17 = .ok (.if_icmp .ge 7, 3) := by decide +kernel
theorem dX6_grant_20 : decode cX6_grant 20 = .ok (.iconst 1, 1) := by decide +kernel
theorem dX6_grant_21 : decode cX6_grant 21 = .ok (.goto 4, 3) := by decide +kernel
theorem dX6_grant_24 : decode cX6_grant 24 = .ok (.iconst 0, 1) := by decide +kernel
theorem dX6_grant_25 : decode cX6_grant 25 = .ok (.istore_n 2, 1) := by decide +kernel
theorem dX6_grant_26 : decode cX6_grant 26 = .ok (.iconst 0, 1) := by decide +kernel
theorem dX6_grant_27 : decode cX6_grant 27 = .ok (.istore_n 3, 1) := by decide +kernel
theorem dX6_grant_28 : decode cX6_grant 28 = .ok (.iload_n 3, 1) := by decide +kernel
theorem dX6_grant_29 : decode cX6_grant 29 = .ok (.bipush 25, 2) := by decide +kernel
theorem dX6_grant_31 : decode cX6_grant 31 = .ok (.if_icmp .ge 33, 3) := by decide +kernel
theorem dX6_grant_34 : decode cX6_grant 34 = .ok (.iload_n 2, 1) := by decide +kernel
theorem dX6_grant_35 : decode cX6_grant 35 = .ok (.aload_n 0, 1) := by decide +kernel
theorem dX6_grant_36 : decode cX6_grant 36 = .ok (.getfield 34, 3) := by decide +kernel
theorem dX6_grant_39 : decode cX6_grant 39 = .ok (.aload_n 0, 1) := by decide +kernel
theorem dX6_grant_40 : decode cX6_grant 40 = .ok (.getfield 31, 3) := by decide +kernel
theorem dX6_grant_43 : decode cX6_grant 43 = .ok (.iload_n 3, 1) := by decide +kernel
theorem dX6_grant_44 : decode cX6_grant 44 = .ok (.iaload, 1) := by decide +kernel
theorem dX6_grant_45 : decode cX6_grant 45 = .ok (.iaload, 1) := by decide +kernel
theorem dX6_grant_46 : decode cX6_grant 46 = .ok (.bipush 99, 2) := by decide +kernel
theorem dX6_grant_48 : decode cX6_grant 48 = .ok (.if_icmp .ge 7, 3) := by decide +kernel
theorem dX6_grant_51 : decode cX6_grant 51 = .ok (.iconst 1, 1) := by decide +kernel
theorem dX6_grant_52 : decode cX6_grant 52 = .ok (.goto 4, 3) := by decide +kernel
theorem dX6_grant_55 : decode cX6_grant 55 = .ok (.iconst 0, 1) := by decide +kernel
theorem dX6_grant_56 : decode cX6_grant 56 = .ok (.iand, 1) := by decide +kernel
theorem dX6_grant_57 : decode cX6_grant 57 = .ok (.istore_n 2, 1) := by decide +kernel
theorem dX6_grant_58 : decode cX6_grant 58 = .ok (.iinc 3 1, 3) := by decide +kernel
theorem dX6_grant_61 : decode cX6_grant 61 = .ok (.goto (-33), 3) := by decide +kernel
theorem dX6_grant_64 : decode cX6_grant 64 = .ok (.aload_n 0, 1) := by decide +kernel
end
section
theorem dX6_grant_65 : decode cX6_grant 65 = .ok (.iload_n 2, 1) := by decide +kernel
theorem dX6_grant_66 : decode cX6_grant 66 = .ok (.ifCond .eq 7, 3) := by decide +kernel
theorem dX6_grant_69 : decode cX6_grant 69 = .ok (.iconst 0, 1) := by decide +kernel
theorem dX6_grant_70 : decode cX6_grant 70 = .ok (.goto 4, 3) := by decide +kernel
theorem dX6_grant_73 : decode cX6_grant 73 = .ok (.iconst 2, 1) := by decide +kernel
theorem dX6_grant_74 : decode cX6_grant 74 = .ok (.putfield 58, 3) := by decide +kernel
theorem dX6_grant_77 : decode cX6_grant 77 = .ok (.iload_n 2, 1) := by decide +kernel
theorem dX6_grant_78 : decode cX6_grant 78 = .ok (.ifCond .ne 5, 3) := by decide +kernel
theorem dX6_grant_81 : decode cX6_grant 81 = .ok (.iconst 0, 1) := by decide +kernel
theorem dX6_grant_82 : decode cX6_grant 82 = .ok (.ireturn, 1) := by decide +kernel
theorem dX6_grant_83 : decode cX6_grant 83 = .ok (.aload_n 0, 1) := by decide +kernel
theorem dX6_grant_84 : decode cX6_grant 84 = .ok (.getfield 37, 3) := by decide +kernel
theorem dX6_grant_87 : decode cX6_grant 87 = .ok (.aload_n 0, 1) := by decide +kernel
theorem dX6_grant_88 : decode cX6_grant 88 = .ok (.getfield 110, 3) := by decide +kernel
theorem dX6_grant_91 : decode cX6_grant 91 = .ok (.iload_n 1, 1) := by decide +kernel
theorem dX6_grant_92 : decode cX6_grant 92 = .ok (.iastore, 1) := by decide +kernel
theorem dX6_grant_93 : decode cX6_grant 93 = .ok (.aload_n 0, 1) := by decide +kernel
theorem dX6_grant_94 : decode cX6_grant 94 = .ok (.getfield 43, 3) := by decide +kernel
theorem dX6_grant_97 : decode cX6_grant 97 = .ok (.aload_n 0, 1) := by decide +kernel
theorem dX6_grant_98 : decode cX6_grant 98 = .ok (.getfield 110, 3) := by decide +kernel
theorem dX6_grant_101 : decode cX6_grant 101 = .ok (.aload_n 0, 1) := by decide +kernel
theorem dX6_grant_102 : decode cX6_grant 102 = .ok (.getfield 28, 3) := by decide +kernel
theorem dX6_grant_105 : decode cX6_grant 105 = .ok (.iload_n 1, 1) := by decide +kernel
theorem dX6_grant_106 : decode cX6_grant 106 = .ok (.iaload, 1) := by decide +kernel
theorem dX6_grant_107 : decode cX6_grant 107 = .ok (.iastore, 1) := by decide +kernel
theorem dX6_grant_108 : decode cX6_grant 108 = .ok (.iconst 0, 1) := by decide +kernel
theorem dX6_grant_109 : decode cX6_grant 109 = .ok (.istore_n 3, 1) := by decide +kernel
theorem dX6_grant_110 : decode cX6_grant 110 = .ok (.iload_n 3, 1) := by decide +kernel
theorem dX6_grant_111 : decode cX6_grant 111 = .ok (.bipush 40, 2) := by decide +kernel
theorem dX6_grant_113 : decode cX6_grant 113 = .ok (.if_icmp .ge 34, 3) := by decide +kernel
theorem dX6_grant_116 : decode cX6_grant 116 = .ok (.aload_n 0, 1) := by decide +kernel
theorem dX6_grant_117 : decode cX6_grant 117 = .ok (.getfield 40, 3) := by decide +kernel
theorem dX6_grant_120 : decode cX6_grant 120 = .ok (.bipush 40, 2) := by decide +kernel
theorem dX6_grant_122 : decode cX6_grant 122 = .ok (.aload_n 0, 1) := by decide +kernel
theorem dX6_grant_123 : decode cX6_grant 123 = .ok (.getfield 110, 3) := by decide +kernel
theorem dX6_grant_126 : decode cX6_grant 126 = .ok (.imul, 1) := by decide +kernel
theorem dX6_grant_127 : decode cX6_grant 127 = .ok (.iload_n 3, 1) := by decide +kernel
theorem dX6_grant_128 : decode cX6_grant 128 = .ok (.iadd, 1) := by decide +kernel
theorem dX6_grant_129 : decode cX6_grant 129 = .ok (.aload_n 0, 1) := by decide +kernel
theorem dX6_grant_130 : decode cX6_grant 130 = .ok (.getfield 25, 3) := by decide +kernel
theorem dX6_grant_133 : decode cX6_grant 133 = .ok (.bipush 40, 2) := by decide +kernel
theorem dX6_grant_135 : decode cX6_grant 135 = .ok (.iload_n 1, 1) := by decide +kernel
theorem dX6_grant_136 : decode cX6_grant 136 = .ok (.imul, 1) := by decide +kernel
theorem dX6_grant_137 : decode cX6_grant 137 = .ok (.iload_n 3, 1) := by decide +kernel
theorem dX6_grant_138 : decode cX6_grant 138 = .ok (.iadd, 1) := by decide +kernel
theorem dX6_grant_139 : decode cX6_grant 139 = .ok (.iaload, 1) := by decide +kernel
theorem dX6_grant_140 : decode cX6_grant 140 = .ok (.iastore, 1) := by decide +kernel
theorem dX6_grant_141 : decode cX6_grant 141 = .ok (.iinc 3 1, 3) := by decide +kernel
theorem dX6_grant_144 : decode cX6_grant 144 = .ok (.goto (-34), 3) := by decide +kernel
theorem dX6_grant_147 : decode cX6_grant 147 = .ok (.aload_n 0, 1) := by decide +kernel
theorem dX6_grant_148 : decode cX6_grant 148 = .ok (.dup, 1) := by decide +kernel
theorem dX6_grant_149 : decode cX6_grant 149 = .ok (.getfield 110, 3) := by decide +kernel
theorem dX6_grant_152 : decode cX6_grant 152 = .ok (.iconst 1, 1) := by decide +kernel
theorem dX6_grant_153 : decode cX6_grant 153 = .ok (.iadd, 1) := by decide +kernel
theorem dX6_grant_154 : decode cX6_grant 154 = .ok (.putfield 110, 3) := by decide +kernel
theorem dX6_grant_157 : decode cX6_grant 157 = .ok (.aload_n 0, 1) := by decide +kernel
theorem dX6_grant_158 : decode cX6_grant 158 = .ok (.getfield 110, 3) := by decide +kernel
theorem dX6_grant_161 : decode cX6_grant 161 = .ok (.iconst 1, 1) := by decide +kernel
theorem dX6_grant_162 : decode cX6_grant 162 = .ok (.isub, 1) := by decide +kernel
theorem dX6_grant_163 : decode cX6_grant 163 = .ok (.ireturn, 1) := by decide +kernel
theorem dX6_holds_0 : decode cX6_holds 0 = .ok (.aload_n 0, 1) := by decide +kernel
theorem dX6_holds_1 : decode cX6_holds 1 = .ok (.iload_n 1, 1) := by decide +kernel
theorem dX6_holds_2 : decode cX6_holds 2 = .ok (.iconst 0, 1) := by decide +kernel
theorem dX6_holds_3 : decode cX6_holds 3 = .ok (.aload_n 0, 1) := by decide +kernel
theorem dX6_holds_4 : decode cX6_holds 4 = .ok (.getfield 110, 3) := by decide +kernel
theorem dX6_holds_7 : decode cX6_holds 7 = .ok (.iconst 1, 1) := by decide +kernel
theorem dX6_holds_8 : decode cX6_holds 8 = .ok (.isub, 1) := by decide +kernel
theorem dX6_holds_9 : decode cX6_holds 9 = .ok (.invokestatic 65, 3) := by decide +kernel
theorem dX6_holds_12 : decode cX6_holds 12 = .ok (.ifCond .eq 7, 3) := by decide +kernel
theorem dX6_holds_15 : decode cX6_holds 15 = .ok (.iconst 0, 1) := by decide +kernel
theorem dX6_holds_16 : decode cX6_holds 16 = .ok (.goto 4, 3) := by decide +kernel
theorem dX6_holds_19 : decode cX6_holds 19 = .ok (.iconst 1, 1) := by decide +kernel
theorem dX6_holds_20 : decode cX6_holds 20 = .ok (.putfield 58, 3) := by decide +kernel
theorem dX6_holds_23 : decode cX6_holds 23 = .ok (.aload_n 0, 1) := by decide +kernel
theorem dX6_holds_24 : decode cX6_holds 24 = .ok (.invokevirtual 77, 3) := by decide +kernel
theorem dX6_holds_27 : decode cX6_holds 27 = .ok (.aload_n 0, 1) := by decide +kernel
theorem dX6_holds_28 : decode cX6_holds 28 = .ok (.getfield 58, 3) := by decide +kernel
theorem dX6_holds_31 : decode cX6_holds 31 = .ok (.ifCond .ne 15, 3) := by decide +kernel
theorem dX6_holds_34 : decode cX6_holds 34 = .ok (.aload_n 0, 1) := by decide +kernel
theorem dX6_holds_35 : decode cX6_holds 35 = .ok (.iload_n 1, 1) := by decide +kernel
theorem dX6_holds_36 : decode cX6_holds 36 = .ok (.invokevirtual 113, 3) := by decide +kernel
theorem dX6_holds_39 : decode cX6_holds 39 = .ok (.ifCond .eq 7, 3) := by decide +kernel
theorem dX6_holds_42 : decode cX6_holds 42 = .ok (.iconst 1, 1) := by decide +kernel
theorem dX6_holds_43 : decode cX6_holds 43 = .ok (.goto 4, 3) := by decide +kernel
theorem dX6_holds_46 : decode cX6_holds 46 = .ok (.iconst 0, 1) := by decide +kernel
theorem dX6_holds_47 : decode cX6_holds 47 = .ok (.ireturn, 1) := by decide +kernel
theorem dX6_print_0 : decode cX6_print 0 = .ok (.aload_n 0, 1) := by decide +kernel
theorem dX6_print_1 : decode cX6_print 1 = .ok (.aload_n 0, 1) := by decide +kernel
theorem dX6_print_2 : decode cX6_print 2 = .ok (.iload_n 1, 1) := by decide +kernel
theorem dX6_print_3 : decode cX6_print 3 = .ok (.invokevirtual 83, 3) := by decide +kernel
theorem dX6_print_6 : decode cX6_print 6 = .ok (.ifCond .ne 7, 3) := by decide +kernel
theorem dX6_print_9 : decode cX6_print 9 = .ok (.iconst 1, 1) := by decide +kernel
theorem dX6_print_10 : decode cX6_print 10 = .ok (.goto 17, 3) := by decide +kernel
theorem dX6_print_13 : decode cX6_print 13 = .ok (.aload_n 0, 1) := by decide +kernel
theorem dX6_print_14 : decode cX6_print 14 = .ok (.getfield 116, 3) := by decide +kernel
theorem dX6_print_17 : decode cX6_print 17 = .ok (.bipush 30, 2) := by decide +kernel
theorem dX6_print_19 : decode cX6_print 19 = .ok (.if_icmp .ne 7, 3) := by decide +kernel
theorem dX6_print_22 : decode cX6_print 22 = .ok (.iconst 2, 1) := by decide +kernel
theorem dX6_print_23 : decode cX6_print 23 = .ok (.goto 4, 3) := by decide +kernel
theorem dX6_print_26 : decode cX6_print 26 = .ok (.iconst 0, 1) := by decide +kernel
theorem dX6_print_27 : decode cX6_print 27 = .ok (.putfield 58, 3) := by decide +kernel
theorem dX6_print_30 : decode cX6_print 30 = .ok (.aload_n 0, 1) := by decide +kernel
theorem dX6_print_31 : decode cX6_print 31 = .ok (.getfield 58, 3) := by decide +kernel
theorem dX6_print_34 : decode cX6_print 34 = .ok (.ifCond .le 5, 3) := by decide +kernel
theorem dX6_print_37 : decode cX6_print 37 = .ok (.iconst 0, 1) := by decide +kernel
theorem dX6_print_38 : decode cX6_print 38 = .ok (.ireturn, 1) := by decide +kernel
theorem dX6_print_39 : decode cX6_print 39 = .ok (.aload_n 0, 1) := by decide +kernel
theorem dX6_print_40 : decode cX6_print 40 = .ok (.invokevirtual 77, 3) := by decide +kernel
theorem dX6_print_43 : decode cX6_print 43 = .ok (.aload_n 0, 1) := by decide +kernel
theorem dX6_print_44 : decode cX6_print 44 = .ok (.getfield 46, 3) := by decide +kernel
theorem dX6_print_47 : decode cX6_print 47 = .ok (.aload_n 0, 1) := by decide +kernel
theorem dX6_print_48 : decode cX6_print 48 = .ok (.getfield 116, 3) := by decide +kernel
theorem dX6_print_51 : decode cX6_print 51 = .ok (.iload_n 1, 1) := by decide +kernel
theorem dX6_print_52 : decode cX6_print 52 = .ok (.iastore, 1) := by decide +kernel
theorem dX6_print_53 : decode cX6_print 53 = .ok (.aload_n 0, 1) := by decide +kernel
theorem dX6_print_54 : decode cX6_print 54 = .ok (.getfield 52, 3) := by decide +kernel
theorem dX6_print_57 : decode cX6_print 57 = .ok (.aload_n 0, 1) := by decide +kernel
theorem dX6_print_58 : decode cX6_print 58 = .ok (.getfield 116, 3) := by decide +kernel
theorem dX6_print_61 : decode cX6_print 61 = .ok (.aload_n 0, 1) := by decide +kernel
theorem dX6_print_62 : decode cX6_print 62 = .ok (.getfield 28, 3) := by decide +kernel
theorem dX6_print_65 : decode cX6_print 65 = .ok (.iload_n 1, 1) := by decide +kernel
theorem dX6_print_66 : decode cX6_print 66 = .ok (.iaload, 1) := by decide +kernel
theorem dX6_print_67 : decode cX6_print 67 = .ok (.iastore, 1) := by decide +kernel
theorem dX6_print_68 : decode cX6_print 68 = .ok (.iconst 0, 1) := by decide +kernel
theorem dX6_print_69 : decode cX6_print 69 = .ok (.istore_n 2, 1) := by decide +kernel
theorem dX6_print_70 : decode cX6_print 70 = .ok (.iload_n 2, 1) := by decide +kernel
theorem dX6_print_71 : decode cX6_print 71 = .ok (.bipush 40, 2) := by decide +kernel
theorem dX6_print_73 : decode cX6_print 73 = .ok (.if_icmp .ge 34, 3) := by decide +kernel
theorem dX6_print_76 : decode cX6_print 76 = .ok (.aload_n 0, 1) := by decide +kernel
theorem dX6_print_77 : decode cX6_print 77 = .ok (.getfield 49, 3) := by decide +kernel
theorem dX6_print_80 : decode cX6_print 80 = .ok (.bipush 40, 2) := by decide +kernel
theorem dX6_print_82 : decode cX6_print 82 = .ok (.aload_n 0, 1) := by decide +kernel
theorem dX6_print_83 : decode cX6_print 83 = .ok (.getfield 116, 3) := by decide +kernel
theorem dX6_print_86 : decode cX6_print 86 = .ok (.imul, 1) := by decide +kernel
theorem dX6_print_87 : decode cX6_print 87 = .ok (.iload_n 2, 1) := by decide +kernel
theorem dX6_print_88 : decode cX6_print 88 = .ok (.iadd, 1) := by decide +kernel
theorem dX6_print_89 : decode cX6_print 89 = .ok (.aload_n 0, 1) := by decide +kernel
theorem dX6_print_90 : decode cX6_print 90 = .ok (.getfield 25, 3) := by decide +kernel
theorem dX6_print_93 : decode cX6_print 93 = .ok (.bipush 40, 2) := by decide +kernel
theorem dX6_print_95 : decode cX6_print 95 = .ok (.iload_n 1, 1) := by decide +kernel
theorem dX6_print_96 : decode cX6_print 96 = .ok (.imul, 1) := by decide +kernel
theorem dX6_print_97 : decode cX6_print 97 = .ok (.iload_n 2, 1) := by decide +kernel
theorem dX6_print_98 : decode cX6_print 98 = .ok (.iadd, 1) := by decide +kernel
theorem dX6_print_99 : decode cX6_print 99 = .ok (.iaload, 1) := by decide +kernel
theorem dX6_print_100 : decode cX6_print 100 = .ok (.iastore, 1) := by decide +kernel
theorem dX6_print_101 : decode cX6_print 101 = .ok (.iinc 2 1, 3) := by decide +kernel
theorem dX6_print_104 : decode cX6_print 104 = .ok (.goto (-34), 3) := by decide +kernel
theorem dX6_print_107 : decode cX6_print 107 = .ok (.aload_n 0, 1) := by decide +kernel
theorem dX6_print_108 : decode cX6_print 108 = .ok (.getfield 55, 3) := by decide +kernel
theorem dX6_print_111 : decode cX6_print 111 = .ok (.aload_n 0, 1) := by decide +kernel
theorem dX6_print_112 : decode cX6_print 112 = .ok (.getfield 116, 3) := by decide +kernel
theorem dX6_print_115 : decode cX6_print 115 = .ok (.iconst (-1), 1) := by decide +kernel
theorem dX6_print_116 : decode cX6_print 116 = .ok (.iastore, 1) := by decide +kernel
theorem dX6_print_117 : decode cX6_print 117 = .ok (.iconst 0, 1) := by decide +kernel
theorem dX6_print_118 : decode cX6_print 118 = .ok (.istore_n 2, 1) := by decide +kernel
theorem dX6_print_119 : decode cX6_print 119 = .ok (.iload_n 2, 1) := by decide +kernel
theorem dX6_print_120 : decode cX6_print 120 = .ok (.aload_n 0, 1) := by decide +kernel
theorem dX6_print_121 : decode cX6_print 121 = .ok (.getfield 110, 3) := by decide +kernel
theorem dX6_print_124 : decode cX6_print 124 = .ok (.if_icmp .ge 49, 3) := by decide +kernel
theorem dX6_print_127 : decode cX6_print 127 = .ok (.aload_n 0, 1) := by decide +kernel
theorem dX6_print_128 : decode cX6_print 128 = .ok (.getfield 55, 3) := by decide +kernel
theorem dX6_print_131 : decode cX6_print 131 = .ok (.aload_n 0, 1) := by decide +kernel
theorem dX6_print_132 : decode cX6_print 132 = .ok (.getfield 116, 3) := by decide +kernel
theorem dX6_print_135 : decode cX6_print 135 = .ok (.aload_n 0, 1) := by decide +kernel
theorem dX6_print_136 : decode cX6_print 136 = .ok (.getfield 37, 3) := by decide +kernel
theorem dX6_print_139 : decode cX6_print 139 = .ok (.iload_n 2, 1) := by decide +kernel
theorem dX6_print_140 : decode cX6_print 140 = .ok (.iaload, 1) := by decide +kernel
theorem dX6_print_141 : decode cX6_print 141 = .ok (.iload_n 1, 1) := by decide +kernel
theorem dX6_print_142 : decode cX6_print 142 = .ok (.if_icmp .ne 15, 3) := by decide +kernel
theorem dX6_print_145 : decode cX6_print 145 = .ok (.aload_n 0, 1) := by decide +kernel
theorem dX6_print_146 : decode cX6_print 146 = .ok (.iload_n 2, 1) := by decide +kernel
theorem dX6_print_147 : decode cX6_print 147 = .ok (.invokevirtual 113, 3) := by decide +kernel
theorem dX6_print_150 : decode cX6_print 150 = .ok (.ifCond .eq 7, 3) := by decide +kernel
theorem dX6_print_153 : decode cX6_print 153 = .ok (.iload_n 2, 1) := by decide +kernel
theorem dX6_print_154 : decode cX6_print 154 = .ok (.goto 12, 3) := by decide +kernel
theorem dX6_print_157 : decode cX6_print 157 = .ok (.aload_n 0, 1) := by decide +kernel
theorem dX6_print_158 : decode cX6_print 158 = .ok (.getfield 55, 3) := by decide +kernel
theorem dX6_print_161 : decode cX6_print 161 = .ok (.aload_n 0, 1) := by decide +kernel
theorem dX6_print_162 : decode cX6_print 162 = .ok (.getfield 116, 3) := by decide +kernel
theorem dX6_print_165 : decode cX6_print 165 = .ok (.iaload, 1) := by decide +kernel
theorem dX6_print_166 : decode cX6_print 166 = .ok (.iastore, 1) := by decide +kernel
theorem dX6_print_167 : decode cX6_print 167 = .ok (.iinc 2 1, 3) := by decide +kernel
theorem dX6_print_170 : decode cX6_print 170 = .ok (.goto (-51), 3) := by decide +kernel
theorem dX6_print_173 : decode cX6_print 173 = .ok (.aload_n 0, 1) := by decide +kernel
theorem dX6_print_174 : decode cX6_print 174 = .ok (.dup, 1) := by decide +kernel
theorem dX6_print_175 : decode cX6_print 175 = .ok (.getfield 116, 3) := by decide +kernel
theorem dX6_print_178 : decode cX6_print 178 = .ok (.iconst 1, 1) := by decide +kernel
theorem dX6_print_179 : decode cX6_print 179 = .ok (.iadd, 1) := by decide +kernel
theorem dX6_print_180 : decode cX6_print 180 = .ok (.putfield 116, 3) := by decide +kernel
theorem dX6_print_183 : decode cX6_print 183 = .ok (.aload_n 0, 1) := by decide +kernel
theorem dX6_print_184 : decode cX6_print 184 = .ok (.getfield 116, 3) := by decide +kernel
theorem dX6_print_187 : decode cX6_print 187 = .ok (.iconst 1, 1) := by decide +kernel
theorem dX6_print_188 : decode cX6_print 188 = .ok (.isub, 1) := by decide +kernel
theorem dX6_print_189 : decode cX6_print 189 = .ok (.ireturn, 1) := by decide +kernel
theorem dX6_isPrint_0 : decode cX6_isPrint 0 = .ok (.aload_n 0, 1) := by decide +kernel
theorem dX6_isPrint_1 : decode cX6_isPrint 1 = .ok (.iload_n 1, 1) := by decide +kernel
theorem dX6_isPrint_2 : decode cX6_isPrint 2 = .ok (.iconst 0, 1) := by decide +kernel
theorem dX6_isPrint_3 : decode cX6_isPrint 3 = .ok (.aload_n 0, 1) := by decide +kernel
theorem dX6_isPrint_4 : decode cX6_isPrint 4 = .ok (.getfield 116, 3) := by decide +kernel
theorem dX6_isPrint_7 : decode cX6_isPrint 7 = .ok (.iconst 1, 1) := by decide +kernel
theorem dX6_isPrint_8 : decode cX6_isPrint 8 = .ok (.isub, 1) := by decide +kernel
theorem dX6_isPrint_9 : decode cX6_isPrint 9 = .ok (.invokestatic 65, 3) := by decide +kernel
theorem dX6_isPrint_12 : decode cX6_isPrint 12 = .ok (.ifCond .eq 7, 3) := by decide +kernel
theorem dX6_isPrint_15 : decode cX6_isPrint 15 = .ok (.iconst 0, 1) := by decide +kernel
theorem dX6_isPrint_16 : decode cX6_isPrint 16 = .ok (.goto 4, 3) := by decide +kernel
theorem dX6_isPrint_19 : decode cX6_isPrint 19 = .ok (.iconst 1, 1) := by decide +kernel
theorem dX6_isPrint_20 : decode cX6_isPrint 20 = .ok (.putfield 58, 3) := by decide +kernel
theorem dX6_isPrint_23 : decode cX6_isPrint 23 = .ok (.aload_n 0, 1) := by decide +kernel
theorem dX6_isPrint_24 : decode cX6_isPrint 24 = .ok (.invokevirtual 77, 3) := by decide +kernel
theorem dX6_isPrint_27 : decode cX6_isPrint 27 = .ok (.aload_n 0, 1) := by decide +kernel
theorem dX6_isPrint_28 : decode cX6_isPrint 28 = .ok (.getfield 58, 3) := by decide +kernel
theorem dX6_isPrint_31 : decode cX6_isPrint 31 = .ok (.ifCond .ne 7, 3) := by decide +kernel
theorem dX6_isPrint_34 : decode cX6_isPrint 34 = .ok (.iconst 1, 1) := by decide +kernel
theorem dX6_isPrint_35 : decode cX6_isPrint 35 = .ok (.goto 4, 3) := by decide +kernel
theorem dX6_isPrint_38 : decode cX6_isPrint 38 = .ok (.iconst 0, 1) := by decide +kernel
theorem dX6_isPrint_39 : decode cX6_isPrint 39 = .ok (.ireturn, 1) := by decide +kernel
theorem dX6_permitOf_0 : decode cX6_permitOf 0 = .ok (.aload_n 0, 1) := by decide +kernel
theorem dX6_permitOf_1 : decode cX6_permitOf 1 = .ok (.iload_n 1, 1) := by decide +kernel
theorem dX6_permitOf_2 : decode cX6_permitOf 2 = .ok (.invokevirtual 119, 3) := by decide +kernel
theorem dX6_permitOf_5 : decode cX6_permitOf 5 = .ok (.ifCond .eq 12, 3) := by decide +kernel
theorem dX6_permitOf_8 : decode cX6_permitOf 8 = .ok (.aload_n 0, 1) := by decide +kernel
theorem dX6_permitOf_9 : decode cX6_permitOf 9 = .ok (.getfield 55, 3) := by decide +kernel
theorem dX6_permitOf_12 : decode cX6_permitOf 12 = .ok (.iload_n 1, 1) := by decide +kernel
theorem dX6_permitOf_13 : decode cX6_permitOf 13 = .ok (.iaload, 1) := by decide +kernel
theorem dX6_permitOf_14 : decode cX6_permitOf 14 = .ok (.goto 4, 3) := by decide +kernel
theorem dX6_permitOf_17 : decode cX6_permitOf 17 = .ok (.iconst 0, 1) := by decide +kernel
theorem dX6_permitOf_18 : decode cX6_permitOf 18 = .ok (.ireturn, 1) := by decide +kernel
theorem dX6_isGood_0 : decode cX6_isGood 0 = .ok (.aload_n 0, 1) := by decide +kernel
theorem dX6_isGood_1 : decode cX6_isGood 1 = .ok (.iload_n 1, 1) := by decide +kernel
theorem dX6_isGood_2 : decode cX6_isGood 2 = .ok (.invokevirtual 119, 3) := by decide +kernel
theorem dX6_isGood_5 : decode cX6_isGood 5 = .ok (.ifCond .eq 24, 3) := by decide +kernel
theorem dX6_isGood_8 : decode cX6_isGood 8 = .ok (.aload_n 0, 1) := by decide +kernel
theorem dX6_isGood_9 : decode cX6_isGood 9 = .ok (.getfield 55, 3) := by decide +kernel
theorem dX6_isGood_12 : decode cX6_isGood 12 = .ok (.iload_n 1, 1) := by decide +kernel
theorem dX6_isGood_13 : decode cX6_isGood 13 = .ok (.iaload, 1) := by decide +kernel
theorem dX6_isGood_14 : decode cX6_isGood 14 = .ok (.ifCond .lt 15, 3) := by decide +kernel
theorem dX6_isGood_17 : decode cX6_isGood 17 = .ok (.aload_n 0, 1) := by decide +kernel
theorem dX6_isGood_18 : decode cX6_isGood 18 = .ok (.iload_n 1, 1) := by decide +kernel
theorem dX6_isGood_19 : decode cX6_isGood 19 = .ok (.invokevirtual 122, 3) := by decide +kernel
theorem dX6_isGood_22 : decode cX6_isGood 22 = .ok (.ifCond .ne 7, 3) := by decide +kernel
theorem dX6_isGood_25 : decode cX6_isGood 25 = .ok (.iconst 1, 1) := by decide +kernel
theorem dX6_isGood_26 : decode cX6_isGood 26 = .ok (.goto 4, 3) := by decide +kernel
theorem dX6_isGood_29 : decode cX6_isGood 29 = .ok (.iconst 0, 1) := by decide +kernel
theorem dX6_isGood_30 : decode cX6_isGood 30 = .ok (.ireturn, 1) := by decide +kernel
theorem dX6_old_0 : decode cX6_old 0 = .ok (.aload_n 0, 1) := by decide +kernel
theorem dX6_old_1 : decode cX6_old 1 = .ok (.iconst 0, 1) := by decide +kernel
theorem dX6_old_2 : decode cX6_old 2 = .ok (.putfield 58, 3) := by decide +kernel
theorem dX6_old_5 : decode cX6_old 5 = .ok (.aload_n 0, 1) := by decide +kernel
theorem dX6_old_6 : decode cX6_old 6 = .ok (.invokevirtual 77, 3) := by decide +kernel
theorem dX6_old_9 : decode cX6_old 9 = .ok (.iconst 0, 1) := by decide +kernel
theorem dX6_old_10 : decode cX6_old 10 = .ok (.istore_n 1, 1) := by decide +kernel
theorem dX6_old_11 : decode cX6_old 11 = .ok (.iconst 0, 1) := by decide +kernel
theorem dX6_old_12 : decode cX6_old 12 = .ok (.istore_n 2, 1) := by decide +kernel
theorem dX6_old_13 : decode cX6_old 13 = .ok (.iload_n 2, 1) := by decide +kernel
theorem dX6_old_14 : decode cX6_old 14 = .ok (.aload_n 0, 1) := by decide +kernel
theorem dX6_old_15 : decode cX6_old 15 = .ok (.getfield 116, 3) := by decide +kernel
theorem dX6_old_18 : decode cX6_old 18 = .ok (.if_icmp .ge 25, 3) := by decide +kernel
theorem dX6_old_21 : decode cX6_old 21 = .ok (.iload_n 1, 1) := by decide +kernel
theorem dX6_old_22 : decode cX6_old 22 = .ok (.aload_n 0, 1) := by decide +kernel
theorem dX6_old_23 : decode cX6_old 23 = .ok (.iload_n 2, 1) := by decide +kernel
theorem dX6_old_24 : decode cX6_old 24 = .ok (.invokevirtual 122, 3) := by decide +kernel
theorem dX6_old_27 : decode cX6_old 27 = .ok (.ifCond .eq 7, 3) := by decide +kernel
theorem dX6_old_30 : decode cX6_old 30 = .ok (.iconst 1, 1) := by decide +kernel
theorem dX6_old_31 : decode cX6_old 31 = .ok (.goto 4, 3) := by decide +kernel
theorem dX6_old_34 : decode cX6_old 34 = .ok (.iconst 0, 1) := by decide +kernel
theorem dX6_old_35 : decode cX6_old 35 = .ok (.iadd, 1) := by decide +kernel
theorem dX6_old_36 : decode cX6_old 36 = .ok (.istore_n 1, 1) := by decide +kernel
theorem dX6_old_37 : decode cX6_old 37 = .ok (.iinc 2 1, 3) := by decide +kernel
theorem dX6_old_40 : decode cX6_old 40 = .ok (.goto (-27), 3) := by decide +kernel
theorem dX6_old_43 : decode cX6_old 43 = .ok (.iload_n 1, 1) := by decide +kernel
theorem dX6_old_44 : decode cX6_old 44 = .ok (.ireturn, 1) := by decide +kernel
theorem dJ9_max_7cf53_0 : decode cJ9_max_7cf53 0 = .ok (.iload_n 0, 1) := by decide +kernel
theorem dJ9_max_7cf53_1 : decode cJ9_max_7cf53 1 = .ok (.iload_n 1, 1) := by decide +kernel
theorem dJ9_max_7cf53_2 : decode cJ9_max_7cf53 2 = .ok (.if_icmp .lt 7, 3) := by decide +kernel
theorem dJ9_max_7cf53_5 : decode cJ9_max_7cf53 5 = .ok (.iload_n 0, 1) := by decide +kernel
theorem dJ9_max_7cf53_6 : decode cJ9_max_7cf53 6 = .ok (.goto 4, 3) := by decide +kernel
theorem dJ9_max_7cf53_9 : decode cJ9_max_7cf53 9 = .ok (.iload_n 1, 1) := by decide +kernel
theorem dJ9_max_7cf53_10 : decode cJ9_max_7cf53 10 = .ok (.ireturn, 1) := by decide +kernel
theorem dJ9_min_7cf53_0 : decode cJ9_min_7cf53 0 = .ok (.iload_n 0, 1) := by decide +kernel
theorem dJ9_min_7cf53_1 : decode cJ9_min_7cf53 1 = .ok (.iload_n 1, 1) := by decide +kernel
theorem dJ9_min_7cf53_2 : decode cJ9_min_7cf53 2 = .ok (.if_icmp .gt 7, 3) := by decide +kernel
theorem dJ9_min_7cf53_5 : decode cJ9_min_7cf53 5 = .ok (.iload_n 0, 1) := by decide +kernel
theorem dJ9_min_7cf53_6 : decode cJ9_min_7cf53 6 = .ok (.goto 4, 3) := by decide +kernel
theorem dJ9_min_7cf53_9 : decode cJ9_min_7cf53 9 = .ok (.iload_n 1, 1) := by decide +kernel
theorem dJ9_min_7cf53_10 : decode cJ9_min_7cf53 10 = .ok (.ireturn, 1) := by decide +kernel
theorem dJxa1e45_init_da8c8_0 : decode cJxa1e45_init_da8c8 0 = .ok (.aload_n 0, 1) := by decide +kernel
theorem dJxa1e45_init_da8c8_1 : decode cJxa1e45_init_da8c8 1 = .ok (.invokespecial 1, 3) := by decide +kernel
theorem dJxa1e45_init_da8c8_4 : decode cJxa1e45_init_da8c8 4 = .ok (.return_, 1) := by decide +kernel
theorem dJxc12de_init_da8c8_0 : decode cJxc12de_init_da8c8 0 = .ok (.aload_n 0, 1) := by decide +kernel
theorem dJxc12de_init_da8c8_1 : decode cJxc12de_init_da8c8 1 = .ok (.invokespecial 1, 3) := by decide +kernel
theorem dJxc12de_init_da8c8_4 : decode cJxc12de_init_da8c8 4 = .ok (.aload_n 0, 1) := by decide +kernel
theorem dJxc12de_init_da8c8_5 : decode cJxc12de_init_da8c8 5 = .ok (.iconst 0, 1) := by decide +kernel
theorem dJxc12de_init_da8c8_6 : decode cJxc12de_init_da8c8 6 = .ok (.putfield 7, 3) := by decide +kernel
theorem dJxc12de_init_da8c8_9 : decode cJxc12de_init_da8c8 9 = .ok (.return_, 1) := by decide +kernel
theorem dJx4a65c_init_da8c8_0 : decode cJx4a65c_init_da8c8 0 = .ok (.aload_n 0, 1) := by decide +kernel
theorem dJx4a65c_init_da8c8_1 : decode cJx4a65c_init_da8c8 1 = .ok (.invokespecial 1, 3) := by decide +kernel
theorem dJx4a65c_init_da8c8_4 : decode cJx4a65c_init_da8c8 4 = .ok (.aload_n 0, 1) := by decide +kernel
theorem dJx4a65c_init_da8c8_5 : decode cJx4a65c_init_da8c8 5 = .ok (.getstatic 39, 3) := by decide +kernel
theorem dJx4a65c_init_da8c8_8 : decode cJx4a65c_init_da8c8 8 = .ok (.putfield 9, 3) := by decide +kernel
theorem dJx4a65c_init_da8c8_11 : decode cJx4a65c_init_da8c8 11 = .ok (.return_, 1) := by decide +kernel
theorem dJx4a65c_grow_92f84_0 : decode cJx4a65c_grow_92f84 0 = .ok (.aload_n 0, 1) := by decide +kernel
theorem dJx4a65c_grow_92f84_1 : decode cJx4a65c_grow_92f84 1 = .ok (.getfield 9, 3) := by decide +kernel
theorem dJx4a65c_grow_92f84_4 : decode cJx4a65c_grow_92f84 4 = .ok (.arraylength, 1) := by decide +kernel
theorem dJx4a65c_grow_92f84_5 : decode cJx4a65c_grow_92f84 5 = .ok (.istore_n 2, 1) := by decide +kernel
theorem dJx4a65c_grow_92f84_6 : decode cJx4a65c_grow_92f84 6 = .ok (.iload_n 2, 1) := by decide +kernel
theorem dJx4a65c_grow_92f84_7 : decode cJx4a65c_grow_92f84 7 = .ok (.ifCond .gt 13, 3) := by decide +kernel
theorem dJx4a65c_grow_92f84_10 : decode cJx4a65c_grow_92f84 10 = .ok (.aload_n 0, 1) := by decide +kernel
theorem dJx4a65c_grow_92f84_11 : decode cJx4a65c_grow_92f84 11 = .ok (.getfield 9, 3) := by decide +kernel
theorem dJx4a65c_grow_92f84_14 : decode cJx4a65c_grow_92f84 14 = .ok (.getstatic 39, 3) := by decide +kernel
theorem dJx4a65c_grow_92f84_17 : decode cJx4a65c_grow_92f84 17 = .ok (.if_acmp .eq 28, 3) := by decide +kernel
theorem dJx4a65c_grow_92f84_20 : decode cJx4a65c_grow_92f84 20 = .ok (.iload_n 2, 1) := by decide +kernel
theorem dJx4a65c_grow_92f84_21 : decode cJx4a65c_grow_92f84 21 = .ok (.iload_n 1, 1) := by decide +kernel
theorem dJx4a65c_grow_92f84_22 : decode cJx4a65c_grow_92f84 22 = .ok (.iload_n 2, 1) := by decide +kernel
theorem dJx4a65c_grow_92f84_23 : decode cJx4a65c_grow_92f84 23 = .ok (.isub, 1) := by decide +kernel
theorem dJx4a65c_grow_92f84_24 : decode cJx4a65c_grow_92f84 24 = .ok (.iload_n 2, 1) := by decide +kernel
theorem dJx4a65c_grow_92f84_25 : decode cJx4a65c_grow_92f84 25 = .ok (.iconst 1, 1) := by decide +kernel
theorem dJx4a65c_grow_92f84_26 : decode cJx4a65c_grow_92f84 26 = .ok (.ishr, 1) := by decide +kernel
theorem dJx4a65c_grow_92f84_27 : decode cJx4a65c_grow_92f84 27 = .ok (.invokestatic 73, 3) := by decide +kernel
theorem dJx4a65c_grow_92f84_30 : decode cJx4a65c_grow_92f84 30 = .ok (.istore_n 3, 1) := by decide +kernel
theorem dJx4a65c_grow_92f84_31 : decode cJx4a65c_grow_92f84 31 = .ok (.aload_n 0, 1) := by decide +kernel
theorem dJx4a65c_grow_92f84_32 : decode cJx4a65c_grow_92f84 32 = .ok (.aload_n 0, 1) := by decide +kernel
theorem dJx4a65c_grow_92f84_33 : decode cJx4a65c_grow_92f84 33 = .ok (.getfield 9, 3) := by decide +kernel
theorem dJx4a65c_grow_92f84_36 : decode cJx4a65c_grow_92f84 36 = .ok (.iload_n 3, 1) := by decide +kernel
theorem dJx4a65c_grow_92f84_37 : decode cJx4a65c_grow_92f84 37 = .ok (.invokestatic 66, 3) := by decide +kernel
theorem dJx4a65c_grow_92f84_40 : decode cJx4a65c_grow_92f84 40 = .ok (.dup_x1, 1) := by decide +kernel
theorem dJx4a65c_grow_92f84_41 : decode cJx4a65c_grow_92f84 41 = .ok (.putfield 9, 3) := by decide +kernel
theorem dJx4a65c_grow_92f84_44 : decode cJx4a65c_grow_92f84 44 = .ok (.areturn, 1) := by decide +kernel
theorem dJx4a65c_grow_92f84_45 : decode cJx4a65c_grow_92f84 45 = .ok (.aload_n 0, 1) := by decide +kernel
theorem dJx4a65c_grow_92f84_46 : decode cJx4a65c_grow_92f84 46 = .ok (.bipush 10, 2) := by decide +kernel
theorem dJx4a65c_grow_92f84_48 : decode cJx4a65c_grow_92f84 48 = .ok (.iload_n 1, 1) := by decide +kernel
theorem dJx4a65c_grow_92f84_49 : decode cJx4a65c_grow_92f84 49 = .ok (.invokestatic 79, 3) := by decide +kernel
theorem dJx4a65c_grow_92f84_52 : decode cJx4a65c_grow_92f84 52 = .ok (.anewarray 7, 3) := by decide +kernel
theorem dJx4a65c_grow_92f84_55 : decode cJx4a65c_grow_92f84 55 = .ok (.dup_x1, 1) := by decide +kernel
theorem dJx4a65c_grow_92f84_56 : decode cJx4a65c_grow_92f84 56 = .ok (.putfield 9, 3) := by decide +kernel
theorem dJx4a65c_grow_92f84_59 : decode cJx4a65c_grow_92f84 59 = .ok (.areturn, 1) := by decide +kernel
theorem dJx4a65c_grow_d5877_0 : decode cJx4a65c_grow_d5877 0 = .ok (.aload_n 0, 1) := by decide +kernel
theorem dJx4a65c_grow_d5877_1 : decode cJx4a65c_grow_d5877 1 = .ok (.aload_n 0, 1) := by decide +kernel
theorem dJx4a65c_grow_d5877_2 : decode cJx4a65c_grow_d5877 2 = .ok (.getfield 48, 3) := by decide +kernel
theorem dJx4a65c_grow_d5877_5 : decode cJx4a65c_grow_d5877 5 = .ok (.iconst 1, 1) := by decide +kernel
theorem dJx4a65c_grow_d5877_6 : decode cJx4a65c_grow_d5877 6 = .ok (.iadd, 1) := by decide +kernel
theorem dJx4a65c_grow_d5877_7 : decode cJx4a65c_grow_d5877 7 = .ok (.invokevirtual 69, 3) := by decide +kernel
theorem dJx4a65c_grow_d5877_10 : decode cJx4a65c_grow_d5877 10 = .ok (.areturn, 1) := by decide +kernel
theorem dJx4a65c_size_8abf5_0 : decode cJx4a65c_size_8abf5 0 = .ok (.aload_n 0, 1) := by decide +kernel
theorem dJx4a65c_size_8abf5_1 : decode cJx4a65c_size_8abf5 1 = .ok (.getfield 48, 3) := by decide +kernel
theorem dJx4a65c_size_8abf5_4 : decode cJx4a65c_size_8abf5 4 = .ok (.ireturn, 1) := by decide +kernel
theorem dJx4a65c_elementData_915e3_0 : decode cJx4a65c_elementData_915e3 0 = .ok (.aload_n 0, 1) := by decide +kernel
theorem dJx4a65c_elementData_915e3_1 : decode cJx4a65c_elementData_915e3 1 = .ok (.getfield 9, 3) := by decide +kernel
theorem dJx4a65c_elementData_915e3_4 : decode cJx4a65c_elementData_915e3 4 = .ok (.iload_n 1, 1) := by decide +kernel
theorem dJx4a65c_elementData_915e3_5 : decode cJx4a65c_elementData_915e3 5 = .ok (.aaload, 1) := by decide +kernel
theorem dJx4a65c_elementData_915e3_6 : decode cJx4a65c_elementData_915e3 6 = .ok (.areturn, 1) := by decide +kernel
theorem dJx4a65c_get_915e3_0 : decode cJx4a65c_get_915e3 0 = .ok (.iload_n 1, 1) := by decide +kernel
theorem dJx4a65c_get_915e3_1 : decode cJx4a65c_get_915e3 1 = .ok (.aload_n 0, 1) := by decide +kernel
theorem dJx4a65c_get_915e3_2 : decode cJx4a65c_get_915e3 2 = .ok (.getfield 48, 3) := by decide +kernel
theorem dJx4a65c_get_915e3_5 : decode cJx4a65c_get_915e3 5 = .ok (.invokestatic 118, 3) := by decide +kernel
theorem dJx4a65c_get_915e3_8 : decode cJx4a65c_get_915e3 8 = .ok (.pop, 1) := by decide +kernel
theorem dJx4a65c_get_915e3_9 : decode cJx4a65c_get_915e3 9 = .ok (.aload_n 0, 1) := by decide +kernel
theorem dJx4a65c_get_915e3_10 : decode cJx4a65c_get_915e3 10 = .ok (.iload_n 1, 1) := by decide +kernel
theorem dJx4a65c_get_915e3_11 : decode cJx4a65c_get_915e3 11 = .ok (.invokevirtual 123, 3) := by decide +kernel
theorem dJx4a65c_get_915e3_14 : decode cJx4a65c_get_915e3 14 = .ok (.areturn, 1) := by decide +kernel
theorem dJx4a65c_add_72be8_0 : decode cJx4a65c_add_72be8 0 = .ok (.iload_n 3, 1) := by decide +kernel
theorem dJx4a65c_add_72be8_1 : decode cJx4a65c_add_72be8 1 = .ok (.aload_n 2, 1) := by decide +kernel
theorem dJx4a65c_add_72be8_2 : decode cJx4a65c_add_72be8 2 = .ok (.arraylength, 1) := by decide +kernel
theorem dJx4a65c_add_72be8_3 : decode cJx4a65c_add_72be8 3 = .ok (.if_icmp .ne 8, 3) := by decide +kernel
theorem dJx4a65c_add_72be8_6 : decode cJx4a65c_add_72be8 6 = .ok (.aload_n 0, 1) := by decide +kernel
theorem dJx4a65c_add_72be8_7 : decode cJx4a65c_add_72be8 7 = .ok (.invokevirtual 129, 3) := by decide +kernel
theorem dJx4a65c_add_72be8_10 : decode cJx4a65c_add_72be8 10 = .ok (.astore_n 2, 1) := by decide +kernel
theorem dJx4a65c_add_72be8_11 : decode cJx4a65c_add_72be8 11 = .ok (.aload_n 2, 1) := by decide +kernel
theorem dJx4a65c_add_72be8_12 : decode cJx4a65c_add_72be8 12 = .ok (.iload_n 3, 1) := by decide +kernel
theorem dJx4a65c_add_72be8_13 : decode cJx4a65c_add_72be8 13 = .ok (.aload_n 1, 1) := by decide +kernel
theorem dJx4a65c_add_72be8_14 : decode cJx4a65c_add_72be8 14 = .ok (.aastore, 1) := by decide +kernel
theorem dJx4a65c_add_72be8_15 : decode cJx4a65c_add_72be8 15 = .ok (.aload_n 0, 1) := by decide +kernel
theorem dJx4a65c_add_72be8_16 : decode cJx4a65c_add_72be8 16 = .ok (.iload_n 3, 1) := by decide +kernel
theorem dJx4a65c_add_72be8_17 : decode cJx4a65c_add_72be8 17 = .ok (.iconst 1, 1) := by decide +kernel
theorem dJx4a65c_add_72be8_18 : decode cJx4a65c_add_72be8 18 = .ok (.iadd, 1) := by decide +kernel
theorem dJx4a65c_add_72be8_19 : decode cJx4a65c_add_72be8 19 = .ok (.putfield 48, 3) := by decide +kernel
theorem dJx4a65c_add_72be8_22 : decode cJx4a65c_add_72be8 22 = .ok (.return_, 1) := by decide +kernel
theorem dJx4a65c_add_9ea2d_0 : decode cJx4a65c_add_9ea2d 0 = .ok (.aload_n 0, 1) := by decide +kernel
theorem dJx4a65c_add_9ea2d_1 : decode cJx4a65c_add_9ea2d 1 = .ok (.dup, 1) := by decide +kernel
theorem dJx4a65c_add_9ea2d_2 : decode cJx4a65c_add_9ea2d 2 = .ok (.getfield 63, 3) := by decide +kernel
theorem dJx4a65c_add_9ea2d_5 : decode cJx4a65c_add_9ea2d 5 = .ok (.iconst 1, 1) := by decide +kernel
theorem dJx4a65c_add_9ea2d_6 : decode cJx4a65c_add_9ea2d 6 = .ok (.iadd, 1) := by decide +kernel
theorem dJx4a65c_add_9ea2d_7 : decode cJx4a65c_add_9ea2d 7 = .ok (.putfield 63, 3) := by decide +kernel
theorem dJx4a65c_add_9ea2d_10 : decode cJx4a65c_add_9ea2d 10 = .ok (.aload_n 0, 1) := by decide +kernel
theorem dJx4a65c_add_9ea2d_11 : decode cJx4a65c_add_9ea2d 11 = .ok (.aload_n 1, 1) := by decide +kernel
theorem dJx4a65c_add_9ea2d_12 : decode cJx4a65c_add_9ea2d 12 = .ok (.aload_n 0, 1) := by decide +kernel
theorem dJx4a65c_add_9ea2d_13 : decode cJx4a65c_add_9ea2d 13 = .ok (.getfield 9, 3) := by decide +kernel
theorem dJx4a65c_add_9ea2d_16 : decode cJx4a65c_add_9ea2d 16 = .ok (.aload_n 0, 1) := by decide +kernel
theorem dJx4a65c_add_9ea2d_17 : decode cJx4a65c_add_9ea2d 17 = .ok (.getfield 48, 3) := by decide +kernel
theorem dJx4a65c_add_9ea2d_20 : decode cJx4a65c_add_9ea2d 20 = .ok (.invokevirtual 131, 3) := by decide +kernel
theorem dJx4a65c_add_9ea2d_23 : decode cJx4a65c_add_9ea2d 23 = .ok (.iconst 1, 1) := by decide +kernel
theorem dJx4a65c_add_9ea2d_24 : decode cJx4a65c_add_9ea2d 24 = .ok (.ireturn, 1) := by decide +kernel
theorem dJ7_fill_53178_0 : decode cJ7_fill_53178 0 = .ok (.iconst 0, 1) := by decide +kernel
theorem dJ7_fill_53178_1 : decode cJ7_fill_53178 1 = .ok (.istore_n 2, 1) := by decide +kernel
theorem dJ7_fill_53178_2 : decode cJ7_fill_53178 2 = .ok (.aload_n 0, 1) := by decide +kernel
theorem dJ7_fill_53178_3 : decode cJ7_fill_53178 3 = .ok (.arraylength, 1) := by decide +kernel
theorem dJ7_fill_53178_4 : decode cJ7_fill_53178 4 = .ok (.istore_n 3, 1) := by decide +kernel
theorem dJ7_fill_53178_5 : decode cJ7_fill_53178 5 = .ok (.iload_n 2, 1) := by decide +kernel
theorem dJ7_fill_53178_6 : decode cJ7_fill_53178 6 = .ok (.iload_n 3, 1) := by decide +kernel
theorem dJ7_fill_53178_7 : decode cJ7_fill_53178 7 = .ok (.if_icmp .ge 13, 3) := by decide +kernel
theorem dJ7_fill_53178_10 : decode cJ7_fill_53178 10 = .ok (.aload_n 0, 1) := by decide +kernel
theorem dJ7_fill_53178_11 : decode cJ7_fill_53178 11 = .ok (.iload_n 2, 1) := by decide +kernel
theorem dJ7_fill_53178_12 : decode cJ7_fill_53178 12 = .ok (.iload_n 1, 1) := by decide +kernel
theorem dJ7_fill_53178_13 : decode cJ7_fill_53178 13 = .ok (.iastore, 1) := by decide +kernel
theorem dJ7_fill_53178_14 : decode cJ7_fill_53178 14 = .ok (.iinc 2 1, 3) := by decide +kernel
theorem dJ7_fill_53178_17 : decode cJ7_fill_53178 17 = .ok (.goto (-12), 3) := by decide +kernel
theorem dJ7_fill_53178_20 : decode cJ7_fill_53178 20 = .ok (.return_, 1) := by decide +kernel
theorem dJ7_copyOf_1904c_0 : decode cJ7_copyOf_1904c 0 = .ok (.aload_n 0, 1) := by decide +kernel
theorem dJ7_copyOf_1904c_1 : decode cJ7_copyOf_1904c 1 = .ok (.iload_n 1, 1) := by decide +kernel
theorem dJ7_copyOf_1904c_2 : decode cJ7_copyOf_1904c 2 = .ok (.aload_n 0, 1) := by decide +kernel
theorem dJ7_copyOf_1904c_3 : decode cJ7_copyOf_1904c 3 = .ok (.invokevirtual 86, 3) := by decide +kernel
theorem dJ7_copyOf_1904c_6 : decode cJ7_copyOf_1904c 6 = .ok (.invokestatic 300, 3) := by decide +kernel
theorem dJ7_copyOf_1904c_9 : decode cJ7_copyOf_1904c 9 = .ok (.areturn, 1) := by decide +kernel
theorem dJ7_copyOf_6403c_0 : decode cJ7_copyOf_6403c 0 = .ok (.aload_n 2, 1) := by decide +kernel
theorem dJ7_copyOf_6403c_1 : decode cJ7_copyOf_6403c 1 = .ok (.ldc 110, 2) := by decide +kernel
theorem dJ7_copyOf_6403c_3 : decode cJ7_copyOf_6403c 3 = .ok (.if_acmp .ne 10, 3) := by decide +kernel
theorem dJ7_copyOf_6403c_6 : decode cJ7_copyOf_6403c 6 = .ok (.iload_n 1, 1) := by decide +kernel
theorem dJ7_copyOf_6403c_7 : decode cJ7_copyOf_6403c 7 = .ok (.anewarray 2, 3) := by decide +kernel
theorem dJ7_copyOf_6403c_10 : decode cJ7_copyOf_6403c 10 = .ok (.goto 14, 3) := by decide +kernel
theorem dJ7_copyOf_6403c_13 : decode cJ7_copyOf_6403c 13 = .ok (.aload_n 2, 1) := by decide +kernel
theorem dJ7_copyOf_6403c_14 : decode cJ7_copyOf_6403c 14 = .ok (.invokevirtual 90, 3) := by decide +kernel
theorem dJ7_copyOf_6403c_17 : decode cJ7_copyOf_6403c 17 = .ok (.iload_n 1, 1) := by decide +kernel
theorem dJ7_copyOf_6403c_18 : decode cJ7_copyOf_6403c 18 = .ok (.invokestatic 95, 3) := by decide +kernel
theorem dJ7_copyOf_6403c_21 : decode cJ7_copyOf_6403c 21 = .ok (.checkcast 110, 3) := by decide +kernel
theorem dJ7_copyOf_6403c_24 : decode cJ7_copyOf_6403c 24 = .ok (.astore_n 3, 1) := by decide +kernel
theorem dJ7_copyOf_6403c_25 : decode cJ7_copyOf_6403c 25 = .ok (.aload_n 0, 1) := by decide +kernel
theorem dJ7_copyOf_6403c_26 : decode cJ7_copyOf_6403c 26 = .ok (.iconst 0, 1) := by decide +kernel
theorem dJ7_copyOf_6403c_27 : decode cJ7_copyOf_6403c 27 = .ok (.aload_n 3, 1) := by decide +kernel
theorem dJ7_copyOf_6403c_28 : decode cJ7_copyOf_6403c 28 = .ok (.iconst 0, 1) := by decide +kernel
theorem dJ7_copyOf_6403c_29 : decode cJ7_copyOf_6403c 29 = .ok (.aload_n 0, 1) := by decide +kernel
theorem dJ7_copyOf_6403c_30 : decode cJ7_copyOf_6403c 30 = .ok (.arraylength, 1) := by decide +kernel
theorem dJ7_copyOf_6403c_31 : decode cJ7_copyOf_6403c 31 = .ok (.iload_n 1, 1) := by decide +kernel
theorem dJ7_copyOf_6403c_32 : decode cJ7_copyOf_6403c 32 = .ok (.invokestatic 304, 3) := by decide +kernel
theorem dJ7_copyOf_6403c_35 : decode cJ7_copyOf_6403c 35 = .ok (.invokestatic 150, 3) := by decide +kernel
theorem dJ7_copyOf_6403c_38 : decode cJ7_copyOf_6403c 38 = .ok (.aload_n 3, 1) := by decide +kernel
theorem dJ7_copyOf_6403c_39 : decode cJ7_copyOf_6403c 39 = .ok (.areturn, 1) := by decide +kernel
theorem dJ15_checkIndex_7cf53_0 : decode cJ15_checkIndex_7cf53 0 = .ok (.iload_n 0, 1) := by decide +kernel
theorem dJ15_checkIndex_7cf53_1 : decode cJ15_checkIndex_7cf53 1 = .ok (.iload_n 1, 1) := by decide +kernel
theorem dJ15_checkIndex_7cf53_2 : decode cJ15_checkIndex_7cf53 2 = .ok (.aconst_null, 1) := by decide +kernel
theorem dJ15_checkIndex_7cf53_3 : decode cJ15_checkIndex_7cf53 3 = .ok (.invokestatic 105, 3) := by decide +kernel
theorem dJ15_checkIndex_7cf53_6 : decode cJ15_checkIndex_7cf53 6 = .ok (.ireturn, 1) := by decide +kernel
theorem dJ8_newLength_cabcc_0 : decode cJ8_newLength_cabcc 0 = .ok (.iload_n 0, 1) := by decide +kernel
theorem dJ8_newLength_cabcc_1 : decode cJ8_newLength_cabcc 1 = .ok (.iload_n 1, 1) := by decide +kernel
theorem dJ8_newLength_cabcc_2 : decode cJ8_newLength_cabcc 2 = .ok (.iload_n 2, 1) := by decide +kernel
theorem dJ8_newLength_cabcc_3 : decode cJ8_newLength_cabcc 3 = .ok (.invokestatic 194, 3) := by decide +kernel
theorem dJ8_newLength_cabcc_6 : decode cJ8_newLength_cabcc 6 = .ok (.iadd, 1) := by decide +kernel
theorem dJ8_newLength_cabcc_7 : decode cJ8_newLength_cabcc 7 = .ok (.istore_n 3, 1) := by decide +kernel
theorem dJ8_newLength_cabcc_8 : decode cJ8_newLength_cabcc 8 = .ok (.iconst 0, 1) := by decide +kernel
theorem dJ8_newLength_cabcc_9 : decode cJ8_newLength_cabcc 9 = .ok (.iload_n 3, 1) := by decide +kernel
theorem dJ8_newLength_cabcc_10 : decode cJ8_newLength_cabcc 10 = .ok (.if_icmp .ge 11, 3) := by decide +kernel
theorem dJ8_newLength_cabcc_13 : decode cJ8_newLength_cabcc 13 = .ok (.iload_n 3, 1) := by decide +kernel
theorem dJ8_newLength_cabcc_14 : decode cJ8_newLength_cabcc 14 = .ok (.ldc 200, 2) := by decide +kernel
theorem dJ8_newLength_cabcc_16 : decode cJ8_newLength_cabcc 16 = .ok (.if_icmp .gt 5, 3) := by decide +kernel
theorem dJ8_newLength_cabcc_19 : decode cJ8_newLength_cabcc 19 = .ok (.iload_n 3, 1) := by decide +kernel
theorem dJ8_newLength_cabcc_20 : decode cJ8_newLength_cabcc 20 = .ok (.ireturn, 1) := by decide +kernel
theorem dJ8_newLength_cabcc_21 : decode cJ8_newLength_cabcc 21 = .ok (.iload_n 0, 1) := by decide +kernel
theorem dJ8_newLength_cabcc_22 : decode cJ8_newLength_cabcc 22 = .ok (.iload_n 1, 1) := by decide +kernel
theorem dJ8_newLength_cabcc_23 : decode cJ8_newLength_cabcc 23 = .ok (.invokestatic 201, 3) := by decide +kernel
theorem dJ8_newLength_cabcc_26 : decode cJ8_newLength_cabcc 26 = .ok (.ireturn, 1) := by decide +kernel
theorem dJ8_hugeLength_7cf53_0 : decode cJ8_hugeLength_7cf53 0 = .ok (.iload_n 0, 1) := by decide +kernel
theorem dJ8_hugeLength_7cf53_1 : decode cJ8_hugeLength_7cf53 1 = .ok (.iload_n 1, 1) := by decide +kernel
theorem dJ8_hugeLength_7cf53_2 : decode cJ8_hugeLength_7cf53 2 = .ok (.iadd, 1) := by decide +kernel
theorem dJ8_hugeLength_7cf53_3 : decode cJ8_hugeLength_7cf53 3 = .ok (.istore_n 2, 1) := by decide +kernel
theorem dJ8_hugeLength_7cf53_4 : decode cJ8_hugeLength_7cf53 4 = .ok (.iload_n 2, 1) := by decide +kernel
theorem dJ8_hugeLength_7cf53_5 : decode cJ8_hugeLength_7cf53 5 = .ok (.ifCond .ge 44, 3) := by decide +kernel
theorem dJ8_hugeLength_7cf53_8 : decode cJ8_hugeLength_7cf53 8 = .ok (.new 204, 3) := by decide +kernel
theorem dJ8_hugeLength_7cf53_11 : decode cJ8_hugeLength_7cf53 11 = .ok (.dup, 1) := by decide +kernel
theorem dJ8_hugeLength_7cf53_12 : decode cJ8_hugeLength_7cf53 12 = .ok (.new 89, 3) := by decide +kernel
theorem dJ8_hugeLength_7cf53_15 : decode cJ8_hugeLength_7cf53 15 = .ok (.dup, 1) := by decide +kernel
theorem dJ8_hugeLength_7cf53_16 : decode cJ8_hugeLength_7cf53 16 = .ok (.invokespecial 91, 3) := by decide +kernel
theorem dJ8_hugeLength_7cf53_19 : decode cJ8_hugeLength_7cf53 19 = .ok (.ldc 206, 2) := by decide +kernel
theorem dJ8_hugeLength_7cf53_21 : decode cJ8_hugeLength_7cf53 21 = .ok (.invokevirtual 94, 3) := by decide +kernel
theorem dJ8_hugeLength_7cf53_24 : decode cJ8_hugeLength_7cf53 24 = .ok (.iload_n 0, 1) := by decide +kernel
theorem dJ8_hugeLength_7cf53_25 : decode cJ8_hugeLength_7cf53 25 = .ok (.invokevirtual 98, 3) := by decide +kernel
theorem dJ8_hugeLength_7cf53_28 : decode cJ8_hugeLength_7cf53 28 = .ok (.ldc 208, 2) := by decide +kernel
theorem dJ8_hugeLength_7cf53_30 : decode cJ8_hugeLength_7cf53 30 = .ok (.invokevirtual 94, 3) := by decide +kernel
theorem dJ8_hugeLength_7cf53_33 : decode cJ8_hugeLength_7cf53 33 = .ok (.iload_n 1, 1) := by decide +kernel
theorem dJ8_hugeLength_7cf53_34 : decode cJ8_hugeLength_7cf53 34 = .ok (.invokevirtual 98, 3) := by decide +kernel
theorem dJ8_hugeLength_7cf53_37 : decode cJ8_hugeLength_7cf53 37 = .ok (.ldc 210, 2) := by decide +kernel
theorem dJ8_hugeLength_7cf53_39 : decode cJ8_hugeLength_7cf53 39 = .ok (.invokevirtual 94, 3) := by decide +kernel
theorem dJ8_hugeLength_7cf53_42 : decode cJ8_hugeLength_7cf53 42 = .ok (.invokevirtual 101, 3) := by decide +kernel
theorem dJ8_hugeLength_7cf53_45 : decode cJ8_hugeLength_7cf53 45 = .ok (.invokespecial 212, 3) := by decide +kernel
theorem dJ8_hugeLength_7cf53_48 : decode cJ8_hugeLength_7cf53 48 = .ok (.athrow, 1) := by decide +kernel
theorem dJ8_hugeLength_7cf53_49 : decode cJ8_hugeLength_7cf53 49 = .ok (.iload_n 2, 1) := by decide +kernel
theorem dJ8_hugeLength_7cf53_50 : decode cJ8_hugeLength_7cf53 50 = .ok (.ldc 200, 2) := by decide +kernel
theorem dJ8_hugeLength_7cf53_52 : decode cJ8_hugeLength_7cf53 52 = .ok (.if_icmp .gt 6, 3) := by decide +kernel
theorem dJ8_hugeLength_7cf53_55 : decode cJ8_hugeLength_7cf53 55 = .ok (.ldc 200, 2) := by decide +kernel
theorem dJ8_hugeLength_7cf53_57 : decode cJ8_hugeLength_7cf53 57 = .ok (.ireturn, 1) := by decide +kernel
theorem dJ8_hugeLength_7cf53_58 : decode cJ8_hugeLength_7cf53 58 = .ok (.iload_n 2, 1) := by decide +kernel
theorem dJ8_hugeLength_7cf53_59 : decode cJ8_hugeLength_7cf53 59 = .ok (.ireturn, 1) := by decide +kernel
theorem dJ3_checkIndex_8e157_0 : decode cJ3_checkIndex_8e157 0 = .ok (.iload_n 0, 1) := by decide +kernel
theorem dJ3_checkIndex_8e157_1 : decode cJ3_checkIndex_8e157 1 = .ok (.ifCond .lt 8, 3) := by decide +kernel
theorem dJ3_checkIndex_8e157_4 : decode cJ3_checkIndex_8e157 4 = .ok (.iload_n 0, 1) := by decide +kernel
theorem dJ3_checkIndex_8e157_5 : decode cJ3_checkIndex_8e157 5 = .ok (.iload_n 1, 1) := by decide +kernel
theorem dJ3_checkIndex_8e157_6 : decode cJ3_checkIndex_8e157 6 = .ok (.if_icmp .lt 10, 3) := by decide +kernel
theorem dJ3_checkIndex_8e157_9 : decode cJ3_checkIndex_8e157 9 = .ok (.aload_n 2, 1) := by decide +kernel
theorem dJ3_checkIndex_8e157_10 : decode cJ3_checkIndex_8e157 10 = .ok (.iload_n 0, 1) := by decide +kernel
theorem dJ3_checkIndex_8e157_11 : decode cJ3_checkIndex_8e157 11 = .ok (.iload_n 1, 1) := by decide +kernel
theorem dJ3_checkIndex_8e157_12 : decode cJ3_checkIndex_8e157 12 = .ok (.invokestatic 95, 3) := by decide +kernel
theorem dJ3_checkIndex_8e157_15 : decode cJ3_checkIndex_8e157 15 = .ok (.athrow, 1) := by decide +kernel
theorem dJ3_checkIndex_8e157_16 : decode cJ3_checkIndex_8e157 16 = .ok (.iload_n 0, 1) := by decide +kernel
theorem dJ3_checkIndex_8e157_17 : decode cJ3_checkIndex_8e157 17 = .ok (.ireturn, 1) := by decide +kernel
theorem dL_begin_0 : decode cL_begin 0 = .ok (.aload_n 1, 1) := by decide +kernel
theorem dL_begin_1 : decode cL_begin 1 = .ok (.iconst 0, 1) := by decide +kernel
theorem dL_begin_2 : decode cL_begin 2 = .ok (.aload_n 0, 1) := by decide +kernel
theorem dL_begin_3 : decode cL_begin 3 = .ok (.invokevirtual 7, 3) := by decide +kernel
theorem dL_begin_6 : decode cL_begin 6 = .ok (.i2l, 1) := by decide +kernel
theorem dL_begin_7 : decode cL_begin 7 = .ok (.lastore, 1) := by decide +kernel
theorem dL_begin_8 : decode cL_begin 8 = .ok (.goto 6, 3) := by decide +kernel
theorem dL_begin_11 : decode cL_begin 11 = .ok (.astore_n 2, 1) := by decide +kernel
theorem dL_begin_12 : decode cL_begin 12 = .ok (.iconst 1, 1) := by decide +kernel
theorem dL_begin_13 : decode cL_begin 13 = .ok (.ireturn, 1) := by decide +kernel
theorem dL_begin_14 : decode cL_begin 14 = .ok (.iconst 0, 1) := by decide +kernel
theorem dL_begin_15 : decode cL_begin 15 = .ok (.ireturn, 1) := by decide +kernel
theorem dL_tell_0 : decode cL_tell 0 = .ok (.aload 5, 2) := by decide +kernel
theorem dL_tell_2 : decode cL_tell 2 = .ok (.iconst 0, 1) := by decide +kernel
theorem dL_tell_3 : decode cL_tell 3 = .ok (.aload_n 0, 1) := by decide +kernel
theorem dL_tell_4 : decode cL_tell 4 = .ok (.iload_n 1, 1) := by decide +kernel
theorem dL_tell_5 : decode cL_tell 5 = .ok (.iload_n 2, 1) := by decide +kernel
theorem dL_tell_6 : decode cL_tell 6 = .ok (.iload_n 3, 1) := by decide +kernel
theorem dL_tell_7 : decode cL_tell 7 = .ok (.iload 4, 2) := by decide +kernel
theorem dL_tell_9 : decode cL_tell 9 = .ok (.invokevirtual 15, 3) := by decide +kernel
theorem dL_tell_12 : decode cL_tell 12 = .ok (.i2l, 1) := by decide +kernel
theorem dL_tell_13 : decode cL_tell 13 = .ok (.lastore, 1) := by decide +kernel
theorem dL_tell_14 : decode cL_tell 14 = .ok (.goto 15, 3) := by decide +kernel
theorem dL_tell_17 : decode cL_tell 17 = .ok (.astore 6, 2) := by decide +kernel
theorem dL_tell_19 : decode cL_tell 19 = .ok (.iconst 1, 1) := by decide +kernel
theorem dL_tell_20 : decode cL_tell 20 = .ok (.ireturn, 1) := by decide +kernel
theorem dL_tell_21 : decode cL_tell 21 = .ok (.astore 6, 2) := by decide +kernel
theorem dL_tell_23 : decode cL_tell 23 = .ok (.iconst 2, 1) := by decide +kernel
theorem dL_tell_24 : decode cL_tell 24 = .ok (.ireturn, 1) := by decide +kernel
theorem dL_tell_25 : decode cL_tell 25 = .ok (.astore 6, 2) := by decide +kernel
theorem dL_tell_27 : decode cL_tell 27 = .ok (.iconst 3, 1) := by decide +kernel
theorem dL_tell_28 : decode cL_tell 28 = .ok (.ireturn, 1) := by decide +kernel
theorem dL_tell_29 : decode cL_tell 29 = .ok (.iconst 0, 1) := by decide +kernel
theorem dL_tell_30 : decode cL_tell 30 = .ok (.ireturn, 1) := by decide +kernel
theorem dL_setExit_0 : decode cL_setExit 0 = .ok (.aload 5, 2) := by decide +kernel
theorem dL_setExit_2 : decode cL_setExit 2 = .ok (.iconst 0, 1) := by decide +kernel
theorem dL_setExit_3 : decode cL_setExit 3 = .ok (.aload_n 0, 1) := by decide +kernel
theorem dL_setExit_4 : decode cL_setExit 4 = .ok (.iload_n 1, 1) := by decide +kernel
theorem dL_setExit_5 : decode cL_setExit 5 = .ok (.iload_n 2, 1) := by decide +kernel
theorem dL_setExit_6 : decode cL_setExit 6 = .ok (.iload_n 3, 1) := by decide +kernel
theorem dL_setExit_7 : decode cL_setExit 7 = .ok (.iload 4, 2) := by decide +kernel
theorem dL_setExit_9 : decode cL_setExit 9 = .ok (.invokevirtual 23, 3) := by decide +kernel
theorem dL_setExit_12 : decode cL_setExit 12 = .ok (.ifCond .eq 7, 3) := by decide +kernel
theorem dL_setExit_15 : decode cL_setExit 15 = .ok (.lconst 1, 1) := by decide +kernel
theorem dL_setExit_16 : decode cL_setExit 16 = .ok (.goto 4, 3) := by decide +kernel
theorem dL_setExit_19 : decode cL_setExit 19 = .ok (.lconst 0, 1) := by decide +kernel
theorem dL_setExit_20 : decode cL_setExit 20 = .ok (.lastore, 1) := by decide +kernel
theorem dL_setExit_21 : decode cL_setExit 21 = .ok (.goto 15, 3) := by decide +kernel
theorem dL_setExit_24 : decode cL_setExit 24 = .ok (.astore 6, 2) := by decide +kernel
theorem dL_setExit_26 : decode cL_setExit 26 = .ok (.iconst 1, 1) := by decide +kernel
theorem dL_setExit_27 : decode cL_setExit 27 = .ok (.ireturn, 1) := by decide +kernel
theorem dL_setExit_28 : decode cL_setExit 28 = .ok (.astore 6, 2) := by decide +kernel
theorem dL_setExit_30 : decode cL_setExit 30 = .ok (.iconst 2, 1) := by decide +kernel
theorem dL_setExit_31 : decode cL_setExit 31 = .ok (.ireturn, 1) := by decide +kernel
theorem dL_setExit_32 : decode cL_setExit 32 = .ok (.astore 6, 2) := by decide +kernel
theorem dL_setExit_34 : decode cL_setExit 34 = .ok (.iconst 3, 1) := by decide +kernel
theorem dL_setExit_35 : decode cL_setExit 35 = .ok (.ireturn, 1) := by decide +kernel
theorem dL_setExit_36 : decode cL_setExit 36 = .ok (.iconst 0, 1) := by decide +kernel
theorem dL_setExit_37 : decode cL_setExit 37 = .ok (.ireturn, 1) := by decide +kernel
theorem dL_refer_0 : decode cL_refer 0 = .ok (.aload 5, 2) := by decide +kernel
theorem dL_refer_2 : decode cL_refer 2 = .ok (.iconst 0, 1) := by decide +kernel
theorem dL_refer_3 : decode cL_refer 3 = .ok (.aload_n 0, 1) := by decide +kernel
theorem dL_refer_4 : decode cL_refer 4 = .ok (.iload_n 1, 1) := by decide +kernel
theorem dL_refer_5 : decode cL_refer 5 = .ok (.iload_n 2, 1) := by decide +kernel
theorem dL_refer_6 : decode cL_refer 6 = .ok (.iload_n 3, 1) := by decide +kernel
theorem dL_refer_7 : decode cL_refer 7 = .ok (.iload 4, 2) := by decide +kernel
theorem dL_refer_9 : decode cL_refer 9 = .ok (.invokevirtual 27, 3) := by decide +kernel
theorem dL_refer_12 : decode cL_refer 12 = .ok (.ifCond .eq 7, 3) := by decide +kernel
theorem dL_refer_15 : decode cL_refer 15 = .ok (.lconst 1, 1) := by decide +kernel
theorem dL_refer_16 : decode cL_refer 16 = .ok (.goto 4, 3) := by decide +kernel
theorem dL_refer_19 : decode cL_refer 19 = .ok (.lconst 0, 1) := by decide +kernel
theorem dL_refer_20 : decode cL_refer 20 = .ok (.lastore, 1) := by decide +kernel
theorem dL_refer_21 : decode cL_refer 21 = .ok (.goto 15, 3) := by decide +kernel
theorem dL_refer_24 : decode cL_refer 24 = .ok (.astore 6, 2) := by decide +kernel
theorem dL_refer_26 : decode cL_refer 26 = .ok (.iconst 1, 1) := by decide +kernel
theorem dL_refer_27 : decode cL_refer 27 = .ok (.ireturn, 1) := by decide +kernel
theorem dL_refer_28 : decode cL_refer 28 = .ok (.astore 6, 2) := by decide +kernel
theorem dL_refer_30 : decode cL_refer 30 = .ok (.iconst 2, 1) := by decide +kernel
theorem dL_refer_31 : decode cL_refer 31 = .ok (.ireturn, 1) := by decide +kernel
theorem dL_refer_32 : decode cL_refer 32 = .ok (.astore 6, 2) := by decide +kernel
theorem dL_refer_34 : decode cL_refer 34 = .ok (.iconst 3, 1) := by decide +kernel
theorem dL_refer_35 : decode cL_refer 35 = .ok (.ireturn, 1) := by decide +kernel
theorem dL_refer_36 : decode cL_refer 36 = .ok (.iconst 0, 1) := by decide +kernel
theorem dL_refer_37 : decode cL_refer 37 = .ok (.ireturn, 1) := by decide +kernel
theorem dL_side_0 : decode cL_side 0 = .ok (.aload_n 3, 1) := by decide +kernel
theorem dL_side_1 : decode cL_side 1 = .ok (.iconst 0, 1) := by decide +kernel
theorem dL_side_2 : decode cL_side 2 = .ok (.aload_n 0, 1) := by decide +kernel
theorem dL_side_3 : decode cL_side 3 = .ok (.iload_n 1, 1) := by decide +kernel
theorem dL_side_4 : decode cL_side 4 = .ok (.iload_n 2, 1) := by decide +kernel
theorem dL_side_5 : decode cL_side 5 = .ok (.invokevirtual 30, 3) := by decide +kernel
theorem dL_side_8 : decode cL_side 8 = .ok (.i2l, 1) := by decide +kernel
theorem dL_side_9 : decode cL_side 9 = .ok (.lastore, 1) := by decide +kernel
theorem dL_side_10 : decode cL_side 10 = .ok (.goto 11, 3) := by decide +kernel
theorem dL_side_13 : decode cL_side 13 = .ok (.astore 4, 2) := by decide +kernel
theorem dL_side_15 : decode cL_side 15 = .ok (.iconst 1, 1) := by decide +kernel
theorem dL_side_16 : decode cL_side 16 = .ok (.ireturn, 1) := by decide +kernel
theorem dL_side_17 : decode cL_side 17 = .ok (.astore 4, 2) := by decide +kernel
theorem dL_side_19 : decode cL_side 19 = .ok (.iconst 2, 1) := by decide +kernel
theorem dL_side_20 : decode cL_side 20 = .ok (.ireturn, 1) := by decide +kernel
theorem dL_side_21 : decode cL_side 21 = .ok (.iconst 0, 1) := by decide +kernel
theorem dL_side_22 : decode cL_side 22 = .ok (.ireturn, 1) := by decide +kernel
theorem dL_hasExit_0 : decode cL_hasExit 0 = .ok (.aload_n 3, 1) := by decide +kernel
theorem dL_hasExit_1 : decode cL_hasExit 1 = .ok (.iconst 0, 1) := by decide +kernel
theorem dL_hasExit_2 : decode cL_hasExit 2 = .ok (.aload_n 0, 1) := by decide +kernel
theorem dL_hasExit_3 : decode cL_hasExit 3 = .ok (.iload_n 1, 1) := by decide +kernel
theorem dL_hasExit_4 : decode cL_hasExit 4 = .ok (.iload_n 2, 1) := by decide +kernel
theorem dL_hasExit_5 : decode cL_hasExit 5 = .ok (.invokevirtual 34, 3) := by decide +kernel
theorem dL_hasExit_8 : decode cL_hasExit 8 = .ok (.ifCond .eq 7, 3) := by decide +kernel
theorem dL_hasExit_11 : decode cL_hasExit 11 = .ok (.lconst 1, 1) := by decide +kernel
theorem dL_hasExit_12 : decode cL_hasExit 12 = .ok (.goto 4, 3) := by decide +kernel
theorem dL_hasExit_15 : decode cL_hasExit 15 = .ok (.lconst 0, 1) := by decide +kernel
theorem dL_hasExit_16 : decode cL_hasExit 16 = .ok (.lastore, 1) := by decide +kernel
theorem dL_hasExit_17 : decode cL_hasExit 17 = .ok (.goto 11, 3) := by decide +kernel
theorem dL_hasExit_20 : decode cL_hasExit 20 = .ok (.astore 4, 2) := by decide +kernel
theorem dL_hasExit_22 : decode cL_hasExit 22 = .ok (.iconst 1, 1) := by decide +kernel
theorem dL_hasExit_23 : decode cL_hasExit 23 = .ok (.ireturn, 1) := by decide +kernel
theorem dL_hasExit_24 : decode cL_hasExit 24 = .ok (.astore 4, 2) := by decide +kernel
theorem dL_hasExit_26 : decode cL_hasExit 26 = .ok (.iconst 2, 1) := by decide +kernel
theorem dL_hasExit_27 : decode cL_hasExit 27 = .ok (.ireturn, 1) := by decide +kernel
theorem dL_hasExit_28 : decode cL_hasExit 28 = .ok (.iconst 0, 1) := by decide +kernel
theorem dL_hasExit_29 : decode cL_hasExit 29 = .ok (.ireturn, 1) := by decide +kernel
theorem dL_rooms_0 : decode cL_rooms 0 = .ok (.aload_n 2, 1) := by decide +kernel
theorem dL_rooms_1 : decode cL_rooms 1 = .ok (.iconst 0, 1) := by decide +kernel
theorem dL_rooms_2 : decode cL_rooms 2 = .ok (.aload_n 0, 1) := by decide +kernel
theorem dL_rooms_3 : decode cL_rooms 3 = .ok (.iload_n 1, 1) := by decide +kernel
theorem dL_rooms_4 : decode cL_rooms 4 = .ok (.invokevirtual 38, 3) := by decide +kernel
theorem dL_rooms_7 : decode cL_rooms 7 = .ok (.i2l, 1) := by decide +kernel
theorem dL_rooms_8 : decode cL_rooms 8 = .ok (.lastore, 1) := by decide +kernel
theorem dL_rooms_9 : decode cL_rooms 9 = .ok (.goto 6, 3) := by decide +kernel
theorem dL_rooms_12 : decode cL_rooms 12 = .ok (.astore_n 3, 1) := by decide +kernel
theorem dL_rooms_13 : decode cL_rooms 13 = .ok (.iconst 1, 1) := by decide +kernel
theorem dL_rooms_14 : decode cL_rooms 14 = .ok (.ireturn, 1) := by decide +kernel
theorem dL_rooms_15 : decode cL_rooms 15 = .ok (.iconst 0, 1) := by decide +kernel
theorem dL_rooms_16 : decode cL_rooms 16 = .ok (.ireturn, 1) := by decide +kernel
theorem dL_room_0 : decode cL_room 0 = .ok (.aload_n 3, 1) := by decide +kernel
theorem dL_room_1 : decode cL_room 1 = .ok (.iconst 0, 1) := by decide +kernel
theorem dL_room_2 : decode cL_room 2 = .ok (.aload_n 0, 1) := by decide +kernel
theorem dL_room_3 : decode cL_room 3 = .ok (.iload_n 1, 1) := by decide +kernel
theorem dL_room_4 : decode cL_room 4 = .ok (.iload_n 2, 1) := by decide +kernel
theorem dL_room_5 : decode cL_room 5 = .ok (.invokevirtual 42, 3) := by decide +kernel
theorem dL_room_8 : decode cL_room 8 = .ok (.i2l, 1) := by decide +kernel
theorem dL_room_9 : decode cL_room 9 = .ok (.lastore, 1) := by decide +kernel
theorem dL_room_10 : decode cL_room 10 = .ok (.goto 11, 3) := by decide +kernel
theorem dL_room_13 : decode cL_room 13 = .ok (.astore 4, 2) := by decide +kernel
theorem dL_room_15 : decode cL_room 15 = .ok (.iconst 1, 1) := by decide +kernel
theorem dL_room_16 : decode cL_room 16 = .ok (.ireturn, 1) := by decide +kernel
theorem dL_room_17 : decode cL_room 17 = .ok (.astore 4, 2) := by decide +kernel
theorem dL_room_19 : decode cL_room 19 = .ok (.iconst 2, 1) := by decide +kernel
theorem dL_room_20 : decode cL_room 20 = .ok (.ireturn, 1) := by decide +kernel
theorem dL_room_21 : decode cL_room 21 = .ok (.iconst 0, 1) := by decide +kernel
theorem dL_room_22 : decode cL_room 22 = .ok (.ireturn, 1) := by decide +kernel
theorem dL_size_0 : decode cL_size 0 = .ok (.aload_n 3, 1) := by decide +kernel
theorem dL_size_1 : decode cL_size 1 = .ok (.iconst 0, 1) := by decide +kernel
theorem dL_size_2 : decode cL_size 2 = .ok (.aload_n 0, 1) := by decide +kernel
theorem dL_size_3 : decode cL_size 3 = .ok (.iload_n 1, 1) := by decide +kernel
theorem dL_size_4 : decode cL_size 4 = .ok (.iload_n 2, 1) := by decide +kernel
theorem dL_size_5 : decode cL_size 5 = .ok (.invokevirtual 45, 3) := by decide +kernel
theorem dL_size_8 : decode cL_size 8 = .ok (.i2l, 1) := by decide +kernel
theorem dL_size_9 : decode cL_size 9 = .ok (.lastore, 1) := by decide +kernel
theorem dL_size_10 : decode cL_size 10 = .ok (.goto 11, 3) := by decide +kernel
theorem dL_size_13 : decode cL_size 13 = .ok (.astore 4, 2) := by decide +kernel
theorem dL_size_15 : decode cL_size 15 = .ok (.iconst 1, 1) := by decide +kernel
theorem dL_size_16 : decode cL_size 16 = .ok (.ireturn, 1) := by decide +kernel
theorem dL_size_17 : decode cL_size 17 = .ok (.astore 4, 2) := by decide +kernel
theorem dL_size_19 : decode cL_size 19 = .ok (.iconst 2, 1) := by decide +kernel
theorem dL_size_20 : decode cL_size 20 = .ok (.ireturn, 1) := by decide +kernel
theorem dL_size_21 : decode cL_size 21 = .ok (.iconst 0, 1) := by decide +kernel
theorem dL_size_22 : decode cL_size 22 = .ok (.ireturn, 1) := by decide +kernel
theorem dL_doorsOut_0 : decode cL_doorsOut 0 = .ok (.aload_n 3, 1) := by decide +kernel
theorem dL_doorsOut_1 : decode cL_doorsOut 1 = .ok (.iconst 0, 1) := by decide +kernel
theorem dL_doorsOut_2 : decode cL_doorsOut 2 = .ok (.aload_n 0, 1) := by decide +kernel
theorem dL_doorsOut_3 : decode cL_doorsOut 3 = .ok (.iload_n 1, 1) := by decide +kernel
theorem dL_doorsOut_4 : decode cL_doorsOut 4 = .ok (.iload_n 2, 1) := by decide +kernel
theorem dL_doorsOut_5 : decode cL_doorsOut 5 = .ok (.invokevirtual 48, 3) := by decide +kernel
theorem dL_doorsOut_8 : decode cL_doorsOut 8 = .ok (.i2l, 1) := by decide +kernel
theorem dL_doorsOut_9 : decode cL_doorsOut 9 = .ok (.lastore, 1) := by decide +kernel
theorem dL_doorsOut_10 : decode cL_doorsOut 10 = .ok (.goto 11, 3) := by decide +kernel
theorem dL_doorsOut_13 : decode cL_doorsOut 13 = .ok (.astore 4, 2) := by decide +kernel
theorem dL_doorsOut_15 : decode cL_doorsOut 15 = .ok (.iconst 1, 1) := by decide +kernel
theorem dL_doorsOut_16 : decode cL_doorsOut 16 = .ok (.ireturn, 1) := by decide +kernel
theorem dL_doorsOut_17 : decode cL_doorsOut 17 = .ok (.astore 4, 2) := by decide +kernel
theorem dL_doorsOut_19 : decode cL_doorsOut 19 = .ok (.iconst 2, 1) := by decide +kernel
theorem dL_doorsOut_20 : decode cL_doorsOut 20 = .ok (.ireturn, 1) := by decide +kernel
theorem dL_doorsOut_21 : decode cL_doorsOut 21 = .ok (.iconst 0, 1) := by decide +kernel
theorem dL_doorsOut_22 : decode cL_doorsOut 22 = .ok (.ireturn, 1) := by decide +kernel
theorem dL_doorThatHelps_0 : decode cL_doorThatHelps 0 = .ok (.aload_n 3, 1) := by decide +kernel
theorem dL_doorThatHelps_1 : decode cL_doorThatHelps 1 = .ok (.iconst 0, 1) := by decide +kernel
theorem dL_doorThatHelps_2 : decode cL_doorThatHelps 2 = .ok (.aload_n 0, 1) := by decide +kernel
theorem dL_doorThatHelps_3 : decode cL_doorThatHelps 3 = .ok (.iload_n 1, 1) := by decide +kernel
theorem dL_doorThatHelps_4 : decode cL_doorThatHelps 4 = .ok (.iload_n 2, 1) := by decide +kernel
theorem dL_doorThatHelps_5 : decode cL_doorThatHelps 5 = .ok (.invokevirtual 51, 3) := by decide +kernel
theorem dL_doorThatHelps_8 : decode cL_doorThatHelps 8 = .ok (.i2l, 1) := by decide +kernel
theorem dL_doorThatHelps_9 : decode cL_doorThatHelps 9 = .ok (.lastore, 1) := by decide +kernel
theorem dL_doorThatHelps_10 : decode cL_doorThatHelps 10 = .ok (.goto 11, 3) := by decide +kernel
theorem dL_doorThatHelps_13 : decode cL_doorThatHelps 13 = .ok (.astore 4, 2) := by decide +kernel
theorem dL_doorThatHelps_15 : decode cL_doorThatHelps 15 = .ok (.iconst 1, 1) := by decide +kernel
theorem dL_doorThatHelps_16 : decode cL_doorThatHelps 16 = .ok (.ireturn, 1) := by decide +kernel
theorem dL_doorThatHelps_17 : decode cL_doorThatHelps 17 = .ok (.astore 4, 2) := by decide +kernel
theorem dL_doorThatHelps_19 : decode cL_doorThatHelps 19 = .ok (.iconst 2, 1) := by decide +kernel
theorem dL_doorThatHelps_20 : decode cL_doorThatHelps 20 = .ok (.ireturn, 1) := by decide +kernel
theorem dL_doorThatHelps_21 : decode cL_doorThatHelps 21 = .ok (.iconst 0, 1) := by decide +kernel
theorem dL_doorThatHelps_22 : decode cL_doorThatHelps 22 = .ok (.ireturn, 1) := by decide +kernel
theorem dL_lock_0 : decode cL_lock 0 = .ok (.aload_n 0, 1) := by decide +kernel
theorem dL_lock_1 : decode cL_lock 1 = .ok (.iload_n 1, 1) := by decide +kernel
theorem dL_lock_2 : decode cL_lock 2 = .ok (.iload_n 2, 1) := by decide +kernel
theorem dL_lock_3 : decode cL_lock 3 = .ok (.invokevirtual 54, 3) := by decide +kernel
theorem dL_lock_6 : decode cL_lock 6 = .ok (.goto 12, 3) := by decide +kernel
theorem dL_lock_9 : decode cL_lock 9 = .ok (.astore_n 3, 1) := by decide +kernel
theorem dL_lock_10 : decode cL_lock 10 = .ok (.iconst 1, 1) := by decide +kernel
theorem dL_lock_11 : decode cL_lock 11 = .ok (.ireturn, 1) := by decide +kernel
theorem dL_lock_12 : decode cL_lock 12 = .ok (.astore_n 3, 1) := by decide +kernel
theorem dL_lock_13 : decode cL_lock 13 = .ok (.iconst 2, 1) := by decide +kernel
theorem dL_lock_14 : decode cL_lock 14 = .ok (.ireturn, 1) := by decide +kernel
theorem dL_lock_15 : decode cL_lock 15 = .ok (.astore_n 3, 1) := by decide +kernel
theorem dL_lock_16 : decode cL_lock 16 = .ok (.iconst 3, 1) := by decide +kernel
theorem dL_lock_17 : decode cL_lock 17 = .ok (.ireturn, 1) := by decide +kernel
theorem dL_lock_18 : decode cL_lock 18 = .ok (.iconst 0, 1) := by decide +kernel
theorem dL_lock_19 : decode cL_lock 19 = .ok (.ireturn, 1) := by decide +kernel
theorem dL_unlock_0 : decode cL_unlock 0 = .ok (.aload_n 0, 1) := by decide +kernel
theorem dL_unlock_1 : decode cL_unlock 1 = .ok (.iload_n 1, 1) := by decide +kernel
theorem dL_unlock_2 : decode cL_unlock 2 = .ok (.iload_n 2, 1) := by decide +kernel
theorem dL_unlock_3 : decode cL_unlock 3 = .ok (.invokevirtual 58, 3) := by decide +kernel
theorem dL_unlock_6 : decode cL_unlock 6 = .ok (.goto 12, 3) := by decide +kernel
theorem dL_unlock_9 : decode cL_unlock 9 = .ok (.astore_n 3, 1) := by decide +kernel
theorem dL_unlock_10 : decode cL_unlock 10 = .ok (.iconst 1, 1) := by decide +kernel
theorem dL_unlock_11 : decode cL_unlock 11 = .ok (.ireturn, 1) := by decide +kernel
theorem dL_unlock_12 : decode cL_unlock 12 = .ok (.astore_n 3, 1) := by decide +kernel
theorem dL_unlock_13 : decode cL_unlock 13 = .ok (.iconst 2, 1) := by decide +kernel
theorem dL_unlock_14 : decode cL_unlock 14 = .ok (.ireturn, 1) := by decide +kernel
theorem dL_unlock_15 : decode cL_unlock 15 = .ok (.astore_n 3, 1) := by decide +kernel
theorem dL_unlock_16 : decode cL_unlock 16 = .ok (.iconst 3, 1) := by decide +kernel
theorem dL_unlock_17 : decode cL_unlock 17 = .ok (.ireturn, 1) := by decide +kernel
theorem dL_unlock_18 : decode cL_unlock 18 = .ok (.iconst 0, 1) := by decide +kernel
theorem dL_unlock_19 : decode cL_unlock 19 = .ok (.ireturn, 1) := by decide +kernel
theorem dL_lend_0 : decode cL_lend 0 = .ok (.aload 4, 2) := by decide +kernel
theorem dL_lend_2 : decode cL_lend 2 = .ok (.iconst 0, 1) := by decide +kernel
theorem dL_lend_3 : decode cL_lend 3 = .ok (.aload_n 0, 1) := by decide +kernel
theorem dL_lend_4 : decode cL_lend 4 = .ok (.iload_n 1, 1) := by decide +kernel
theorem dL_lend_5 : decode cL_lend 5 = .ok (.iload_n 2, 1) := by decide +kernel
theorem dL_lend_6 : decode cL_lend 6 = .ok (.iload_n 3, 1) := by decide +kernel
theorem dL_lend_7 : decode cL_lend 7 = .ok (.invokevirtual 61, 3) := by decide +kernel
theorem dL_lend_10 : decode cL_lend 10 = .ok (.i2l, 1) := by decide +kernel
theorem dL_lend_11 : decode cL_lend 11 = .ok (.lastore, 1) := by decide +kernel
theorem dL_lend_12 : decode cL_lend 12 = .ok (.goto 15, 3) := by decide +kernel
theorem dL_lend_15 : decode cL_lend 15 = .ok (.astore 5, 2) := by decide +kernel
theorem dL_lend_17 : decode cL_lend 17 = .ok (.iconst 1, 1) := by decide +kernel
theorem dL_lend_18 : decode cL_lend 18 = .ok (.ireturn, 1) := by decide +kernel
theorem dL_lend_19 : decode cL_lend 19 = .ok (.astore 5, 2) := by decide +kernel
theorem dL_lend_21 : decode cL_lend 21 = .ok (.iconst 2, 1) := by decide +kernel
theorem dL_lend_22 : decode cL_lend 22 = .ok (.ireturn, 1) := by decide +kernel
theorem dL_lend_23 : decode cL_lend 23 = .ok (.astore 5, 2) := by decide +kernel
theorem dL_lend_25 : decode cL_lend 25 = .ok (.iconst 3, 1) := by decide +kernel
theorem dL_lend_26 : decode cL_lend 26 = .ok (.ireturn, 1) := by decide +kernel
theorem dL_lend_27 : decode cL_lend 27 = .ok (.iconst 0, 1) := by decide +kernel
theorem dL_lend_28 : decode cL_lend 28 = .ok (.ireturn, 1) := by decide +kernel
theorem dL_canChange_0 : decode cL_canChange 0 = .ok (.aload_n 2, 1) := by decide +kernel
theorem dL_canChange_1 : decode cL_canChange 1 = .ok (.iconst 0, 1) := by decide +kernel
theorem dL_canChange_2 : decode cL_canChange 2 = .ok (.aload_n 0, 1) := by decide +kernel
theorem dL_canChange_3 : decode cL_canChange 3 = .ok (.iload_n 1, 1) := by decide +kernel
theorem dL_canChange_4 : decode cL_canChange 4 = .ok (.invokevirtual 65, 3) := by decide +kernel
theorem dL_canChange_7 : decode cL_canChange 7 = .ok (.i2l, 1) := by decide +kernel
theorem dL_canChange_8 : decode cL_canChange 8 = .ok (.lastore, 1) := by decide +kernel
theorem dL_canChange_9 : decode cL_canChange 9 = .ok (.goto 6, 3) := by decide +kernel
theorem dL_canChange_12 : decode cL_canChange 12 = .ok (.astore_n 3, 1) := by decide +kernel
theorem dL_canChange_13 : decode cL_canChange 13 = .ok (.iconst 1, 1) := by decide +kernel
theorem dL_canChange_14 : decode cL_canChange 14 = .ok (.ireturn, 1) := by decide +kernel
theorem dL_canChange_15 : decode cL_canChange 15 = .ok (.iconst 0, 1) := by decide +kernel
theorem dL_canChange_16 : decode cL_canChange 16 = .ok (.ireturn, 1) := by decide +kernel
theorem dL_grant_0 : decode cL_grant 0 = .ok (.aload_n 2, 1) := by decide +kernel
theorem dL_grant_1 : decode cL_grant 1 = .ok (.iconst 0, 1) := by decide +kernel
theorem dL_grant_2 : decode cL_grant 2 = .ok (.aload_n 0, 1) := by decide +kernel
theorem dL_grant_3 : decode cL_grant 3 = .ok (.iload_n 1, 1) := by decide +kernel
theorem dL_grant_4 : decode cL_grant 4 = .ok (.invokevirtual 68, 3) := by decide +kernel
theorem dL_grant_7 : decode cL_grant 7 = .ok (.i2l, 1) := by decide +kernel
theorem dL_grant_8 : decode cL_grant 8 = .ok (.lastore, 1) := by decide +kernel
theorem dL_grant_9 : decode cL_grant 9 = .ok (.goto 9, 3) := by decide +kernel
theorem dL_grant_12 : decode cL_grant 12 = .ok (.astore_n 3, 1) := by decide +kernel
theorem dL_grant_13 : decode cL_grant 13 = .ok (.iconst 1, 1) := by decide +kernel
theorem dL_grant_14 : decode cL_grant 14 = .ok (.ireturn, 1) := by decide +kernel
theorem dL_grant_15 : decode cL_grant 15 = .ok (.astore_n 3, 1) := by decide +kernel
theorem dL_grant_16 : decode cL_grant 16 = .ok (.iconst 2, 1) := by decide +kernel
theorem dL_grant_17 : decode cL_grant 17 = .ok (.ireturn, 1) := by decide +kernel
theorem dL_grant_18 : decode cL_grant 18 = .ok (.iconst 0, 1) := by decide +kernel
theorem dL_grant_19 : decode cL_grant 19 = .ok (.ireturn, 1) := by decide +kernel
theorem dL_holds_0 : decode cL_holds 0 = .ok (.aload_n 2, 1) := by decide +kernel
theorem dL_holds_1 : decode cL_holds 1 = .ok (.iconst 0, 1) := by decide +kernel
theorem dL_holds_2 : decode cL_holds 2 = .ok (.aload_n 0, 1) := by decide +kernel
theorem dL_holds_3 : decode cL_holds 3 = .ok (.iload_n 1, 1) := by decide +kernel
theorem dL_holds_4 : decode cL_holds 4 = .ok (.invokevirtual 71, 3) := by decide +kernel
theorem dL_holds_7 : decode cL_holds 7 = .ok (.ifCond .eq 7, 3) := by decide +kernel
theorem dL_holds_10 : decode cL_holds 10 = .ok (.lconst 1, 1) := by decide +kernel
theorem dL_holds_11 : decode cL_holds 11 = .ok (.goto 4, 3) := by decide +kernel
theorem dL_holds_14 : decode cL_holds 14 = .ok (.lconst 0, 1) := by decide +kernel
theorem dL_holds_15 : decode cL_holds 15 = .ok (.lastore, 1) := by decide +kernel
theorem dL_holds_16 : decode cL_holds 16 = .ok (.goto 6, 3) := by decide +kernel
theorem dL_holds_19 : decode cL_holds 19 = .ok (.astore_n 3, 1) := by decide +kernel
theorem dL_holds_20 : decode cL_holds 20 = .ok (.iconst 1, 1) := by decide +kernel
theorem dL_holds_21 : decode cL_holds 21 = .ok (.ireturn, 1) := by decide +kernel
theorem dL_holds_22 : decode cL_holds 22 = .ok (.iconst 0, 1) := by decide +kernel
theorem dL_holds_23 : decode cL_holds 23 = .ok (.ireturn, 1) := by decide +kernel
theorem dL_print_0 : decode cL_print 0 = .ok (.aload_n 2, 1) := by decide +kernel
theorem dL_print_1 : decode cL_print 1 = .ok (.iconst 0, 1) := by decide +kernel
theorem dL_print_2 : decode cL_print 2 = .ok (.aload_n 0, 1) := by decide +kernel
theorem dL_print_3 : decode cL_print 3 = .ok (.iload_n 1, 1) := by decide +kernel
theorem dL_print_4 : decode cL_print 4 = .ok (.invokevirtual 75, 3) := by decide +kernel
theorem dL_print_7 : decode cL_print 7 = .ok (.i2l, 1) := by decide +kernel
theorem dL_print_8 : decode cL_print 8 = .ok (.lastore, 1) := by decide +kernel
theorem dL_print_9 : decode cL_print 9 = .ok (.goto 9, 3) := by decide +kernel
theorem dL_print_12 : decode cL_print 12 = .ok (.astore_n 3, 1) := by decide +kernel
theorem dL_print_13 : decode cL_print 13 = .ok (.iconst 1, 1) := by decide +kernel
theorem dL_print_14 : decode cL_print 14 = .ok (.ireturn, 1) := by decide +kernel
theorem dL_print_15 : decode cL_print 15 = .ok (.astore_n 3, 1) := by decide +kernel
theorem dL_print_16 : decode cL_print 16 = .ok (.iconst 2, 1) := by decide +kernel
theorem dL_print_17 : decode cL_print 17 = .ok (.ireturn, 1) := by decide +kernel
theorem dL_print_18 : decode cL_print 18 = .ok (.iconst 0, 1) := by decide +kernel
theorem dL_print_19 : decode cL_print 19 = .ok (.ireturn, 1) := by decide +kernel
theorem dL_permitOf_0 : decode cL_permitOf 0 = .ok (.aload_n 2, 1) := by decide +kernel
theorem dL_permitOf_1 : decode cL_permitOf 1 = .ok (.iconst 0, 1) := by decide +kernel
theorem dL_permitOf_2 : decode cL_permitOf 2 = .ok (.aload_n 0, 1) := by decide +kernel
theorem dL_permitOf_3 : decode cL_permitOf 3 = .ok (.iload_n 1, 1) := by decide +kernel
theorem dL_permitOf_4 : decode cL_permitOf 4 = .ok (.invokevirtual 78, 3) := by decide +kernel
theorem dL_permitOf_7 : decode cL_permitOf 7 = .ok (.i2l, 1) := by decide +kernel
theorem dL_permitOf_8 : decode cL_permitOf 8 = .ok (.lastore, 1) := by decide +kernel
theorem dL_permitOf_9 : decode cL_permitOf 9 = .ok (.goto 6, 3) := by decide +kernel
theorem dL_permitOf_12 : decode cL_permitOf 12 = .ok (.astore_n 3, 1) := by decide +kernel
theorem dL_permitOf_13 : decode cL_permitOf 13 = .ok (.iconst 1, 1) := by decide +kernel
theorem dL_permitOf_14 : decode cL_permitOf 14 = .ok (.ireturn, 1) := by decide +kernel
theorem dL_permitOf_15 : decode cL_permitOf 15 = .ok (.iconst 0, 1) := by decide +kernel
theorem dL_permitOf_16 : decode cL_permitOf 16 = .ok (.ireturn, 1) := by decide +kernel
theorem dL_isGood_0 : decode cL_isGood 0 = .ok (.aload_n 2, 1) := by decide +kernel
theorem dL_isGood_1 : decode cL_isGood 1 = .ok (.iconst 0, 1) := by decide +kernel
theorem dL_isGood_2 : decode cL_isGood 2 = .ok (.aload_n 0, 1) := by decide +kernel
theorem dL_isGood_3 : decode cL_isGood 3 = .ok (.iload_n 1, 1) := by decide +kernel
theorem dL_isGood_4 : decode cL_isGood 4 = .ok (.invokevirtual 81, 3) := by decide +kernel
theorem dL_isGood_7 : decode cL_isGood 7 = .ok (.ifCond .eq 7, 3) := by decide +kernel
theorem dL_isGood_10 : decode cL_isGood 10 = .ok (.lconst 1, 1) := by decide +kernel
theorem dL_isGood_11 : decode cL_isGood 11 = .ok (.goto 4, 3) := by decide +kernel
theorem dL_isGood_14 : decode cL_isGood 14 = .ok (.lconst 0, 1) := by decide +kernel
theorem dL_isGood_15 : decode cL_isGood 15 = .ok (.lastore, 1) := by decide +kernel
theorem dL_isGood_16 : decode cL_isGood 16 = .ok (.goto 6, 3) := by decide +kernel
theorem dL_isGood_19 : decode cL_isGood 19 = .ok (.astore_n 3, 1) := by decide +kernel
theorem dL_isGood_20 : decode cL_isGood 20 = .ok (.iconst 1, 1) := by decide +kernel
theorem dL_isGood_21 : decode cL_isGood 21 = .ok (.ireturn, 1) := by decide +kernel
theorem dL_isGood_22 : decode cL_isGood 22 = .ok (.iconst 0, 1) := by decide +kernel
theorem dL_isGood_23 : decode cL_isGood 23 = .ok (.ireturn, 1) := by decide +kernel
theorem dL_law_0 : decode cL_law 0 = .ok (.new 8, 3) := by decide +kernel
theorem dL_law_3 : decode cL_law 3 = .ok (.dup, 1) := by decide +kernel
theorem dL_law_4 : decode cL_law 4 = .ok (.invokespecial 84, 3) := by decide +kernel
theorem dL_law_7 : decode cL_law 7 = .ok (.astore_n 1, 1) := by decide +kernel
theorem dL_law_8 : decode cL_law 8 = .ok (.new 85, 3) := by decide +kernel
theorem dL_law_11 : decode cL_law 11 = .ok (.dup, 1) := by decide +kernel
theorem dL_law_12 : decode cL_law 12 = .ok (.invokespecial 87, 3) := by decide +kernel
theorem dL_law_15 : decode cL_law 15 = .ok (.astore_n 2, 1) := by decide +kernel
theorem dL_law_16 : decode cL_law 16 = .ok (.iconst 1, 1) := by decide +kernel
theorem dL_law_17 : decode cL_law 17 = .ok (.newarray .long, 2) := by decide +kernel
theorem dL_law_19 : decode cL_law 19 = .ok (.astore_n 3, 1) := by decide +kernel
theorem dL_law_20 : decode cL_law 20 = .ok (.iconst 0, 1) := by decide +kernel
theorem dL_law_21 : decode cL_law 21 = .ok (.istore 4, 2) := by decide +kernel
theorem dL_law_23 : decode cL_law 23 = .ok (.iload 4, 2) := by decide +kernel
theorem dL_law_25 : decode cL_law 25 = .ok (.aload_n 0, 1) := by decide +kernel
theorem dL_law_26 : decode cL_law 26 = .ok (.arraylength, 1) := by decide +kernel
theorem dL_law_27 : decode cL_law 27 = .ok (.iconst 5, 1) := by decide +kernel
theorem dL_law_28 : decode cL_law 28 = .ok (.isub, 1) := by decide +kernel
theorem dL_law_29 : decode cL_law 29 = .ok (.if_icmp .gt 1506, 3) := by decide +kernel
theorem dL_law_32 : decode cL_law 32 = .ok (.aload_n 0, 1) := by decide +kernel
theorem dL_law_33 : decode cL_law 33 = .ok (.iload 4, 2) := by decide +kernel
theorem dL_law_35 : decode cL_law 35 = .ok (.iaload, 1) := by decide +kernel
theorem dL_law_36 : decode cL_law 36 = .ok (.bipush 31, 2) := by decide +kernel
theorem dL_law_38 : decode cL_law 38 = .ok (.iand, 1) := by decide +kernel
theorem dL_law_39 : decode cL_law 39 = .ok (.tableswitch 1490 0 21 #[101, 145, 237, 352, 467, 480, 548, 623, 679, 747, 815, 883, 951, 999, 1047, 1127, 1183, 1239, 1302, 1358, 1414, 1477], 101) := by decide +kernel
theorem dL_law_140 : decode cL_law 140 = .ok (.aload_n 1, 1) := by decide +kernel
theorem dL_law_141 : decode cL_law 141 = .ok (.aload_n 3, 1) := by decide +kernel
theorem dL_law_142 : decode cL_law 142 = .ok (.invokestatic 88, 3) := by decide +kernel
theorem dL_law_145 : decode cL_law 145 = .ok (.istore 5, 2) := by decide +kernel
theorem dL_law_147 : decode cL_law 147 = .ok (.aload_n 2, 1) := by decide +kernel
theorem dL_law_148 : decode cL_law 148 = .ok (.invokevirtual 93, 3) := by decide +kernel
theorem dL_law_151 : decode cL_law 151 = .ok (.istore 6, 2) := by decide +kernel
theorem dL_law_153 : decode cL_law 153 = .ok (.aload_n 2, 1) := by decide +kernel
theorem dL_law_154 : decode cL_law 154 = .ok (.invokevirtual 94, 3) := by decide +kernel
theorem dL_law_157 : decode cL_law 157 = .ok (.iload 5, 2) := by decide +kernel
theorem dL_law_159 : decode cL_law 159 = .ok (.if_icmp .eq 5, 3) := by decide +kernel
theorem dL_law_162 : decode cL_law 162 = .ok (.iconst 0, 1) := by decide +kernel
theorem dL_law_163 : decode cL_law 163 = .ok (.ireturn, 1) := by decide +kernel
theorem dL_law_164 : decode cL_law 164 = .ok (.iload 5, 2) := by decide +kernel
theorem dL_law_166 : decode cL_law 166 = .ok (.ifCond .ne 15, 3) := by decide +kernel
theorem dL_law_169 : decode cL_law 169 = .ok (.aload_n 3, 1) := by decide +kernel
theorem dL_law_170 : decode cL_law 170 = .ok (.iconst 0, 1) := by decide +kernel
theorem dL_law_171 : decode cL_law 171 = .ok (.laload, 1) := by decide +kernel
end
section
theorem dL_law_172 : decode cL_law 172 = .ok (.iload 6, 2) := by decide +kernel
theorem dL_law_174 : decode cL_law 174 = .ok (.i2l, 1) := by decide +kernel
theorem dL_law_175 : decode cL_law 175 = .ok (.lcmp, 1) := by decide +kernel
theorem dL_law_176 : decode cL_law 176 = .ok (.ifCond .eq 5, 3) := by decide +kernel
theorem dL_law_179 : decode cL_law 179 = .ok (.iconst 0, 1) := by decide +kernel
theorem dL_law_180 : decode cL_law 180 = .ok (.ireturn, 1) := by decide +kernel
theorem dL_law_181 : decode cL_law 181 = .ok (.goto 1348, 3) := by decide +kernel
theorem dL_law_184 : decode cL_law 184 = .ok (.aload_n 1, 1) := by decide +kernel
theorem dL_law_185 : decode cL_law 185 = .ok (.aload_n 0, 1) := by decide +kernel
theorem dL_law_186 : decode cL_law 186 = .ok (.iload 4, 2) := by decide +kernel
theorem dL_law_188 : decode cL_law 188 = .ok (.iconst 1, 1) := by decide +kernel
theorem dL_law_189 : decode cL_law 189 = .ok (.iadd, 1) := by decide +kernel
theorem dL_law_190 : decode cL_law 190 = .ok (.iaload, 1) := by decide +kernel
theorem dL_law_191 : decode cL_law 191 = .ok (.aload_n 0, 1) := by decide +kernel
theorem dL_law_192 : decode cL_law 192 = .ok (.iload 4, 2) := by decide +kernel
theorem dL_law_194 : decode cL_law 194 = .ok (.iconst 2, 1) := by decide +kernel
theorem dL_law_195 : decode cL_law 195 = .ok (.iadd, 1) := by decide +kernel
theorem dL_law_196 : decode cL_law 196 = .ok (.iaload, 1) := by decide +kernel
theorem dL_law_197 : decode cL_law 197 = .ok (.aload_n 0, 1) := by decide +kernel
theorem dL_law_198 : decode cL_law 198 = .ok (.iload 4, 2) := by decide +kernel
theorem dL_law_200 : decode cL_law 200 = .ok (.iconst 3, 1) := by decide +kernel
theorem dL_law_201 : decode cL_law 201 = .ok (.iadd, 1) := by decide +kernel
theorem dL_law_202 : decode cL_law 202 = .ok (.iaload, 1) := by decide +kernel
theorem dL_law_203 : decode cL_law 203 = .ok (.aload_n 0, 1) := by decide +kernel
theorem dL_law_204 : decode cL_law 204 = .ok (.iload 4, 2) := by decide +kernel
theorem dL_law_206 : decode cL_law 206 = .ok (.iconst 4, 1) := by decide +kernel
theorem dL_law_207 : decode cL_law 207 = .ok (.iadd, 1) := by decide +kernel
theorem dL_law_208 : decode cL_law 208 = .ok (.iaload, 1) := by decide +kernel
theorem dL_law_209 : decode cL_law 209 = .ok (.aload_n 3, 1) := by decide +kernel
theorem dL_law_210 : decode cL_law 210 = .ok (.invokestatic 97, 3) := by decide +kernel
theorem dL_law_213 : decode cL_law 213 = .ok (.istore 5, 2) := by decide +kernel
theorem dL_law_215 : decode cL_law 215 = .ok (.aload_n 2, 1) := by decide +kernel
theorem dL_law_216 : decode cL_law 216 = .ok (.aload_n 0, 1) := by decide +kernel
theorem dL_law_217 : decode cL_law 217 = .ok (.iload 4, 2) := by decide +kernel
theorem dL_law_219 : decode cL_law 219 = .ok (.iconst 1, 1) := by decide +kernel
theorem dL_law_220 : decode cL_law 220 = .ok (.iadd, 1) := by decide +kernel
theorem dL_law_221 : decode cL_law 221 = .ok (.iaload, 1) := by decide +kernel
theorem dL_law_222 : decode cL_law 222 = .ok (.aload_n 0, 1) := by decide +kernel
theorem dL_law_223 : decode cL_law 223 = .ok (.iload 4, 2) := by decide +kernel
theorem dL_law_225 : decode cL_law 225 = .ok (.iconst 2, 1) := by decide +kernel
theorem dL_law_226 : decode cL_law 226 = .ok (.iadd, 1) := by decide +kernel
theorem dL_law_227 : decode cL_law 227 = .ok (.iaload, 1) := by decide +kernel
theorem dL_law_228 : decode cL_law 228 = .ok (.aload_n 0, 1) := by decide +kernel
theorem dL_law_229 : decode cL_law 229 = .ok (.iload 4, 2) := by decide +kernel
theorem dL_law_231 : decode cL_law 231 = .ok (.iconst 3, 1) := by decide +kernel
theorem dL_law_232 : decode cL_law 232 = .ok (.iadd, 1) := by decide +kernel
theorem dL_law_233 : decode cL_law 233 = .ok (.iaload, 1) := by decide +kernel
theorem dL_law_234 : decode cL_law 234 = .ok (.aload_n 0, 1) := by decide +kernel
theorem dL_law_235 : decode cL_law 235 = .ok (.iload 4, 2) := by decide +kernel
theorem dL_law_237 : decode cL_law 237 = .ok (.iconst 4, 1) := by decide +kernel
theorem dL_law_238 : decode cL_law 238 = .ok (.iadd, 1) := by decide +kernel
theorem dL_law_239 : decode cL_law 239 = .ok (.iaload, 1) := by decide +kernel
theorem dL_law_240 : decode cL_law 240 = .ok (.invokevirtual 100, 3) := by decide +kernel
theorem dL_law_243 : decode cL_law 243 = .ok (.istore 6, 2) := by decide +kernel
theorem dL_law_245 : decode cL_law 245 = .ok (.aload_n 2, 1) := by decide +kernel
theorem dL_law_246 : decode cL_law 246 = .ok (.invokevirtual 94, 3) := by decide +kernel
theorem dL_law_249 : decode cL_law 249 = .ok (.iload 5, 2) := by decide +kernel
theorem dL_law_251 : decode cL_law 251 = .ok (.if_icmp .eq 5, 3) := by decide +kernel
theorem dL_law_254 : decode cL_law 254 = .ok (.iconst 0, 1) := by decide +kernel
theorem dL_law_255 : decode cL_law 255 = .ok (.ireturn, 1) := by decide +kernel
theorem dL_law_256 : decode cL_law 256 = .ok (.iload 5, 2) := by decide +kernel
theorem dL_law_258 : decode cL_law 258 = .ok (.ifCond .ne 15, 3) := by decide +kernel
theorem dL_law_261 : decode cL_law 261 = .ok (.aload_n 3, 1) := by decide +kernel
theorem dL_law_262 : decode cL_law 262 = .ok (.iconst 0, 1) := by decide +kernel
theorem dL_law_263 : decode cL_law 263 = .ok (.laload, 1) := by decide +kernel
theorem dL_law_264 : decode cL_law 264 = .ok (.iload 6, 2) := by decide +kernel
theorem dL_law_266 : decode cL_law 266 = .ok (.i2l, 1) := by decide +kernel
theorem dL_law_267 : decode cL_law 267 = .ok (.lcmp, 1) := by decide +kernel
theorem dL_law_268 : decode cL_law 268 = .ok (.ifCond .eq 5, 3) := by decide +kernel
theorem dL_law_271 : decode cL_law 271 = .ok (.iconst 0, 1) := by decide +kernel
theorem dL_law_272 : decode cL_law 272 = .ok (.ireturn, 1) := by decide +kernel
theorem dL_law_273 : decode cL_law 273 = .ok (.goto 1256, 3) := by decide +kernel
theorem dL_law_276 : decode cL_law 276 = .ok (.aload_n 1, 1) := by decide +kernel
theorem dL_law_277 : decode cL_law 277 = .ok (.aload_n 0, 1) := by decide +kernel
theorem dL_law_278 : decode cL_law 278 = .ok (.iload 4, 2) := by decide +kernel
theorem dL_law_280 : decode cL_law 280 = .ok (.iconst 1, 1) := by decide +kernel
theorem dL_law_281 : decode cL_law 281 = .ok (.iadd, 1) := by decide +kernel
theorem dL_law_282 : decode cL_law 282 = .ok (.iaload, 1) := by decide +kernel
theorem dL_law_283 : decode cL_law 283 = .ok (.aload_n 0, 1) := by decide +kernel
theorem dL_law_284 : decode cL_law 284 = .ok (.iload 4, 2) := by decide +kernel
theorem dL_law_286 : decode cL_law 286 = .ok (.iconst 2, 1) := by decide +kernel
theorem dL_law_287 : decode cL_law 287 = .ok (.iadd, 1) := by decide +kernel
theorem dL_law_288 : decode cL_law 288 = .ok (.iaload, 1) := by decide +kernel
theorem dL_law_289 : decode cL_law 289 = .ok (.aload_n 0, 1) := by decide +kernel
theorem dL_law_290 : decode cL_law 290 = .ok (.iload 4, 2) := by decide +kernel
theorem dL_law_292 : decode cL_law 292 = .ok (.iconst 3, 1) := by decide +kernel
theorem dL_law_293 : decode cL_law 293 = .ok (.iadd, 1) := by decide +kernel
theorem dL_law_294 : decode cL_law 294 = .ok (.iaload, 1) := by decide +kernel
theorem dL_law_295 : decode cL_law 295 = .ok (.aload_n 0, 1) := by decide +kernel
theorem dL_law_296 : decode cL_law 296 = .ok (.iload 4, 2) := by decide +kernel
theorem dL_law_298 : decode cL_law 298 = .ok (.iconst 4, 1) := by decide +kernel
theorem dL_law_299 : decode cL_law 299 = .ok (.iadd, 1) := by decide +kernel
theorem dL_law_300 : decode cL_law 300 = .ok (.iaload, 1) := by decide +kernel
theorem dL_law_301 : decode cL_law 301 = .ok (.ifCond .eq 7, 3) := by decide +kernel
theorem dL_law_304 : decode cL_law 304 = .ok (.iconst 1, 1) := by decide +kernel
theorem dL_law_305 : decode cL_law 305 = .ok (.goto 4, 3) := by decide +kernel
theorem dL_law_308 : decode cL_law 308 = .ok (.iconst 0, 1) := by decide +kernel
theorem dL_law_309 : decode cL_law 309 = .ok (.aload_n 3, 1) := by decide +kernel
theorem dL_law_310 : decode cL_law 310 = .ok (.invokestatic 101, 3) := by decide +kernel
theorem dL_law_313 : decode cL_law 313 = .ok (.istore 5, 2) := by decide +kernel
theorem dL_law_315 : decode cL_law 315 = .ok (.aload_n 2, 1) := by decide +kernel
theorem dL_law_316 : decode cL_law 316 = .ok (.aload_n 0, 1) := by decide +kernel
theorem dL_law_317 : decode cL_law 317 = .ok (.iload 4, 2) := by decide +kernel
theorem dL_law_319 : decode cL_law 319 = .ok (.iconst 1, 1) := by decide +kernel
theorem dL_law_320 : decode cL_law 320 = .ok (.iadd, 1) := by decide +kernel
theorem dL_law_321 : decode cL_law 321 = .ok (.iaload, 1) := by decide +kernel
theorem dL_law_322 : decode cL_law 322 = .ok (.aload_n 0, 1) := by decide +kernel
theorem dL_law_323 : decode cL_law 323 = .ok (.iload 4, 2) := by decide +kernel
theorem dL_law_325 : decode cL_law 325 = .ok (.iconst 2, 1) := by decide +kernel
theorem dL_law_326 : decode cL_law 326 = .ok (.iadd, 1) := by decide +kernel
theorem dL_law_327 : decode cL_law 327 = .ok (.iaload, 1) := by decide +kernel
theorem dL_law_328 : decode cL_law 328 = .ok (.aload_n 0, 1) := by decide +kernel
theorem dL_law_329 : decode cL_law 329 = .ok (.iload 4, 2) := by decide +kernel
theorem dL_law_331 : decode cL_law 331 = .ok (.iconst 3, 1) := by decide +kernel
theorem dL_law_332 : decode cL_law 332 = .ok (.iadd, 1) := by decide +kernel
theorem dL_law_333 : decode cL_law 333 = .ok (.iaload, 1) := by decide +kernel
theorem dL_law_334 : decode cL_law 334 = .ok (.aload_n 0, 1) := by decide +kernel
theorem dL_law_335 : decode cL_law 335 = .ok (.iload 4, 2) := by decide +kernel
theorem dL_law_337 : decode cL_law 337 = .ok (.iconst 4, 1) := by decide +kernel
theorem dL_law_338 : decode cL_law 338 = .ok (.iadd, 1) := by decide +kernel
theorem dL_law_339 : decode cL_law 339 = .ok (.iaload, 1) := by decide +kernel
theorem dL_law_340 : decode cL_law 340 = .ok (.ifCond .eq 7, 3) := by decide +kernel
theorem dL_law_343 : decode cL_law 343 = .ok (.iconst 1, 1) := by decide +kernel
theorem dL_law_344 : decode cL_law 344 = .ok (.goto 4, 3) := by decide +kernel
theorem dL_law_347 : decode cL_law 347 = .ok (.iconst 0, 1) := by decide +kernel
theorem dL_law_348 : decode cL_law 348 = .ok (.invokevirtual 104, 3) := by decide +kernel
theorem dL_law_351 : decode cL_law 351 = .ok (.istore 6, 2) := by decide +kernel
theorem dL_law_353 : decode cL_law 353 = .ok (.aload_n 2, 1) := by decide +kernel
theorem dL_law_354 : decode cL_law 354 = .ok (.invokevirtual 94, 3) := by decide +kernel
theorem dL_law_357 : decode cL_law 357 = .ok (.iload 5, 2) := by decide +kernel
theorem dL_law_359 : decode cL_law 359 = .ok (.if_icmp .eq 5, 3) := by decide +kernel
theorem dL_law_362 : decode cL_law 362 = .ok (.iconst 0, 1) := by decide +kernel
theorem dL_law_363 : decode cL_law 363 = .ok (.ireturn, 1) := by decide +kernel
theorem dL_law_364 : decode cL_law 364 = .ok (.iload 5, 2) := by decide +kernel
theorem dL_law_366 : decode cL_law 366 = .ok (.ifCond .ne 22, 3) := by decide +kernel
theorem dL_law_369 : decode cL_law 369 = .ok (.aload_n 3, 1) := by decide +kernel
theorem dL_law_370 : decode cL_law 370 = .ok (.iconst 0, 1) := by decide +kernel
theorem dL_law_371 : decode cL_law 371 = .ok (.laload, 1) := by decide +kernel
theorem dL_law_372 : decode cL_law 372 = .ok (.iload 6, 2) := by decide +kernel
theorem dL_law_374 : decode cL_law 374 = .ok (.ifCond .eq 7, 3) := by decide +kernel
theorem dL_law_377 : decode cL_law 377 = .ok (.lconst 1, 1) := by decide +kernel
theorem dL_law_378 : decode cL_law 378 = .ok (.goto 4, 3) := by decide +kernel
theorem dL_law_381 : decode cL_law 381 = .ok (.lconst 0, 1) := by decide +kernel
theorem dL_law_382 : decode cL_law 382 = .ok (.lcmp, 1) := by decide +kernel
theorem dL_law_383 : decode cL_law 383 = .ok (.ifCond .eq 5, 3) := by decide +kernel
theorem dL_law_386 : decode cL_law 386 = .ok (.iconst 0, 1) := by decide +kernel
theorem dL_law_387 : decode cL_law 387 = .ok (.ireturn, 1) := by decide +kernel
theorem dL_law_388 : decode cL_law 388 = .ok (.goto 1141, 3) := by decide +kernel
theorem dL_law_391 : decode cL_law 391 = .ok (.aload_n 1, 1) := by decide +kernel
theorem dL_law_392 : decode cL_law 392 = .ok (.aload_n 0, 1) := by decide +kernel
theorem dL_law_393 : decode cL_law 393 = .ok (.iload 4, 2) := by decide +kernel
theorem dL_law_395 : decode cL_law 395 = .ok (.iconst 1, 1) := by decide +kernel
theorem dL_law_396 : decode cL_law 396 = .ok (.iadd, 1) := by decide +kernel
theorem dL_law_397 : decode cL_law 397 = .ok (.iaload, 1) := by decide +kernel
theorem dL_law_398 : decode cL_law 398 = .ok (.aload_n 0, 1) := by decide +kernel
theorem dL_law_399 : decode cL_law 399 = .ok (.iload 4, 2) := by decide +kernel
theorem dL_law_401 : decode cL_law 401 = .ok (.iconst 2, 1) := by decide +kernel
theorem dL_law_402 : decode cL_law 402 = .ok (.iadd, 1) := by decide +kernel
theorem dL_law_403 : decode cL_law 403 = .ok (.iaload, 1) := by decide +kernel
theorem dL_law_404 : decode cL_law 404 = .ok (.aload_n 0, 1) := by decide +kernel
theorem dL_law_405 : decode cL_law 405 = .ok (.iload 4, 2) := by decide +kernel
theorem dL_law_407 : decode cL_law 407 = .ok (.iconst 3, 1) := by decide +kernel
theorem dL_law_408 : decode cL_law 408 = .ok (.iadd, 1) := by decide +kernel
theorem dL_law_409 : decode cL_law 409 = .ok (.iaload, 1) := by decide +kernel
theorem dL_law_410 : decode cL_law 410 = .ok (.aload_n 0, 1) := by decide +kernel
theorem dL_law_411 : decode cL_law 411 = .ok (.iload 4, 2) := by decide +kernel
theorem dL_law_413 : decode cL_law 413 = .ok (.iconst 4, 1) := by decide +kernel
theorem dL_law_414 : decode cL_law 414 = .ok (.iadd, 1) := by decide +kernel
theorem dL_law_415 : decode cL_law 415 = .ok (.iaload, 1) := by decide +kernel
theorem dL_law_416 : decode cL_law 416 = .ok (.ifCond .eq 7, 3) := by decide +kernel
theorem dL_law_419 : decode cL_law 419 = .ok (.iconst 1, 1) := by decide +kernel
theorem dL_law_420 : decode cL_law 420 = .ok (.goto 4, 3) := by decide +kernel
theorem dL_law_423 : decode cL_law 423 = .ok (.iconst 0, 1) := by decide +kernel
theorem dL_law_424 : decode cL_law 424 = .ok (.aload_n 3, 1) := by decide +kernel
theorem dL_law_425 : decode cL_law 425 = .ok (.invokestatic 105, 3) := by decide +kernel
theorem dL_law_428 : decode cL_law 428 = .ok (.istore 5, 2) := by decide +kernel
theorem dL_law_430 : decode cL_law 430 = .ok (.aload_n 2, 1) := by decide +kernel
theorem dL_law_431 : decode cL_law 431 = .ok (.aload_n 0, 1) := by decide +kernel
theorem dL_law_432 : decode cL_law 432 = .ok (.iload 4, 2) := by decide +kernel
theorem dL_law_434 : decode cL_law 434 = .ok (.iconst 1, 1) := by decide +kernel
theorem dL_law_435 : decode cL_law 435 = .ok (.iadd, 1) := by decide +kernel
theorem dL_law_436 : decode cL_law 436 = .ok (.iaload, 1) := by decide +kernel
theorem dL_law_437 : decode cL_law 437 = .ok (.aload_n 0, 1) := by decide +kernel
theorem dL_law_438 : decode cL_law 438 = .ok (.iload 4, 2) := by decide +kernel
theorem dL_law_440 : decode cL_law 440 = .ok (.iconst 2, 1) := by decide +kernel
theorem dL_law_441 : decode cL_law 441 = .ok (.iadd, 1) := by decide +kernel
theorem dL_law_442 : decode cL_law 442 = .ok (.iaload, 1) := by decide +kernel
theorem dL_law_443 : decode cL_law 443 = .ok (.aload_n 0, 1) := by decide +kernel
theorem dL_law_444 : decode cL_law 444 = .ok (.iload 4, 2) := by decide +kernel
theorem dL_law_446 : decode cL_law 446 = .ok (.iconst 3, 1) := by decide +kernel
theorem dL_law_447 : decode cL_law 447 = .ok (.iadd, 1) := by decide +kernel
theorem dL_law_448 : decode cL_law 448 = .ok (.iaload, 1) := by decide +kernel
theorem dL_law_449 : decode cL_law 449 = .ok (.aload_n 0, 1) := by decide +kernel
theorem dL_law_450 : decode cL_law 450 = .ok (.iload 4, 2) := by decide +kernel
theorem dL_law_452 : decode cL_law 452 = .ok (.iconst 4, 1) := by decide +kernel
theorem dL_law_453 : decode cL_law 453 = .ok (.iadd, 1) := by decide +kernel
theorem dL_law_454 : decode cL_law 454 = .ok (.iaload, 1) := by decide +kernel
theorem dL_law_455 : decode cL_law 455 = .ok (.ifCond .eq 7, 3) := by decide +kernel
theorem dL_law_458 : decode cL_law 458 = .ok (.iconst 1, 1) := by decide +kernel
theorem dL_law_459 : decode cL_law 459 = .ok (.goto 4, 3) := by decide +kernel
theorem dL_law_462 : decode cL_law 462 = .ok (.iconst 0, 1) := by decide +kernel
theorem dL_law_463 : decode cL_law 463 = .ok (.invokevirtual 107, 3) := by decide +kernel
theorem dL_law_466 : decode cL_law 466 = .ok (.istore 6, 2) := by decide +kernel
theorem dL_law_468 : decode cL_law 468 = .ok (.aload_n 2, 1) := by decide +kernel
theorem dL_law_469 : decode cL_law 469 = .ok (.invokevirtual 94, 3) := by decide +kernel
theorem dL_law_472 : decode cL_law 472 = .ok (.iload 5, 2) := by decide +kernel
theorem dL_law_474 : decode cL_law 474 = .ok (.if_icmp .eq 5, 3) := by decide +kernel
theorem dL_law_477 : decode cL_law 477 = .ok (.iconst 0, 1) := by decide +kernel
theorem dL_law_478 : decode cL_law 478 = .ok (.ireturn, 1) := by decide +kernel
theorem dL_law_479 : decode cL_law 479 = .ok (.iload 5, 2) := by decide +kernel
theorem dL_law_481 : decode cL_law 481 = .ok (.ifCond .ne 22, 3) := by decide +kernel
theorem dL_law_484 : decode cL_law 484 = .ok (.aload_n 3, 1) := by decide +kernel
theorem dL_law_485 : decode cL_law 485 = .ok (.iconst 0, 1) := by decide +kernel
theorem dL_law_486 : decode cL_law 486 = .ok (.laload, 1) := by decide +kernel
theorem dL_law_487 : decode cL_law 487 = .ok (.iload 6, 2) := by decide +kernel
theorem dL_law_489 : decode cL_law 489 = .ok (.ifCond .eq 7, 3) := by decide +kernel
theorem dL_law_492 : decode cL_law 492 = .ok (.lconst 1, 1) := by decide +kernel
theorem dL_law_493 : decode cL_law 493 = .ok (.goto 4, 3) := by decide +kernel
theorem dL_law_496 : decode cL_law 496 = .ok (.lconst 0, 1) := by decide +kernel
theorem dL_law_497 : decode cL_law 497 = .ok (.lcmp, 1) := by decide +kernel
theorem dL_law_498 : decode cL_law 498 = .ok (.ifCond .eq 5, 3) := by decide +kernel
theorem dL_law_501 : decode cL_law 501 = .ok (.iconst 0, 1) := by decide +kernel
theorem dL_law_502 : decode cL_law 502 = .ok (.ireturn, 1) := by decide +kernel
theorem dL_law_503 : decode cL_law 503 = .ok (.goto 1026, 3) := by decide +kernel
theorem dL_law_506 : decode cL_law 506 = .ok (.aload_n 1, 1) := by decide +kernel
theorem dL_law_507 : decode cL_law 507 = .ok (.invokevirtual 108, 3) := by decide +kernel
theorem dL_law_510 : decode cL_law 510 = .ok (.aload_n 2, 1) := by decide +kernel
theorem dL_law_511 : decode cL_law 511 = .ok (.invokevirtual 111, 3) := by decide +kernel
theorem dL_law_514 : decode cL_law 514 = .ok (.if_icmp .eq 1015, 3) := by decide +kernel
theorem dL_law_517 : decode cL_law 517 = .ok (.iconst 0, 1) := by decide +kernel
theorem dL_law_518 : decode cL_law 518 = .ok (.ireturn, 1) := by decide +kernel
theorem dL_law_519 : decode cL_law 519 = .ok (.aload_n 1, 1) := by decide +kernel
theorem dL_law_520 : decode cL_law 520 = .ok (.aload_n 0, 1) := by decide +kernel
theorem dL_law_521 : decode cL_law 521 = .ok (.iload 4, 2) := by decide +kernel
theorem dL_law_523 : decode cL_law 523 = .ok (.iconst 1, 1) := by decide +kernel
theorem dL_law_524 : decode cL_law 524 = .ok (.iadd, 1) := by decide +kernel
theorem dL_law_525 : decode cL_law 525 = .ok (.iaload, 1) := by decide +kernel
theorem dL_law_526 : decode cL_law 526 = .ok (.aload_n 0, 1) := by decide +kernel
theorem dL_law_527 : decode cL_law 527 = .ok (.iload 4, 2) := by decide +kernel
theorem dL_law_529 : decode cL_law 529 = .ok (.iconst 2, 1) := by decide +kernel
theorem dL_law_530 : decode cL_law 530 = .ok (.iadd, 1) := by decide +kernel
theorem dL_law_531 : decode cL_law 531 = .ok (.iaload, 1) := by decide +kernel
theorem dL_law_532 : decode cL_law 532 = .ok (.aload_n 3, 1) := by decide +kernel
theorem dL_law_533 : decode cL_law 533 = .ok (.invokestatic 112, 3) := by decide +kernel
theorem dL_law_536 : decode cL_law 536 = .ok (.istore 5, 2) := by decide +kernel
theorem dL_law_538 : decode cL_law 538 = .ok (.aload_n 2, 1) := by decide +kernel
theorem dL_law_539 : decode cL_law 539 = .ok (.aload_n 0, 1) := by decide +kernel
theorem dL_law_540 : decode cL_law 540 = .ok (.iload 4, 2) := by decide +kernel
theorem dL_law_542 : decode cL_law 542 = .ok (.iconst 1, 1) := by decide +kernel
theorem dL_law_543 : decode cL_law 543 = .ok (.iadd, 1) := by decide +kernel
theorem dL_law_544 : decode cL_law 544 = .ok (.iaload, 1) := by decide +kernel
theorem dL_law_545 : decode cL_law 545 = .ok (.aload_n 0, 1) := by decide +kernel
theorem dL_law_546 : decode cL_law 546 = .ok (.iload 4, 2) := by decide +kernel
theorem dL_law_548 : decode cL_law 548 = .ok (.iconst 2, 1) := by decide +kernel
theorem dL_law_549 : decode cL_law 549 = .ok (.iadd, 1) := by decide +kernel
theorem dL_law_550 : decode cL_law 550 = .ok (.iaload, 1) := by decide +kernel
theorem dL_law_551 : decode cL_law 551 = .ok (.invokevirtual 115, 3) := by decide +kernel
theorem dL_law_554 : decode cL_law 554 = .ok (.istore 6, 2) := by decide +kernel
theorem dL_law_556 : decode cL_law 556 = .ok (.aload_n 2, 1) := by decide +kernel
theorem dL_law_557 : decode cL_law 557 = .ok (.invokevirtual 94, 3) := by decide +kernel
theorem dL_law_560 : decode cL_law 560 = .ok (.iload 5, 2) := by decide +kernel
theorem dL_law_562 : decode cL_law 562 = .ok (.if_icmp .eq 5, 3) := by decide +kernel
theorem dL_law_565 : decode cL_law 565 = .ok (.iconst 0, 1) := by decide +kernel
theorem dL_law_566 : decode cL_law 566 = .ok (.ireturn, 1) := by decide +kernel
theorem dL_law_567 : decode cL_law 567 = .ok (.iload 5, 2) := by decide +kernel
theorem dL_law_569 : decode cL_law 569 = .ok (.ifCond .ne 15, 3) := by decide +kernel
theorem dL_law_572 : decode cL_law 572 = .ok (.aload_n 3, 1) := by decide +kernel
theorem dL_law_573 : decode cL_law 573 = .ok (.iconst 0, 1) := by decide +kernel
theorem dL_law_574 : decode cL_law 574 = .ok (.laload, 1) := by decide +kernel
theorem dL_law_575 : decode cL_law 575 = .ok (.iload 6, 2) := by decide +kernel
theorem dL_law_577 : decode cL_law 577 = .ok (.i2l, 1) := by decide +kernel
theorem dL_law_578 : decode cL_law 578 = .ok (.lcmp, 1) := by decide +kernel
theorem dL_law_579 : decode cL_law 579 = .ok (.ifCond .eq 5, 3) := by decide +kernel
theorem dL_law_582 : decode cL_law 582 = .ok (.iconst 0, 1) := by decide +kernel
theorem dL_law_583 : decode cL_law 583 = .ok (.ireturn, 1) := by decide +kernel
theorem dL_law_584 : decode cL_law 584 = .ok (.goto 945, 3) := by decide +kernel
theorem dL_law_587 : decode cL_law 587 = .ok (.aload_n 1, 1) := by decide +kernel
theorem dL_law_588 : decode cL_law 588 = .ok (.aload_n 0, 1) := by decide +kernel
theorem dL_law_589 : decode cL_law 589 = .ok (.iload 4, 2) := by decide +kernel
theorem dL_law_591 : decode cL_law 591 = .ok (.iconst 1, 1) := by decide +kernel
theorem dL_law_592 : decode cL_law 592 = .ok (.iadd, 1) := by decide +kernel
theorem dL_law_593 : decode cL_law 593 = .ok (.iaload, 1) := by decide +kernel
theorem dL_law_594 : decode cL_law 594 = .ok (.aload_n 0, 1) := by decide +kernel
theorem dL_law_595 : decode cL_law 595 = .ok (.iload 4, 2) := by decide +kernel
theorem dL_law_597 : decode cL_law 597 = .ok (.iconst 2, 1) := by decide +kernel
theorem dL_law_598 : decode cL_law 598 = .ok (.iadd, 1) := by decide +kernel
theorem dL_law_599 : decode cL_law 599 = .ok (.iaload, 1) := by decide +kernel
theorem dL_law_600 : decode cL_law 600 = .ok (.aload_n 3, 1) := by decide +kernel
theorem dL_law_601 : decode cL_law 601 = .ok (.invokestatic 116, 3) := by decide +kernel
theorem dL_law_604 : decode cL_law 604 = .ok (.istore 5, 2) := by decide +kernel
theorem dL_law_606 : decode cL_law 606 = .ok (.aload_n 2, 1) := by decide +kernel
theorem dL_law_607 : decode cL_law 607 = .ok (.aload_n 0, 1) := by decide +kernel
theorem dL_law_608 : decode cL_law 608 = .ok (.iload 4, 2) := by decide +kernel
theorem dL_law_610 : decode cL_law 610 = .ok (.iconst 1, 1) := by decide +kernel
theorem dL_law_611 : decode cL_law 611 = .ok (.iadd, 1) := by decide +kernel
theorem dL_law_612 : decode cL_law 612 = .ok (.iaload, 1) := by decide +kernel
theorem dL_law_613 : decode cL_law 613 = .ok (.aload_n 0, 1) := by decide +kernel
theorem dL_law_614 : decode cL_law 614 = .ok (.iload 4, 2) := by decide +kernel
theorem dL_law_616 : decode cL_law 616 = .ok (.iconst 2, 1) := by decide +kernel
theorem dL_law_617 : decode cL_law 617 = .ok (.iadd, 1) := by decide +kernel
theorem dL_law_618 : decode cL_law 618 = .ok (.iaload, 1) := by decide +kernel
theorem dL_law_619 : decode cL_law 619 = .ok (.invokevirtual 118, 3) := by decide +kernel
theorem dL_law_622 : decode cL_law 622 = .ok (.istore 6, 2) := by decide +kernel
theorem dL_law_624 : decode cL_law 624 = .ok (.aload_n 2, 1) := by decide +kernel
theorem dL_law_625 : decode cL_law 625 = .ok (.invokevirtual 94, 3) := by decide +kernel
theorem dL_law_628 : decode cL_law 628 = .ok (.iload 5, 2) := by decide +kernel
theorem dL_law_630 : decode cL_law 630 = .ok (.if_icmp .eq 5, 3) := by decide +kernel
theorem dL_law_633 : decode cL_law 633 = .ok (.iconst 0, 1) := by decide +kernel
theorem dL_law_634 : decode cL_law 634 = .ok (.ireturn, 1) := by decide +kernel
theorem dL_law_635 : decode cL_law 635 = .ok (.iload 5, 2) := by decide +kernel
theorem dL_law_637 : decode cL_law 637 = .ok (.ifCond .ne 22, 3) := by decide +kernel
theorem dL_law_640 : decode cL_law 640 = .ok (.aload_n 3, 1) := by decide +kernel
theorem dL_law_641 : decode cL_law 641 = .ok (.iconst 0, 1) := by decide +kernel
theorem dL_law_642 : decode cL_law 642 = .ok (.laload, 1) := by decide +kernel
theorem dL_law_643 : decode cL_law 643 = .ok (.iload 6, 2) := by decide +kernel
theorem dL_law_645 : decode cL_law 645 = .ok (.ifCond .eq 7, 3) := by decide +kernel
theorem dL_law_648 : decode cL_law 648 = .ok (.lconst 1, 1) := by decide +kernel
theorem dL_law_649 : decode cL_law 649 = .ok (.goto 4, 3) := by decide +kernel
theorem dL_law_652 : decode cL_law 652 = .ok (.lconst 0, 1) := by decide +kernel
theorem dL_law_653 : decode cL_law 653 = .ok (.lcmp, 1) := by decide +kernel
theorem dL_law_654 : decode cL_law 654 = .ok (.ifCond .eq 5, 3) := by decide +kernel
theorem dL_law_657 : decode cL_law 657 = .ok (.iconst 0, 1) := by decide +kernel
theorem dL_law_658 : decode cL_law 658 = .ok (.ireturn, 1) := by decide +kernel
theorem dL_law_659 : decode cL_law 659 = .ok (.goto 870, 3) := by decide +kernel
theorem dL_law_662 : decode cL_law 662 = .ok (.aload_n 1, 1) := by decide +kernel
theorem dL_law_663 : decode cL_law 663 = .ok (.aload_n 0, 1) := by decide +kernel
theorem dL_law_664 : decode cL_law 664 = .ok (.iload 4, 2) := by decide +kernel
theorem dL_law_666 : decode cL_law 666 = .ok (.iconst 1, 1) := by decide +kernel
theorem dL_law_667 : decode cL_law 667 = .ok (.iadd, 1) := by decide +kernel
theorem dL_law_668 : decode cL_law 668 = .ok (.iaload, 1) := by decide +kernel
theorem dL_law_669 : decode cL_law 669 = .ok (.aload_n 3, 1) := by decide +kernel
theorem dL_law_670 : decode cL_law 670 = .ok (.invokestatic 119, 3) := by decide +kernel
theorem dL_law_673 : decode cL_law 673 = .ok (.istore 5, 2) := by decide +kernel
theorem dL_law_675 : decode cL_law 675 = .ok (.aload_n 2, 1) := by decide +kernel
theorem dL_law_676 : decode cL_law 676 = .ok (.aload_n 0, 1) := by decide +kernel
theorem dL_law_677 : decode cL_law 677 = .ok (.iload 4, 2) := by decide +kernel
theorem dL_law_679 : decode cL_law 679 = .ok (.iconst 1, 1) := by decide +kernel
theorem dL_law_680 : decode cL_law 680 = .ok (.iadd, 1) := by decide +kernel
theorem dL_law_681 : decode cL_law 681 = .ok (.iaload, 1) := by decide +kernel
theorem dL_law_682 : decode cL_law 682 = .ok (.invokevirtual 122, 3) := by decide +kernel
theorem dL_law_685 : decode cL_law 685 = .ok (.istore 6, 2) := by decide +kernel
theorem dL_law_687 : decode cL_law 687 = .ok (.aload_n 2, 1) := by decide +kernel
theorem dL_law_688 : decode cL_law 688 = .ok (.invokevirtual 94, 3) := by decide +kernel
theorem dL_law_691 : decode cL_law 691 = .ok (.iload 5, 2) := by decide +kernel
theorem dL_law_693 : decode cL_law 693 = .ok (.if_icmp .eq 5, 3) := by decide +kernel
theorem dL_law_696 : decode cL_law 696 = .ok (.iconst 0, 1) := by decide +kernel
theorem dL_law_697 : decode cL_law 697 = .ok (.ireturn, 1) := by decide +kernel
theorem dL_law_698 : decode cL_law 698 = .ok (.iload 5, 2) := by decide +kernel
theorem dL_law_700 : decode cL_law 700 = .ok (.ifCond .ne 15, 3) := by decide +kernel
theorem dL_law_703 : decode cL_law 703 = .ok (.aload_n 3, 1) := by decide +kernel
theorem dL_law_704 : decode cL_law 704 = .ok (.iconst 0, 1) := by decide +kernel
theorem dL_law_705 : decode cL_law 705 = .ok (.laload, 1) := by decide +kernel
theorem dL_law_706 : decode cL_law 706 = .ok (.iload 6, 2) := by decide +kernel
theorem dL_law_708 : decode cL_law 708 = .ok (.i2l, 1) := by decide +kernel
theorem dL_law_709 : decode cL_law 709 = .ok (.lcmp, 1) := by decide +kernel
theorem dL_law_710 : decode cL_law 710 = .ok (.ifCond .eq 5, 3) := by decide +kernel
theorem dL_law_713 : decode cL_law 713 = .ok (.iconst 0, 1) := by decide +kernel
theorem dL_law_714 : decode cL_law 714 = .ok (.ireturn, 1) := by decide +kernel
theorem dL_law_715 : decode cL_law 715 = .ok (.goto 814, 3) := by decide +kernel
theorem dL_law_718 : decode cL_law 718 = .ok (.aload_n 1, 1) := by decide +kernel
theorem dL_law_719 : decode cL_law 719 = .ok (.aload_n 0, 1) := by decide +kernel
theorem dL_law_720 : decode cL_law 720 = .ok (.iload 4, 2) := by decide +kernel
theorem dL_law_722 : decode cL_law 722 = .ok (.iconst 1, 1) := by decide +kernel
theorem dL_law_723 : decode cL_law 723 = .ok (.iadd, 1) := by decide +kernel
theorem dL_law_724 : decode cL_law 724 = .ok (.iaload, 1) := by decide +kernel
theorem dL_law_725 : decode cL_law 725 = .ok (.aload_n 0, 1) := by decide +kernel
theorem dL_law_726 : decode cL_law 726 = .ok (.iload 4, 2) := by decide +kernel
theorem dL_law_728 : decode cL_law 728 = .ok (.iconst 2, 1) := by decide +kernel
theorem dL_law_729 : decode cL_law 729 = .ok (.iadd, 1) := by decide +kernel
theorem dL_law_730 : decode cL_law 730 = .ok (.iaload, 1) := by decide +kernel
theorem dL_law_731 : decode cL_law 731 = .ok (.aload_n 3, 1) := by decide +kernel
theorem dL_law_732 : decode cL_law 732 = .ok (.invokestatic 123, 3) := by decide +kernel
theorem dL_law_735 : decode cL_law 735 = .ok (.istore 5, 2) := by decide +kernel
theorem dL_law_737 : decode cL_law 737 = .ok (.aload_n 2, 1) := by decide +kernel
theorem dL_law_738 : decode cL_law 738 = .ok (.aload_n 0, 1) := by decide +kernel
theorem dL_law_739 : decode cL_law 739 = .ok (.iload 4, 2) := by decide +kernel
theorem dL_law_741 : decode cL_law 741 = .ok (.iconst 1, 1) := by decide +kernel
theorem dL_law_742 : decode cL_law 742 = .ok (.iadd, 1) := by decide +kernel
theorem dL_law_743 : decode cL_law 743 = .ok (.iaload, 1) := by decide +kernel
theorem dL_law_744 : decode cL_law 744 = .ok (.aload_n 0, 1) := by decide +kernel
theorem dL_law_745 : decode cL_law 745 = .ok (.iload 4, 2) := by decide +kernel
theorem dL_law_747 : decode cL_law 747 = .ok (.iconst 2, 1) := by decide +kernel
theorem dL_law_748 : decode cL_law 748 = .ok (.iadd, 1) := by decide +kernel
theorem dL_law_749 : decode cL_law 749 = .ok (.iaload, 1) := by decide +kernel
theorem dL_law_750 : decode cL_law 750 = .ok (.invokevirtual 125, 3) := by decide +kernel
theorem dL_law_753 : decode cL_law 753 = .ok (.istore 6, 2) := by decide +kernel
theorem dL_law_755 : decode cL_law 755 = .ok (.aload_n 2, 1) := by decide +kernel
theorem dL_law_756 : decode cL_law 756 = .ok (.invokevirtual 94, 3) := by decide +kernel
theorem dL_law_759 : decode cL_law 759 = .ok (.iload 5, 2) := by decide +kernel
theorem dL_law_761 : decode cL_law 761 = .ok (.if_icmp .eq 5, 3) := by decide +kernel
theorem dL_law_764 : decode cL_law 764 = .ok (.iconst 0, 1) := by decide +kernel
theorem dL_law_765 : decode cL_law 765 = .ok (.ireturn, 1) := by decide +kernel
theorem dL_law_766 : decode cL_law 766 = .ok (.iload 5, 2) := by decide +kernel
theorem dL_law_768 : decode cL_law 768 = .ok (.ifCond .ne 15, 3) := by decide +kernel
theorem dL_law_771 : decode cL_law 771 = .ok (.aload_n 3, 1) := by decide +kernel
theorem dL_law_772 : decode cL_law 772 = .ok (.iconst 0, 1) := by decide +kernel
theorem dL_law_773 : decode cL_law 773 = .ok (.laload, 1) := by decide +kernel
theorem dL_law_774 : decode cL_law 774 = .ok (.iload 6, 2) := by decide +kernel
theorem dL_law_776 : decode cL_law 776 = .ok (.i2l, 1) := by decide +kernel
theorem dL_law_777 : decode cL_law 777 = .ok (.lcmp, 1) := by decide +kernel
theorem dL_law_778 : decode cL_law 778 = .ok (.ifCond .eq 5, 3) := by decide +kernel
theorem dL_law_781 : decode cL_law 781 = .ok (.iconst 0, 1) := by decide +kernel
theorem dL_law_782 : decode cL_law 782 = .ok (.ireturn, 1) := by decide +kernel
theorem dL_law_783 : decode cL_law 783 = .ok (.goto 746, 3) := by decide +kernel
theorem dL_law_786 : decode cL_law 786 = .ok (.aload_n 1, 1) := by decide +kernel
theorem dL_law_787 : decode cL_law 787 = .ok (.aload_n 0, 1) := by decide +kernel
theorem dL_law_788 : decode cL_law 788 = .ok (.iload 4, 2) := by decide +kernel
theorem dL_law_790 : decode cL_law 790 = .ok (.iconst 1, 1) := by decide +kernel
theorem dL_law_791 : decode cL_law 791 = .ok (.iadd, 1) := by decide +kernel
theorem dL_law_792 : decode cL_law 792 = .ok (.iaload, 1) := by decide +kernel
theorem dL_law_793 : decode cL_law 793 = .ok (.aload_n 0, 1) := by decide +kernel
theorem dL_law_794 : decode cL_law 794 = .ok (.iload 4, 2) := by decide +kernel
theorem dL_law_796 : decode cL_law 796 = .ok (.iconst 2, 1) := by decide +kernel
theorem dL_law_797 : decode cL_law 797 = .ok (.iadd, 1) := by decide +kernel
theorem dL_law_798 : decode cL_law 798 = .ok (.iaload, 1) := by decide +kernel
theorem dL_law_799 : decode cL_law 799 = .ok (.aload_n 3, 1) := by decide +kernel
theorem dL_law_800 : decode cL_law 800 = .ok (.invokestatic 126, 3) := by decide +kernel
theorem dL_law_803 : decode cL_law 803 = .ok (.istore 5, 2) := by decide +kernel
theorem dL_law_805 : decode cL_law 805 = .ok (.aload_n 2, 1) := by decide +kernel
theorem dL_law_806 : decode cL_law 806 = .ok (.aload_n 0, 1) := by decide +kernel
theorem dL_law_807 : decode cL_law 807 = .ok (.iload 4, 2) := by decide +kernel
theorem dL_law_809 : decode cL_law 809 = .ok (.iconst 1, 1) := by decide +kernel
theorem dL_law_810 : decode cL_law 810 = .ok (.iadd, 1) := by decide +kernel
theorem dL_law_811 : decode cL_law 811 = .ok (.iaload, 1) := by decide +kernel
theorem dL_law_812 : decode cL_law 812 = .ok (.aload_n 0, 1) := by decide +kernel
theorem dL_law_813 : decode cL_law 813 = .ok (.iload 4, 2) := by decide +kernel
theorem dL_law_815 : decode cL_law 815 = .ok (.iconst 2, 1) := by decide +kernel
theorem dL_law_816 : decode cL_law 816 = .ok (.iadd, 1) := by decide +kernel
theorem dL_law_817 : decode cL_law 817 = .ok (.iaload, 1) := by decide +kernel
theorem dL_law_818 : decode cL_law 818 = .ok (.invokevirtual 128, 3) := by decide +kernel
theorem dL_law_821 : decode cL_law 821 = .ok (.istore 6, 2) := by decide +kernel
theorem dL_law_823 : decode cL_law 823 = .ok (.aload_n 2, 1) := by decide +kernel
theorem dL_law_824 : decode cL_law 824 = .ok (.invokevirtual 94, 3) := by decide +kernel
theorem dL_law_827 : decode cL_law 827 = .ok (.iload 5, 2) := by decide +kernel
theorem dL_law_829 : decode cL_law 829 = .ok (.if_icmp .eq 5, 3) := by decide +kernel
theorem dL_law_832 : decode cL_law 832 = .ok (.iconst 0, 1) := by decide +kernel
theorem dL_law_833 : decode cL_law 833 = .ok (.ireturn, 1) := by decide +kernel
theorem dL_law_834 : decode cL_law 834 = .ok (.iload 5, 2) := by decide +kernel
theorem dL_law_836 : decode cL_law 836 = .ok (.ifCond .ne 15, 3) := by decide +kernel
theorem dL_law_839 : decode cL_law 839 = .ok (.aload_n 3, 1) := by decide +kernel
theorem dL_law_840 : decode cL_law 840 = .ok (.iconst 0, 1) := by decide +kernel
theorem dL_law_841 : decode cL_law 841 = .ok (.laload, 1) := by decide +kernel
theorem dL_law_842 : decode cL_law 842 = .ok (.iload 6, 2) := by decide +kernel
theorem dL_law_844 : decode cL_law 844 = .ok (.i2l, 1) := by decide +kernel
theorem dL_law_845 : decode cL_law 845 = .ok (.lcmp, 1) := by decide +kernel
theorem dL_law_846 : decode cL_law 846 = .ok (.ifCond .eq 5, 3) := by decide +kernel
theorem dL_law_849 : decode cL_law 849 = .ok (.iconst 0, 1) := by decide +kernel
theorem dL_law_850 : decode cL_law 850 = .ok (.ireturn, 1) := by decide +kernel
theorem dL_law_851 : decode cL_law 851 = .ok (.goto 678, 3) := by decide +kernel
theorem dL_law_854 : decode cL_law 854 = .ok (.aload_n 1, 1) := by decide +kernel
theorem dL_law_855 : decode cL_law 855 = .ok (.aload_n 0, 1) := by decide +kernel
theorem dL_law_856 : decode cL_law 856 = .ok (.iload 4, 2) := by decide +kernel
theorem dL_law_858 : decode cL_law 858 = .ok (.iconst 1, 1) := by decide +kernel
theorem dL_law_859 : decode cL_law 859 = .ok (.iadd, 1) := by decide +kernel
theorem dL_law_860 : decode cL_law 860 = .ok (.iaload, 1) := by decide +kernel
theorem dL_law_861 : decode cL_law 861 = .ok (.aload_n 0, 1) := by decide +kernel
theorem dL_law_862 : decode cL_law 862 = .ok (.iload 4, 2) := by decide +kernel
theorem dL_law_864 : decode cL_law 864 = .ok (.iconst 2, 1) := by decide +kernel
theorem dL_law_865 : decode cL_law 865 = .ok (.iadd, 1) := by decide +kernel
theorem dL_law_866 : decode cL_law 866 = .ok (.iaload, 1) := by decide +kernel
theorem dL_law_867 : decode cL_law 867 = .ok (.aload_n 3, 1) := by decide +kernel
theorem dL_law_868 : decode cL_law 868 = .ok (.invokestatic 129, 3) := by decide +kernel
theorem dL_law_871 : decode cL_law 871 = .ok (.istore 5, 2) := by decide +kernel
theorem dL_law_873 : decode cL_law 873 = .ok (.aload_n 2, 1) := by decide +kernel
theorem dL_law_874 : decode cL_law 874 = .ok (.aload_n 0, 1) := by decide +kernel
theorem dL_law_875 : decode cL_law 875 = .ok (.iload 4, 2) := by decide +kernel
theorem dL_law_877 : decode cL_law 877 = .ok (.iconst 1, 1) := by decide +kernel
theorem dL_law_878 : decode cL_law 878 = .ok (.iadd, 1) := by decide +kernel
theorem dL_law_879 : decode cL_law 879 = .ok (.iaload, 1) := by decide +kernel
theorem dL_law_880 : decode cL_law 880 = .ok (.aload_n 0, 1) := by decide +kernel
theorem dL_law_881 : decode cL_law 881 = .ok (.iload 4, 2) := by decide +kernel
theorem dL_law_883 : decode cL_law 883 = .ok (.iconst 2, 1) := by decide +kernel
theorem dL_law_884 : decode cL_law 884 = .ok (.iadd, 1) := by decide +kernel
theorem dL_law_885 : decode cL_law 885 = .ok (.iaload, 1) := by decide +kernel
theorem dL_law_886 : decode cL_law 886 = .ok (.invokevirtual 131, 3) := by decide +kernel
theorem dL_law_889 : decode cL_law 889 = .ok (.istore 6, 2) := by decide +kernel
theorem dL_law_891 : decode cL_law 891 = .ok (.aload_n 2, 1) := by decide +kernel
theorem dL_law_892 : decode cL_law 892 = .ok (.invokevirtual 94, 3) := by decide +kernel
theorem dL_law_895 : decode cL_law 895 = .ok (.iload 5, 2) := by decide +kernel
theorem dL_law_897 : decode cL_law 897 = .ok (.if_icmp .eq 5, 3) := by decide +kernel
theorem dL_law_900 : decode cL_law 900 = .ok (.iconst 0, 1) := by decide +kernel
theorem dL_law_901 : decode cL_law 901 = .ok (.ireturn, 1) := by decide +kernel
theorem dL_law_902 : decode cL_law 902 = .ok (.iload 5, 2) := by decide +kernel
theorem dL_law_904 : decode cL_law 904 = .ok (.ifCond .ne 15, 3) := by decide +kernel
theorem dL_law_907 : decode cL_law 907 = .ok (.aload_n 3, 1) := by decide +kernel
theorem dL_law_908 : decode cL_law 908 = .ok (.iconst 0, 1) := by decide +kernel
theorem dL_law_909 : decode cL_law 909 = .ok (.laload, 1) := by decide +kernel
theorem dL_law_910 : decode cL_law 910 = .ok (.iload 6, 2) := by decide +kernel
theorem dL_law_912 : decode cL_law 912 = .ok (.i2l, 1) := by decide +kernel
theorem dL_law_913 : decode cL_law 913 = .ok (.lcmp, 1) := by decide +kernel
theorem dL_law_914 : decode cL_law 914 = .ok (.ifCond .eq 5, 3) := by decide +kernel
theorem dL_law_917 : decode cL_law 917 = .ok (.iconst 0, 1) := by decide +kernel
theorem dL_law_918 : decode cL_law 918 = .ok (.ireturn, 1) := by decide +kernel
theorem dL_law_919 : decode cL_law 919 = .ok (.goto 610, 3) := by decide +kernel
theorem dL_law_922 : decode cL_law 922 = .ok (.aload_n 1, 1) := by decide +kernel
theorem dL_law_923 : decode cL_law 923 = .ok (.aload_n 0, 1) := by decide +kernel
theorem dL_law_924 : decode cL_law 924 = .ok (.iload 4, 2) := by decide +kernel
theorem dL_law_926 : decode cL_law 926 = .ok (.iconst 1, 1) := by decide +kernel
theorem dL_law_927 : decode cL_law 927 = .ok (.iadd, 1) := by decide +kernel
theorem dL_law_928 : decode cL_law 928 = .ok (.iaload, 1) := by decide +kernel
theorem dL_law_929 : decode cL_law 929 = .ok (.aload_n 0, 1) := by decide +kernel
theorem dL_law_930 : decode cL_law 930 = .ok (.iload 4, 2) := by decide +kernel
theorem dL_law_932 : decode cL_law 932 = .ok (.iconst 2, 1) := by decide +kernel
theorem dL_law_933 : decode cL_law 933 = .ok (.iadd, 1) := by decide +kernel
theorem dL_law_934 : decode cL_law 934 = .ok (.iaload, 1) := by decide +kernel
theorem dL_law_935 : decode cL_law 935 = .ok (.aload_n 3, 1) := by decide +kernel
theorem dL_law_936 : decode cL_law 936 = .ok (.invokestatic 132, 3) := by decide +kernel
theorem dL_law_939 : decode cL_law 939 = .ok (.istore 5, 2) := by decide +kernel
theorem dL_law_941 : decode cL_law 941 = .ok (.aload_n 2, 1) := by decide +kernel
theorem dL_law_942 : decode cL_law 942 = .ok (.aload_n 0, 1) := by decide +kernel
theorem dL_law_943 : decode cL_law 943 = .ok (.iload 4, 2) := by decide +kernel
theorem dL_law_945 : decode cL_law 945 = .ok (.iconst 1, 1) := by decide +kernel
theorem dL_law_946 : decode cL_law 946 = .ok (.iadd, 1) := by decide +kernel
theorem dL_law_947 : decode cL_law 947 = .ok (.iaload, 1) := by decide +kernel
theorem dL_law_948 : decode cL_law 948 = .ok (.aload_n 0, 1) := by decide +kernel
theorem dL_law_949 : decode cL_law 949 = .ok (.iload 4, 2) := by decide +kernel
theorem dL_law_951 : decode cL_law 951 = .ok (.iconst 2, 1) := by decide +kernel
theorem dL_law_952 : decode cL_law 952 = .ok (.iadd, 1) := by decide +kernel
theorem dL_law_953 : decode cL_law 953 = .ok (.iaload, 1) := by decide +kernel
theorem dL_law_954 : decode cL_law 954 = .ok (.invokevirtual 134, 3) := by decide +kernel
theorem dL_law_957 : decode cL_law 957 = .ok (.istore 6, 2) := by decide +kernel
theorem dL_law_959 : decode cL_law 959 = .ok (.aload_n 2, 1) := by decide +kernel
theorem dL_law_960 : decode cL_law 960 = .ok (.invokevirtual 94, 3) := by decide +kernel
theorem dL_law_963 : decode cL_law 963 = .ok (.iload 5, 2) := by decide +kernel
theorem dL_law_965 : decode cL_law 965 = .ok (.if_icmp .eq 5, 3) := by decide +kernel
theorem dL_law_968 : decode cL_law 968 = .ok (.iconst 0, 1) := by decide +kernel
theorem dL_law_969 : decode cL_law 969 = .ok (.ireturn, 1) := by decide +kernel
theorem dL_law_970 : decode cL_law 970 = .ok (.iload 5, 2) := by decide +kernel
theorem dL_law_972 : decode cL_law 972 = .ok (.ifCond .ne 15, 3) := by decide +kernel
theorem dL_law_975 : decode cL_law 975 = .ok (.aload_n 3, 1) := by decide +kernel
theorem dL_law_976 : decode cL_law 976 = .ok (.iconst 0, 1) := by decide +kernel
theorem dL_law_977 : decode cL_law 977 = .ok (.laload, 1) := by decide +kernel
theorem dL_law_978 : decode cL_law 978 = .ok (.iload 6, 2) := by decide +kernel
theorem dL_law_980 : decode cL_law 980 = .ok (.i2l, 1) := by decide +kernel
theorem dL_law_981 : decode cL_law 981 = .ok (.lcmp, 1) := by decide +kernel
theorem dL_law_982 : decode cL_law 982 = .ok (.ifCond .eq 5, 3) := by decide +kernel
theorem dL_law_985 : decode cL_law 985 = .ok (.iconst 0, 1) := by decide +kernel
theorem dL_law_986 : decode cL_law 986 = .ok (.ireturn, 1) := by decide +kernel
theorem dL_law_987 : decode cL_law 987 = .ok (.goto 542, 3) := by decide +kernel
theorem dL_law_990 : decode cL_law 990 = .ok (.aload_n 1, 1) := by decide +kernel
theorem dL_law_991 : decode cL_law 991 = .ok (.aload_n 0, 1) := by decide +kernel
theorem dL_law_992 : decode cL_law 992 = .ok (.iload 4, 2) := by decide +kernel
theorem dL_law_994 : decode cL_law 994 = .ok (.iconst 1, 1) := by decide +kernel
theorem dL_law_995 : decode cL_law 995 = .ok (.iadd, 1) := by decide +kernel
theorem dL_law_996 : decode cL_law 996 = .ok (.iaload, 1) := by decide +kernel
theorem dL_law_997 : decode cL_law 997 = .ok (.aload_n 0, 1) := by decide +kernel
theorem dL_law_998 : decode cL_law 998 = .ok (.iload 4, 2) := by decide +kernel
theorem dL_law_1000 : decode cL_law 1000 = .ok (.iconst 2, 1) := by decide +kernel
theorem dL_law_1001 : decode cL_law 1001 = .ok (.iadd, 1) := by decide +kernel
theorem dL_law_1002 : decode cL_law 1002 = .ok (.iaload, 1) := by decide +kernel
theorem dL_law_1003 : decode cL_law 1003 = .ok (.invokestatic 135, 3) := by decide +kernel
theorem dL_law_1006 : decode cL_law 1006 = .ok (.istore 5, 2) := by decide +kernel
theorem dL_law_1008 : decode cL_law 1008 = .ok (.aload_n 2, 1) := by decide +kernel
theorem dL_law_1009 : decode cL_law 1009 = .ok (.aload_n 0, 1) := by decide +kernel
theorem dL_law_1010 : decode cL_law 1010 = .ok (.iload 4, 2) := by decide +kernel
theorem dL_law_1012 : decode cL_law 1012 = .ok (.iconst 1, 1) := by decide +kernel
theorem dL_law_1013 : decode cL_law 1013 = .ok (.iadd, 1) := by decide +kernel
theorem dL_law_1014 : decode cL_law 1014 = .ok (.iaload, 1) := by decide +kernel
theorem dL_law_1015 : decode cL_law 1015 = .ok (.aload_n 0, 1) := by decide +kernel
theorem dL_law_1016 : decode cL_law 1016 = .ok (.iload 4, 2) := by decide +kernel
theorem dL_law_1018 : decode cL_law 1018 = .ok (.iconst 2, 1) := by decide +kernel
theorem dL_law_1019 : decode cL_law 1019 = .ok (.iadd, 1) := by decide +kernel
theorem dL_law_1020 : decode cL_law 1020 = .ok (.iaload, 1) := by decide +kernel
theorem dL_law_1021 : decode cL_law 1021 = .ok (.invokevirtual 138, 3) := by decide +kernel
theorem dL_law_1024 : decode cL_law 1024 = .ok (.aload_n 2, 1) := by decide +kernel
theorem dL_law_1025 : decode cL_law 1025 = .ok (.invokevirtual 94, 3) := by decide +kernel
theorem dL_law_1028 : decode cL_law 1028 = .ok (.iload 5, 2) := by decide +kernel
theorem dL_law_1030 : decode cL_law 1030 = .ok (.if_icmp .eq 5, 3) := by decide +kernel
theorem dL_law_1033 : decode cL_law 1033 = .ok (.iconst 0, 1) := by decide +kernel
theorem dL_law_1034 : decode cL_law 1034 = .ok (.ireturn, 1) := by decide +kernel
theorem dL_law_1035 : decode cL_law 1035 = .ok (.goto 494, 3) := by decide +kernel
theorem dL_law_1038 : decode cL_law 1038 = .ok (.aload_n 1, 1) := by decide +kernel
theorem dL_law_1039 : decode cL_law 1039 = .ok (.aload_n 0, 1) := by decide +kernel
theorem dL_law_1040 : decode cL_law 1040 = .ok (.iload 4, 2) := by decide +kernel
theorem dL_law_1042 : decode cL_law 1042 = .ok (.iconst 1, 1) := by decide +kernel
theorem dL_law_1043 : decode cL_law 1043 = .ok (.iadd, 1) := by decide +kernel
theorem dL_law_1044 : decode cL_law 1044 = .ok (.iaload, 1) := by decide +kernel
theorem dL_law_1045 : decode cL_law 1045 = .ok (.aload_n 0, 1) := by decide +kernel
theorem dL_law_1046 : decode cL_law 1046 = .ok (.iload 4, 2) := by decide +kernel
theorem dL_law_1048 : decode cL_law 1048 = .ok (.iconst 2, 1) := by decide +kernel
theorem dL_law_1049 : decode cL_law 1049 = .ok (.iadd, 1) := by decide +kernel
theorem dL_law_1050 : decode cL_law 1050 = .ok (.iaload, 1) := by decide +kernel
theorem dL_law_1051 : decode cL_law 1051 = .ok (.invokestatic 139, 3) := by decide +kernel
theorem dL_law_1054 : decode cL_law 1054 = .ok (.istore 5, 2) := by decide +kernel
theorem dL_law_1056 : decode cL_law 1056 = .ok (.aload_n 2, 1) := by decide +kernel
theorem dL_law_1057 : decode cL_law 1057 = .ok (.aload_n 0, 1) := by decide +kernel
theorem dL_law_1058 : decode cL_law 1058 = .ok (.iload 4, 2) := by decide +kernel
theorem dL_law_1060 : decode cL_law 1060 = .ok (.iconst 1, 1) := by decide +kernel
theorem dL_law_1061 : decode cL_law 1061 = .ok (.iadd, 1) := by decide +kernel
theorem dL_law_1062 : decode cL_law 1062 = .ok (.iaload, 1) := by decide +kernel
theorem dL_law_1063 : decode cL_law 1063 = .ok (.aload_n 0, 1) := by decide +kernel
theorem dL_law_1064 : decode cL_law 1064 = .ok (.iload 4, 2) := by decide +kernel
theorem dL_law_1066 : decode cL_law 1066 = .ok (.iconst 2, 1) := by decide +kernel
theorem dL_law_1067 : decode cL_law 1067 = .ok (.iadd, 1) := by decide +kernel
theorem dL_law_1068 : decode cL_law 1068 = .ok (.iaload, 1) := by decide +kernel
theorem dL_law_1069 : decode cL_law 1069 = .ok (.invokevirtual 141, 3) := by decide +kernel
theorem dL_law_1072 : decode cL_law 1072 = .ok (.aload_n 2, 1) := by decide +kernel
theorem dL_law_1073 : decode cL_law 1073 = .ok (.invokevirtual 94, 3) := by decide +kernel
theorem dL_law_1076 : decode cL_law 1076 = .ok (.iload 5, 2) := by decide +kernel
theorem dL_law_1078 : decode cL_law 1078 = .ok (.if_icmp .eq 5, 3) := by decide +kernel
theorem dL_law_1081 : decode cL_law 1081 = .ok (.iconst 0, 1) := by decide +kernel
theorem dL_law_1082 : decode cL_law 1082 = .ok (.ireturn, 1) := by decide +kernel
theorem dL_law_1083 : decode cL_law 1083 = .ok (.goto 446, 3) := by decide +kernel
theorem dL_law_1086 : decode cL_law 1086 = .ok (.aload_n 1, 1) := by decide +kernel
theorem dL_law_1087 : decode cL_law 1087 = .ok (.aload_n 0, 1) := by decide +kernel
theorem dL_law_1088 : decode cL_law 1088 = .ok (.iload 4, 2) := by decide +kernel
theorem dL_law_1090 : decode cL_law 1090 = .ok (.iconst 1, 1) := by decide +kernel
theorem dL_law_1091 : decode cL_law 1091 = .ok (.iadd, 1) := by decide +kernel
theorem dL_law_1092 : decode cL_law 1092 = .ok (.iaload, 1) := by decide +kernel
theorem dL_law_1093 : decode cL_law 1093 = .ok (.aload_n 0, 1) := by decide +kernel
theorem dL_law_1094 : decode cL_law 1094 = .ok (.iload 4, 2) := by decide +kernel
theorem dL_law_1096 : decode cL_law 1096 = .ok (.iconst 2, 1) := by decide +kernel
theorem dL_law_1097 : decode cL_law 1097 = .ok (.iadd, 1) := by decide +kernel
theorem dL_law_1098 : decode cL_law 1098 = .ok (.iaload, 1) := by decide +kernel
theorem dL_law_1099 : decode cL_law 1099 = .ok (.aload_n 0, 1) := by decide +kernel
theorem dL_law_1100 : decode cL_law 1100 = .ok (.iload 4, 2) := by decide +kernel
theorem dL_law_1102 : decode cL_law 1102 = .ok (.iconst 3, 1) := by decide +kernel
theorem dL_law_1103 : decode cL_law 1103 = .ok (.iadd, 1) := by decide +kernel
theorem dL_law_1104 : decode cL_law 1104 = .ok (.iaload, 1) := by decide +kernel
theorem dL_law_1105 : decode cL_law 1105 = .ok (.aload_n 3, 1) := by decide +kernel
theorem dL_law_1106 : decode cL_law 1106 = .ok (.invokestatic 142, 3) := by decide +kernel
theorem dL_law_1109 : decode cL_law 1109 = .ok (.istore 5, 2) := by decide +kernel
theorem dL_law_1111 : decode cL_law 1111 = .ok (.aload_n 2, 1) := by decide +kernel
theorem dL_law_1112 : decode cL_law 1112 = .ok (.aload_n 0, 1) := by decide +kernel
theorem dL_law_1113 : decode cL_law 1113 = .ok (.iload 4, 2) := by decide +kernel
theorem dL_law_1115 : decode cL_law 1115 = .ok (.iconst 1, 1) := by decide +kernel
theorem dL_law_1116 : decode cL_law 1116 = .ok (.iadd, 1) := by decide +kernel
theorem dL_law_1117 : decode cL_law 1117 = .ok (.iaload, 1) := by decide +kernel
theorem dL_law_1118 : decode cL_law 1118 = .ok (.aload_n 0, 1) := by decide +kernel
theorem dL_law_1119 : decode cL_law 1119 = .ok (.iload 4, 2) := by decide +kernel
theorem dL_law_1121 : decode cL_law 1121 = .ok (.iconst 2, 1) := by decide +kernel
theorem dL_law_1122 : decode cL_law 1122 = .ok (.iadd, 1) := by decide +kernel
theorem dL_law_1123 : decode cL_law 1123 = .ok (.iaload, 1) := by decide +kernel
theorem dL_law_1124 : decode cL_law 1124 = .ok (.aload_n 0, 1) := by decide +kernel
theorem dL_law_1125 : decode cL_law 1125 = .ok (.iload 4, 2) := by decide +kernel
theorem dL_law_1127 : decode cL_law 1127 = .ok (.iconst 3, 1) := by decide +kernel
theorem dL_law_1128 : decode cL_law 1128 = .ok (.iadd, 1) := by decide +kernel
theorem dL_law_1129 : decode cL_law 1129 = .ok (.iaload, 1) := by decide +kernel
theorem dL_law_1130 : decode cL_law 1130 = .ok (.invokevirtual 145, 3) := by decide +kernel
theorem dL_law_1133 : decode cL_law 1133 = .ok (.istore 6, 2) := by decide +kernel
theorem dL_law_1135 : decode cL_law 1135 = .ok (.aload_n 2, 1) := by decide +kernel
theorem dL_law_1136 : decode cL_law 1136 = .ok (.invokevirtual 94, 3) := by decide +kernel
theorem dL_law_1139 : decode cL_law 1139 = .ok (.iload 5, 2) := by decide +kernel
theorem dL_law_1141 : decode cL_law 1141 = .ok (.if_icmp .eq 5, 3) := by decide +kernel
theorem dL_law_1144 : decode cL_law 1144 = .ok (.iconst 0, 1) := by decide +kernel
theorem dL_law_1145 : decode cL_law 1145 = .ok (.ireturn, 1) := by decide +kernel
theorem dL_law_1146 : decode cL_law 1146 = .ok (.iload 5, 2) := by decide +kernel
theorem dL_law_1148 : decode cL_law 1148 = .ok (.ifCond .ne 15, 3) := by decide +kernel
theorem dL_law_1151 : decode cL_law 1151 = .ok (.aload_n 3, 1) := by decide +kernel
theorem dL_law_1152 : decode cL_law 1152 = .ok (.iconst 0, 1) := by decide +kernel
theorem dL_law_1153 : decode cL_law 1153 = .ok (.laload, 1) := by decide +kernel
theorem dL_law_1154 : decode cL_law 1154 = .ok (.iload 6, 2) := by decide +kernel
theorem dL_law_1156 : decode cL_law 1156 = .ok (.i2l, 1) := by decide +kernel
theorem dL_law_1157 : decode cL_law 1157 = .ok (.lcmp, 1) := by decide +kernel
theorem dL_law_1158 : decode cL_law 1158 = .ok (.ifCond .eq 5, 3) := by decide +kernel
theorem dL_law_1161 : decode cL_law 1161 = .ok (.iconst 0, 1) := by decide +kernel
theorem dL_law_1162 : decode cL_law 1162 = .ok (.ireturn, 1) := by decide +kernel
theorem dL_law_1163 : decode cL_law 1163 = .ok (.goto 366, 3) := by decide +kernel
theorem dL_law_1166 : decode cL_law 1166 = .ok (.aload_n 1, 1) := by decide +kernel
theorem dL_law_1167 : decode cL_law 1167 = .ok (.aload_n 0, 1) := by decide +kernel
theorem dL_law_1168 : decode cL_law 1168 = .ok (.iload 4, 2) := by decide +kernel
theorem dL_law_1170 : decode cL_law 1170 = .ok (.iconst 1, 1) := by decide +kernel
theorem dL_law_1171 : decode cL_law 1171 = .ok (.iadd, 1) := by decide +kernel
theorem dL_law_1172 : decode cL_law 1172 = .ok (.iaload, 1) := by decide +kernel
theorem dL_law_1173 : decode cL_law 1173 = .ok (.aload_n 3, 1) := by decide +kernel
theorem dL_law_1174 : decode cL_law 1174 = .ok (.invokestatic 146, 3) := by decide +kernel
theorem dL_law_1177 : decode cL_law 1177 = .ok (.istore 5, 2) := by decide +kernel
theorem dL_law_1179 : decode cL_law 1179 = .ok (.aload_n 2, 1) := by decide +kernel
theorem dL_law_1180 : decode cL_law 1180 = .ok (.aload_n 0, 1) := by decide +kernel
theorem dL_law_1181 : decode cL_law 1181 = .ok (.iload 4, 2) := by decide +kernel
theorem dL_law_1183 : decode cL_law 1183 = .ok (.iconst 1, 1) := by decide +kernel
theorem dL_law_1184 : decode cL_law 1184 = .ok (.iadd, 1) := by decide +kernel
theorem dL_law_1185 : decode cL_law 1185 = .ok (.iaload, 1) := by decide +kernel
theorem dL_law_1186 : decode cL_law 1186 = .ok (.invokevirtual 148, 3) := by decide +kernel
theorem dL_law_1189 : decode cL_law 1189 = .ok (.istore 6, 2) := by decide +kernel
theorem dL_law_1191 : decode cL_law 1191 = .ok (.aload_n 2, 1) := by decide +kernel
theorem dL_law_1192 : decode cL_law 1192 = .ok (.invokevirtual 94, 3) := by decide +kernel
theorem dL_law_1195 : decode cL_law 1195 = .ok (.iload 5, 2) := by decide +kernel
theorem dL_law_1197 : decode cL_law 1197 = .ok (.if_icmp .eq 5, 3) := by decide +kernel
theorem dL_law_1200 : decode cL_law 1200 = .ok (.iconst 0, 1) := by decide +kernel
theorem dL_law_1201 : decode cL_law 1201 = .ok (.ireturn, 1) := by decide +kernel
theorem dL_law_1202 : decode cL_law 1202 = .ok (.iload 5, 2) := by decide +kernel
theorem dL_law_1204 : decode cL_law 1204 = .ok (.ifCond .ne 15, 3) := by decide +kernel
theorem dL_law_1207 : decode cL_law 1207 = .ok (.aload_n 3, 1) := by decide +kernel
theorem dL_law_1208 : decode cL_law 1208 = .ok (.iconst 0, 1) := by decide +kernel
theorem dL_law_1209 : decode cL_law 1209 = .ok (.laload, 1) := by decide +kernel
theorem dL_law_1210 : decode cL_law 1210 = .ok (.iload 6, 2) := by decide +kernel
theorem dL_law_1212 : decode cL_law 1212 = .ok (.i2l, 1) := by decide +kernel
theorem dL_law_1213 : decode cL_law 1213 = .ok (.lcmp, 1) := by decide +kernel
theorem dL_law_1214 : decode cL_law 1214 = .ok (.ifCond .eq 5, 3) := by decide +kernel
theorem dL_law_1217 : decode cL_law 1217 = .ok (.iconst 0, 1) := by decide +kernel
theorem dL_law_1218 : decode cL_law 1218 = .ok (.ireturn, 1) := by decide +kernel
theorem dL_law_1219 : decode cL_law 1219 = .ok (.goto 310, 3) := by decide +kernel
theorem dL_law_1222 : decode cL_law 1222 = .ok (.aload_n 1, 1) := by decide +kernel
theorem dL_law_1223 : decode cL_law 1223 = .ok (.aload_n 0, 1) := by decide +kernel
theorem dL_law_1224 : decode cL_law 1224 = .ok (.iload 4, 2) := by decide +kernel
theorem dL_law_1226 : decode cL_law 1226 = .ok (.iconst 1, 1) := by decide +kernel
theorem dL_law_1227 : decode cL_law 1227 = .ok (.iadd, 1) := by decide +kernel
theorem dL_law_1228 : decode cL_law 1228 = .ok (.iaload, 1) := by decide +kernel
theorem dL_law_1229 : decode cL_law 1229 = .ok (.aload_n 3, 1) := by decide +kernel
theorem dL_law_1230 : decode cL_law 1230 = .ok (.invokestatic 149, 3) := by decide +kernel
theorem dL_law_1233 : decode cL_law 1233 = .ok (.istore 5, 2) := by decide +kernel
theorem dL_law_1235 : decode cL_law 1235 = .ok (.aload_n 2, 1) := by decide +kernel
theorem dL_law_1236 : decode cL_law 1236 = .ok (.aload_n 0, 1) := by decide +kernel
theorem dL_law_1237 : decode cL_law 1237 = .ok (.iload 4, 2) := by decide +kernel
theorem dL_law_1239 : decode cL_law 1239 = .ok (.iconst 1, 1) := by decide +kernel
theorem dL_law_1240 : decode cL_law 1240 = .ok (.iadd, 1) := by decide +kernel
theorem dL_law_1241 : decode cL_law 1241 = .ok (.iaload, 1) := by decide +kernel
theorem dL_law_1242 : decode cL_law 1242 = .ok (.invokevirtual 151, 3) := by decide +kernel
theorem dL_law_1245 : decode cL_law 1245 = .ok (.istore 6, 2) := by decide +kernel
theorem dL_law_1247 : decode cL_law 1247 = .ok (.aload_n 2, 1) := by decide +kernel
theorem dL_law_1248 : decode cL_law 1248 = .ok (.invokevirtual 94, 3) := by decide +kernel
theorem dL_law_1251 : decode cL_law 1251 = .ok (.iload 5, 2) := by decide +kernel
theorem dL_law_1253 : decode cL_law 1253 = .ok (.if_icmp .eq 5, 3) := by decide +kernel
theorem dL_law_1256 : decode cL_law 1256 = .ok (.iconst 0, 1) := by decide +kernel
theorem dL_law_1257 : decode cL_law 1257 = .ok (.ireturn, 1) := by decide +kernel
theorem dL_law_1258 : decode cL_law 1258 = .ok (.iload 5, 2) := by decide +kernel
theorem dL_law_1260 : decode cL_law 1260 = .ok (.ifCond .ne 15, 3) := by decide +kernel
theorem dL_law_1263 : decode cL_law 1263 = .ok (.aload_n 3, 1) := by decide +kernel
theorem dL_law_1264 : decode cL_law 1264 = .ok (.iconst 0, 1) := by decide +kernel
theorem dL_law_1265 : decode cL_law 1265 = .ok (.laload, 1) := by decide +kernel
theorem dL_law_1266 : decode cL_law 1266 = .ok (.iload 6, 2) := by decide +kernel
theorem dL_law_1268 : decode cL_law 1268 = .ok (.i2l, 1) := by decide +kernel
theorem dL_law_1269 : decode cL_law 1269 = .ok (.lcmp, 1) := by decide +kernel
theorem dL_law_1270 : decode cL_law 1270 = .ok (.ifCond .eq 5, 3) := by decide +kernel
theorem dL_law_1273 : decode cL_law 1273 = .ok (.iconst 0, 1) := by decide +kernel
theorem dL_law_1274 : decode cL_law 1274 = .ok (.ireturn, 1) := by decide +kernel
theorem dL_law_1275 : decode cL_law 1275 = .ok (.goto 254, 3) := by decide +kernel
theorem dL_law_1278 : decode cL_law 1278 = .ok (.aload_n 1, 1) := by decide +kernel
theorem dL_law_1279 : decode cL_law 1279 = .ok (.aload_n 0, 1) := by decide +kernel
theorem dL_law_1280 : decode cL_law 1280 = .ok (.iload 4, 2) := by decide +kernel
theorem dL_law_1282 : decode cL_law 1282 = .ok (.iconst 1, 1) := by decide +kernel
theorem dL_law_1283 : decode cL_law 1283 = .ok (.iadd, 1) := by decide +kernel
theorem dL_law_1284 : decode cL_law 1284 = .ok (.iaload, 1) := by decide +kernel
theorem dL_law_1285 : decode cL_law 1285 = .ok (.aload_n 3, 1) := by decide +kernel
theorem dL_law_1286 : decode cL_law 1286 = .ok (.invokestatic 152, 3) := by decide +kernel
theorem dL_law_1289 : decode cL_law 1289 = .ok (.istore 5, 2) := by decide +kernel
theorem dL_law_1291 : decode cL_law 1291 = .ok (.aload_n 2, 1) := by decide +kernel
theorem dL_law_1292 : decode cL_law 1292 = .ok (.aload_n 0, 1) := by decide +kernel
theorem dL_law_1293 : decode cL_law 1293 = .ok (.iload 4, 2) := by decide +kernel
theorem dL_law_1295 : decode cL_law 1295 = .ok (.iconst 1, 1) := by decide +kernel
theorem dL_law_1296 : decode cL_law 1296 = .ok (.iadd, 1) := by decide +kernel
theorem dL_law_1297 : decode cL_law 1297 = .ok (.iaload, 1) := by decide +kernel
theorem dL_law_1298 : decode cL_law 1298 = .ok (.invokevirtual 154, 3) := by decide +kernel
theorem dL_law_1301 : decode cL_law 1301 = .ok (.istore 6, 2) := by decide +kernel
theorem dL_law_1303 : decode cL_law 1303 = .ok (.aload_n 2, 1) := by decide +kernel
theorem dL_law_1304 : decode cL_law 1304 = .ok (.invokevirtual 94, 3) := by decide +kernel
theorem dL_law_1307 : decode cL_law 1307 = .ok (.iload 5, 2) := by decide +kernel
theorem dL_law_1309 : decode cL_law 1309 = .ok (.if_icmp .eq 5, 3) := by decide +kernel
theorem dL_law_1312 : decode cL_law 1312 = .ok (.iconst 0, 1) := by decide +kernel
theorem dL_law_1313 : decode cL_law 1313 = .ok (.ireturn, 1) := by decide +kernel
theorem dL_law_1314 : decode cL_law 1314 = .ok (.iload 5, 2) := by decide +kernel
theorem dL_law_1316 : decode cL_law 1316 = .ok (.ifCond .ne 22, 3) := by decide +kernel
theorem dL_law_1319 : decode cL_law 1319 = .ok (.aload_n 3, 1) := by decide +kernel
theorem dL_law_1320 : decode cL_law 1320 = .ok (.iconst 0, 1) := by decide +kernel
theorem dL_law_1321 : decode cL_law 1321 = .ok (.laload, 1) := by decide +kernel
theorem dL_law_1322 : decode cL_law 1322 = .ok (.iload 6, 2) := by decide +kernel
theorem dL_law_1324 : decode cL_law 1324 = .ok (.ifCond .eq 7, 3) := by decide +kernel
theorem dL_law_1327 : decode cL_law 1327 = .ok (.lconst 1, 1) := by decide +kernel
theorem dL_law_1328 : decode cL_law 1328 = .ok (.goto 4, 3) := by decide +kernel
theorem dL_law_1331 : decode cL_law 1331 = .ok (.lconst 0, 1) := by decide +kernel
theorem dL_law_1332 : decode cL_law 1332 = .ok (.lcmp, 1) := by decide +kernel
theorem dL_law_1333 : decode cL_law 1333 = .ok (.ifCond .eq 5, 3) := by decide +kernel
theorem dL_law_1336 : decode cL_law 1336 = .ok (.iconst 0, 1) := by decide +kernel
theorem dL_law_1337 : decode cL_law 1337 = .ok (.ireturn, 1) := by decide +kernel
theorem dL_law_1338 : decode cL_law 1338 = .ok (.goto 191, 3) := by decide +kernel
theorem dL_law_1341 : decode cL_law 1341 = .ok (.aload_n 1, 1) := by decide +kernel
theorem dL_law_1342 : decode cL_law 1342 = .ok (.aload_n 0, 1) := by decide +kernel
theorem dL_law_1343 : decode cL_law 1343 = .ok (.iload 4, 2) := by decide +kernel
theorem dL_law_1345 : decode cL_law 1345 = .ok (.iconst 1, 1) := by decide +kernel
theorem dL_law_1346 : decode cL_law 1346 = .ok (.iadd, 1) := by decide +kernel
theorem dL_law_1347 : decode cL_law 1347 = .ok (.iaload, 1) := by decide +kernel
theorem dL_law_1348 : decode cL_law 1348 = .ok (.aload_n 3, 1) := by decide +kernel
theorem dL_law_1349 : decode cL_law 1349 = .ok (.invokestatic 155, 3) := by decide +kernel
theorem dL_law_1352 : decode cL_law 1352 = .ok (.istore 5, 2) := by decide +kernel
theorem dL_law_1354 : decode cL_law 1354 = .ok (.aload_n 2, 1) := by decide +kernel
theorem dL_law_1355 : decode cL_law 1355 = .ok (.aload_n 0, 1) := by decide +kernel
theorem dL_law_1356 : decode cL_law 1356 = .ok (.iload 4, 2) := by decide +kernel
theorem dL_law_1358 : decode cL_law 1358 = .ok (.iconst 1, 1) := by decide +kernel
theorem dL_law_1359 : decode cL_law 1359 = .ok (.iadd, 1) := by decide +kernel
theorem dL_law_1360 : decode cL_law 1360 = .ok (.iaload, 1) := by decide +kernel
theorem dL_law_1361 : decode cL_law 1361 = .ok (.invokevirtual 157, 3) := by decide +kernel
theorem dL_law_1364 : decode cL_law 1364 = .ok (.istore 6, 2) := by decide +kernel
theorem dL_law_1366 : decode cL_law 1366 = .ok (.aload_n 2, 1) := by decide +kernel
theorem dL_law_1367 : decode cL_law 1367 = .ok (.invokevirtual 94, 3) := by decide +kernel
theorem dL_law_1370 : decode cL_law 1370 = .ok (.iload 5, 2) := by decide +kernel
theorem dL_law_1372 : decode cL_law 1372 = .ok (.if_icmp .eq 5, 3) := by decide +kernel
theorem dL_law_1375 : decode cL_law 1375 = .ok (.iconst 0, 1) := by decide +kernel
theorem dL_law_1376 : decode cL_law 1376 = .ok (.ireturn, 1) := by decide +kernel
theorem dL_law_1377 : decode cL_law 1377 = .ok (.iload 5, 2) := by decide +kernel
theorem dL_law_1379 : decode cL_law 1379 = .ok (.ifCond .ne 15, 3) := by decide +kernel
theorem dL_law_1382 : decode cL_law 1382 = .ok (.aload_n 3, 1) := by decide +kernel
theorem dL_law_1383 : decode cL_law 1383 = .ok (.iconst 0, 1) := by decide +kernel
theorem dL_law_1384 : decode cL_law 1384 = .ok (.laload, 1) := by decide +kernel
theorem dL_law_1385 : decode cL_law 1385 = .ok (.iload 6, 2) := by decide +kernel
theorem dL_law_1387 : decode cL_law 1387 = .ok (.i2l, 1) := by decide +kernel
theorem dL_law_1388 : decode cL_law 1388 = .ok (.lcmp, 1) := by decide +kernel
theorem dL_law_1389 : decode cL_law 1389 = .ok (.ifCond .eq 5, 3) := by decide +kernel
theorem dL_law_1392 : decode cL_law 1392 = .ok (.iconst 0, 1) := by decide +kernel
theorem dL_law_1393 : decode cL_law 1393 = .ok (.ireturn, 1) := by decide +kernel
theorem dL_law_1394 : decode cL_law 1394 = .ok (.goto 135, 3) := by decide +kernel
theorem dL_law_1397 : decode cL_law 1397 = .ok (.aload_n 1, 1) := by decide +kernel
theorem dL_law_1398 : decode cL_law 1398 = .ok (.aload_n 0, 1) := by decide +kernel
theorem dL_law_1399 : decode cL_law 1399 = .ok (.iload 4, 2) := by decide +kernel
theorem dL_law_1401 : decode cL_law 1401 = .ok (.iconst 1, 1) := by decide +kernel
theorem dL_law_1402 : decode cL_law 1402 = .ok (.iadd, 1) := by decide +kernel
theorem dL_law_1403 : decode cL_law 1403 = .ok (.iaload, 1) := by decide +kernel
theorem dL_law_1404 : decode cL_law 1404 = .ok (.aload_n 3, 1) := by decide +kernel
theorem dL_law_1405 : decode cL_law 1405 = .ok (.invokestatic 158, 3) := by decide +kernel
theorem dL_law_1408 : decode cL_law 1408 = .ok (.istore 5, 2) := by decide +kernel
theorem dL_law_1410 : decode cL_law 1410 = .ok (.aload_n 2, 1) := by decide +kernel
theorem dL_law_1411 : decode cL_law 1411 = .ok (.aload_n 0, 1) := by decide +kernel
theorem dL_law_1412 : decode cL_law 1412 = .ok (.iload 4, 2) := by decide +kernel
theorem dL_law_1414 : decode cL_law 1414 = .ok (.iconst 1, 1) := by decide +kernel
theorem dL_law_1415 : decode cL_law 1415 = .ok (.iadd, 1) := by decide +kernel
theorem dL_law_1416 : decode cL_law 1416 = .ok (.iaload, 1) := by decide +kernel
theorem dL_law_1417 : decode cL_law 1417 = .ok (.invokevirtual 160, 3) := by decide +kernel
theorem dL_law_1420 : decode cL_law 1420 = .ok (.istore 6, 2) := by decide +kernel
theorem dL_law_1422 : decode cL_law 1422 = .ok (.aload_n 2, 1) := by decide +kernel
theorem dL_law_1423 : decode cL_law 1423 = .ok (.invokevirtual 94, 3) := by decide +kernel
theorem dL_law_1426 : decode cL_law 1426 = .ok (.iload 5, 2) := by decide +kernel
theorem dL_law_1428 : decode cL_law 1428 = .ok (.if_icmp .eq 5, 3) := by decide +kernel
theorem dL_law_1431 : decode cL_law 1431 = .ok (.iconst 0, 1) := by decide +kernel
theorem dL_law_1432 : decode cL_law 1432 = .ok (.ireturn, 1) := by decide +kernel
theorem dL_law_1433 : decode cL_law 1433 = .ok (.iload 5, 2) := by decide +kernel
theorem dL_law_1435 : decode cL_law 1435 = .ok (.ifCond .ne 15, 3) := by decide +kernel
theorem dL_law_1438 : decode cL_law 1438 = .ok (.aload_n 3, 1) := by decide +kernel
theorem dL_law_1439 : decode cL_law 1439 = .ok (.iconst 0, 1) := by decide +kernel
theorem dL_law_1440 : decode cL_law 1440 = .ok (.laload, 1) := by decide +kernel
theorem dL_law_1441 : decode cL_law 1441 = .ok (.iload 6, 2) := by decide +kernel
theorem dL_law_1443 : decode cL_law 1443 = .ok (.i2l, 1) := by decide +kernel
theorem dL_law_1444 : decode cL_law 1444 = .ok (.lcmp, 1) := by decide +kernel
theorem dL_law_1445 : decode cL_law 1445 = .ok (.ifCond .eq 5, 3) := by decide +kernel
theorem dL_law_1448 : decode cL_law 1448 = .ok (.iconst 0, 1) := by decide +kernel
theorem dL_law_1449 : decode cL_law 1449 = .ok (.ireturn, 1) := by decide +kernel
theorem dL_law_1450 : decode cL_law 1450 = .ok (.goto 79, 3) := by decide +kernel
theorem dL_law_1453 : decode cL_law 1453 = .ok (.aload_n 1, 1) := by decide +kernel
theorem dL_law_1454 : decode cL_law 1454 = .ok (.aload_n 0, 1) := by decide +kernel
theorem dL_law_1455 : decode cL_law 1455 = .ok (.iload 4, 2) := by decide +kernel
theorem dL_law_1457 : decode cL_law 1457 = .ok (.iconst 1, 1) := by decide +kernel
theorem dL_law_1458 : decode cL_law 1458 = .ok (.iadd, 1) := by decide +kernel
theorem dL_law_1459 : decode cL_law 1459 = .ok (.iaload, 1) := by decide +kernel
theorem dL_law_1460 : decode cL_law 1460 = .ok (.aload_n 3, 1) := by decide +kernel
theorem dL_law_1461 : decode cL_law 1461 = .ok (.invokestatic 161, 3) := by decide +kernel
theorem dL_law_1464 : decode cL_law 1464 = .ok (.istore 5, 2) := by decide +kernel
theorem dL_law_1466 : decode cL_law 1466 = .ok (.aload_n 2, 1) := by decide +kernel
theorem dL_law_1467 : decode cL_law 1467 = .ok (.aload_n 0, 1) := by decide +kernel
theorem dL_law_1468 : decode cL_law 1468 = .ok (.iload 4, 2) := by decide +kernel
theorem dL_law_1470 : decode cL_law 1470 = .ok (.iconst 1, 1) := by decide +kernel
theorem dL_law_1471 : decode cL_law 1471 = .ok (.iadd, 1) := by decide +kernel
theorem dL_law_1472 : decode cL_law 1472 = .ok (.iaload, 1) := by decide +kernel
theorem dL_law_1473 : decode cL_law 1473 = .ok (.invokevirtual 163, 3) := by decide +kernel
theorem dL_law_1476 : decode cL_law 1476 = .ok (.istore 6, 2) := by decide +kernel
theorem dL_law_1478 : decode cL_law 1478 = .ok (.aload_n 2, 1) := by decide +kernel
theorem dL_law_1479 : decode cL_law 1479 = .ok (.invokevirtual 94, 3) := by decide +kernel
theorem dL_law_1482 : decode cL_law 1482 = .ok (.iload 5, 2) := by decide +kernel
theorem dL_law_1484 : decode cL_law 1484 = .ok (.if_icmp .eq 5, 3) := by decide +kernel
theorem dL_law_1487 : decode cL_law 1487 = .ok (.iconst 0, 1) := by decide +kernel
theorem dL_law_1488 : decode cL_law 1488 = .ok (.ireturn, 1) := by decide +kernel
theorem dL_law_1489 : decode cL_law 1489 = .ok (.iload 5, 2) := by decide +kernel
theorem dL_law_1491 : decode cL_law 1491 = .ok (.ifCond .ne 22, 3) := by decide +kernel
theorem dL_law_1494 : decode cL_law 1494 = .ok (.aload_n 3, 1) := by decide +kernel
theorem dL_law_1495 : decode cL_law 1495 = .ok (.iconst 0, 1) := by decide +kernel
theorem dL_law_1496 : decode cL_law 1496 = .ok (.laload, 1) := by decide +kernel
theorem dL_law_1497 : decode cL_law 1497 = .ok (.iload 6, 2) := by decide +kernel
theorem dL_law_1499 : decode cL_law 1499 = .ok (.ifCond .eq 7, 3) := by decide +kernel
theorem dL_law_1502 : decode cL_law 1502 = .ok (.lconst 1, 1) := by decide +kernel
theorem dL_law_1503 : decode cL_law 1503 = .ok (.goto 4, 3) := by decide +kernel
theorem dL_law_1506 : decode cL_law 1506 = .ok (.lconst 0, 1) := by decide +kernel
theorem dL_law_1507 : decode cL_law 1507 = .ok (.lcmp, 1) := by decide +kernel
theorem dL_law_1508 : decode cL_law 1508 = .ok (.ifCond .eq 5, 3) := by decide +kernel
theorem dL_law_1511 : decode cL_law 1511 = .ok (.iconst 0, 1) := by decide +kernel
theorem dL_law_1512 : decode cL_law 1512 = .ok (.ireturn, 1) := by decide +kernel
theorem dL_law_1513 : decode cL_law 1513 = .ok (.goto 16, 3) := by decide +kernel
theorem dL_law_1516 : decode cL_law 1516 = .ok (.aload_n 1, 1) := by decide +kernel
theorem dL_law_1517 : decode cL_law 1517 = .ok (.invokevirtual 164, 3) := by decide +kernel
theorem dL_law_1520 : decode cL_law 1520 = .ok (.aload_n 2, 1) := by decide +kernel
theorem dL_law_1521 : decode cL_law 1521 = .ok (.invokevirtual 167, 3) := by decide +kernel
theorem dL_law_1524 : decode cL_law 1524 = .ok (.if_icmp .eq 5, 3) := by decide +kernel
theorem dL_law_1527 : decode cL_law 1527 = .ok (.iconst 0, 1) := by decide +kernel
theorem dL_law_1528 : decode cL_law 1528 = .ok (.ireturn, 1) := by decide +kernel
theorem dL_law_1529 : decode cL_law 1529 = .ok (.iinc 4 5, 3) := by decide +kernel
theorem dL_law_1532 : decode cL_law 1532 = .ok (.goto (-1509), 3) := by decide +kernel
theorem dL_law_1535 : decode cL_law 1535 = .ok (.iconst 1, 1) := by decide +kernel
theorem dL_law_1536 : decode cL_law 1536 = .ok (.ireturn, 1) := by decide +kernel
end
section
/-! ===== an abstract machine over the kit's rows: objects are roles (numbers), their contents are functions ===== -/
def am_TG : List Cond := lw_tbl.filter goodWord
theorem am_good : ∀ w ∈ am_TG, goodWord w = true := fun w h => (List.mem_filter.mp h).2
theorem am_inTG {w : Cond} (h : w ∈ lw_tbl) (g : goodWord w = true) : w ∈ am_TG := List.mem_filter.mpr ⟨h, g⟩
def am_isB : Cond → Bool
  | .methodLinkNest .. | .fieldLinkNest .. | .castable .. | .declares .. | .arrayOver (.object _) => true
  | _ => false
def am_bw : List Cond := lw_tbl.filter am_isB
theorem am_inB {w : Cond} (h : w ∈ lw_tbl) (g : am_isB w = true) : w ∈ am_bw := List.mem_filter.mpr ⟨h, g⟩
/-- kinds, lengths, ints, references, longs, by role and place -/
abbrev am_H : Type := (Nat → Nat) × (Nat → Nat) × (Nat → Nat → Int32) × (Nat → Nat → Nat) × (Nat → Nat → Int64)
def hk_ (h : am_H) (r : Nat) : Nat := h.1 r
def hn_ (h : am_H) (r : Nat) : Nat := h.2.1 r
def hi_ (h : am_H) (r k : Nat) : Int32 := h.2.2.1 r k
def hr_ (h : am_H) (r k : Nat) : Nat := h.2.2.2.1 r k
def hl_ (h : am_H) (r k : Nat) : Int64 := h.2.2.2.2 r k
def am_u2 {α : Type} (f : Nat → Nat → α) (r k : Nat) (x : α) : Nat → Nat → α := fun a b => if a = r ∧ b = k then x else f a b
def am_u1 {α : Type} (f : Nat → α) (r : Nat) (x : α) : Nat → α := fun a => if a = r then x else f a
def am_sI (h : am_H) (r k : Nat) (x : Int32) : am_H := (h.1, h.2.1, am_u2 h.2.2.1 r k x, h.2.2.2.1, h.2.2.2.2)
def am_sR (h : am_H) (r k : Nat) (x : Nat) : am_H := (h.1, h.2.1, h.2.2.1, am_u2 h.2.2.2.1 r k x, h.2.2.2.2)
def am_sL (h : am_H) (r k : Nat) (x : Int64) : am_H := (h.1, h.2.1, h.2.2.1, h.2.2.2.1, am_u2 h.2.2.2.2 r k x)
/-- a fresh thing of kind k and length n, all its places 0 and null -/
def am_new (h : am_H) (r k n : Nat) : am_H := (am_u1 h.1 r k, am_u1 h.2.1 r n, am_u1 h.2.2.1 r (fun _ => 0), am_u1 h.2.2.2.1 r (fun _ => 0), am_u1 h.2.2.2.2 r (fun _ => 0))
theorem hk_sI (h : am_H) (r k : Nat) (x : Int32) (a : Nat) : hk_ (am_sI h r k x) a = hk_ h a := rfl
theorem hk_sR (h : am_H) (r k : Nat) (x : Nat) (a : Nat) : hk_ (am_sR h r k x) a = hk_ h a := rfl
theorem hk_sL (h : am_H) (r k : Nat) (x : Int64) (a : Nat) : hk_ (am_sL h r k x) a = hk_ h a := rfl
theorem hn_sI (h : am_H) (r k : Nat) (x : Int32) (a : Nat) : hn_ (am_sI h r k x) a = hn_ h a := rfl
theorem hn_sR (h : am_H) (r k : Nat) (x : Nat) (a : Nat) : hn_ (am_sR h r k x) a = hn_ h a := rfl
theorem hn_sL (h : am_H) (r k : Nat) (x : Int64) (a : Nat) : hn_ (am_sL h r k x) a = hn_ h a := rfl
theorem hi_sI (h : am_H) (r k : Nat) (x : Int32) (a b : Nat) : hi_ (am_sI h r k x) a b = if a = r ∧ b = k then x else hi_ h a b := rfl
theorem hi_sR (h : am_H) (r k : Nat) (x : Nat) (a b : Nat) : hi_ (am_sR h r k x) a b = hi_ h a b := rfl
theorem hi_sL (h : am_H) (r k : Nat) (x : Int64) (a b : Nat) : hi_ (am_sL h r k x) a b = hi_ h a b := rfl
theorem hr_sI (h : am_H) (r k : Nat) (x : Int32) (a b : Nat) : hr_ (am_sI h r k x) a b = hr_ h a b := rfl
theorem hr_sR (h : am_H) (r k : Nat) (x : Nat) (a b : Nat) : hr_ (am_sR h r k x) a b = if a = r ∧ b = k then x else hr_ h a b := rfl
theorem hr_sL (h : am_H) (r k : Nat) (x : Int64) (a b : Nat) : hr_ (am_sL h r k x) a b = hr_ h a b := rfl
theorem hl_sI (h : am_H) (r k : Nat) (x : Int32) (a b : Nat) : hl_ (am_sI h r k x) a b = hl_ h a b := rfl
theorem hl_sR (h : am_H) (r k : Nat) (x : Nat) (a b : Nat) : hl_ (am_sR h r k x) a b = hl_ h a b := rfl
theorem hl_sL (h : am_H) (r k : Nat) (x : Int64) (a b : Nat) : hl_ (am_sL h r k x) a b = if a = r ∧ b = k then x else hl_ h a b := rfl
theorem hk_new (h : am_H) (r k n a : Nat) : hk_ (am_new h r k n) a = if a = r then k else hk_ h a := rfl
theorem hn_new (h : am_H) (r k n a : Nat) : hn_ (am_new h r k n) a = if a = r then n else hn_ h a := rfl
theorem hi_new (h : am_H) (r k n a b : Nat) : hi_ (am_new h r k n) a b = if a = r then 0 else hi_ h a b := by
  show am_u1 h.2.2.1 r (fun _ => 0) a b = _
  unfold am_u1
  split <;> rfl
theorem hr_new (h : am_H) (r k n a b : Nat) : hr_ (am_new h r k n) a b = if a = r then 0 else hr_ h a b := by
  show am_u1 h.2.2.2.1 r (fun _ => 0) a b = _
  unfold am_u1
  split <;> rfl
theorem hl_new (h : am_H) (r k n a b : Nat) : hl_ (am_new h r k n) a b = if a = r then 0 else hl_ h a b := by
  show am_u1 h.2.2.2.2 r (fun _ => 0) a b = _
  unfold am_u1
  split <;> rfl
/-- an abstract value's concrete one: references are roles, 0 is null -/
def am_rv (ad : Nat → Nat) (r : Nat) : Value := if r = 0 then .null else .ref (ad r)
def am_cv (ad : Nat → Nat) : Value → Value
  | .ref r => am_rv ad r
  | v => v
def am_V (h : am_H) : Value → Prop
  | .ref r => r = 0 ∨ hk_ h r ≠ 0
  | _ => True
def am_Vs (h : am_H) (vs : List Value) : Prop := ∀ v ∈ vs, am_V h v
theorem am_Vc {h : am_H} {v : Value} {vs : List Value} (a : am_V h v) (b : am_Vs h vs) : am_Vs h (v :: vs) := fun w hw => (List.mem_cons.mp hw).elim (fun e => by rw [e]; exact a) (b w)
theorem am_Vh {h : am_H} {v : Value} {vs : List Value} (b : am_Vs h (v :: vs)) : am_V h v := b v List.mem_cons_self
theorem am_Vt {h : am_H} {v : Value} {vs : List Value} (b : am_Vs h (v :: vs)) : am_Vs h vs := fun w hw => b w (List.mem_cons_of_mem _ hw)
def am_s1 : Value → Bool
  | .int _ | .ref _ => true
  | _ => false
def am_ll (ad : Nat → Nat) : Nat → List Value → List (Nat × Value)
  | _, [] => []
  | i, v :: vs => if am_s1 v then (i, am_cv ad v) :: am_ll ad (i + 1) vs else am_ll ad (i + 1) vs
theorem am_ll_mem (ad : Nat → Nat) : ∀ (vs : List Value) (i : Nat) (q : Nat × Value), q ∈ am_ll ad i vs ↔ ∃ (k : Nat) (v : Value), vs[k]? = some v ∧ am_s1 v = true ∧ q = (i + k, am_cv ad v)
  | [], i, q => by simp [am_ll]
  | v :: vs, i, q => by
    have ih := am_ll_mem ad vs (i + 1) q
    unfold am_ll
    constructor
    · intro h
      by_cases hv : am_s1 v = true
      · rw [if_pos hv] at h
        rcases List.mem_cons.mp h with h | h
        · exact ⟨0, v, rfl, hv, h⟩
        · obtain ⟨k, w, h1, h2, h3⟩ := ih.mp h
          exact ⟨k + 1, w, by simpa using h1, h2, by rw [h3]; congr 1; omega⟩
      · rw [if_neg hv] at h
        obtain ⟨k, w, h1, h2, h3⟩ := ih.mp h
        exact ⟨k + 1, w, by simpa using h1, h2, by rw [h3]; congr 1; omega⟩
    · rintro ⟨k, w, h1, h2, h3⟩
      cases k with
      | zero =>
        simp at h1
        subst h1
        rw [if_pos h2, h3]
        exact List.mem_cons_self
      | succ k =>
        have : q ∈ am_ll ad (i + 1) vs := ih.mpr ⟨k, w, by simpa using h1, h2, by rw [h3]; congr 1; omega⟩
        split
        · exact List.mem_cons_of_mem _ this
        · exact this
def am_L (ad : Nat → Nat) (n : Nat) (ls : List Value) (lc : Array Slot) : Prop := lv_has lc n (am_ll ad 0 ls)
theorem am_L_at {ad : Nat → Nat} {n : Nat} {ls : List Value} {lc : Array Slot} (h : am_L ad n ls lc) {i : Nat} {v : Value} (hv : ls[i]? = some v) (h1 : am_s1 v = true) : lc[i]? = some (.val (am_cv ad v)) :=
  h.2.2 (i, am_cv ad v) ((am_ll_mem ad ls 0 _).mpr ⟨i, v, hv, h1, by rw [Nat.zero_add]⟩)
theorem am_cat (ad : Nat → Nat) {v : Value} (h : am_s1 v = true) : (am_cv ad v).category = 1 := by
  cases v with
  | int x => rfl
  | ref r =>
    show (am_rv ad r).category = 1
    unfold am_rv
    split <;> rfl
  | _ => cases h
theorem am_L_to {ad : Nat → Nat} {n : Nat} {ls : List Value} {lc : Array Slot} {l : List (Nat × Value)} (h : lv_has lc n l) (hs : ∀ (i : Nat) (v : Value), ls[i]? = some v → am_s1 v = true → (i, am_cv ad v) ∈ l) : am_L ad n ls lc := by
  refine ⟨h.1, h.2.1, fun q hq => ?_⟩
  obtain ⟨k, v, h1, h2, h3⟩ := (am_ll_mem ad ls 0 q).mp hq
  rw [h3, Nat.zero_add]
  exact h.2.2 _ (hs k v h1 h2)
theorem am_L_set {ad : Nat → Nat} {n : Nat} {ls : List Value} {lc' : Array Slot} {i : Nat} {v : Value} (h' : lv_has lc' n ((i, am_cv ad v) :: (am_ll ad 0 ls).filter (fun q => !(q.1 == i) && !(q.1 + 1 == i && q.2.category == 2)))) : am_L ad n (ls.set i v) lc' := by
  refine am_L_to h' (fun j w hw h1 => ?_)
  by_cases hj : i = j
  · subst hj
    rw [List.getElem?_set] at hw
    simp only [if_true] at hw
    split at hw
    · cases hw
      exact List.mem_cons_self
    · cases hw
  · rw [List.getElem?_set_ne hj] at hw
    refine List.mem_cons_of_mem _ (List.mem_filter.mpr ⟨(am_ll_mem ad ls 0 _).mpr ⟨j, w, hw, h1, by rw [Nat.zero_add]⟩, ?_⟩)
    have hc := am_cat ad h1
    have h2 : (j == i) = false := by simpa using Ne.symm hj
    simp [h2, hc]
theorem am_Vset {h : am_H} {ls : List Value} {i : Nat} {v : Value} (hl : am_Vs h ls) (hv : am_V h v) : am_Vs h (ls.set i v) := by
  intro w hw
  rcases List.mem_or_eq_of_mem_set hw with h1 | h1
  · exact hl w h1
  · rw [h1]; exact hv
/-- addresses change, where the roles that occur don't -/
theorem am_cv_eq {h : am_H} {ad ad' : Nat → Nat} (he : ∀ r, hk_ h r ≠ 0 → ad' r = ad r) {v : Value} (hv : am_V h v) : am_cv ad' v = am_cv ad v := by
  cases v with
  | ref r =>
    show am_rv ad' r = am_rv ad r
    unfold am_rv
    rcases hv with hv | hv
    · rw [if_pos hv, if_pos hv]
    · rw [he r hv]
  | _ => rfl
theorem am_L_ad {h : am_H} {ad ad' : Nat → Nat} (he : ∀ r, hk_ h r ≠ 0 → ad' r = ad r) {n : Nat} {ls : List Value} {lc : Array Slot} (hL : am_L ad n ls lc) (hv : am_Vs h ls) : am_L ad' n ls lc := by
  refine am_L_to hL (fun i v h1 h2 => ?_)
  rw [am_cv_eq he (hv v (List.mem_of_getElem? h1))]
  exact (am_ll_mem ad ls 0 _).mpr ⟨i, v, h1, h2, by rw [Nat.zero_add]⟩
theorem am_map_ad {h : am_H} {ad ad' : Nat → Nat} (he : ∀ r, hk_ h r ≠ 0 → ad' r = ad r) : ∀ {vs : List Value}, am_Vs h vs → vs.map (am_cv ad') = vs.map (am_cv ad)
  | [], _ => rfl
  | v :: vs, hv => by
    rw [List.map_cons, List.map_cons, am_cv_eq he (am_Vh hv), am_map_ad he (am_Vt hv)]
theorem am_V_le {h h' : am_H} (hle : ∀ r, hk_ h r ≠ 0 → hk_ h' r = hk_ h r) {v : Value} (hv : am_V h v) : am_V h' v := by
  cases v with
  | ref r =>
    rcases hv with hv | hv
    · exact Or.inl hv
    · exact Or.inr (by rw [hle r hv]; exact hv)
  | _ => trivial
theorem am_Vs_le {h h' : am_H} (hle : ∀ r, hk_ h r ≠ 0 → hk_ h' r = hk_ h r) {vs : List Value} (hv : am_Vs h vs) : am_Vs h' vs := fun v hm => am_V_le hle (hv v hm)
/-! classes -/
abbrev am_cl : List vw_C := [(RJx4a65c, TJx4a65c, 3), (RX0, TX0, 5), (RX1, TX1, 4), (RX2, TX2, 2), (RX3, TX3, 3), (RX4, TX4, 2), (RX5, TX5, 4), (RX6, TX6, 20)]
/-- is a class's field an int: kinds 1 to 8 are the classes of am_cl -/
def am_fi (k j : Nat) : Bool := match k with
  | 1 => !(j == 1)
  | 2 => decide (3 ≤ j)
  | 5 => j == 2
  | 8 => j == 0 || j == 10 || j == 14 || j == 19
  | 9 => true
  | 10 => true
  | _ => false
def am_ty (ci : Nat) : Nat → FieldType := match ci with
  | 0 => tyJx4a65c
  | 1 => tyX0
  | 2 => tyX1
  | 3 => tyX2
  | 4 => tyX3
  | 5 => tyX4
  | 6 => tyX5
  | _ => tyX6
/-- what lies at a place -/
def am_F (h : am_H) (ad : Nat → Nat) (r j : Nat) : Value := if hk_ h r = 13 then .long (hl_ h r j) else if am_fi (hk_ h r) j = true then .int (hi_ h r j) else am_rv ad (hr_ h r j)
/-- where what lies: the classes' numbers and slots, the array classes, the line below which nothing changes, the empty table, the class object -/
abbrev am_G : Type := va_G × (Nat → ClassId) × Nat × Nat × Nat
def am_atk (G : am_G) (k n : Nat) (F : Nat → Value) (a : Addr) (H : Heap) : Prop :=
  (k = 14 ∨ k = 15) ∨ (9 ≤ k ∧ k ≤ 13 ∧ H[a]? = some (arrV (G.2.1 (k - 9)) n F)) ∨ (k ≤ 8 ∧ ∃ q : vw_C, am_cl[k - 1]? = some q ∧ t_OB a (G.1.1 (k - 1)) q.2.2 (G.1.2 (k - 1)) H F)
theorem am_atk_kept {G : am_G} {k n : Nat} {F : Nat → Value} {a : Addr} {H H' : Heap} (h : am_atk G k n F a H) (oq : H'[a]? = H[a]?) : am_atk G k n F a H' := by
  rcases h with h | ⟨h1, h2, h3⟩ | ⟨h1, q, h2, h3⟩
  · exact Or.inl h
  · exact Or.inr (Or.inl ⟨h1, h2, oq.trans h3⟩)
  · exact Or.inr (Or.inr ⟨h1, q, h2, h3.kept oq⟩)
def am_at (G : am_G) (h : am_H) (ad : Nat → Nat) (r : Nat) (H : Heap) : Prop := am_atk G (hk_ h r) (hn_ h r) (am_F h ad r) (ad r) H
def am_A (G : am_G) (h : am_H) (ad : Nat → Nat) (H : Heap) : Prop :=
  (hk_ h 0 = 0 ∧ hk_ h 1 = 14 ∧ hk_ h 2 = 15 ∧ hn_ h 1 = 0 ∧ ad 1 = G.2.2.2.1 ∧ ad 2 = G.2.2.2.2) ∧
  (∀ r, hk_ h r ≠ 0 → am_at G h ad r H) ∧
  (∀ r, hk_ h r ≠ 0 → r = 1 ∨ r = 2 ∨ (G.2.2.1 ≤ ad r ∧ ad r < H.size ∧ hk_ h r < 14)) ∧
  (∀ r q, hk_ h r ≠ 0 → hk_ h q ≠ 0 → r ≠ 2 → q ≠ 2 → ad r = ad q → r = q) ∧
  (∀ r k, hk_ h r ≠ 0 → hr_ h r k = 0 ∨ hk_ h (hr_ h r k) ≠ 0)
def am_le (h h' : am_H) : Prop := ∀ r, hk_ h r ≠ 0 → hk_ h' r = hk_ h r ∧ hn_ h' r = hn_ h r
def am_X (h : am_H) (ad : Nat → Nat) (h' : am_H) (ad' : Nat → Nat) : Prop := am_le h h' ∧ ∀ r, hk_ h r ≠ 0 → ad' r = ad r
theorem am_le_rf (h : am_H) : am_le h h := fun _ _ => ⟨rfl, rfl⟩
theorem am_le_tr {a b c : am_H} (h1 : am_le a b) (h2 : am_le b c) : am_le a c := fun r hr => by
  obtain ⟨e1, e2⟩ := h1 r hr
  obtain ⟨e3, e4⟩ := h2 r (by rw [e1]; exact hr)
  exact ⟨e3.trans e1, e4.trans e2⟩
theorem am_X_tr {a b c : am_H} {x y z : Nat → Nat} (h1 : am_X a x b y) (h2 : am_X b y c z) : am_X a x c z := ⟨am_le_tr h1.1 h2.1, fun r hr => (h2.2 r (by rw [(h1.1 r hr).1]; exact hr)).trans (h1.2 r hr)⟩
theorem am_X_rf (a : am_H) (x : Nat → Nat) : am_X a x a x := ⟨am_le_rf a, fun _ _ => rfl⟩
/-- the array classes -/
abbrev am_tys (G : am_G) : List (ClassId × FieldType) := [(G.2.1 0, .int), (G.2.1 1, .boolean), (G.2.1 2, .object "HousePlans$Drawing"), (G.2.1 3, .object "java/lang/Object"), (G.2.1 4, .long)]
def am_nc : List (String × String) := [("java/lang/IllegalArgumentException", "java/lang/IndexOutOfBoundsException"), ("java/lang/IllegalStateException", "java/lang/IndexOutOfBoundsException"), ("java/lang/IllegalStateException", "java/lang/IllegalArgumentException")]
abbrev am_lo (G : am_G) : Nat → Prop := fun q => G.2.2.1 ≤ q
/-- what stands around every method: the tables' words that aren't in its own list, the classes, the statics -/
def am_E (G : am_G) (s : State) : Prop :=
  (∀ w ∈ am_bw, va_Nw w s) ∧ ((∀ q : String × Nat × String, Cond.stringRef q.1 q.2.1 q.2.2 ∈ lw_tbl → ∃ a, vk_R q.1 q.2.1 q.2.2 a s) ∧ ∀ q ∈ am_nc, va_Nc q.1 q.2 s) ∧ va_K G.1 am_cl (am_tys G) s ∧
  vx_Zq Bundle.tN "UNASSIGNED_STACK" Bundle.steD (am_lo G) s s.heap ∧ vx_Zq Bundle.tN "SUPPRESSED_SENTINEL" Bundle.listD (am_lo G) s s.heap ∧
  va_Z "java/util/ArrayList" "DEFAULTCAPACITY_EMPTY_ELEMENTDATA" "[Ljava/lang/Object;" (.ref G.2.2.2.1) (am_lo G) s s.heap ∧ (∃ f, va_T (.object "java/lang/Object") G.2.2.2.1 0 f (am_lo G) s s.heap) ∧ va_Mi "[Ljava/lang/Object;" G.2.2.2.2 s ∧ G.2.2.1 ≤ s.heap.size
theorem am_bw_warm {w : Cond} (hw : w ∈ am_bw) {s U : State} (hW : s.WarmedH U.vm) (h : va_Nw w s) : va_Nw w U := by
  have hb := (List.mem_filter.mp hw).2
  cases w with
  | methodLinkNest a i x h' => exact va_Nw.warmM hW h
  | fieldLinkNest a i b n d h' => exact va_Nw.warmF hW h
  | castable a b => exact va_Nw.warmC hW h
  | declares x => exact va_tabs rfl (rfl : (s.setVm U.vm).vm = U.vm) (by rw [Cond.declares_setVm hW.alike]; exact h)
  | arrayOver t => cases t with
    | object C => exact va_AO.moved hW.alike h
    | _ => cases hb
  | _ => cases hb
theorem am_E_moved {G : am_G} {s U : State} (hW : s.WarmedH U.vm) (hz : s.heap.size ≤ U.heap.size) (hq : ∀ a : Nat, a < s.heap.size → ¬ am_lo G a → U.heap[a]? = s.heap[a]?) (h : am_E G s) : am_E G U := by
  obtain ⟨h1, ⟨h2, h2'⟩, h3, h4, h5, h6, ⟨f, h7⟩, h8, h9⟩ := h
  exact ⟨fun w hw => am_bw_warm hw hW (h1 w hw), ⟨fun q hq => by
    obtain ⟨a, ha⟩ := h2 q hq
    exact ⟨a, vk_R.warm hW ha⟩, fun q hq => va_Nc.moved hW.alike (h2' q hq)⟩, va_K.moved hW.alike h3, (vx_Zq.moved hW.alike h4).kept hq, (vx_Zq.moved hW.alike h5).kept hq, (va_Z.moved hW.alike h6).kept hq, ⟨f, (va_T.moved hW.alike h7).kept hq⟩, va_Mi.moved hW.alike h8, Nat.le_trans h9 hz⟩
abbrev am_Z : Type := am_G × Program × Launch × Env × Room × State × MethodId × Array Value × List Frame × Method × Code × am_H × (Nat → Nat) × Nat × (State → Prop)
/-- the machine, at pc with these locals and this stack over this heap, comes to its end -/
def am_W (Z : am_Z) (kc ks pc : Nat) (ls st : List Value) (h : am_H) : Prop := match Z with
  | (G, p, l, e, R, s, m, args, below, meth, c, h0, ad0, n, Q) => ∀ (ad : Nat → Nat) (H : Heap) (locs : List Loc) (lc : Array Slot), am_A G h ad H → va_S (am_lo G) s.heap H locs → am_X h0 ad0 h ad → am_L ad n ls lc → am_Vs h ls → am_Vs h st →
    W p l e R s m args below meth c H locs kc ks Q (F0 m pc lc (st.map (am_cv ad)))
/-- an exception of class E flies at pc -/
def am_WX (Z : am_Z) (kc ks pc : Nat) (ls st : List Value) (h : am_H) (E : String) : Prop := match Z with
  | (G, p, l, e, R, s, m, args, below, meth, c, h0, ad0, n, Q) => ∀ (ad : Nat → Nat) (H : Heap) (locs : List Loc) (lc : Array Slot) (q : Addr) (ce : Cell), am_A G h ad H → va_S (am_lo G) s.heap H locs → am_X h0 ad0 h ad → am_L ad n ls lc → am_Vs h ls → am_Vs h st →
    H[q]? = some ce → ce.vm = .none → s.vm.findClass E = some ce.cls → vx_W p l e R s m args below meth c H locs kc ks Q (F0 m pc lc (st.map (am_cv ad))) q
def am_OK (Z : am_Z) (own : String) (cc : ByteArray) (n L mc ms : Nat) : Prop := match Z with
  | (G, p, l, _, R, s, m, args, _, meth, c, _, _, n', _) => n' = n ∧ CallFix p m c cc n s args am_TG own ∧ meth.locks = false ∧ am_E G s ∧ l.stackTraces = false ∧ L ≤ R.frames ∧ 100 * L ≤ R.locals ∧ mc ≤ R.cells ∧ ms ≤ R.slots
end
section
theorem am_iconst {Z : am_Z} {own : String} {cc : ByteArray} {n L mc ms : Nat} (hC : am_OK Z own cc n L mc ms) {kc ks pc : Nat} {ls st : List Value} {h : am_H} {a : Int} {v : Int32} (hd : decode cc pc = .ok (.iconst a, 1)) (hv : Int32.ofInt a = v) (k : am_W Z kc ks (pc + 1) ls (.int v :: st) h) : am_W Z kc ks pc ls st h := by
  obtain ⟨G, p, l, e, R, s, m, args, below, meth, c, h0, ad0, n', Q⟩ := Z
  obtain ⟨rfl, ⟨hx, hb, hml, hown, hts⟩, hlk, hE, htr, hR1, hR2, hR3, hR4⟩ := hC
  refine fun ad H locs lc hA hS hX hl hvl hvs => ?_
  exact lv_iconst hx hb hd hv (k ad H locs lc hA hS hX hl hvl (am_Vc trivial hvs))
theorem am_bipush {Z : am_Z} {own : String} {cc : ByteArray} {n L mc ms : Nat} (hC : am_OK Z own cc n L mc ms) {kc ks pc : Nat} {ls st : List Value} {h : am_H} {a : Int} {v : Int32} (hd : decode cc pc = .ok (.bipush a, 2)) (hv : (Int8.ofInt a).toInt32 = v) (k : am_W Z kc ks (pc + 2) ls (.int v :: st) h) : am_W Z kc ks pc ls st h := by
  obtain ⟨G, p, l, e, R, s, m, args, below, meth, c, h0, ad0, n', Q⟩ := Z
  obtain ⟨rfl, ⟨hx, hb, hml, hown, hts⟩, hlk, hE, htr, hR1, hR2, hR3, hR4⟩ := hC
  refine fun ad H locs lc hA hS hX hl hvl hvs => ?_
  exact lv_bipush hx hb hd hv (k ad H locs lc hA hS hX hl hvl (am_Vc trivial hvs))
theorem am_sipush {Z : am_Z} {own : String} {cc : ByteArray} {n L mc ms : Nat} (hC : am_OK Z own cc n L mc ms) {kc ks pc : Nat} {ls st : List Value} {h : am_H} {a : Int} {v : Int32} (hd : decode cc pc = .ok (.sipush a, 3)) (hv : (Int16.ofInt a).toInt32 = v) (k : am_W Z kc ks (pc + 3) ls (.int v :: st) h) : am_W Z kc ks pc ls st h := by
  obtain ⟨G, p, l, e, R, s, m, args, below, meth, c, h0, ad0, n', Q⟩ := Z
  obtain ⟨rfl, ⟨hx, hb, hml, hown, hts⟩, hlk, hE, htr, hR1, hR2, hR3, hR4⟩ := hC
  refine fun ad H locs lc hA hS hX hl hvl hvs => ?_
  exact lv_sipush hx hb hd hv (k ad H locs lc hA hS hX hl hvl (am_Vc trivial hvs))
theorem am_lconst {Z : am_Z} {own : String} {cc : ByteArray} {n L mc ms : Nat} (hC : am_OK Z own cc n L mc ms) {kc ks pc : Nat} {ls st : List Value} {h : am_H} {a : Fin 2} {v : Int64} (hd : decode cc pc = .ok (.lconst a, 1)) (hv : Int64.ofNat (a : Nat) = v) (k : am_W Z kc ks (pc + 1) ls (.long v :: st) h) : am_W Z kc ks pc ls st h := by
  obtain ⟨G, p, l, e, R, s, m, args, below, meth, c, h0, ad0, n', Q⟩ := Z
  obtain ⟨rfl, ⟨hx, hb, hml, hown, hts⟩, hlk, hE, htr, hR1, hR2, hR3, hR4⟩ := hC
  refine fun ad H locs lc hA hS hX hl hvl hvs => ?_
  exact lv_lconst hx hb hd hv (k ad H locs lc hA hS hX hl hvl (am_Vc trivial hvs))
theorem am_anull {Z : am_Z} {own : String} {cc : ByteArray} {n L mc ms : Nat} (hC : am_OK Z own cc n L mc ms) {kc ks pc : Nat} {ls st : List Value} {h : am_H} (hd : decode cc pc = .ok (.aconst_null, 1)) (k : am_W Z kc ks (pc + 1) ls (.ref 0 :: st) h) : am_W Z kc ks pc ls st h := by
  obtain ⟨G, p, l, e, R, s, m, args, below, meth, c, h0, ad0, n', Q⟩ := Z
  obtain ⟨rfl, ⟨hx, hb, hml, hown, hts⟩, hlk, hE, htr, hR1, hR2, hR3, hR4⟩ := hC
  refine fun ad H locs lc hA hS hX hl hvl hvs => ?_
  exact lv_null hx hb hd (k ad H locs lc hA hS hX hl hvl (am_Vc (Or.inl rfl) hvs))
theorem am_ldcI {Z : am_Z} {own : String} {cc : ByteArray} {n L mc ms : Nat} (hC : am_OK Z own cc n L mc ms) {kc ks pc : Nat} {ls st : List Value} {h : am_H} {ix : Nat} {v : Int32} (hw : Cond.constant own ix v ∈ am_TG) (hd : decode cc pc = .ok (.ldc ix, 2)) (k : am_W Z kc ks (pc + 2) ls (.int v :: st) h) : am_W Z kc ks pc ls st h := by
  obtain ⟨G, p, l, e, R, s, m, args, below, meth, c, h0, ad0, n', Q⟩ := Z
  obtain ⟨rfl, ⟨hx, hb, hml, hown, hts⟩, hlk, hE, htr, hR1, hR2, hR3, hR4⟩ := hC
  refine fun ad H locs lc hA hS hX hl hvl hvs => ?_
  exact lv_ldc hx hb hown (hts _ hw) hd (k ad H locs lc hA hS hX hl hvl (am_Vc trivial hvs))
theorem am_iload {Z : am_Z} {own : String} {cc : ByteArray} {n L mc ms : Nat} (hC : am_OK Z own cc n L mc ms) {kc ks pc : Nat} {ls st : List Value} {h : am_H} {i : Nat} {x : Int32} (hd : decode cc pc = .ok (.iload i, 2)) (hv : ls[i]? = some (.int x)) (k : am_W Z kc ks (pc + 2) ls (.int x :: st) h) : am_W Z kc ks pc ls st h := by
  obtain ⟨G, p, l, e, R, s, m, args, below, meth, c, h0, ad0, n', Q⟩ := Z
  obtain ⟨rfl, ⟨hx, hb, hml, hown, hts⟩, hlk, hE, htr, hR1, hR2, hR3, hR4⟩ := hC
  refine fun ad H locs lc hA hS hX hl hvl hvs => ?_
  exact lv_iload hx hb hd (am_L_at hl hv rfl) (k ad H locs lc hA hS hX hl hvl (am_Vc trivial hvs))
theorem am_iload_n {Z : am_Z} {own : String} {cc : ByteArray} {n L mc ms : Nat} (hC : am_OK Z own cc n L mc ms) {kc ks pc : Nat} {ls st : List Value} {h : am_H} {i : Fin 4} {x : Int32} (hd : decode cc pc = .ok (.iload_n i, 1)) (hv : ls[(i : Nat)]? = some (.int x)) (k : am_W Z kc ks (pc + 1) ls (.int x :: st) h) : am_W Z kc ks pc ls st h := by
  obtain ⟨G, p, l, e, R, s, m, args, below, meth, c, h0, ad0, n', Q⟩ := Z
  obtain ⟨rfl, ⟨hx, hb, hml, hown, hts⟩, hlk, hE, htr, hR1, hR2, hR3, hR4⟩ := hC
  refine fun ad H locs lc hA hS hX hl hvl hvs => ?_
  exact lv_iload_n hx hb hd rfl (am_L_at hl hv rfl) (k ad H locs lc hA hS hX hl hvl (am_Vc trivial hvs))
theorem am_aload {Z : am_Z} {own : String} {cc : ByteArray} {n L mc ms : Nat} (hC : am_OK Z own cc n L mc ms) {kc ks pc : Nat} {ls st : List Value} {h : am_H} {i : Nat} {x : Nat} (hd : decode cc pc = .ok (.aload i, 2)) (hv : ls[i]? = some (.ref x)) (k : am_W Z kc ks (pc + 2) ls (.ref x :: st) h) : am_W Z kc ks pc ls st h := by
  obtain ⟨G, p, l, e, R, s, m, args, below, meth, c, h0, ad0, n', Q⟩ := Z
  obtain ⟨rfl, ⟨hx, hb, hml, hown, hts⟩, hlk, hE, htr, hR1, hR2, hR3, hR4⟩ := hC
  refine fun ad H locs lc hA hS hX hl hvl hvs => ?_
  have hm : am_V h (.ref x) := hvl _ (List.mem_of_getElem? hv)
  have k9 := k ad H locs lc hA hS hX hl hvl (am_Vc hm hvs)
  have hc : lc[(i : Nat)]? = some (Slot.val (am_rv ad x)) := am_L_at hl hv rfl
  rw [List.map_cons] at k9
  change W p l e R s m args below meth c H locs kc ks Q (F0 m _ lc (am_rv ad x :: _)) at k9
  unfold am_rv at k9 hc
  by_cases hz : x = 0
  · rw [if_pos hz] at k9 hc
    exact lv_aloadN hx hb hd hc k9
  · rw [if_neg hz] at k9 hc
    exact lv_aload hx hb hd hc k9
theorem am_aload_n {Z : am_Z} {own : String} {cc : ByteArray} {n L mc ms : Nat} (hC : am_OK Z own cc n L mc ms) {kc ks pc : Nat} {ls st : List Value} {h : am_H} {i : Fin 4} {x : Nat} (hd : decode cc pc = .ok (.aload_n i, 1)) (hv : ls[(i : Nat)]? = some (.ref x)) (k : am_W Z kc ks (pc + 1) ls (.ref x :: st) h) : am_W Z kc ks pc ls st h := by
  obtain ⟨G, p, l, e, R, s, m, args, below, meth, c, h0, ad0, n', Q⟩ := Z
  obtain ⟨rfl, ⟨hx, hb, hml, hown, hts⟩, hlk, hE, htr, hR1, hR2, hR3, hR4⟩ := hC
  refine fun ad H locs lc hA hS hX hl hvl hvs => ?_
  have hm : am_V h (.ref x) := hvl _ (List.mem_of_getElem? hv)
  have k9 := k ad H locs lc hA hS hX hl hvl (am_Vc hm hvs)
  have hc : lc[(i : Nat)]? = some (Slot.val (am_rv ad x)) := am_L_at hl hv rfl
  rw [List.map_cons] at k9
  change W p l e R s m args below meth c H locs kc ks Q (F0 m _ lc (am_rv ad x :: _)) at k9
  unfold am_rv at k9 hc
  by_cases hz : x = 0
  · rw [if_pos hz] at k9 hc
    exact lv_aload_nN hx hb hd rfl hc k9
  · rw [if_neg hz] at k9 hc
    exact lv_aload_n hx hb hd rfl hc k9
theorem am_istore {Z : am_Z} {own : String} {cc : ByteArray} {n L mc ms : Nat} (hC : am_OK Z own cc n L mc ms) {kc ks pc : Nat} {ls st : List Value} {h : am_H} {i : Nat} {x : Int32} (hd : decode cc pc = .ok (.istore i, 2)) (hi : i < n) (k : am_W Z kc ks (pc + 2) (ls.set i (.int x)) st h) : am_W Z kc ks pc ls (.int x :: st) h := by
  obtain ⟨G, p, l, e, R, s, m, args, below, meth, c, h0, ad0, n', Q⟩ := Z
  obtain ⟨rfl, ⟨hx, hb, hml, hown, hts⟩, hlk, hE, htr, hR1, hR2, hR3, hR4⟩ := hC
  refine fun ad H locs lc hA hS hX hl hvl hvs => ?_
  exact lv_istore hx hb hd hl hi rfl (fun lc' hl' => k ad H locs lc' hA hS hX (am_L_set (v := .int x) hl') (am_Vset hvl trivial) (am_Vt hvs))
theorem am_istore_n {Z : am_Z} {own : String} {cc : ByteArray} {n L mc ms : Nat} (hC : am_OK Z own cc n L mc ms) {kc ks pc : Nat} {ls st : List Value} {h : am_H} {i : Fin 4} {x : Int32} (hd : decode cc pc = .ok (.istore_n i, 1)) (hi : (i : Nat) < n) (k : am_W Z kc ks (pc + 1) (ls.set i (.int x)) st h) : am_W Z kc ks pc ls (.int x :: st) h := by
  obtain ⟨G, p, l, e, R, s, m, args, below, meth, c, h0, ad0, n', Q⟩ := Z
  obtain ⟨rfl, ⟨hx, hb, hml, hown, hts⟩, hlk, hE, htr, hR1, hR2, hR3, hR4⟩ := hC
  refine fun ad H locs lc hA hS hX hl hvl hvs => ?_
  exact lv_istore_n hx hb hd rfl hl hi rfl (fun lc' hl' => k ad H locs lc' hA hS hX (am_L_set (v := .int x) hl') (am_Vset hvl trivial) (am_Vt hvs))
theorem am_astore {Z : am_Z} {own : String} {cc : ByteArray} {n L mc ms : Nat} (hC : am_OK Z own cc n L mc ms) {kc ks pc : Nat} {ls st : List Value} {h : am_H} {i : Nat} {x : Nat} (hd : decode cc pc = .ok (.astore i, 2)) (hi : i < n) (k : am_W Z kc ks (pc + 2) (ls.set i (.ref x)) st h) : am_W Z kc ks pc ls (.ref x :: st) h := by
  obtain ⟨G, p, l, e, R, s, m, args, below, meth, c, h0, ad0, n', Q⟩ := Z
  obtain ⟨rfl, ⟨hx, hb, hml, hown, hts⟩, hlk, hE, htr, hR1, hR2, hR3, hR4⟩ := hC
  refine fun ad H locs lc hA hS hX hl hvl hvs => ?_
  have k9 := fun lc' hl' => k ad H locs lc' hA hS hX (am_L_set (v := .ref x) hl') (am_Vset hvl (am_Vh hvs)) (am_Vt hvs)
  change W p l e R s m args below meth c H locs kc ks Q (F0 m _ lc (am_rv ad x :: _))
  change ∀ lc' : Array Slot, lv_has lc' n' (((i : Nat), am_rv ad x) :: _) → _ at k9
  unfold am_rv at k9 ⊢
  by_cases hz : x = 0
  · rw [if_pos hz] at k9 ⊢
    exact lv_astoreN hx hb hd hl hi rfl k9
  · rw [if_neg hz] at k9 ⊢
    exact lv_astore hx hb hd hl hi rfl k9
theorem am_astore_n {Z : am_Z} {own : String} {cc : ByteArray} {n L mc ms : Nat} (hC : am_OK Z own cc n L mc ms) {kc ks pc : Nat} {ls st : List Value} {h : am_H} {i : Fin 4} {x : Nat} (hd : decode cc pc = .ok (.astore_n i, 1)) (hi : (i : Nat) < n) (k : am_W Z kc ks (pc + 1) (ls.set i (.ref x)) st h) : am_W Z kc ks pc ls (.ref x :: st) h := by
  obtain ⟨G, p, l, e, R, s, m, args, below, meth, c, h0, ad0, n', Q⟩ := Z
  obtain ⟨rfl, ⟨hx, hb, hml, hown, hts⟩, hlk, hE, htr, hR1, hR2, hR3, hR4⟩ := hC
  refine fun ad H locs lc hA hS hX hl hvl hvs => ?_
  have k9 := fun lc' hl' => k ad H locs lc' hA hS hX (am_L_set (v := .ref x) hl') (am_Vset hvl (am_Vh hvs)) (am_Vt hvs)
  change W p l e R s m args below meth c H locs kc ks Q (F0 m _ lc (am_rv ad x :: _))
  change ∀ lc' : Array Slot, lv_has lc' n' (((i : Nat), am_rv ad x) :: _) → _ at k9
  unfold am_rv at k9 ⊢
  by_cases hz : x = 0
  · rw [if_pos hz] at k9 ⊢
    exact lv_astore_nN hx hb hd rfl hl hi rfl k9
  · rw [if_neg hz] at k9 ⊢
    exact lv_astore_n hx hb hd rfl hl hi rfl k9
theorem am_iinc {Z : am_Z} {own : String} {cc : ByteArray} {n L mc ms : Nat} (hC : am_OK Z own cc n L mc ms) {kc ks pc : Nat} {ls st : List Value} {h : am_H} {i : Nat} {a : Int} {x v : Int32} (hd : decode cc pc = .ok (.iinc i a, 3)) (hv : ls[i]? = some (.int x)) (hs : x + Int32.ofInt a = v) (hi : i < n) (k : am_W Z kc ks (pc + 3) (ls.set i (.int v)) st h) : am_W Z kc ks pc ls st h := by
  obtain ⟨G, p, l, e, R, s, m, args, below, meth, c, h0, ad0, n', Q⟩ := Z
  obtain ⟨rfl, ⟨hx, hb, hml, hown, hts⟩, hlk, hE, htr, hR1, hR2, hR3, hR4⟩ := hC
  refine fun ad H locs lc hA hS hX hl hvl hvs => ?_
  obtain ⟨k9, hk9⟩ := List.getElem?_of_mem ((am_ll_mem ad ls 0 (i, .int x)).mpr ⟨i, .int x, hv, rfl, by rw [Nat.zero_add]; rfl⟩)
  exact lv_iinc hx hb hd hl hk9 hs hi rfl (fun lc' hl' => k ad H locs lc' hA hS hX (am_L_set (v := .int v) hl') (am_Vset hvl trivial) hvs)
theorem am_iadd {Z : am_Z} {own : String} {cc : ByteArray} {n L mc ms : Nat} (hC : am_OK Z own cc n L mc ms) {kc ks pc : Nat} {ls st : List Value} {h : am_H} {x y : Int32} (hd : decode cc pc = .ok (.iadd, 1)) (k : am_W Z kc ks (pc + 1) ls (.int (x + y) :: st) h) : am_W Z kc ks pc ls (.int y :: .int x :: st) h := by
  obtain ⟨G, p, l, e, R, s, m, args, below, meth, c, h0, ad0, n', Q⟩ := Z
  obtain ⟨rfl, ⟨hx, hb, hml, hown, hts⟩, hlk, hE, htr, hR1, hR2, hR3, hR4⟩ := hC
  refine fun ad H locs lc hA hS hX hl hvl hvs => ?_
  exact lv_iadd hx hb hd (k ad H locs lc hA hS hX hl hvl (am_Vc trivial (am_Vt (am_Vt hvs))))
theorem am_isub {Z : am_Z} {own : String} {cc : ByteArray} {n L mc ms : Nat} (hC : am_OK Z own cc n L mc ms) {kc ks pc : Nat} {ls st : List Value} {h : am_H} {x y : Int32} (hd : decode cc pc = .ok (.isub, 1)) (k : am_W Z kc ks (pc + 1) ls (.int (x - y) :: st) h) : am_W Z kc ks pc ls (.int y :: .int x :: st) h := by
  obtain ⟨G, p, l, e, R, s, m, args, below, meth, c, h0, ad0, n', Q⟩ := Z
  obtain ⟨rfl, ⟨hx, hb, hml, hown, hts⟩, hlk, hE, htr, hR1, hR2, hR3, hR4⟩ := hC
  refine fun ad H locs lc hA hS hX hl hvl hvs => ?_
  exact lv_isub hx hb hd (k ad H locs lc hA hS hX hl hvl (am_Vc trivial (am_Vt (am_Vt hvs))))
theorem am_imul {Z : am_Z} {own : String} {cc : ByteArray} {n L mc ms : Nat} (hC : am_OK Z own cc n L mc ms) {kc ks pc : Nat} {ls st : List Value} {h : am_H} {x y : Int32} (hd : decode cc pc = .ok (.imul, 1)) (k : am_W Z kc ks (pc + 1) ls (.int (x * y) :: st) h) : am_W Z kc ks pc ls (.int y :: .int x :: st) h := by
  obtain ⟨G, p, l, e, R, s, m, args, below, meth, c, h0, ad0, n', Q⟩ := Z
  obtain ⟨rfl, ⟨hx, hb, hml, hown, hts⟩, hlk, hE, htr, hR1, hR2, hR3, hR4⟩ := hC
  refine fun ad H locs lc hA hS hX hl hvl hvs => ?_
  exact lv_imul hx hb hd (k ad H locs lc hA hS hX hl hvl (am_Vc trivial (am_Vt (am_Vt hvs))))
theorem am_iand {Z : am_Z} {own : String} {cc : ByteArray} {n L mc ms : Nat} (hC : am_OK Z own cc n L mc ms) {kc ks pc : Nat} {ls st : List Value} {h : am_H} {x y : Int32} (hd : decode cc pc = .ok (.iand, 1)) (k : am_W Z kc ks (pc + 1) ls (.int (x &&& y) :: st) h) : am_W Z kc ks pc ls (.int y :: .int x :: st) h := by
  obtain ⟨G, p, l, e, R, s, m, args, below, meth, c, h0, ad0, n', Q⟩ := Z
  obtain ⟨rfl, ⟨hx, hb, hml, hown, hts⟩, hlk, hE, htr, hR1, hR2, hR3, hR4⟩ := hC
  refine fun ad H locs lc hA hS hX hl hvl hvs => ?_
  exact lv_iand hx hb hd (k ad H locs lc hA hS hX hl hvl (am_Vc trivial (am_Vt (am_Vt hvs))))
theorem am_ior {Z : am_Z} {own : String} {cc : ByteArray} {n L mc ms : Nat} (hC : am_OK Z own cc n L mc ms) {kc ks pc : Nat} {ls st : List Value} {h : am_H} {x y : Int32} (hd : decode cc pc = .ok (.ior, 1)) (k : am_W Z kc ks (pc + 1) ls (.int (x ||| y) :: st) h) : am_W Z kc ks pc ls (.int y :: .int x :: st) h := by
  obtain ⟨G, p, l, e, R, s, m, args, below, meth, c, h0, ad0, n', Q⟩ := Z
  obtain ⟨rfl, ⟨hx, hb, hml, hown, hts⟩, hlk, hE, htr, hR1, hR2, hR3, hR4⟩ := hC
  refine fun ad H locs lc hA hS hX hl hvl hvs => ?_
  exact lv_ior hx hb hd (k ad H locs lc hA hS hX hl hvl (am_Vc trivial (am_Vt (am_Vt hvs))))
theorem am_ixor {Z : am_Z} {own : String} {cc : ByteArray} {n L mc ms : Nat} (hC : am_OK Z own cc n L mc ms) {kc ks pc : Nat} {ls st : List Value} {h : am_H} {x y : Int32} (hd : decode cc pc = .ok (.ixor, 1)) (k : am_W Z kc ks (pc + 1) ls (.int (x ^^^ y) :: st) h) : am_W Z kc ks pc ls (.int y :: .int x :: st) h := by
  obtain ⟨G, p, l, e, R, s, m, args, below, meth, c, h0, ad0, n', Q⟩ := Z
  obtain ⟨rfl, ⟨hx, hb, hml, hown, hts⟩, hlk, hE, htr, hR1, hR2, hR3, hR4⟩ := hC
  refine fun ad H locs lc hA hS hX hl hvl hvs => ?_
  exact lv_ixor hx hb hd (k ad H locs lc hA hS hX hl hvl (am_Vc trivial (am_Vt (am_Vt hvs))))
theorem am_ishl {Z : am_Z} {own : String} {cc : ByteArray} {n L mc ms : Nat} (hC : am_OK Z own cc n L mc ms) {kc ks pc : Nat} {ls st : List Value} {h : am_H} {x y : Int32} (hd : decode cc pc = .ok (.ishl, 1)) (k : am_W Z kc ks (pc + 1) ls (.int (x <<< (y &&& 31)) :: st) h) : am_W Z kc ks pc ls (.int y :: .int x :: st) h := by
  obtain ⟨G, p, l, e, R, s, m, args, below, meth, c, h0, ad0, n', Q⟩ := Z
  obtain ⟨rfl, ⟨hx, hb, hml, hown, hts⟩, hlk, hE, htr, hR1, hR2, hR3, hR4⟩ := hC
  refine fun ad H locs lc hA hS hX hl hvl hvs => ?_
  exact lv_ishl hx hb hd (k ad H locs lc hA hS hX hl hvl (am_Vc trivial (am_Vt (am_Vt hvs))))
theorem am_ishr {Z : am_Z} {own : String} {cc : ByteArray} {n L mc ms : Nat} (hC : am_OK Z own cc n L mc ms) {kc ks pc : Nat} {ls st : List Value} {h : am_H} {x y : Int32} (hd : decode cc pc = .ok (.ishr, 1)) (k : am_W Z kc ks (pc + 1) ls (.int (x >>> (y &&& 31)) :: st) h) : am_W Z kc ks pc ls (.int y :: .int x :: st) h := by
  obtain ⟨G, p, l, e, R, s, m, args, below, meth, c, h0, ad0, n', Q⟩ := Z
  obtain ⟨rfl, ⟨hx, hb, hml, hown, hts⟩, hlk, hE, htr, hR1, hR2, hR3, hR4⟩ := hC
  refine fun ad H locs lc hA hS hX hl hvl hvs => ?_
  exact lv_ishr hx hb hd (k ad H locs lc hA hS hX hl hvl (am_Vc trivial (am_Vt (am_Vt hvs))))
theorem am_idiv {Z : am_Z} {own : String} {cc : ByteArray} {n L mc ms : Nat} (hC : am_OK Z own cc n L mc ms) {kc ks pc : Nat} {ls st : List Value} {h : am_H} {x y : Int32} (hd : decode cc pc = .ok (.idiv, 1)) (hy : ¬ y = 0) (k : am_W Z kc ks (pc + 1) ls (.int (x / y) :: st) h) : am_W Z kc ks pc ls (.int y :: .int x :: st) h := by
  obtain ⟨G, p, l, e, R, s, m, args, below, meth, c, h0, ad0, n', Q⟩ := Z
  obtain ⟨rfl, ⟨hx, hb, hml, hown, hts⟩, hlk, hE, htr, hR1, hR2, hR3, hR4⟩ := hC
  refine fun ad H locs lc hA hS hX hl hvl hvs => ?_
  exact lv_idiv hx hb hd hy (k ad H locs lc hA hS hX hl hvl (am_Vc trivial (am_Vt (am_Vt hvs))))
theorem am_irem {Z : am_Z} {own : String} {cc : ByteArray} {n L mc ms : Nat} (hC : am_OK Z own cc n L mc ms) {kc ks pc : Nat} {ls st : List Value} {h : am_H} {x y : Int32} (hd : decode cc pc = .ok (.irem, 1)) (hy : ¬ y = 0) (k : am_W Z kc ks (pc + 1) ls (.int (x - x / y * y) :: st) h) : am_W Z kc ks pc ls (.int y :: .int x :: st) h := by
  obtain ⟨G, p, l, e, R, s, m, args, below, meth, c, h0, ad0, n', Q⟩ := Z
  obtain ⟨rfl, ⟨hx, hb, hml, hown, hts⟩, hlk, hE, htr, hR1, hR2, hR3, hR4⟩ := hC
  refine fun ad H locs lc hA hS hX hl hvl hvs => ?_
  exact lv_irem hx hb hd hy (k ad H locs lc hA hS hX hl hvl (am_Vc trivial (am_Vt (am_Vt hvs))))
theorem am_i2l {Z : am_Z} {own : String} {cc : ByteArray} {n L mc ms : Nat} (hC : am_OK Z own cc n L mc ms) {kc ks pc : Nat} {ls st : List Value} {h : am_H} {x : Int32} (hd : decode cc pc = .ok (.i2l, 1)) (k : am_W Z kc ks (pc + 1) ls (.long x.toInt64 :: st) h) : am_W Z kc ks pc ls (.int x :: st) h := by
  obtain ⟨G, p, l, e, R, s, m, args, below, meth, c, h0, ad0, n', Q⟩ := Z
  obtain ⟨rfl, ⟨hx, hb, hml, hown, hts⟩, hlk, hE, htr, hR1, hR2, hR3, hR4⟩ := hC
  refine fun ad H locs lc hA hS hX hl hvl hvs => ?_
  exact lv_i2l hx hb hd rfl (k ad H locs lc hA hS hX hl hvl (am_Vc trivial (am_Vt hvs)))
theorem am_lcmp {Z : am_Z} {own : String} {cc : ByteArray} {n L mc ms : Nat} (hC : am_OK Z own cc n L mc ms) {kc ks pc : Nat} {ls st : List Value} {h : am_H} {x y : Int64} (hd : decode cc pc = .ok (.lcmp, 1)) (k : am_W Z kc ks (pc + 1) ls (.int (lg_cmp x y) :: st) h) : am_W Z kc ks pc ls (.long y :: .long x :: st) h := by
  obtain ⟨G, p, l, e, R, s, m, args, below, meth, c, h0, ad0, n', Q⟩ := Z
  obtain ⟨rfl, ⟨hx, hb, hml, hown, hts⟩, hlk, hE, htr, hR1, hR2, hR3, hR4⟩ := hC
  refine fun ad H locs lc hA hS hX hl hvl hvs => ?_
  exact W.lcmp hx hb hd (k ad H locs lc hA hS hX hl hvl (am_Vc trivial (am_Vt (am_Vt hvs))))
theorem am_dup {Z : am_Z} {own : String} {cc : ByteArray} {n L mc ms : Nat} (hC : am_OK Z own cc n L mc ms) {kc ks pc : Nat} {ls st : List Value} {h : am_H} {v : Value} (hd : decode cc pc = .ok (.dup, 1)) (hv : am_s1 v = true) (k : am_W Z kc ks (pc + 1) ls (v :: v :: st) h) : am_W Z kc ks pc ls (v :: st) h := by
  obtain ⟨G, p, l, e, R, s, m, args, below, meth, c, h0, ad0, n', Q⟩ := Z
  obtain ⟨rfl, ⟨hx, hb, hml, hown, hts⟩, hlk, hE, htr, hR1, hR2, hR3, hR4⟩ := hC
  refine fun ad H locs lc hA hS hX hl hvl hvs => ?_
  exact lv_dup hx hb hd (am_cat ad hv) (k ad H locs lc hA hS hX hl hvl (am_Vc (am_Vh hvs) hvs))
theorem am_pop {Z : am_Z} {own : String} {cc : ByteArray} {n L mc ms : Nat} (hC : am_OK Z own cc n L mc ms) {kc ks pc : Nat} {ls st : List Value} {h : am_H} {v : Value} (hd : decode cc pc = .ok (.pop, 1)) (hv : am_s1 v = true) (k : am_W Z kc ks (pc + 1) ls st h) : am_W Z kc ks pc ls (v :: st) h := by
  obtain ⟨G, p, l, e, R, s, m, args, below, meth, c, h0, ad0, n', Q⟩ := Z
  obtain ⟨rfl, ⟨hx, hb, hml, hown, hts⟩, hlk, hE, htr, hR1, hR2, hR3, hR4⟩ := hC
  refine fun ad H locs lc hA hS hX hl hvl hvs => ?_
  exact lv_pop hx hb hd (am_cat ad hv) (k ad H locs lc hA hS hX hl hvl (am_Vt hvs))
theorem am_dup_x1 {Z : am_Z} {own : String} {cc : ByteArray} {n L mc ms : Nat} (hC : am_OK Z own cc n L mc ms) {kc ks pc : Nat} {ls st : List Value} {h : am_H} {v w : Value} (hd : decode cc pc = .ok (.dup_x1, 1)) (hv : am_s1 v = true) (hw : am_s1 w = true) (k : am_W Z kc ks (pc + 1) ls (v :: w :: v :: st) h) : am_W Z kc ks pc ls (v :: w :: st) h := by
  obtain ⟨G, p, l, e, R, s, m, args, below, meth, c, h0, ad0, n', Q⟩ := Z
  obtain ⟨rfl, ⟨hx, hb, hml, hown, hts⟩, hlk, hE, htr, hR1, hR2, hR3, hR4⟩ := hC
  refine fun ad H locs lc hA hS hX hl hvl hvs => ?_
  exact lv_dup_x1 hx hb hd (am_cat ad hv) (am_cat ad hw) (k ad H locs lc hA hS hX hl hvl (am_Vc (am_Vh hvs) (am_Vc (am_Vh (am_Vt hvs)) (am_Vc (am_Vh hvs) (am_Vt (am_Vt hvs))))))
theorem am_dup2 {Z : am_Z} {own : String} {cc : ByteArray} {n L mc ms : Nat} (hC : am_OK Z own cc n L mc ms) {kc ks pc : Nat} {ls st : List Value} {h : am_H} {v w : Value} (hd : decode cc pc = .ok (.dup2, 1)) (hv : am_s1 v = true) (hw : am_s1 w = true) (k : am_W Z kc ks (pc + 1) ls (v :: w :: v :: w :: st) h) : am_W Z kc ks pc ls (v :: w :: st) h := by
  obtain ⟨G, p, l, e, R, s, m, args, below, meth, c, h0, ad0, n', Q⟩ := Z
  obtain ⟨rfl, ⟨hx, hb, hml, hown, hts⟩, hlk, hE, htr, hR1, hR2, hR3, hR4⟩ := hC
  refine fun ad H locs lc hA hS hX hl hvl hvs => ?_
  exact lv_dup2_11 hx hb hd (am_cat ad hv) (am_cat ad hw) (k ad H locs lc hA hS hX hl hvl (am_Vc (am_Vh hvs) (am_Vc (am_Vh (am_Vt hvs)) hvs)))
theorem am_if_eq {Z : am_Z} {own : String} {cc : ByteArray} {n L mc ms : Nat} (hC : am_OK Z own cc n L mc ms) {kc ks pc : Nat} {ls st : List Value} {h : am_H} {x : Int32} {off : Int} {tgt : Nat} (hd : decode cc pc = .ok (.ifCond .eq off, 3)) (ht : (pc : Int) + off = (tgt : Int)) (kt : x = 0 → am_W Z kc ks tgt ls st h) (kf : ¬ x = 0 → am_W Z kc ks (pc + 3) ls st h) : am_W Z kc ks pc ls (.int x :: st) h := by
  obtain ⟨G, p, l, e, R, s, m, args, below, meth, c, h0, ad0, n', Q⟩ := Z
  obtain ⟨rfl, ⟨hx, hb, hml, hown, hts⟩, hlk, hE, htr, hR1, hR2, hR3, hR4⟩ := hC
  refine fun ad H locs lc hA hS hX hl hvl hvs => ?_
  exact lv_if_eq hx hb hd ht (fun q => kt q ad H locs lc hA hS hX hl hvl (am_Vt hvs)) (fun q => kf q ad H locs lc hA hS hX hl hvl (am_Vt hvs))
theorem am_icmp_eq {Z : am_Z} {own : String} {cc : ByteArray} {n L mc ms : Nat} (hC : am_OK Z own cc n L mc ms) {kc ks pc : Nat} {ls st : List Value} {h : am_H} {x y : Int32} {off : Int} {tgt : Nat} (hd : decode cc pc = .ok (.if_icmp .eq off, 3)) (ht : (pc : Int) + off = (tgt : Int)) (kt : x = y → am_W Z kc ks tgt ls st h) (kf : ¬ x = y → am_W Z kc ks (pc + 3) ls st h) : am_W Z kc ks pc ls (.int y :: .int x :: st) h := by
  obtain ⟨G, p, l, e, R, s, m, args, below, meth, c, h0, ad0, n', Q⟩ := Z
  obtain ⟨rfl, ⟨hx, hb, hml, hown, hts⟩, hlk, hE, htr, hR1, hR2, hR3, hR4⟩ := hC
  refine fun ad H locs lc hA hS hX hl hvl hvs => ?_
  exact lv_icmp_eq hx hb hd ht (fun q => kt q ad H locs lc hA hS hX hl hvl (am_Vt (am_Vt hvs))) (fun q => kf q ad H locs lc hA hS hX hl hvl (am_Vt (am_Vt hvs)))
theorem am_if_ne {Z : am_Z} {own : String} {cc : ByteArray} {n L mc ms : Nat} (hC : am_OK Z own cc n L mc ms) {kc ks pc : Nat} {ls st : List Value} {h : am_H} {x : Int32} {off : Int} {tgt : Nat} (hd : decode cc pc = .ok (.ifCond .ne off, 3)) (ht : (pc : Int) + off = (tgt : Int)) (kt : ¬ x = 0 → am_W Z kc ks tgt ls st h) (kf : x = 0 → am_W Z kc ks (pc + 3) ls st h) : am_W Z kc ks pc ls (.int x :: st) h := by
  obtain ⟨G, p, l, e, R, s, m, args, below, meth, c, h0, ad0, n', Q⟩ := Z
  obtain ⟨rfl, ⟨hx, hb, hml, hown, hts⟩, hlk, hE, htr, hR1, hR2, hR3, hR4⟩ := hC
  refine fun ad H locs lc hA hS hX hl hvl hvs => ?_
  exact lv_if_ne hx hb hd ht (fun q => kt q ad H locs lc hA hS hX hl hvl (am_Vt hvs)) (fun q => kf q ad H locs lc hA hS hX hl hvl (am_Vt hvs))
theorem am_icmp_ne {Z : am_Z} {own : String} {cc : ByteArray} {n L mc ms : Nat} (hC : am_OK Z own cc n L mc ms) {kc ks pc : Nat} {ls st : List Value} {h : am_H} {x y : Int32} {off : Int} {tgt : Nat} (hd : decode cc pc = .ok (.if_icmp .ne off, 3)) (ht : (pc : Int) + off = (tgt : Int)) (kt : ¬ x = y → am_W Z kc ks tgt ls st h) (kf : x = y → am_W Z kc ks (pc + 3) ls st h) : am_W Z kc ks pc ls (.int y :: .int x :: st) h := by
  obtain ⟨G, p, l, e, R, s, m, args, below, meth, c, h0, ad0, n', Q⟩ := Z
  obtain ⟨rfl, ⟨hx, hb, hml, hown, hts⟩, hlk, hE, htr, hR1, hR2, hR3, hR4⟩ := hC
  refine fun ad H locs lc hA hS hX hl hvl hvs => ?_
  exact lv_icmp_ne hx hb hd ht (fun q => kt q ad H locs lc hA hS hX hl hvl (am_Vt (am_Vt hvs))) (fun q => kf q ad H locs lc hA hS hX hl hvl (am_Vt (am_Vt hvs)))
theorem am_if_lt {Z : am_Z} {own : String} {cc : ByteArray} {n L mc ms : Nat} (hC : am_OK Z own cc n L mc ms) {kc ks pc : Nat} {ls st : List Value} {h : am_H} {x : Int32} {off : Int} {tgt : Nat} (hd : decode cc pc = .ok (.ifCond .lt off, 3)) (ht : (pc : Int) + off = (tgt : Int)) (kt : x < 0 → am_W Z kc ks tgt ls st h) (kf : ¬ x < 0 → am_W Z kc ks (pc + 3) ls st h) : am_W Z kc ks pc ls (.int x :: st) h := by
  obtain ⟨G, p, l, e, R, s, m, args, below, meth, c, h0, ad0, n', Q⟩ := Z
  obtain ⟨rfl, ⟨hx, hb, hml, hown, hts⟩, hlk, hE, htr, hR1, hR2, hR3, hR4⟩ := hC
  refine fun ad H locs lc hA hS hX hl hvl hvs => ?_
  exact lv_if_lt hx hb hd ht (fun q => kt q ad H locs lc hA hS hX hl hvl (am_Vt hvs)) (fun q => kf q ad H locs lc hA hS hX hl hvl (am_Vt hvs))
theorem am_icmp_lt {Z : am_Z} {own : String} {cc : ByteArray} {n L mc ms : Nat} (hC : am_OK Z own cc n L mc ms) {kc ks pc : Nat} {ls st : List Value} {h : am_H} {x y : Int32} {off : Int} {tgt : Nat} (hd : decode cc pc = .ok (.if_icmp .lt off, 3)) (ht : (pc : Int) + off = (tgt : Int)) (kt : x < y → am_W Z kc ks tgt ls st h) (kf : ¬ x < y → am_W Z kc ks (pc + 3) ls st h) : am_W Z kc ks pc ls (.int y :: .int x :: st) h := by
  obtain ⟨G, p, l, e, R, s, m, args, below, meth, c, h0, ad0, n', Q⟩ := Z
  obtain ⟨rfl, ⟨hx, hb, hml, hown, hts⟩, hlk, hE, htr, hR1, hR2, hR3, hR4⟩ := hC
  refine fun ad H locs lc hA hS hX hl hvl hvs => ?_
  exact lv_icmp_lt hx hb hd ht (fun q => kt q ad H locs lc hA hS hX hl hvl (am_Vt (am_Vt hvs))) (fun q => kf q ad H locs lc hA hS hX hl hvl (am_Vt (am_Vt hvs)))
theorem am_if_ge {Z : am_Z} {own : String} {cc : ByteArray} {n L mc ms : Nat} (hC : am_OK Z own cc n L mc ms) {kc ks pc : Nat} {ls st : List Value} {h : am_H} {x : Int32} {off : Int} {tgt : Nat} (hd : decode cc pc = .ok (.ifCond .ge off, 3)) (ht : (pc : Int) + off = (tgt : Int)) (kt : 0 ≤ x → am_W Z kc ks tgt ls st h) (kf : ¬ 0 ≤ x → am_W Z kc ks (pc + 3) ls st h) : am_W Z kc ks pc ls (.int x :: st) h := by
  obtain ⟨G, p, l, e, R, s, m, args, below, meth, c, h0, ad0, n', Q⟩ := Z
  obtain ⟨rfl, ⟨hx, hb, hml, hown, hts⟩, hlk, hE, htr, hR1, hR2, hR3, hR4⟩ := hC
  refine fun ad H locs lc hA hS hX hl hvl hvs => ?_
  exact lv_if_ge hx hb hd ht (fun q => kt q ad H locs lc hA hS hX hl hvl (am_Vt hvs)) (fun q => kf q ad H locs lc hA hS hX hl hvl (am_Vt hvs))
theorem am_icmp_ge {Z : am_Z} {own : String} {cc : ByteArray} {n L mc ms : Nat} (hC : am_OK Z own cc n L mc ms) {kc ks pc : Nat} {ls st : List Value} {h : am_H} {x y : Int32} {off : Int} {tgt : Nat} (hd : decode cc pc = .ok (.if_icmp .ge off, 3)) (ht : (pc : Int) + off = (tgt : Int)) (kt : y ≤ x → am_W Z kc ks tgt ls st h) (kf : ¬ y ≤ x → am_W Z kc ks (pc + 3) ls st h) : am_W Z kc ks pc ls (.int y :: .int x :: st) h := by
  obtain ⟨G, p, l, e, R, s, m, args, below, meth, c, h0, ad0, n', Q⟩ := Z
  obtain ⟨rfl, ⟨hx, hb, hml, hown, hts⟩, hlk, hE, htr, hR1, hR2, hR3, hR4⟩ := hC
  refine fun ad H locs lc hA hS hX hl hvl hvs => ?_
  exact lv_icmp_ge hx hb hd ht (fun q => kt q ad H locs lc hA hS hX hl hvl (am_Vt (am_Vt hvs))) (fun q => kf q ad H locs lc hA hS hX hl hvl (am_Vt (am_Vt hvs)))
theorem am_if_gt {Z : am_Z} {own : String} {cc : ByteArray} {n L mc ms : Nat} (hC : am_OK Z own cc n L mc ms) {kc ks pc : Nat} {ls st : List Value} {h : am_H} {x : Int32} {off : Int} {tgt : Nat} (hd : decode cc pc = .ok (.ifCond .gt off, 3)) (ht : (pc : Int) + off = (tgt : Int)) (kt : 0 < x → am_W Z kc ks tgt ls st h) (kf : ¬ 0 < x → am_W Z kc ks (pc + 3) ls st h) : am_W Z kc ks pc ls (.int x :: st) h := by
  obtain ⟨G, p, l, e, R, s, m, args, below, meth, c, h0, ad0, n', Q⟩ := Z
  obtain ⟨rfl, ⟨hx, hb, hml, hown, hts⟩, hlk, hE, htr, hR1, hR2, hR3, hR4⟩ := hC
  refine fun ad H locs lc hA hS hX hl hvl hvs => ?_
  exact lv_if_gt hx hb hd ht (fun q => kt q ad H locs lc hA hS hX hl hvl (am_Vt hvs)) (fun q => kf q ad H locs lc hA hS hX hl hvl (am_Vt hvs))
theorem am_icmp_gt {Z : am_Z} {own : String} {cc : ByteArray} {n L mc ms : Nat} (hC : am_OK Z own cc n L mc ms) {kc ks pc : Nat} {ls st : List Value} {h : am_H} {x y : Int32} {off : Int} {tgt : Nat} (hd : decode cc pc = .ok (.if_icmp .gt off, 3)) (ht : (pc : Int) + off = (tgt : Int)) (kt : y < x → am_W Z kc ks tgt ls st h) (kf : ¬ y < x → am_W Z kc ks (pc + 3) ls st h) : am_W Z kc ks pc ls (.int y :: .int x :: st) h := by
  obtain ⟨G, p, l, e, R, s, m, args, below, meth, c, h0, ad0, n', Q⟩ := Z
  obtain ⟨rfl, ⟨hx, hb, hml, hown, hts⟩, hlk, hE, htr, hR1, hR2, hR3, hR4⟩ := hC
  refine fun ad H locs lc hA hS hX hl hvl hvs => ?_
  exact lv_icmp_gt hx hb hd ht (fun q => kt q ad H locs lc hA hS hX hl hvl (am_Vt (am_Vt hvs))) (fun q => kf q ad H locs lc hA hS hX hl hvl (am_Vt (am_Vt hvs)))
theorem am_if_le {Z : am_Z} {own : String} {cc : ByteArray} {n L mc ms : Nat} (hC : am_OK Z own cc n L mc ms) {kc ks pc : Nat} {ls st : List Value} {h : am_H} {x : Int32} {off : Int} {tgt : Nat} (hd : decode cc pc = .ok (.ifCond .le off, 3)) (ht : (pc : Int) + off = (tgt : Int)) (kt : x ≤ 0 → am_W Z kc ks tgt ls st h) (kf : ¬ x ≤ 0 → am_W Z kc ks (pc + 3) ls st h) : am_W Z kc ks pc ls (.int x :: st) h := by
  obtain ⟨G, p, l, e, R, s, m, args, below, meth, c, h0, ad0, n', Q⟩ := Z
  obtain ⟨rfl, ⟨hx, hb, hml, hown, hts⟩, hlk, hE, htr, hR1, hR2, hR3, hR4⟩ := hC
  refine fun ad H locs lc hA hS hX hl hvl hvs => ?_
  exact lv_if_le hx hb hd ht (fun q => kt q ad H locs lc hA hS hX hl hvl (am_Vt hvs)) (fun q => kf q ad H locs lc hA hS hX hl hvl (am_Vt hvs))
theorem am_icmp_le {Z : am_Z} {own : String} {cc : ByteArray} {n L mc ms : Nat} (hC : am_OK Z own cc n L mc ms) {kc ks pc : Nat} {ls st : List Value} {h : am_H} {x y : Int32} {off : Int} {tgt : Nat} (hd : decode cc pc = .ok (.if_icmp .le off, 3)) (ht : (pc : Int) + off = (tgt : Int)) (kt : x ≤ y → am_W Z kc ks tgt ls st h) (kf : ¬ x ≤ y → am_W Z kc ks (pc + 3) ls st h) : am_W Z kc ks pc ls (.int y :: .int x :: st) h := by
  obtain ⟨G, p, l, e, R, s, m, args, below, meth, c, h0, ad0, n', Q⟩ := Z
  obtain ⟨rfl, ⟨hx, hb, hml, hown, hts⟩, hlk, hE, htr, hR1, hR2, hR3, hR4⟩ := hC
  refine fun ad H locs lc hA hS hX hl hvl hvs => ?_
  exact lv_icmp_le hx hb hd ht (fun q => kt q ad H locs lc hA hS hX hl hvl (am_Vt (am_Vt hvs))) (fun q => kf q ad H locs lc hA hS hX hl hvl (am_Vt (am_Vt hvs)))
theorem am_goto {Z : am_Z} {own : String} {cc : ByteArray} {n L mc ms : Nat} (hC : am_OK Z own cc n L mc ms) {kc ks pc : Nat} {ls st : List Value} {h : am_H} {off : Int} {tgt : Nat} (hd : decode cc pc = .ok (.goto off, 3)) (ht : (pc : Int) + off = (tgt : Int)) (k : am_W Z kc ks tgt ls st h) : am_W Z kc ks pc ls st h := by
  obtain ⟨G, p, l, e, R, s, m, args, below, meth, c, h0, ad0, n', Q⟩ := Z
  obtain ⟨rfl, ⟨hx, hb, hml, hown, hts⟩, hlk, hE, htr, hR1, hR2, hR3, hR4⟩ := hC
  refine fun ad H locs lc hA hS hX hl hvl hvs => ?_
  exact lv_goto hx hb hd ht (k ad H locs lc hA hS hX hl hvl hvs)
theorem am_ifnull {Z : am_Z} {own : String} {cc : ByteArray} {n L mc ms : Nat} (hC : am_OK Z own cc n L mc ms) {kc ks pc : Nat} {ls st : List Value} {h : am_H} {x : Nat} {off : Int} {tgt : Nat} (hd : decode cc pc = .ok (.ifnull off, 3)) (ht : (pc : Int) + off = (tgt : Int)) (kt : x = 0 → am_W Z kc ks tgt ls st h) (kf : ¬ x = 0 → am_W Z kc ks (pc + 3) ls st h) : am_W Z kc ks pc ls (.ref x :: st) h := by
  obtain ⟨G, p, l, e, R, s, m, args, below, meth, c, h0, ad0, n', Q⟩ := Z
  obtain ⟨rfl, ⟨hx, hb, hml, hown, hts⟩, hlk, hE, htr, hR1, hR2, hR3, hR4⟩ := hC
  refine fun ad H locs lc hA hS hX hl hvl hvs => ?_
  have k1 := fun q => kt q ad H locs lc hA hS hX hl hvl (am_Vt hvs)
  have k2 := fun q => kf q ad H locs lc hA hS hX hl hvl (am_Vt hvs)
  change W p l e R s m args below meth c H locs kc ks Q (F0 m _ lc (am_rv ad x :: _))
  unfold am_rv
  by_cases hz : x = 0
  · rw [if_pos hz]
    exact lv_ifnullN hx hb hd ht (k1 hz)
  · rw [if_neg hz]
    exact lv_ifnull hx hb hd (k2 hz)
theorem am_ifnonnull {Z : am_Z} {own : String} {cc : ByteArray} {n L mc ms : Nat} (hC : am_OK Z own cc n L mc ms) {kc ks pc : Nat} {ls st : List Value} {h : am_H} {x : Nat} {off : Int} {tgt : Nat} (hd : decode cc pc = .ok (.ifnonnull off, 3)) (ht : (pc : Int) + off = (tgt : Int)) (kt : ¬ x = 0 → am_W Z kc ks tgt ls st h) (kf : x = 0 → am_W Z kc ks (pc + 3) ls st h) : am_W Z kc ks pc ls (.ref x :: st) h := by
  obtain ⟨G, p, l, e, R, s, m, args, below, meth, c, h0, ad0, n', Q⟩ := Z
  obtain ⟨rfl, ⟨hx, hb, hml, hown, hts⟩, hlk, hE, htr, hR1, hR2, hR3, hR4⟩ := hC
  refine fun ad H locs lc hA hS hX hl hvl hvs => ?_
  have k1 := fun q => kt q ad H locs lc hA hS hX hl hvl (am_Vt hvs)
  have k2 := fun q => kf q ad H locs lc hA hS hX hl hvl (am_Vt hvs)
  change W p l e R s m args below meth c H locs kc ks Q (F0 m _ lc (am_rv ad x :: _))
  unfold am_rv
  by_cases hz : x = 0
  · rw [if_pos hz]
    exact lv_ifnonnullN hx hb hd (k2 hz)
  · rw [if_neg hz]
    exact lv_ifnonnull hx hb hd ht (k1 hz)
theorem am_acmp_eq {Z : am_Z} {own : String} {cc : ByteArray} {n L mc ms : Nat} (hC : am_OK Z own cc n L mc ms) {kc ks pc : Nat} {ls st : List Value} {h : am_H} {x y : Nat} {off : Int} {tgt : Nat} (hne : x = y ∨ (x ≠ 2 ∧ y ≠ 2)) (hd : decode cc pc = .ok (.if_acmp .eq off, 3)) (ht : (pc : Int) + off = (tgt : Int)) (kt : x = y → am_W Z kc ks tgt ls st h) (kf : ¬ x = y → am_W Z kc ks (pc + 3) ls st h) : am_W Z kc ks pc ls (.ref y :: .ref x :: st) h := by
  obtain ⟨G, p, l, e, R, s, m, args, below, meth, c, h0, ad0, n', Q⟩ := Z
  obtain ⟨rfl, ⟨hx, hb, hml, hown, hts⟩, hlk, hE, htr, hR1, hR2, hR3, hR4⟩ := hC
  refine fun ad H locs lc hA hS hX hl hvl hvs => ?_
  have k1 := fun q => kt q ad H locs lc hA hS hX hl hvl (am_Vt (am_Vt hvs))
  have k2 := fun q => kf q ad H locs lc hA hS hX hl hvl (am_Vt (am_Vt hvs))
  have hvy := am_Vh hvs
  have hvx := am_Vh (am_Vt hvs)
  have hrf : ∀ r : Nat, am_rv ad r = va_rf (if r = 0 then none else some (ad r)) := fun r => by
    unfold am_rv
    split <;> rfl
  have hq : ((if x = 0 then none else some (ad x)) = (if y = 0 then (none : Option Nat) else some (ad y))) ↔ x = y := by
    constructor
    · intro q
      by_cases hx0 : x = 0
      · by_cases hy0 : y = 0
        · rw [hx0, hy0]
        · rw [if_pos hx0, if_neg hy0] at q
          cases q
      · by_cases hy0 : y = 0
        · rw [if_neg hx0, if_pos hy0] at q
          cases q
        · rw [if_neg hx0, if_neg hy0] at q
          rcases hne with h9 | ⟨h9, h8⟩
          · exact h9
          · exact hA.2.2.2.1 x y (hvx.resolve_left hx0) (hvy.resolve_left hy0) h9 h8 (Option.some.inj q)
    · intro q
      rw [q]
  change W p l e R s m args below meth c H locs kc ks Q (F0 m _ lc (am_rv ad y :: am_rv ad x :: _))
  rw [hrf, hrf]
  exact lv_acmp_eq hx hb hd ht (fun q => k1 (hq.mp q)) (fun q => k2 (fun z => q (hq.mpr z)))
theorem am_acmp_ne {Z : am_Z} {own : String} {cc : ByteArray} {n L mc ms : Nat} (hC : am_OK Z own cc n L mc ms) {kc ks pc : Nat} {ls st : List Value} {h : am_H} {x y : Nat} {off : Int} {tgt : Nat} (hne : x = y ∨ (x ≠ 2 ∧ y ≠ 2)) (hd : decode cc pc = .ok (.if_acmp .ne off, 3)) (ht : (pc : Int) + off = (tgt : Int)) (kt : ¬ x = y → am_W Z kc ks tgt ls st h) (kf : x = y → am_W Z kc ks (pc + 3) ls st h) : am_W Z kc ks pc ls (.ref y :: .ref x :: st) h := by
  obtain ⟨G, p, l, e, R, s, m, args, below, meth, c, h0, ad0, n', Q⟩ := Z
  obtain ⟨rfl, ⟨hx, hb, hml, hown, hts⟩, hlk, hE, htr, hR1, hR2, hR3, hR4⟩ := hC
  refine fun ad H locs lc hA hS hX hl hvl hvs => ?_
  have k1 := fun q => kt q ad H locs lc hA hS hX hl hvl (am_Vt (am_Vt hvs))
  have k2 := fun q => kf q ad H locs lc hA hS hX hl hvl (am_Vt (am_Vt hvs))
  have hvy := am_Vh hvs
  have hvx := am_Vh (am_Vt hvs)
  have hrf : ∀ r : Nat, am_rv ad r = va_rf (if r = 0 then none else some (ad r)) := fun r => by
    unfold am_rv
    split <;> rfl
  have hq : ((if x = 0 then none else some (ad x)) = (if y = 0 then (none : Option Nat) else some (ad y))) ↔ x = y := by
    constructor
    · intro q
      by_cases hx0 : x = 0
      · by_cases hy0 : y = 0
        · rw [hx0, hy0]
        · rw [if_pos hx0, if_neg hy0] at q
          cases q
      · by_cases hy0 : y = 0
        · rw [if_neg hx0, if_pos hy0] at q
          cases q
        · rw [if_neg hx0, if_neg hy0] at q
          rcases hne with h9 | ⟨h9, h8⟩
          · exact h9
          · exact hA.2.2.2.1 x y (hvx.resolve_left hx0) (hvy.resolve_left hy0) h9 h8 (Option.some.inj q)
    · intro q
      rw [q]
  change W p l e R s m args below meth c H locs kc ks Q (F0 m _ lc (am_rv ad y :: am_rv ad x :: _))
  rw [hrf, hrf]
  exact lv_acmp_ne hx hb hd ht (fun q => k1 (fun z => q (hq.mpr z))) (fun q => k2 (hq.mp q))
theorem am_tabIn {Z : am_Z} {own : String} {cc : ByteArray} {n L mc ms : Nat} (hC : am_OK Z own cc n L mc ms) {kc ks pc : Nat} {ls st : List Value} {h : am_H} {dflt lo hi : Int} {offs : Array Int} {len : Nat} {x : Int32} {off : Int} {tgt : Nat} (hd : decode cc pc = .ok (.tableswitch dflt lo hi offs, len)) (h1 : ¬ x.toInt < lo) (h2 : ¬ hi < x.toInt) (ho : offs[(x.toInt - lo).toNat]? = some off) (ht : (pc : Int) + off = (tgt : Int)) (k : am_W Z kc ks tgt ls st h) : am_W Z kc ks pc ls (.int x :: st) h := by
  obtain ⟨G, p, l, e, R, s, m, args, below, meth, c, h0, ad0, n', Q⟩ := Z
  obtain ⟨rfl, ⟨hx, hb, hml, hown, hts⟩, hlk, hE, htr, hR1, hR2, hR3, hR4⟩ := hC
  refine fun ad H locs lc hA hS hX hl hvl hvs => ?_
  exact lv_tableIn hx hb hd h1 h2 ho ht (k ad H locs lc hA hS hX hl hvl (am_Vt hvs))
theorem am_tabOut {Z : am_Z} {own : String} {cc : ByteArray} {n L mc ms : Nat} (hC : am_OK Z own cc n L mc ms) {kc ks pc : Nat} {ls st : List Value} {h : am_H} {dflt lo hi : Int} {offs : Array Int} {len : Nat} {x : Int32} {tgt : Nat} (hd : decode cc pc = .ok (.tableswitch dflt lo hi offs, len)) (h1 : x.toInt < lo ∨ hi < x.toInt) (ht : (pc : Int) + dflt = (tgt : Int)) (k : am_W Z kc ks tgt ls st h) : am_W Z kc ks pc ls (.int x :: st) h := by
  obtain ⟨G, p, l, e, R, s, m, args, below, meth, c, h0, ad0, n', Q⟩ := Z
  obtain ⟨rfl, ⟨hx, hb, hml, hown, hts⟩, hlk, hE, htr, hR1, hR2, hR3, hR4⟩ := hC
  refine fun ad H locs lc hA hS hX hl hvl hvs => ?_
  exact lv_tableOut hx hb hd h1 ht (k ad H locs lc hA hS hX hl hvl (am_Vt hvs))
/-- what is known of the locals may be forgotten: a place holds the same, or nothing is said of it -/
def am_fg : List Value → List Value → Prop
  | [], [] => True
  | a :: as, b :: bs => (b = a ∨ am_s1 b = false) ∧ am_fg as bs
  | _, _ => False
theorem am_fg_at : ∀ {as bs : List Value}, am_fg as bs → ∀ (i : Nat) (v : Value), bs[i]? = some v → am_s1 v = true → as[i]? = some v
  | [], [], _, i, v, h, _ => by simp at h
  | a :: as, b :: bs, ⟨h1, h2⟩, i, v, h, hv => by
    cases i with
    | zero =>
      simp at h
      subst h
      rcases h1 with h1 | h1
      · rw [h1]; rfl
      · rw [h1] at hv; cases hv
    | succ i => exact am_fg_at h2 i v (by simpa using h) hv
theorem am_fgt {Z : am_Z} {kc ks pc : Nat} {ls ls' st : List Value} {h : am_H} (hf : am_fg ls ls') (k : am_W Z kc ks pc ls' st h) : am_W Z kc ks pc ls st h := by
  obtain ⟨G, p, l, e, R, s, m, args, below, meth, c, h0, ad0, n', Q⟩ := Z
  refine fun ad H locs lc hA hS hX hl hvl hvs => k ad H locs lc hA hS hX (am_L_to hl (fun i v h1 h2 => (am_ll_mem ad ls 0 _).mpr ⟨i, v, am_fg_at hf i v h1 h2, h2, by rw [Nat.zero_add]⟩)) (fun v hv => ?_) hvs
  obtain ⟨i, hi⟩ := List.getElem?_of_mem hv
  by_cases h1 : am_s1 v = true
  · exact hvl v (List.mem_of_getElem? (am_fg_at hf i v hi h1))
  · cases v with
    | ref r => exact absurd rfl h1
    | _ => trivial
theorem am_more {Z : am_Z} {kc ks pc kc' ks' : Nat} {ls st : List Value} {h : am_H} (h1 : kc ≤ kc') (h2 : ks ≤ ks') (k : am_W Z kc' ks' pc ls st h) : am_W Z kc ks pc ls st h := by
  obtain ⟨G, p, l, e, R, s, m, args, below, meth, c, h0, ad0, n', Q⟩ := Z
  exact fun ad H locs lc hA hS hX hl hvl hvs => W.widen h1 h2 (k ad H locs lc hA hS hX hl hvl hvs)
end
section
/-! ===== the abstract machine's heap ===== -/
theorem am_u0 : ∀ w ∈ u_ws RJx4a65c TJx4a65c 3, w ∈ lw_tbl := by decide +kernel
theorem am_u1' : ∀ w ∈ u_ws RX0 TX0 5, w ∈ lw_tbl := by decide +kernel
theorem am_u2' : ∀ w ∈ u_ws RX1 TX1 4, w ∈ lw_tbl := by decide +kernel
theorem am_u3 : ∀ w ∈ u_ws RX2 TX2 2, w ∈ lw_tbl := by decide +kernel
theorem am_u4 : ∀ w ∈ u_ws RX3 TX3 3, w ∈ lw_tbl := by decide +kernel
theorem am_u5 : ∀ w ∈ u_ws RX4 TX4 2, w ∈ lw_tbl := by decide +kernel
theorem am_u6 : ∀ w ∈ u_ws RX5 TX5 4, w ∈ lw_tbl := by decide +kernel
theorem am_u7 : ∀ w ∈ u_ws RX6 TX6 20, w ∈ lw_tbl := by decide +kernel
theorem am_ulay (C : String) (T : u_T) (N : Nat) : ∀ w ∈ u_ws C T N, goodWord w = true := by
  intro w hw
  obtain ⟨k, -, rfl⟩ := List.mem_map.mp hw
  unfold u_lay
  split <;> rfl
theorem am_cf {ci : Nat} {C : String} {T : u_T} {N : Nat} (hc : am_cl[ci]? = some (C, T, N)) : (∀ w ∈ u_ws C T N, w ∈ am_TG) ∧ (∀ k, k < N → parseFieldDescriptor (T k).2.2.1 = some (am_ty ci k)) ∧ (∀ a, a < N → ∀ b, b < N → a ≠ b → (T a).2.1 ≠ (T b).2.1) ∧ ci < 8 := by
  match ci, hc with
  | 0, hc => cases hc; exact ⟨fun w hw => am_inTG (am_u0 w hw) (am_ulay _ _ _ w hw), tyJx4a65c_ok, nmJx4a65c, by decide⟩
  | 1, hc => cases hc; exact ⟨fun w hw => am_inTG (am_u1' w hw) (am_ulay _ _ _ w hw), tyX0_ok, nmX0, by decide⟩
  | 2, hc => cases hc; exact ⟨fun w hw => am_inTG (am_u2' w hw) (am_ulay _ _ _ w hw), tyX1_ok, nmX1, by decide⟩
  | 3, hc => cases hc; exact ⟨fun w hw => am_inTG (am_u3 w hw) (am_ulay _ _ _ w hw), tyX2_ok, nmX2, by decide⟩
  | 4, hc => cases hc; exact ⟨fun w hw => am_inTG (am_u4 w hw) (am_ulay _ _ _ w hw), tyX3_ok, nmX3, by decide⟩
  | 5, hc => cases hc; exact ⟨fun w hw => am_inTG (am_u5 w hw) (am_ulay _ _ _ w hw), tyX4_ok, nmX4, by decide⟩
  | 6, hc => cases hc; exact ⟨fun w hw => am_inTG (am_u6 w hw) (am_ulay _ _ _ w hw), tyX5_ok, nmX5, by decide⟩
  | 7, hc => cases hc; exact ⟨fun w hw => am_inTG (am_u7 w hw) (am_ulay _ _ _ w hw), tyX6_ok, nmX6, by decide⟩
  | k + 8, hc => simp [am_cl] at hc
theorem am_live {h : am_H} {r k : Nat} (hk : hk_ h r = k) (h0 : 0 < k) : hk_ h r ≠ 0 := by omega
/-- a live role that isn't one of the two given ones lies above the line -/
theorem am_own {G : am_G} {h : am_H} {ad : Nat → Nat} {H : Heap} (hA : am_A G h ad H) {r k : Nat} (hk : hk_ h r = k) (h0 : 0 < k) (h1 : k < 14) : r ≠ 0 ∧ r ≠ 1 ∧ r ≠ 2 ∧ G.2.2.1 ≤ ad r ∧ ad r < H.size := by
  obtain ⟨⟨z0, z1, z2, -⟩, -, h3, -⟩ := hA
  have hr0 : r ≠ 0 := fun e => by rw [e, z0] at hk; omega
  have hr1 : r ≠ 1 := fun e => by rw [e, z1] at hk; omega
  have hr2 : r ≠ 2 := fun e => by rw [e, z2] at hk; omega
  rcases h3 r (by omega) with e | e | ⟨e, f, -⟩
  · exact absurd e hr1
  · exact absurd e hr2
  · exact ⟨hr0, hr1, hr2, e, f⟩
theorem am_obj {G : am_G} {h : am_H} {ad : Nat → Nat} {H : Heap} (hA : am_A G h ad H) {r ci : Nat} {C : String} {T : u_T} {N : Nat} (hk : hk_ h r = ci + 1) (hc : am_cl[ci]? = some (C, T, N)) : t_OB (ad r) (G.1.1 ci) N (G.1.2 ci) H (am_F h ad r) := by
  have h8 := (am_cf hc).2.2.2
  have h1 := hA.2.1 r (by omega)
  unfold am_at at h1
  rw [hk] at h1
  rcases h1 with h | ⟨h1, -⟩ | ⟨-, q, h2, h3⟩
  · omega
  · omega
  · rw [Nat.add_sub_cancel] at h2 h3
    rw [hc] at h2
    cases h2
    exact h3
theorem am_arr {G : am_G} {h : am_H} {ad : Nat → Nat} {H : Heap} (hA : am_A G h ad H) {r k : Nat} (hk : hk_ h r = k + 9) (h4 : k ≤ 4) : H[ad r]? = some (arrV (G.2.1 k) (hn_ h r) (am_F h ad r)) := by
  have h1 := hA.2.1 r (by omega)
  unfold am_at at h1
  rw [hk] at h1
  rcases h1 with h | ⟨-, -, h1⟩ | ⟨h1, -⟩
  · omega
  · rw [Nat.add_sub_cancel] at h1
    exact h1
  · omega
theorem am_at_kept {G : am_G} {h h' : am_H} {ad ad' : Nat → Nat} {q : Nat} {H H' : Heap} (h1 : hk_ h' q = hk_ h q) (h2 : hn_ h' q = hn_ h q) (h3 : ∀ j, am_F h' ad' q j = am_F h ad q j) (ha : ad' q = ad q) (oq : H'[ad q]? = H[ad q]?) (ht : am_at G h ad q H) : am_at G h' ad' q H' := by
  unfold am_at at ht ⊢
  rw [h1, h2, ha, funext h3]
  exact am_atk_kept ht oq
/-- one live role's content changes -/
theorem am_A_upd {G : am_G} {h h' : am_H} {ad : Nat → Nat} {H H' : Heap} {r k : Nat} (hA : am_A G h ad H) (hkr : hk_ h r = k) (hk0 : 0 < k) (hk14 : k < 14) (hkk : ∀ q, hk_ h' q = hk_ h q) (hnn : ∀ q, hn_ h' q = hn_ h q)
    (hF : ∀ q, q ≠ r → ∀ j, am_F h' ad q j = am_F h ad q j) (hlv : ∀ q j, hk_ h q ≠ 0 → hr_ h' q j = 0 ∨ hk_ h (hr_ h' q j) ≠ 0) (z : H'.size = H.size) (oq : ∀ q : Nat, q ≠ ad r → H'[q]? = H[q]?) (hat : am_at G h' ad r H') : am_A G h' ad H' := by
  obtain ⟨r0, r1, r2, -, -⟩ := am_own hA hkr hk0 hk14
  obtain ⟨⟨z0, z1, z2, z3, z4, z5⟩, a1, a2, a3, a4⟩ := hA
  refine ⟨⟨(hkk 0).trans z0, (hkk 1).trans z1, (hkk 2).trans z2, (hnn 1).trans z3, z4, z5⟩, fun q hq => ?_, fun q hq => ?_, fun q p hq hp => ?_, fun q j hq => ?_⟩
  · rw [hkk] at hq
    by_cases e : q = r
    · rw [e]; exact hat
    · by_cases e2 : q = 2
      · have hk15 : hk_ h' q = 15 := by rw [hkk, e2]; exact z2
        exact Or.inl (Or.inr hk15)
      · exact am_at_kept (hkk q) (hnn q) (hF q e) rfl (oq _ (fun c => e (a3 q r hq (by omega) e2 r2 c))) (a1 q hq)
  · rw [hkk] at hq
    rw [z, hkk]
    exact a2 q hq
  · rw [hkk] at hq hp
    exact a3 q p hq hp
  · rw [hkk] at hq
    rw [hkk]
    exact hlv q j hq
theorem am_F_sI {h : am_H} {ad : Nat → Nat} {r j : Nat} {x : Int32} {q : Nat} (hq : q ≠ r) (i : Nat) : am_F (am_sI h r j x) ad q i = am_F h ad q i := by
  unfold am_F
  rw [hk_sI, hl_sI, hi_sI, hr_sI, if_neg (fun e : q = r ∧ i = j => hq e.1)]
theorem am_F_sR {h : am_H} {ad : Nat → Nat} {r j : Nat} {x : Nat} {q : Nat} (hq : q ≠ r) (i : Nat) : am_F (am_sR h r j x) ad q i = am_F h ad q i := by
  unfold am_F
  rw [hk_sR, hl_sR, hi_sR, hr_sR, if_neg (fun e : q = r ∧ i = j => hq e.1)]
theorem am_F_sL {h : am_H} {ad : Nat → Nat} {r j : Nat} {x : Int64} {q : Nat} (hq : q ≠ r) (i : Nat) : am_F (am_sL h r j x) ad q i = am_F h ad q i := by
  unfold am_F
  rw [hk_sL, hl_sL, hi_sL, hr_sL, if_neg (fun e : q = r ∧ i = j => hq e.1)]
theorem am_F_sI' {h : am_H} {ad : Nat → Nat} {r j : Nat} {x : Int32} (h13 : hk_ h r ≠ 13) (hf : am_fi (hk_ h r) j = true) (i : Nat) : am_F (am_sI h r j x) ad r i = updV (am_F h ad r) j (.int x) i := by
  unfold am_F updV
  dsimp only
  rw [hk_sI, hl_sI, hi_sI, hr_sI, if_neg h13, if_neg h13]
  by_cases e : i = j
  · subst e
    rw [if_pos hf, if_pos rfl, if_pos (And.intro rfl rfl)]
  · rw [if_neg (fun z : r = r ∧ i = j => e z.2), if_neg e]
theorem am_F_sR' {h : am_H} {ad : Nat → Nat} {r j : Nat} {x : Nat} (h13 : hk_ h r ≠ 13) (hf : am_fi (hk_ h r) j = false) (i : Nat) : am_F (am_sR h r j x) ad r i = updV (am_F h ad r) j (am_rv ad x) i := by
  unfold am_F updV
  dsimp only
  rw [hk_sR, hl_sR, hi_sR, hr_sR, if_neg h13, if_neg h13]
  by_cases e : i = j
  · subst e
    rw [if_neg (by rw [hf]; decide), if_pos rfl, if_pos (And.intro rfl rfl)]
  · rw [if_neg (fun z : r = r ∧ i = j => e z.2), if_neg e]
theorem am_F_sL' {h : am_H} {ad : Nat → Nat} {r j : Nat} {x : Int64} (h13 : hk_ h r = 13) (i : Nat) : am_F (am_sL h r j x) ad r i = updV (am_F h ad r) j (.long x) i := by
  unfold am_F updV
  dsimp only
  rw [hk_sL, hl_sL, if_pos h13, if_pos h13]
  by_cases e : i = j
  · rw [if_pos ⟨rfl, e⟩, if_pos e]
  · rw [if_neg (fun z : r = r ∧ i = j => e z.2), if_neg e]
theorem am_lv_sR {G : am_G} {h : am_H} {ad : Nat → Nat} {H : Heap} (hA : am_A G h ad H) {r j x : Nat} (hx : x = 0 ∨ hk_ h x ≠ 0) : ∀ q i, hk_ h q ≠ 0 → hr_ (am_sR h r j x) q i = 0 ∨ hk_ h (hr_ (am_sR h r j x) q i) ≠ 0 := by
  intro q i hq
  rw [hr_sR]
  by_cases e : q = r ∧ i = j
  · rw [if_pos e]; exact hx
  · rw [if_neg e]; exact hA.2.2.2.2 q i hq
theorem am_X_sI {h0 h : am_H} {ad0 ad : Nat → Nat} {r j : Nat} {x : Int32} (hX : am_X h0 ad0 h ad) : am_X h0 ad0 (am_sI h r j x) ad := ⟨fun q hq => hX.1 q hq, hX.2⟩
theorem am_X_sR {h0 h : am_H} {ad0 ad : Nat → Nat} {r j : Nat} {x : Nat} (hX : am_X h0 ad0 h ad) : am_X h0 ad0 (am_sR h r j x) ad := ⟨fun q hq => hX.1 q hq, hX.2⟩
theorem am_X_sL {h0 h : am_H} {ad0 ad : Nat → Nat} {r j : Nat} {x : Int64} (hX : am_X h0 ad0 h ad) : am_X h0 ad0 (am_sL h r j x) ad := ⟨fun q hq => hX.1 q hq, hX.2⟩
theorem am_Vs_k {h h' : am_H} (e : ∀ r, hk_ h' r = hk_ h r) {vs : List Value} (hv : am_Vs h vs) : am_Vs h' vs := am_Vs_le (fun r _ => e r) hv
theorem am_rv_ref {ad : Nat → Nat} {r : Nat} (h : r ≠ 0) : am_rv ad r = .ref (ad r) := if_neg h
theorem am_cv_F {h : am_H} {ad : Nat → Nat} {r j : Nat} (h13 : hk_ h r ≠ 13) : am_F h ad r j = am_cv ad (if am_fi (hk_ h r) j = true then Value.int (hi_ h r j) else .ref (hr_ h r j)) := by
  unfold am_F
  rw [if_neg h13]
  split <;> rfl
theorem am_VF {G : am_G} {h : am_H} {ad : Nat → Nat} {H : Heap} (hA : am_A G h ad H) {r j : Nat} (h0 : hk_ h r ≠ 0) : am_V h (if am_fi (hk_ h r) j = true then Value.int (hi_ h r j) else .ref (hr_ h r j)) := by
  split
  · trivial
  · exact hA.2.2.2.2 r j h0
theorem am_rfit {ad : Nat → Nat} {r : Nat} {ty : FieldType} (h : (∃ c, ty = .object c) ∨ ∃ t, ty = .array t) : narrow ty (am_rv ad r) = am_rv ad r ∧ fits ty (am_rv ad r) = true := by
  unfold am_rv
  rcases h with ⟨c, rfl⟩ | ⟨t, rfl⟩ <;> split <;> exact ⟨rfl, rfl⟩
theorem am_same {s : State} {args : Array Value} {T : u_T} {j : Nat} {ref : String} (hts : ∀ w ∈ am_TG, w.before args s = true) (hs : ref = (T j).1 ∨ Cond.sameField ref (T j).1 (T j).2.1 (T j).2.2.1 ∈ am_TG) : ∀ x, s.fieldFound? (T j).1 (T j).2.1 (T j).2.2.1 = some x → s.fieldFound? ref (T j).2.1 (T j).2.2.1 = some x := by
  intro x hx
  rcases hs with e | e
  · rw [e]; exact hx
  · exact u_same (hts _ e) x hx
section AMH
variable {Z : am_Z} {own : String} {cc : ByteArray} {n L mc ms : Nat} {kc ks pc : Nat} {ls st : List Value} {h : am_H}
theorem am_get (hC : am_OK Z own cc n L mc ms) {C : String} {T : u_T} {N ci idx j r : Nat} {ref : String} {v : Value} (hc : am_cl[ci]? = some (C, T, N)) (hkr : hk_ h r = ci + 1) (hj : j < N) (hw : Cond.fieldLink own idx ref (T j).2.1 (T j).2.2.1 ∈ am_TG) (hs : ref = (T j).1 ∨ Cond.sameField ref (T j).1 (T j).2.1 (T j).2.2.1 ∈ am_TG)
    (hd : decode cc pc = .ok (.getfield idx, 3)) (hv : (if am_fi (ci + 1) j = true then Value.int (hi_ h r j) else .ref (hr_ h r j)) = v) (k : am_W Z kc ks (pc + 3) ls (v :: st) h) : am_W Z kc ks pc ls (.ref r :: st) h := by
  obtain ⟨G, p, l, e, R, s, m, args, below, meth, c, h0, ad0, n', Q⟩ := Z
  obtain ⟨rfl, ⟨hx, hb, hml, hown, hts⟩, hlk, hE, htr, hR1, hR2, hR3, hR4⟩ := hC
  refine fun ad H locs lc hA hS hX hl hvl hvs => ?_
  obtain ⟨hin, hty, hnm, h8⟩ := am_cf hc
  obtain ⟨r0, -⟩ := am_own hA hkr (by omega) (by omega)
  obtain ⟨cell, q1, q2, q3, q4⟩ := am_obj hA hkr hc
  obtain ⟨hSl, hfc, kC, hkC, hkind⟩ := hE.2.2.1.1 ci _ hc
  obtain ⟨cf, kf, fi, f, hi, hsl⟩ := hSl j hj
  have hv1 : am_V h v := by rw [← hv, ← hkr]; exact am_VF hA (by omega)
  have k9 := k ad H locs lc hA hS hX hl hvl (am_Vc hv1 (am_Vt hvs))
  change W p l e R s m args below meth c H locs kc ks Q (F0 m pc lc (am_rv ad r :: _))
  rw [am_rv_ref r0]
  refine W.getf hx hb hown (hts _ hw) (am_same hts hs _ hi) (u_facts hfc hkC (u_lays hts hin hj) hi).1 q1 (by rw [q3]; exact fun h => by cases h) (v := am_cv ad v) ?_ rfl rfl hd k9
  rw [hsl, q4 j hj, am_cv_F (by omega), hkr, hv]
theorem am_getN (hC : am_OK Z own cc n L mc ms) {C host : String} {T : u_T} {N ci idx j r : Nat} {v : Value} (hc : am_cl[ci]? = some (C, T, N)) (hkr : hk_ h r = ci + 1) (hj : j < N) (hw : Cond.fieldLinkNest own idx (T j).1 (T j).2.1 (T j).2.2.1 host ∈ am_bw)
    (hd : decode cc pc = .ok (.getfield idx, 3)) (hv : (if am_fi (ci + 1) j = true then Value.int (hi_ h r j) else .ref (hr_ h r j)) = v) (k : am_W Z kc ks (pc + 3) ls (v :: st) h) : am_W Z kc ks pc ls (.ref r :: st) h := by
  obtain ⟨G, p, l, e, R, s, m, args, below, meth, c, h0, ad0, n', Q⟩ := Z
  obtain ⟨rfl, ⟨hx, hb, hml, hown, hts⟩, hlk, hE, htr, hR1, hR2, hR3, hR4⟩ := hC
  refine fun ad H locs lc hA hS hX hl hvl hvs => ?_
  obtain ⟨hin, hty, hnm, h8⟩ := am_cf hc
  obtain ⟨r0, -⟩ := am_own hA hkr (by omega) (by omega)
  obtain ⟨cell, q1, q2, q3, q4⟩ := am_obj hA hkr hc
  obtain ⟨hSl, hfc, kC, hkC, hkind⟩ := hE.2.2.1.1 ci _ hc
  obtain ⟨cf, kf, fi, f, hi, hsl⟩ := hSl j hj
  have hv1 : am_V h v := by rw [← hv, ← hkr]; exact am_VF hA (by omega)
  have k9 := k ad H locs lc hA hS hX hl hvl (am_Vc hv1 (am_Vt hvs))
  change W p l e R s m args below meth c H locs kc ks Q (F0 m pc lc (am_rv ad r :: _))
  rw [am_rv_ref r0]
  refine va_Wgetf hx hb hown (va_Nw.use rfl (hE.1 _ hw)) hi (u_facts hfc hkC (u_lays hts hin hj) hi).1 q1 (by rw [q3]; exact fun h => by cases h) (v := am_cv ad v) ?_ rfl rfl hd k9
  rw [hsl, q4 j hj, am_cv_F (by omega), hkr, hv]
/-- what a written object is -/
theorem am_objI {G : am_G} {ad : Nat → Nat} {H H' : Heap} (hA : am_A G h ad H) {s : State} {args : Array Value} (hts : ∀ w ∈ am_TG, w.before args s = true) (hK : va_K G.1 am_cl (am_tys G) s) {own' C : String} {T : u_T} {N ci j r : Nat} {x : Int32} {cell : Cell} (hc : am_cl[ci]? = some (C, T, N)) (hkr : hk_ h r = ci + 1) (hj : j < N) (hf : am_fi (ci + 1) j = true) (q2 : cell.cls = G.1.1 ci) (q3 : cell.vm = .none) (q4 : ∀ k, k < N → cell.slots[G.1.2 ci k]? = some (am_F h ad r k))
    (e1 : H'[ad r]? = some (cell.setSlot (G.1.2 ci j) (.int x))) (z : H'.size = H.size) (oq : ∀ q : Nat, q ≠ ad r → H'[q]? = H[q]?) : am_A G (am_sI h r j x) ad H' := by
  obtain ⟨hin, hty, hnm, h8⟩ := am_cf hc
  have hap := va_apart (own := own') hts hin (am_ty ci) hty hnm hK hc
  refine am_A_upd hA hkr (by omega) (by omega) (fun q => rfl) (fun q => rfl) (fun q hq i => am_F_sI hq i) (fun q i hq => hA.2.2.2.2 q i hq) z oq ?_
  unfold am_at
  rw [hk_sI, hkr]
  refine Or.inr (Or.inr ⟨by omega, _, by rw [Nat.add_sub_cancel]; exact hc, ?_⟩)
  rw [Nat.add_sub_cancel]
  refine t_OB.to (V := updV (am_F h ad r) j (.int x)) ⟨_, e1, q2, q3, t_set q4 hap hj _⟩ (fun i _ => ?_)
  rw [am_F_sI' (by omega) (by rw [hkr]; exact hf)]
theorem am_objR {G : am_G} {ad : Nat → Nat} {H H' : Heap} (hA : am_A G h ad H) {s : State} {args : Array Value} (hts : ∀ w ∈ am_TG, w.before args s = true) (hK : va_K G.1 am_cl (am_tys G) s) {own' C : String} {T : u_T} {N ci j r x : Nat} {cell : Cell} (hc : am_cl[ci]? = some (C, T, N)) (hkr : hk_ h r = ci + 1) (hj : j < N) (hf : am_fi (ci + 1) j = false) (q2 : cell.cls = G.1.1 ci) (q3 : cell.vm = .none) (q4 : ∀ k, k < N → cell.slots[G.1.2 ci k]? = some (am_F h ad r k)) (hx : x = 0 ∨ hk_ h x ≠ 0)
    (e1 : H'[ad r]? = some (cell.setSlot (G.1.2 ci j) (am_rv ad x))) (z : H'.size = H.size) (oq : ∀ q : Nat, q ≠ ad r → H'[q]? = H[q]?) : am_A G (am_sR h r j x) ad H' := by
  obtain ⟨hin, hty, hnm, h8⟩ := am_cf hc
  have hap := va_apart (own := own') hts hin (am_ty ci) hty hnm hK hc
  refine am_A_upd hA hkr (by omega) (by omega) (fun q => rfl) (fun q => rfl) (fun q hq i => am_F_sR hq i) (am_lv_sR hA hx) z oq ?_
  unfold am_at
  rw [hk_sR, hkr]
  refine Or.inr (Or.inr ⟨by omega, _, by rw [Nat.add_sub_cancel]; exact hc, ?_⟩)
  rw [Nat.add_sub_cancel]
  refine t_OB.to (V := updV (am_F h ad r) j (am_rv ad x)) ⟨_, e1, q2, q3, t_set q4 hap hj _⟩ (fun i _ => ?_)
  rw [am_F_sR' (by omega) (by rw [hkr]; exact hf)]
theorem am_lay {C : String} {T : u_T} {N j : Nat} (hin : ∀ w ∈ u_ws C T N, w ∈ am_TG) (hj : j < N) {s : State} {args : Array Value} (hts : ∀ w ∈ am_TG, w.before args s = true) : (u_lay C T j).before args s = true := hts _ (hin _ (u_in_lay hj))
theorem am_putI (hC : am_OK Z own cc n L mc ms) {C : String} {T : u_T} {N ci idx j r : Nat} {ref : String} {x : Int32} (hc : am_cl[ci]? = some (C, T, N)) (hkr : hk_ h r = ci + 1) (hj : j < N) (hf : am_fi (ci + 1) j = true) (hfin : (T j).2.2.2 = false) (hty : am_ty ci j = .int) (hw : Cond.fieldLink own idx ref (T j).2.1 (T j).2.2.1 ∈ am_TG) (hs : ref = (T j).1 ∨ Cond.sameField ref (T j).1 (T j).2.1 (T j).2.2.1 ∈ am_TG)
    (hd : decode cc pc = .ok (.putfield idx, 3)) (k : am_W Z kc ks (pc + 3) ls st (am_sI h r j x)) : am_W Z kc ks pc ls (.int x :: .ref r :: st) h := by
  obtain ⟨G, p, l, e, R, s, m, args, below, meth, c, h0, ad0, n', Q⟩ := Z
  obtain ⟨rfl, ⟨hx, hb, hml, hown, hts⟩, hlk, hE, htr, hR1, hR2, hR3, hR4⟩ := hC
  refine fun ad H locs lc hA hS hX hl hvl hvs => ?_
  obtain ⟨hin, hty2, hnm, h8⟩ := am_cf hc
  obtain ⟨r0, -, -, hlo, -⟩ := am_own hA hkr (by omega) (by omega)
  obtain ⟨cell, q1, q2, q3, q4⟩ := am_obj hA hkr hc
  obtain ⟨hSl, hfc, kC, hkC, hkind⟩ := hE.2.2.1.1 ci _ hc
  obtain ⟨cf, kf, fi, f, hi, hsl⟩ := hSl j hj
  have hlay := am_lay hin hj hts
  unfold u_lay at hlay
  rw [if_neg (by rw [hfin]; decide)] at hlay
  have hst := (u_facts hfc hkC (u_lays hts hin hj) hi).1
  have h6 := u_store (v := .int x) hfc hkC hkind hlay hi (hty ▸ hty2 j hj) rfl rfl
  change W p l e R s m args below meth c H locs kc ks Q (F0 m pc lc (.int x :: am_rv ad r :: _))
  rw [am_rv_ref r0]
  refine W.putK hx hb (f := f) ⟨hown, hts _ hw, ⟨_, _, _, am_same hts hs _ hi⟩, hst⟩ (by rw [q2]; exact h6) q1 q3 (by rw [hsl]; exact k2_hasslot (q4 j hj)) rfl rfl hd fun H' e1 e2 e3 => ?_
  rw [hsl] at e1 ⊢
  exact k ad H' _ lc (am_objI (own' := own) hA hts hE.2.2.1 hc hkr hj hf q2 q3 q4 e1 e2 e3) (hS.put e2 e3 hlo) (am_X_sI hX) hl (am_Vs_k (fun _ => rfl) hvl) (am_Vs_k (fun _ => rfl) (am_Vt (am_Vt hvs)))
theorem am_putNI (hC : am_OK Z own cc n L mc ms) {C host : String} {T : u_T} {N ci idx j r : Nat} {x : Int32} (hc : am_cl[ci]? = some (C, T, N)) (hkr : hk_ h r = ci + 1) (hj : j < N) (hf : am_fi (ci + 1) j = true) (hfin : (T j).2.2.2 = false) (hty : am_ty ci j = .int) (hw : Cond.fieldLinkNest own idx (T j).1 (T j).2.1 (T j).2.2.1 host ∈ am_bw)
    (hd : decode cc pc = .ok (.putfield idx, 3)) (k : am_W Z kc ks (pc + 3) ls st (am_sI h r j x)) : am_W Z kc ks pc ls (.int x :: .ref r :: st) h := by
  obtain ⟨G, p, l, e, R, s, m, args, below, meth, c, h0, ad0, n', Q⟩ := Z
  obtain ⟨rfl, ⟨hx, hb, hml, hown, hts⟩, hlk, hE, htr, hR1, hR2, hR3, hR4⟩ := hC
  refine fun ad H locs lc hA hS hX hl hvl hvs => ?_
  obtain ⟨hin, hty2, hnm, h8⟩ := am_cf hc
  obtain ⟨r0, -, -, hlo, -⟩ := am_own hA hkr (by omega) (by omega)
  obtain ⟨cell, q1, q2, q3, q4⟩ := am_obj hA hkr hc
  obtain ⟨hSl, hfc, kC, hkC, hkind⟩ := hE.2.2.1.1 ci _ hc
  obtain ⟨cf, kf, fi, f, hi, hsl⟩ := hSl j hj
  have hlay := am_lay hin hj hts
  unfold u_lay at hlay
  rw [if_neg (by rw [hfin]; decide)] at hlay
  have hst := (u_facts hfc hkC (u_lays hts hin hj) hi).1
  have h6 := u_store (v := .int x) hfc hkC hkind hlay hi (hty ▸ hty2 j hj) rfl rfl
  change W p l e R s m args below meth c H locs kc ks Q (F0 m pc lc (.int x :: am_rv ad r :: _))
  rw [am_rv_ref r0]
  refine va_WputK hx hb (f := f) hown (va_Nw.use rfl (hE.1 _ hw)) hi hst (by rw [q2]; exact h6) q1 q3 (by rw [hsl]; exact k2_hasslot (q4 j hj)) rfl rfl hd fun H' e1 e2 e3 => ?_
  rw [hsl] at e1 ⊢
  exact k ad H' _ lc (am_objI (own' := own) hA hts hE.2.2.1 hc hkr hj hf q2 q3 q4 e1 e2 e3) (hS.put e2 e3 hlo) (am_X_sI hX) hl (am_Vs_k (fun _ => rfl) hvl) (am_Vs_k (fun _ => rfl) (am_Vt (am_Vt hvs)))
theorem am_putR (hC : am_OK Z own cc n L mc ms) {C : String} {T : u_T} {N ci idx j r x : Nat} {ref : String} {ty : FieldType} (hc : am_cl[ci]? = some (C, T, N)) (hkr : hk_ h r = ci + 1) (hj : j < N) (hf : am_fi (ci + 1) j = false) (hfin : (T j).2.2.2 = false) (hty : am_ty ci j = ty) (hr : (∃ c, ty = .object c) ∨ ∃ t, ty = .array t) (hw : Cond.fieldLink own idx ref (T j).2.1 (T j).2.2.1 ∈ am_TG) (hs : ref = (T j).1 ∨ Cond.sameField ref (T j).1 (T j).2.1 (T j).2.2.1 ∈ am_TG)
    (hd : decode cc pc = .ok (.putfield idx, 3)) (k : am_W Z kc ks (pc + 3) ls st (am_sR h r j x)) : am_W Z kc ks pc ls (.ref x :: .ref r :: st) h := by
  obtain ⟨G, p, l, e, R, s, m, args, below, meth, c, h0, ad0, n', Q⟩ := Z
  obtain ⟨rfl, ⟨hx, hb, hml, hown, hts⟩, hlk, hE, htr, hR1, hR2, hR3, hR4⟩ := hC
  refine fun ad H locs lc hA hS hX hl hvl hvs => ?_
  obtain ⟨hin, hty2, hnm, h8⟩ := am_cf hc
  obtain ⟨r0, -, -, hlo, -⟩ := am_own hA hkr (by omega) (by omega)
  obtain ⟨cell, q1, q2, q3, q4⟩ := am_obj hA hkr hc
  obtain ⟨hSl, hfc, kC, hkC, hkind⟩ := hE.2.2.1.1 ci _ hc
  obtain ⟨cf, kf, fi, f, hi, hsl⟩ := hSl j hj
  have hlay := am_lay hin hj hts
  unfold u_lay at hlay
  rw [if_neg (by rw [hfin]; decide)] at hlay
  have hst := (u_facts hfc hkC (u_lays hts hin hj) hi).1
  have h6 := u_store (v := am_rv ad x) hfc hkC hkind hlay hi (hty ▸ hty2 j hj) (am_rfit hr).1 (am_rfit hr).2
  have hvx : x = 0 ∨ hk_ h x ≠ 0 := am_Vh hvs
  change W p l e R s m args below meth c H locs kc ks Q (F0 m pc lc (am_rv ad x :: am_rv ad r :: _))
  rw [am_rv_ref r0]
  refine W.putK hx hb (f := f) ⟨hown, hts _ hw, ⟨_, _, _, am_same hts hs _ hi⟩, hst⟩ (by rw [q2]; exact h6) q1 q3 (by rw [hsl]; exact k2_hasslot (q4 j hj)) rfl rfl hd fun H' e1 e2 e3 => ?_
  rw [hsl] at e1 ⊢
  exact k ad H' _ lc (am_objR (own' := own) hA hts hE.2.2.1 hc hkr hj hf q2 q3 q4 hvx e1 e2 e3) (hS.put e2 e3 hlo) (am_X_sR hX) hl (am_Vs_k (fun _ => rfl) hvl) (am_Vs_k (fun _ => rfl) (am_Vt (am_Vt hvs)))
/-- a constructor's own final fields -/
def am_In (Z : am_Z) : Prop := Z.2.2.2.2.2.2.2.2.2.1.name = "<init>"
theorem am_fcls {s : State} {args : Array Value} {m : MethodId} {own' C : String} {T : u_T} {j : Nat} {cf fi : Nat} {kf : Class} {f : Field} (hown : s.vm.findClass own' = some m.cls) (hlay : (Cond.laysFinal C (T j).1 (T j).2.1 (T j).2.2.1).before args s = true) (hi : s.fieldFound? (T j).1 (T j).2.1 (T j).2.2.1 = some (cf, kf, fi, f)) (hdecl : (T j).1 = own') : m.cls = cf := by
  obtain ⟨_, _, c', _, _, _, -, -, hf', -, -, -, hown2, -⟩ := Cond.laysFinal_spec hlay
  have e1 : c' = cf := by have := hi.symm.trans hf'; simp at this; exact this.1.symm
  rw [hdecl] at hown2
  rw [← e1]
  exact Option.some.inj (hown.symm.trans hown2)
theorem am_putFI (hC : am_OK Z own cc n L mc ms) (hI : am_In Z) {C : String} {T : u_T} {N ci idx j r : Nat} {x : Int32} (hc : am_cl[ci]? = some (C, T, N)) (hkr : hk_ h r = ci + 1) (hj : j < N) (hf : am_fi (ci + 1) j = true) (hfin : (T j).2.2.2 = true) (hty : am_ty ci j = .int) (hdecl : (T j).1 = own) (hw : Cond.fieldLink own idx (T j).1 (T j).2.1 (T j).2.2.1 ∈ am_TG)
    (hd : decode cc pc = .ok (.putfield idx, 3)) (k : am_W Z kc ks (pc + 3) ls st (am_sI h r j x)) : am_W Z kc ks pc ls (.int x :: .ref r :: st) h := by
  obtain ⟨G, p, l, e, R, s, m, args, below, meth, c, h0, ad0, n', Q⟩ := Z
  obtain ⟨rfl, ⟨hx, hb, hml, hown, hts⟩, hlk, hE, htr, hR1, hR2, hR3, hR4⟩ := hC
  refine fun ad H locs lc hA hS hX hl hvl hvs => ?_
  obtain ⟨hin, hty2, hnm, h8⟩ := am_cf hc
  obtain ⟨r0, -, -, hlo, -⟩ := am_own hA hkr (by omega) (by omega)
  obtain ⟨cell, q1, q2, q3, q4⟩ := am_obj hA hkr hc
  obtain ⟨hSl, hfc, kC, hkC, hkind⟩ := hE.2.2.1.1 ci _ hc
  obtain ⟨cf, kf, fi, f, hi, hsl⟩ := hSl j hj
  have hlay := am_lay hin hj hts
  unfold u_lay at hlay
  rw [if_pos hfin] at hlay
  have hst := (u_facts hfc hkC (u_lays hts hin hj) hi).1
  have h6 := u_fits (v := .int x) hfc hkC hkind (Or.inr hlay) hi (hty ▸ hty2 j hj) rfl rfl
  change W p l e R s m args below meth c H locs kc ks Q (F0 m pc lc (.int x :: am_rv ad r :: _))
  rw [am_rv_ref r0]
  refine W.putFinK hx hb hown (hts _ hw) hi hst (am_fcls hown hlay hi hdecl) hI (by rw [q2]; exact h6) q1 q3 (by rw [hsl]; exact k2_hasslot (q4 j hj)) rfl rfl hd fun H' e1 e2 e3 => ?_
  rw [hsl] at e1 ⊢
  exact k ad H' _ lc (am_objI (own' := own) hA hts hE.2.2.1 hc hkr hj hf q2 q3 q4 e1 e2 e3) (hS.put e2 e3 hlo) (am_X_sI hX) hl (am_Vs_k (fun _ => rfl) hvl) (am_Vs_k (fun _ => rfl) (am_Vt (am_Vt hvs)))
theorem am_putFR (hC : am_OK Z own cc n L mc ms) (hI : am_In Z) {C : String} {T : u_T} {N ci idx j r x : Nat} {ty : FieldType} (hc : am_cl[ci]? = some (C, T, N)) (hkr : hk_ h r = ci + 1) (hj : j < N) (hf : am_fi (ci + 1) j = false) (hfin : (T j).2.2.2 = true) (hty : am_ty ci j = ty) (hr : (∃ c, ty = .object c) ∨ ∃ t, ty = .array t) (hdecl : (T j).1 = own) (hw : Cond.fieldLink own idx (T j).1 (T j).2.1 (T j).2.2.1 ∈ am_TG)
    (hd : decode cc pc = .ok (.putfield idx, 3)) (k : am_W Z kc ks (pc + 3) ls st (am_sR h r j x)) : am_W Z kc ks pc ls (.ref x :: .ref r :: st) h := by
  obtain ⟨G, p, l, e, R, s, m, args, below, meth, c, h0, ad0, n', Q⟩ := Z
  obtain ⟨rfl, ⟨hx, hb, hml, hown, hts⟩, hlk, hE, htr, hR1, hR2, hR3, hR4⟩ := hC
  refine fun ad H locs lc hA hS hX hl hvl hvs => ?_
  obtain ⟨hin, hty2, hnm, h8⟩ := am_cf hc
  obtain ⟨r0, -, -, hlo, -⟩ := am_own hA hkr (by omega) (by omega)
  obtain ⟨cell, q1, q2, q3, q4⟩ := am_obj hA hkr hc
  obtain ⟨hSl, hfc, kC, hkC, hkind⟩ := hE.2.2.1.1 ci _ hc
  obtain ⟨cf, kf, fi, f, hi, hsl⟩ := hSl j hj
  have hlay := am_lay hin hj hts
  unfold u_lay at hlay
  rw [if_pos hfin] at hlay
  have hst := (u_facts hfc hkC (u_lays hts hin hj) hi).1
  have h6 := u_fits (v := am_rv ad x) hfc hkC hkind (Or.inr hlay) hi (hty ▸ hty2 j hj) (am_rfit hr).1 (am_rfit hr).2
  have hvx : x = 0 ∨ hk_ h x ≠ 0 := am_Vh hvs
  change W p l e R s m args below meth c H locs kc ks Q (F0 m pc lc (am_rv ad x :: am_rv ad r :: _))
  rw [am_rv_ref r0]
  refine W.putFinK hx hb hown (hts _ hw) hi hst (am_fcls hown hlay hi hdecl) hI (by rw [q2]; exact h6) q1 q3 (by rw [hsl]; exact k2_hasslot (q4 j hj)) rfl rfl hd fun H' e1 e2 e3 => ?_
  rw [hsl] at e1 ⊢
  exact k ad H' _ lc (am_objR (own' := own) hA hts hE.2.2.1 hc hkr hj hf q2 q3 q4 hvx e1 e2 e3) (hS.put e2 e3 hlo) (am_X_sR hX) hl (am_Vs_k (fun _ => rfl) hvl) (am_Vs_k (fun _ => rfl) (am_Vt (am_Vt hvs)))
end AMH
end
section
/-! ===== the abstract machine's arrays and new things ===== -/
theorem am_ix {i : Int32} {j N : Nat} (hi : i = nI j) (hj : j < N) (hN : N < 2 ^ 31) : ¬ (i < 0 ∨ N ≤ i.toNatClampNeg) ∧ i.toNatClampNeg = j := by
  subst hi
  have e := nI_clamp (n := j) (by omega)
  refine ⟨fun q => ?_, e⟩
  rcases q with q | q
  · exact nI_pos (by omega) q
  · omega
section AMA
variable {Z : am_Z} {own : String} {cc : ByteArray} {n L mc ms : Nat} {kc ks pc : Nat} {ls st : List Value} {h : am_H}
theorem am_iald (hC : am_OK Z own cc n L mc ms) {r j N : Nat} {i : Int32} (hkr : hk_ h r = 9) (hnr : hn_ h r = N) (hi : i = nI j) (hj : j < N) (hN : N < 2 ^ 31) (hd : decode cc pc = .ok (.iaload, 1)) (k : am_W Z kc ks (pc + 1) ls (.int (hi_ h r j) :: st) h) : am_W Z kc ks pc ls (.int i :: .ref r :: st) h := by
  obtain ⟨G, p, l, e, R, s, m, args, below, meth, c, h0, ad0, n', Q⟩ := Z
  obtain ⟨rfl, ⟨hx, hb, hml, hown, hts⟩, hlk, hE, htr, hR1, hR2, hR3, hR4⟩ := hC
  refine fun ad H locs lc hA hS hX hl hvl hvs => ?_
  obtain ⟨r0, -⟩ := am_own hA hkr (by omega) (by omega)
  have hc := am_arr (k := 0) hA hkr (by omega)
  obtain ⟨i1, i2⟩ := am_ix hi hj hN
  have k9 := k ad H locs lc hA hS hX hl hvl (am_Vc trivial (am_Vt (am_Vt hvs)))
  change W p l e R s m args below meth c H locs kc ks Q (F0 m pc lc (.int i :: am_rv ad r :: _))
  rw [am_rv_ref r0]
  refine W.iald (v := .int (hi_ h r j)) hx hb hc ((hE.2.2.1.2 0 _ rfl).1 _ _) (fun q => by cases q) (by rw [arrV_size, hnr]; exact i1) ?_ rfl rfl hd k9
  rw [arrV_read _ _ (by rw [i2, hnr]; exact hj), i2]
  unfold am_F
  rw [hkr]
  rfl
theorem am_zald (hC : am_OK Z own cc n L mc ms) {r j N : Nat} {i : Int32} (hkr : hk_ h r = 10) (hnr : hn_ h r = N) (hi : i = nI j) (hj : j < N) (hN : N < 2 ^ 31) (hd : decode cc pc = .ok (.baload, 1)) (k : am_W Z kc ks (pc + 1) ls (.int (hi_ h r j) :: st) h) : am_W Z kc ks pc ls (.int i :: .ref r :: st) h := by
  obtain ⟨G, p, l, e, R, s, m, args, below, meth, c, h0, ad0, n', Q⟩ := Z
  obtain ⟨rfl, ⟨hx, hb, hml, hown, hts⟩, hlk, hE, htr, hR1, hR2, hR3, hR4⟩ := hC
  refine fun ad H locs lc hA hS hX hl hvl hvs => ?_
  obtain ⟨r0, -⟩ := am_own hA hkr (by omega) (by omega)
  have hc := am_arr (k := 1) hA hkr (by omega)
  obtain ⟨i1, i2⟩ := am_ix hi hj hN
  have k9 := k ad H locs lc hA hS hX hl hvl (am_Vc trivial (am_Vt (am_Vt hvs)))
  change W p l e R s m args below meth c H locs kc ks Q (F0 m pc lc (.int i :: am_rv ad r :: _))
  rw [am_rv_ref r0]
  refine W.zald (v := .int (hi_ h r j)) hx hb hc ((hE.2.2.1.2 1 _ rfl).1 _ _) (fun q => by cases q) (by rw [arrV_size, hnr]; exact i1) ?_ rfl rfl hd k9
  rw [arrV_read _ _ (by rw [i2, hnr]; exact hj), i2]
  unfold am_F
  rw [hkr]
  rfl
theorem am_lald (hC : am_OK Z own cc n L mc ms) {r j N : Nat} {i : Int32} (hkr : hk_ h r = 13) (hnr : hn_ h r = N) (hi : i = nI j) (hj : j < N) (hN : N < 2 ^ 31) (hd : decode cc pc = .ok (.laload, 1)) (k : am_W Z kc ks (pc + 1) ls (.long (hl_ h r j) :: st) h) : am_W Z kc ks pc ls (.int i :: .ref r :: st) h := by
  obtain ⟨G, p, l, e, R, s, m, args, below, meth, c, h0, ad0, n', Q⟩ := Z
  obtain ⟨rfl, ⟨hx, hb, hml, hown, hts⟩, hlk, hE, htr, hR1, hR2, hR3, hR4⟩ := hC
  refine fun ad H locs lc hA hS hX hl hvl hvs => ?_
  obtain ⟨r0, -⟩ := am_own hA hkr (by omega) (by omega)
  have hc := am_arr (k := 4) hA hkr (by omega)
  obtain ⟨i1, i2⟩ := am_ix hi hj hN
  have k9 := k ad H locs lc hA hS hX hl hvl (am_Vc trivial (am_Vt (am_Vt hvs)))
  change W p l e R s m args below meth c H locs kc ks Q (F0 m pc lc (.int i :: am_rv ad r :: _))
  rw [am_rv_ref r0]
  refine W.lald (v := .long (hl_ h r j)) hx hb hc ((hE.2.2.1.2 4 _ rfl).1 _ _) (fun q => by cases q) (by rw [arrV_size, hnr]; exact i1) ?_ rfl rfl hd k9
  rw [arrV_read _ _ (by rw [i2, hnr]; exact hj), i2]
  unfold am_F
  rw [hkr]
  rfl
theorem am_aald (hC : am_OK Z own cc n L mc ms) {r j N kk : Nat} {i : Int32} (hkk : kk = 11 ∨ kk = 12) (hkr : hk_ h r = kk) (hnr : hn_ h r = N) (hi : i = nI j) (hj : j < N) (hN : N < 2 ^ 31) (hd : decode cc pc = .ok (.aaload, 1)) (k : am_W Z kc ks (pc + 1) ls (.ref (hr_ h r j) :: st) h) : am_W Z kc ks pc ls (.int i :: .ref r :: st) h := by
  obtain ⟨G, p, l, e, R, s, m, args, below, meth, c, h0, ad0, n', Q⟩ := Z
  obtain ⟨rfl, ⟨hx, hb, hml, hown, hts⟩, hlk, hE, htr, hR1, hR2, hR3, hR4⟩ := hC
  refine fun ad H locs lc hA hS hX hl hvl hvs => ?_
  obtain ⟨r0, -⟩ := am_own hA hkr (by omega) (by omega)
  obtain ⟨i1, i2⟩ := am_ix hi hj hN
  have k9 := k ad H locs lc hA hS hX hl hvl (am_Vc (hA.2.2.2.2 r j (by omega)) (am_Vt (am_Vt hvs)))
  change W p l e R s m args below meth c H locs kc ks Q (F0 m pc lc (.int i :: am_rv ad r :: _))
  rw [am_rv_ref r0]
  rcases hkk with rfl | rfl
  · have hc := am_arr (k := 2) hA hkr (by omega)
    refine W.aald (v := am_rv ad (hr_ h r j)) (ty := .object "HousePlans$Drawing") hx hb hc ((hE.2.2.1.2 2 _ rfl).1 _ _) rfl (fun q => by cases q) (by rw [arrV_size, hnr]; exact i1) ?_ rfl rfl hd k9
    rw [arrV_read _ _ (by rw [i2, hnr]; exact hj), i2]
    unfold am_F
    rw [hkr]
    rfl
  · have hc := am_arr (k := 3) hA hkr (by omega)
    refine W.aald (v := am_rv ad (hr_ h r j)) (ty := .object "java/lang/Object") hx hb hc ((hE.2.2.1.2 3 _ rfl).1 _ _) rfl (fun q => by cases q) (by rw [arrV_size, hnr]; exact i1) ?_ rfl rfl hd k9
    rw [arrV_read _ _ (by rw [i2, hnr]; exact hj), i2]
    unfold am_F
    rw [hkr]
    rfl
theorem am_alen (hC : am_OK Z own cc n L mc ms) {r N kk : Nat} (hkk : kk = 9 ∨ kk = 10 ∨ kk = 11 ∨ kk = 12) (hkr : hk_ h r = kk) (hnr : hn_ h r = N) (hd : decode cc pc = .ok (.arraylength, 1)) (k : am_W Z kc ks (pc + 1) ls (.int (nI N) :: st) h) : am_W Z kc ks pc ls (.ref r :: st) h := by
  obtain ⟨G, p, l, e, R, s, m, args, below, meth, c, h0, ad0, n', Q⟩ := Z
  obtain ⟨rfl, ⟨hx, hb, hml, hown, hts⟩, hlk, hE, htr, hR1, hR2, hR3, hR4⟩ := hC
  refine fun ad H locs lc hA hS hX hl hvl hvs => ?_
  obtain ⟨r0, -⟩ := am_own hA hkr (by omega) (by omega)
  have k9 := k ad H locs lc hA hS hX hl hvl (am_Vc trivial (am_Vt hvs))
  change W p l e R s m args below meth c H locs kc ks Q (F0 m pc lc (am_rv ad r :: _))
  rw [am_rv_ref r0]
  subst hnr
  rcases hkk with rfl | rfl | rfl | rfl
  · exact W.alen (n := nI (hn_ h r)) hx hb (am_arr (k := 0) hA hkr (by omega)) ((hE.2.2.1.2 0 _ rfl).1 _ _) (by rw [arrV_size]; rfl) rfl rfl hd k9
  · exact W.alen (n := nI (hn_ h r)) hx hb (am_arr (k := 1) hA hkr (by omega)) ((hE.2.2.1.2 1 _ rfl).1 _ _) (by rw [arrV_size]; rfl) rfl rfl hd k9
  · exact W.alen (n := nI (hn_ h r)) hx hb (am_arr (k := 2) hA hkr (by omega)) ((hE.2.2.1.2 2 _ rfl).1 _ _) (by rw [arrV_size]; rfl) rfl rfl hd k9
  · exact W.alen (n := nI (hn_ h r)) hx hb (am_arr (k := 3) hA hkr (by omega)) ((hE.2.2.1.2 3 _ rfl).1 _ _) (by rw [arrV_size]; rfl) rfl rfl hd k9
/-- .. of the empty table -/
theorem am_alen0 (hC : am_OK Z own cc n L mc ms) (hd : decode cc pc = .ok (.arraylength, 1)) (k : am_W Z kc ks (pc + 1) ls (.int 0 :: st) h) : am_W Z kc ks pc ls (.ref 1 :: st) h := by
  obtain ⟨G, p, l, e, R, s, m, args, below, meth, c, h0, ad0, n', Q⟩ := Z
  obtain ⟨rfl, ⟨hx, hb, hml, hown, hts⟩, hlk, hE, htr, hR1, hR2, hR3, hR4⟩ := hC
  refine fun ad H locs lc hA hS hX hl hvl hvs => ?_
  have k9 := k ad H locs lc hA hS hX hl hvl (am_Vc trivial (am_Vt hvs))
  change W p l e R s m args below meth c H locs kc ks Q (F0 m pc lc (am_rv ad 1 :: _))
  rw [am_rv_ref (by decide), hA.1.2.2.2.2.1]
  obtain ⟨f, cell, g1, g2, g3, g4, g5, g6, g7⟩ := hE.2.2.2.2.2.2.1
  exact W.alen (n := 0) hx hb (by rw [hS.2.1 _ (Array.getElem?_eq_some_iff.mp g1).1 g7]; exact g1) g2 (by rw [g5]; rfl) rfl rfl hd k9
theorem am_A_arr {G : am_G} {h h' : am_H} {ad : Nat → Nat} {H H' : Heap} {r k j : Nat} {v : Value} (hA : am_A G h ad H) (hkr : hk_ h r = k + 9) (h4 : k ≤ 4) (hkk : ∀ q, hk_ h' q = hk_ h q) (hnn : ∀ q, hn_ h' q = hn_ h q) (hF : ∀ q, q ≠ r → ∀ j, am_F h' ad q j = am_F h ad q j) (hFr : ∀ i, am_F h' ad r i = updV (am_F h ad r) j v i) (hlv : ∀ q j, hk_ h q ≠ 0 → hr_ h' q j = 0 ∨ hk_ h (hr_ h' q j) ≠ 0)
    (e1 : H'[ad r]? = some ((arrV (G.2.1 k) (hn_ h r) (am_F h ad r)).setSlot j v)) (z : H'.size = H.size) (oq : ∀ q : Nat, q ≠ ad r → H'[q]? = H[q]?) : am_A G h' ad H' := by
  refine am_A_upd hA hkr (by omega) (by omega) hkk hnn hF hlv z oq ?_
  unfold am_at
  rw [hkk, hnn, hkr]
  refine Or.inr (Or.inl ⟨by omega, by omega, ?_⟩)
  rw [Nat.add_sub_cancel, e1, arrV_store, funext hFr]
theorem am_iast (hC : am_OK Z own cc n L mc ms) {r j N : Nat} {i x : Int32} (hkr : hk_ h r = 9) (hnr : hn_ h r = N) (hi : i = nI j) (hj : j < N) (hN : N < 2 ^ 31) (hd : decode cc pc = .ok (.iastore, 1)) (k : am_W Z kc ks (pc + 1) ls st (am_sI h r j x)) : am_W Z kc ks pc ls (.int x :: .int i :: .ref r :: st) h := by
  obtain ⟨G, p, l, e, R, s, m, args, below, meth, c, h0, ad0, n', Q⟩ := Z
  obtain ⟨rfl, ⟨hx, hb, hml, hown, hts⟩, hlk, hE, htr, hR1, hR2, hR3, hR4⟩ := hC
  refine fun ad H locs lc hA hS hX hl hvl hvs => ?_
  obtain ⟨r0, -, -, hlo, -⟩ := am_own hA hkr (by omega) (by omega)
  have hc := am_arr (k := 0) hA hkr (by omega)
  obtain ⟨i1, i2⟩ := am_ix hi hj hN
  change W p l e R s m args below meth c H locs kc ks Q (F0 m pc lc (.int x :: .int i :: am_rv ad r :: _))
  rw [am_rv_ref r0]
  refine W.iast hx hb hc ((hE.2.2.1.2 0 _ rfl).1 _ _) (fun q => by cases q) (by rw [arrV_size, hnr]; exact i1) rfl rfl hd fun H' e1 z oq => ?_
  rw [i2] at e1 ⊢
  exact k ad H' _ lc (am_A_arr (k := 0) hA hkr (by omega) (fun _ => rfl) (fun _ => rfl) (fun q hq t => am_F_sI hq t) (fun t => am_F_sI' (by omega) (by rw [hkr]; rfl) t) (fun q t hq => hA.2.2.2.2 q t hq) e1 z oq) (hS.put z oq hlo) (am_X_sI hX) hl (am_Vs_k (fun _ => rfl) hvl) (am_Vs_k (fun _ => rfl) (am_Vt (am_Vt (am_Vt hvs))))
theorem am_zast (hC : am_OK Z own cc n L mc ms) {r j N : Nat} {i x : Int32} (hkr : hk_ h r = 10) (hnr : hn_ h r = N) (hi : i = nI j) (hj : j < N) (hN : N < 2 ^ 31) (hx01 : narrow .boolean (.int x) = .int x) (hd : decode cc pc = .ok (.bastore, 1)) (k : am_W Z kc ks (pc + 1) ls st (am_sI h r j x)) : am_W Z kc ks pc ls (.int x :: .int i :: .ref r :: st) h := by
  obtain ⟨G, p, l, e, R, s, m, args, below, meth, c, h0, ad0, n', Q⟩ := Z
  obtain ⟨rfl, ⟨hx, hb, hml, hown, hts⟩, hlk, hE, htr, hR1, hR2, hR3, hR4⟩ := hC
  refine fun ad H locs lc hA hS hX hl hvl hvs => ?_
  obtain ⟨r0, -, -, hlo, -⟩ := am_own hA hkr (by omega) (by omega)
  have hc := am_arr (k := 1) hA hkr (by omega)
  obtain ⟨i1, i2⟩ := am_ix hi hj hN
  change W p l e R s m args below meth c H locs kc ks Q (F0 m pc lc (.int x :: .int i :: am_rv ad r :: _))
  rw [am_rv_ref r0]
  refine W.zast hx hb hc ((hE.2.2.1.2 1 _ rfl).1 _ _) (fun q => by cases q) (by rw [arrV_size, hnr]; exact i1) rfl rfl hd fun H' e1 z oq => ?_
  rw [i2] at e1 ⊢
  rw [hx01] at e1
  exact k ad H' _ lc (am_A_arr (k := 1) hA hkr (by omega) (fun _ => rfl) (fun _ => rfl) (fun q hq t => am_F_sI hq t) (fun t => am_F_sI' (by omega) (by rw [hkr]; rfl) t) (fun q t hq => hA.2.2.2.2 q t hq) e1 z oq) (hS.put z oq hlo) (am_X_sI hX) hl (am_Vs_k (fun _ => rfl) hvl) (am_Vs_k (fun _ => rfl) (am_Vt (am_Vt (am_Vt hvs))))
theorem am_last (hC : am_OK Z own cc n L mc ms) {r j N : Nat} {i : Int32} {x : Int64} (hkr : hk_ h r = 13) (hnr : hn_ h r = N) (hi : i = nI j) (hj : j < N) (hN : N < 2 ^ 31) (hd : decode cc pc = .ok (.lastore, 1)) (k : am_W Z kc ks (pc + 1) ls st (am_sL h r j x)) : am_W Z kc ks pc ls (.long x :: .int i :: .ref r :: st) h := by
  obtain ⟨G, p, l, e, R, s, m, args, below, meth, c, h0, ad0, n', Q⟩ := Z
  obtain ⟨rfl, ⟨hx, hb, hml, hown, hts⟩, hlk, hE, htr, hR1, hR2, hR3, hR4⟩ := hC
  refine fun ad H locs lc hA hS hX hl hvl hvs => ?_
  obtain ⟨r0, -, -, hlo, -⟩ := am_own hA hkr (by omega) (by omega)
  have hc := am_arr (k := 4) hA hkr (by omega)
  obtain ⟨i1, i2⟩ := am_ix hi hj hN
  change W p l e R s m args below meth c H locs kc ks Q (F0 m pc lc (.long x :: .int i :: am_rv ad r :: _))
  rw [am_rv_ref r0]
  refine W.last hx hb hc ((hE.2.2.1.2 4 _ rfl).1 _ _) (fun q => by cases q) (by rw [arrV_size, hnr]; exact i1) rfl rfl hd fun H' e1 z oq => ?_
  rw [i2] at e1 ⊢
  exact k ad H' _ lc (am_A_arr (k := 4) hA hkr (by omega) (fun _ => rfl) (fun _ => rfl) (fun q hq t => am_F_sL hq t) (fun t => am_F_sL' (by omega) t) (fun q t hq => hA.2.2.2.2 q t hq) e1 z oq) (hS.put z oq hlo) (am_X_sL hX) hl (am_Vs_k (fun _ => rfl) hvl) (am_Vs_k (fun _ => rfl) (am_Vt (am_Vt (am_Vt hvs))))
/-- an object of a class of ours may lie in a row of Object, a Drawing in a row of Drawing -/
theorem am_asg {G : am_G} {ad : Nat → Nat} {H : Heap} (hA : am_A G h ad H) {s : State} {args : Array Value} (hE : am_E G s) {x ci : Nat} {C : String} {T : u_T} {N : Nat} (hkx : hk_ h x = ci + 1) (hc : am_cl[ci]? = some (C, T, N)) {E : String} (hca : E = C ∨ Cond.castable C E ∈ am_bw) : va_Any E s H (ad x) := by
  obtain ⟨cell, q1, q2, q3, q4⟩ := am_obj hA hkx hc
  obtain ⟨hSl, hfc, kC, hkC, hkind⟩ := hE.2.2.1.1 ci _ hc
  refine ⟨cell, q1, by rw [q3]; rfl, ⟨kC, by rw [q2]; exact hkC⟩, fun comp hcomp => ?_⟩
  rw [q2]
  rcases hca with rfl | hca
  · rw [hfc] at hcomp
    cases hcomp
    exact va_assign ⟨hfc, kC, hkC, hkind⟩
  · obtain ⟨c0, t1, f1, f2, f3⟩ := Cond.castable_spec (va_Nw.use (A := args) rfl (hE.1 _ hca))
    cases hfc.symm.trans f1
    cases hcomp.symm.trans f2
    exact f3
theorem am_aast (hC : am_OK Z own cc n L mc ms) {r j N k' x ci : Nat} {C : String} {T : u_T} {N' : Nat} {i : Int32} (hk' : (k' = 2 ∧ C = "HousePlans$Drawing") ∨ (k' = 3 ∧ Cond.castable C "java/lang/Object" ∈ am_bw)) (hkr : hk_ h r = k' + 9) (hnr : hn_ h r = N) (hi : i = nI j) (hj : j < N) (hN : N < 2 ^ 31) (hx0 : (k' = 2 ∧ x = 0) ∨ hk_ h x = ci + 1) (hc : am_cl[ci]? = some (C, T, N')) (hd : decode cc pc = .ok (.aastore, 1)) (k : am_W Z kc ks (pc + 1) ls st (am_sR h r j x)) : am_W Z kc ks pc ls (.ref x :: .int i :: .ref r :: st) h := by
  obtain ⟨G, p, l, e, R, s, m, args, below, meth, c, h0, ad0, n', Q⟩ := Z
  obtain ⟨rfl, ⟨hx, hb, hml, hown, hts⟩, hlk, hE, htr, hR1, hR2, hR3, hR4⟩ := hC
  refine fun ad H locs lc hA hS hX hl hvl hvs => ?_
  obtain ⟨r0, -, -, hlo, -⟩ := am_own hA hkr (by omega) (by omega)
  have hcl := am_arr (k := k') hA hkr (by omega)
  obtain ⟨i1, i2⟩ := am_ix hi hj hN
  have hvx : x = 0 ∨ hk_ h x ≠ 0 := am_Vh hvs
  have fin : ∀ (H' : Heap), H'[ad r]? = some ((arrV (G.2.1 k') (hn_ h r) (am_F h ad r)).setSlot j (am_rv ad x)) → H'.size = H.size → (∀ q, q ≠ ad r → H'[q]? = H[q]?) → W p l e R s m args below meth c H' (locs ++ [⟨ad r, j⟩]) kc ks Q (F0 m (pc + 1) lc (st.map (am_cv ad))) := fun H' e1 z oq =>
    k ad H' _ lc (am_A_arr hA hkr (by omega) (fun _ => rfl) (fun _ => rfl) (fun q hq t => am_F_sR hq t) (fun t => am_F_sR' (by omega) (by rw [hkr]; rcases hk' with ⟨rfl, -⟩ | ⟨rfl, -⟩ <;> rfl) t) (am_lv_sR hA hvx) e1 z oq) (hS.put z oq hlo) (am_X_sR hX) hl (am_Vs_k (fun _ => rfl) hvl) (am_Vs_k (fun _ => rfl) (am_Vt (am_Vt (am_Vt hvs))))
  change W p l e R s m args below meth c H locs kc ks Q (F0 m pc lc (am_rv ad x :: .int i :: am_rv ad r :: _))
  rw [am_rv_ref r0]
  by_cases hxz : x = 0
  · have ex : am_rv ad x = .null := if_pos hxz
    rw [ex] at fin ⊢
    rcases hk' with ⟨rfl, -⟩ | ⟨rfl, -⟩
    · refine va_WaastN (C := "HousePlans$Drawing") hx hb hcl ((hE.2.2.1.2 2 _ rfl).1 _ _) (fun q => by cases q) (by rw [arrV_size, hnr]; exact i1) rfl rfl hd fun H' e1 z oq => ?_
      rw [i2] at e1 ⊢
      exact fin H' e1 z oq
    · rcases hx0 with ⟨hx0, -⟩ | hx0
      · omega
      · rw [hxz, hA.1.1] at hx0
        omega
  · have hkx : hk_ h x = ci + 1 := by
      rcases hx0 with ⟨-, hx0⟩ | hx0
      · exact absurd hx0 hxz
      · exact hx0
    rw [am_rv_ref hxz] at fin ⊢
    have key : ∀ (E : String) (t0 : Nat), (am_tys G)[t0]? = some (G.2.1 k', .object E) → va_Any E s H (ad x) → W p l e R s m args below meth c H locs kc ks Q (F0 m pc lc (.ref (ad x) :: .int i :: .ref (ad r) :: st.map (am_cv ad))) := by
      intro E t0 ht hany
      obtain ⟨cellV, g1, g3, ⟨kC, hkC⟩, hasg⟩ := hany
      obtain ⟨kA, comp, k1, k2, k3, -⟩ := (hE.2.2.1.2 t0 _ ht).2
      obtain ⟨kE, hkE, -⟩ := Vm.findClass_spec k3
      refine W.aast hx hb hcl (fun q h => by cases h) (fun h => by cases h) k1 k2 rfl hkE ⟨fun q => i1 (Or.inl q), by rw [arrV_size, i2, hnr]; exact hj⟩ g1 (fun q h => by rw [h] at g3; cases g3) hkC (hasg _ k3) rfl rfl hd fun H' e1 z oq => ?_
      rw [i2] at e1 ⊢
      exact fin H' e1 z oq
    rcases hk' with ⟨rfl, rfl⟩ | ⟨rfl, hca⟩
    · exact key _ 2 rfl (am_asg (args := args) hA hE hkx hc (Or.inl rfl))
    · exact key _ 3 rfl (am_asg (args := args) hA hE hkx hc (Or.inr hca))
end AMA
end
section
/-! ===== new things, statics, class objects ===== -/
theorem am_df {ci : Nat} {C : String} {T : u_T} {N : Nat} (hc : am_cl[ci]? = some (C, T, N)) : ∀ j, j < N → defaultValue (am_ty ci j) = if am_fi (ci + 1) j = true then Value.int 0 else .null := by
  match ci, hc with
  | 0, hc => cases hc; intro j hj; rcases (by omega : j = 0 ∨ j = 1 ∨ j = 2) with rfl | rfl | rfl <;> rfl
  | 1, hc => cases hc; intro j hj; rcases (by omega : j = 0 ∨ j = 1 ∨ j = 2 ∨ j = 3 ∨ j = 4) with rfl | rfl | rfl | rfl | rfl <;> rfl
  | 2, hc => cases hc; intro j hj; rcases (by omega : j = 0 ∨ j = 1 ∨ j = 2 ∨ j = 3) with rfl | rfl | rfl | rfl <;> rfl
  | 3, hc => cases hc; intro j hj; rcases (by omega : j = 0 ∨ j = 1) with rfl | rfl <;> rfl
  | 4, hc => cases hc; intro j hj; rcases (by omega : j = 0 ∨ j = 1 ∨ j = 2) with rfl | rfl | rfl <;> rfl
  | 5, hc => cases hc; intro j hj; rcases (by omega : j = 0 ∨ j = 1) with rfl | rfl <;> rfl
  | 6, hc => cases hc; intro j hj; rcases (by omega : j = 0 ∨ j = 1 ∨ j = 2 ∨ j = 3) with rfl | rfl | rfl | rfl <;> rfl
  | 7, hc => cases hc; intro j hj; rcases (by omega : j = 0 ∨ j = 1 ∨ j = 2 ∨ j = 3 ∨ j = 4 ∨ j = 5 ∨ j = 6 ∨ j = 7 ∨ j = 8 ∨ j = 9 ∨ j = 10 ∨ j = 11 ∨ j = 12 ∨ j = 13 ∨ j = 14 ∨ j = 15 ∨ j = 16 ∨ j = 17 ∨ j = 18 ∨ j = 19) with rfl | rfl | rfl | rfl | rfl | rfl | rfl | rfl | rfl | rfl | rfl | rfl | rfl | rfl | rfl | rfl | rfl | rfl | rfl | rfl <;> rfl
  | k + 8, hc => simp [am_cl] at hc
theorem am_le_new {h : am_H} {r k n : Nat} (h0 : hk_ h r = 0) : am_le h (am_new h r k n) := fun q hq => by
  have e : q ≠ r := fun e => hq (by rw [e]; exact h0)
  rw [hk_new, hn_new, if_neg e, if_neg e]
  exact ⟨rfl, rfl⟩
theorem am_F_new {G : am_G} {h : am_H} {ad : Nat → Nat} {H : Heap} (hA : am_A G h ad H) {r k n a q : Nat} (h0 : hk_ h r = 0) (r0 : r ≠ 0) (hq : hk_ h q ≠ 0) (j : Nat) : am_F (am_new h r k n) (am_u1 ad r a) q j = am_F h ad q j := by
  have e : q ≠ r := fun e => hq (by rw [e]; exact h0)
  unfold am_F
  rw [hk_new, hl_new, hi_new, hr_new, if_neg e, if_neg e, if_neg e, if_neg e]
  have e2 : am_rv (am_u1 ad r a) (hr_ h q j) = am_rv ad (hr_ h q j) := by
    unfold am_rv
    rcases hA.2.2.2.2 q j hq with e3 | e3
    · rw [if_pos e3, if_pos e3]
    · have e4 : hr_ h q j ≠ r := fun e => e3 (by rw [e]; exact h0)
      unfold am_u1
      rw [if_neg e4]
  rw [e2]
theorem am_F_new' {h : am_H} {ad : Nat → Nat} {r k n : Nat} (j : Nat) : am_F (am_new h r k n) ad r j = if k = 13 then .long 0 else if am_fi k j = true then .int 0 else .null := by
  unfold am_F
  rw [hk_new, hl_new, hi_new, hr_new, if_pos rfl, if_pos rfl, if_pos rfl, if_pos rfl]
  rfl
theorem am_A_new {G : am_G} {h : am_H} {ad : Nat → Nat} {H H' : Heap} {r k n : Nat} (hA : am_A G h ad H) (hlo : G.2.2.1 ≤ H.size) (he0 : G.2.2.2.1 < G.2.2.1) (h0 : hk_ h r = 0) (r0 : r ≠ 0) (hk0 : 0 < k) (hk14 : k < 14) (z : H'.size = H.size + 1) (oq : ∀ q : Nat, q < H.size → H'[q]? = H[q]?)
    (hat : am_atk G k n (fun j => if k = 13 then .long 0 else if am_fi k j = true then .int 0 else .null) H.size H') : am_A G (am_new h r k n) (am_u1 ad r H.size) H' := by
  have hA' := hA
  obtain ⟨⟨z0, z1, z2, z3, z4, z5⟩, a1, a2, a3, a4⟩ := hA
  have r1 : r ≠ 1 := fun e => by rw [e, z1] at h0; omega
  have r2 : r ≠ 2 := fun e => by rw [e, z2] at h0; omega
  have up : ∀ q, q ≠ r → am_u1 ad r H.size q = ad q := fun q e => if_neg e
  have us : am_u1 ad r H.size r = H.size := if_pos rfl
  have ne : ∀ q, hk_ h q ≠ 0 → q ≠ r := fun q hq e => hq (by rw [e]; exact h0)
  have hlt : ∀ q, hk_ h q ≠ 0 → q ≠ 2 → ad q < H.size := fun q hq e2 => by
    rcases a2 q hq with e | e | ⟨-, e, -⟩
    · rw [e, z4]; omega
    · exact absurd e e2
    · exact e
  refine ⟨⟨?_, ?_, ?_, ?_, ?_, ?_⟩, fun q hq => ?_, fun q hq => ?_, fun q p hq hp => ?_, fun q j hq => ?_⟩
  · rw [hk_new, if_neg (Ne.symm r0)]; exact z0
  · rw [hk_new, if_neg (Ne.symm r1)]; exact z1
  · rw [hk_new, if_neg (Ne.symm r2)]; exact z2
  · rw [hn_new, if_neg (Ne.symm r1)]; exact z3
  · rw [up 1 (Ne.symm r1)]; exact z4
  · rw [up 2 (Ne.symm r2)]; exact z5
  · by_cases e : q = r
    · rw [e]
      unfold am_at
      rw [us, hk_new, hn_new, if_pos rfl, if_pos rfl]
      rw [funext (am_F_new' (h := h) (ad := am_u1 ad r H.size) (r := r) (k := k) (n := n))]
      exact hat
    · rw [hk_new, if_neg e] at hq
      by_cases e2 : q = 2
      · exact Or.inl (Or.inr (by rw [hk_new, if_neg e, e2]; exact z2))
      · exact am_at_kept (by rw [hk_new, if_neg e]) (by rw [hn_new, if_neg e]) (am_F_new hA' h0 r0 hq) (up q e) (oq _ (hlt q hq e2)) (a1 q hq)
  · by_cases e : q = r
    · refine Or.inr (Or.inr ?_)
      rw [e, us, hk_new, if_pos rfl, z]
      exact ⟨hlo, by omega, hk14⟩
    · rw [hk_new, if_neg e] at hq ⊢
      rw [up q e, z]
      rcases a2 q hq with h | h | ⟨h1, h2, h3⟩
      · exact Or.inl h
      · exact Or.inr (Or.inl h)
      · exact Or.inr (Or.inr ⟨h1, by omega, h3⟩)
  · rw [hk_new] at hq hp
    intro q2 p2 e
    by_cases e1 : q = r
    · by_cases e3 : p = r
      · rw [e1, e3]
      · rw [if_neg e3] at hp
        rw [e1, us, up p e3] at e
        have := hlt p hp p2
        omega
    · rw [if_neg e1] at hq
      by_cases e3 : p = r
      · rw [e3, us, up q e1] at e
        have := hlt q hq q2
        omega
      · rw [if_neg e3] at hp
        rw [up q e1, up p e3] at e
        exact a3 q p hq hp q2 p2 e
  · rw [hr_new]
    by_cases e : q = r
    · rw [if_pos e]; exact Or.inl rfl
    · rw [hk_new, if_neg e] at hq
      rw [if_neg e]
      rcases a4 q j hq with h | h
      · exact Or.inl h
      · refine Or.inr ?_
        rw [hk_new, if_neg (ne _ h)]
        exact h
theorem am_X_new {G : am_G} {h0 h : am_H} {ad0 ad : Nat → Nat} {r k n a : Nat} (hX : am_X h0 ad0 h ad) (h0' : hk_ h r = 0) : am_X h0 ad0 (am_new h r k n) (am_u1 ad r a) := am_X_tr hX ⟨am_le_new h0', fun q hq => if_neg (fun e => hq (by rw [e]; exact h0'))⟩
theorem am_e0 {G : am_G} {s : State} (hE : am_E G s) : G.2.2.2.1 < G.2.2.1 := by
  obtain ⟨f, hT⟩ := hE.2.2.2.2.2.2.1
  exact Nat.not_le.mp hT.out
section AMN
variable {Z : am_Z} {own : String} {cc : ByteArray} {n L mc ms : Nat} {kc ks pc : Nat} {ls st : List Value} {h : am_H}
theorem am_newO (hC : am_OK Z own cc n L mc ms) {C : String} {T : u_T} {N ci idx : Nat} (r : Nat) (hc : am_cl[ci]? = some (C, T, N)) (h0' : hk_ h r = 0) (r0 : r ≠ 0) (hw1 : Cond.classLink own idx C ∈ am_TG) (hw2 : Cond.instantiable C N ∈ am_TG) (hw3 : Cond.initialized C ∈ am_TG) (hcells : kc + 1 ≤ mc) (hslots : ks + N ≤ ms)
    (hd : decode cc pc = .ok (.new idx, 3)) (k : am_W Z (kc + 1) (ks + N) (pc + 3) ls (.ref r :: st) (am_new h r (ci + 1) 0)) : am_W Z kc ks pc ls st h := by
  obtain ⟨G, p, l, e, R, s, m, args, below, meth, c, h0, ad0, n', Q⟩ := Z
  obtain ⟨rfl, ⟨hx, hb, hml, hown, hts⟩, hlk, hE, htr, hR1, hR2, hR3, hR4⟩ := hC
  refine fun ad H locs lc hA hS hX hl hvl hvs => ?_
  obtain ⟨hin, hty, hnm, h8⟩ := am_cf hc
  have hKn := hE.2.2.1.1 ci _ hc
  have hlo : G.2.2.1 ≤ H.size := Nat.le_trans hE.2.2.2.2.2.2.2.2 hS.1
  refine W.newcK hx hb hown (hts _ hw1) (hts _ hw2) (hts _ hw3) rfl hd (by omega) (by omega) hKn.2.1 rfl fun H1 kC hkC e1 z1 o1 => ?_
  have hA1 : am_A G (am_new h r (ci + 1) 0) (am_u1 ad r H.size) H1 := by
    refine am_A_new hA hlo (am_e0 hE) h0' r0 (by omega) (by omega) z1 o1 (Or.inr (Or.inr ⟨by omega, _, by rw [Nat.add_sub_cancel]; exact hc, ?_⟩))
    rw [Nat.add_sub_cancel]
    refine (u_born (am_ty ci) hts hin hKn hkC e1 hty).to (fun j hj => ?_)
    rw [am_df hc j hj, if_neg (by omega : ¬ ci + 1 = 13)]
  have hle := am_le_new (k := ci + 1) (n := 0) h0'
  have he : ∀ q, hk_ h q ≠ 0 → am_u1 ad r H.size q = ad q := fun q hq => if_neg (fun e => hq (by rw [e]; exact h0'))
  have k9 := k _ H1 locs lc hA1 ⟨Nat.le_trans hS.1 (by omega), fun q g1 g2 => (o1 q (Nat.lt_of_lt_of_le g1 hS.1)).trans (hS.2.1 q g1 g2), hS.2.2⟩ (am_X_new (G := G) hX h0') (am_L_ad he hl hvl) (am_Vs_le (fun q hq => (hle q hq).1) hvl)
    (am_Vc (Or.inr (by rw [hk_new, if_pos rfl]; omega)) (am_Vs_le (fun q hq => (hle q hq).1) hvs))
  rw [List.map_cons, am_map_ad he hvs] at k9
  change W p l e R s m args below meth c H1 locs _ _ Q (F0 m _ lc (am_rv (am_u1 ad r H.size) r :: _)) at k9
  rw [am_rv_ref r0, show am_u1 ad r H.size r = H.size from if_pos rfl] at k9
  exact k9
theorem am_newarr {G : am_G} {p : Program} {l : Launch} {e : Env} {R : Room} {s : State} {m : MethodId} {args : Array Value} {below : List Frame} {meth : Method} {c : Code} {h0 : am_H} {ad0 : Nat → Nat} {n' : Nat} {Q : State → Prop} (hE : am_E G s) {r kk N len : Nat} (h0' : hk_ h r = 0) (r0 : r ≠ 0) (hkk : 9 ≤ kk ∧ kk ≤ 13) {v0 : Value} (hv0 : ∀ j, (if kk = 13 then Value.long 0 else if am_fi kk j = true then .int 0 else .null) = v0)
    (k : am_W (G, p, l, e, R, s, m, args, below, meth, c, h0, ad0, n', Q) (kc + 1) (ks + N) (pc + len) ls (.ref r :: st) (am_new h r kk N)) {ad : Nat → Nat} {H H1 : Heap} {locs : List Loc} {lc : Array Slot} (hA : am_A G h ad H) (hS : va_S (am_lo G) s.heap H locs) (hX : am_X h0 ad0 h ad) (hl : am_L ad n' ls lc) (hvl : am_Vs h ls) (hvs : am_Vs h st)
    (z1 : H1.size = H.size + 1) (o1 : ∀ q : Nat, q < H.size → H1[q]? = H[q]?) (e1 : H1[H.size]? = some (arrV (G.2.1 (kk - 9)) N (fun _ => v0))) : W p l e R s m args below meth c H1 locs (kc + 1) (ks + N) Q (F0 m (pc + len) lc (.ref H.size :: st.map (am_cv ad))) := by
  have hlo : G.2.2.1 ≤ H.size := Nat.le_trans hE.2.2.2.2.2.2.2.2 hS.1
  have hA1 : am_A G (am_new h r kk N) (am_u1 ad r H.size) H1 := by
    refine am_A_new hA hlo (am_e0 hE) h0' r0 (by omega) (by omega) z1 o1 (Or.inr (Or.inl ⟨by omega, by omega, ?_⟩))
    rw [e1, funext hv0]
  have hle := am_le_new (k := kk) (n := N) h0'
  have he : ∀ q, hk_ h q ≠ 0 → am_u1 ad r H.size q = ad q := fun q hq => if_neg (fun e => hq (by rw [e]; exact h0'))
  have k9 := k _ H1 locs lc hA1 ⟨Nat.le_trans hS.1 (by omega), fun q g1 g2 => (o1 q (Nat.lt_of_lt_of_le g1 hS.1)).trans (hS.2.1 q g1 g2), hS.2.2⟩ (am_X_new (G := G) hX h0') (am_L_ad he hl hvl) (am_Vs_le (fun q hq => (hle q hq).1) hvl)
    (am_Vc (Or.inr (by rw [hk_new, if_pos rfl]; omega)) (am_Vs_le (fun q hq => (hle q hq).1) hvs))
  rw [List.map_cons, am_map_ad he hvs] at k9
  change W p l e R s m args below meth c H1 locs _ _ Q (F0 m _ lc (am_rv (am_u1 ad r H.size) r :: _)) at k9
  rw [am_rv_ref r0, show am_u1 ad r H.size r = H.size from if_pos rfl] at k9
  exact k9
theorem am_newA (hC : am_OK Z own cc n L mc ms) {at_ : ArrayType} {kk N : Nat} {i : Int32} (r : Nat) (hk' : (at_ = .int ∧ kk = 9) ∨ (at_ = .boolean ∧ kk = 10) ∨ (at_ = .long ∧ kk = 13)) (h0' : hk_ h r = 0) (r0 : r ≠ 0) (hi : i = nI N) (hN : N ≤ 4096) (hw : Cond.arrayClass (newarray.typeOf at_) ∈ am_TG) (hcells : kc + 1 ≤ mc) (hslots : ks + N ≤ ms)
    (hd : decode cc pc = .ok (.newarray at_, 2)) (k : am_W Z (kc + 1) (ks + N) (pc + 2) ls (.ref r :: st) (am_new h r kk N)) : am_W Z kc ks pc ls (.int i :: st) h := by
  obtain ⟨G, p, l, e, R, s, m, args, below, meth, c, h0, ad0, n', Q⟩ := Z
  obtain ⟨rfl, ⟨hx, hb, hml, hown, hts⟩, hlk, hE, htr, hR1, hR2, hR3, hR4⟩ := hC
  refine fun ad H locs lc hA hS hX hl hvl hvs => ?_
  subst hi
  have hi2 : (nI N).toNatClampNeg = N := nI_clamp (by omega)
  change W p l e R s m args below meth c H locs kc ks Q (F0 m pc lc (.int (nI N) :: _))
  refine va_newaK hx hb (hts _ hw) rfl hd rfl (nI_pos (by omega)) hi2 (by rcases hk' with ⟨rfl, -⟩ | ⟨rfl, -⟩ | ⟨rfl, -⟩ <;> simp [newarray.typeOf, componentBytes] <;> omega) (by omega) (by omega) rfl fun H1 cA e1 z1 o1 hAr hNm => ?_
  rcases hk' with ⟨rfl, rfl⟩ | ⟨rfl, rfl⟩ | ⟨rfl, rfl⟩
  · have ec : cA = G.2.1 0 := Option.some.inj (hNm.symm.trans (hE.2.2.1.2 0 _ rfl).2)
    subst ec
    exact am_newarr hE h0' r0 (by omega) (fun _ => rfl) k hA hS hX hl hvl (am_Vt hvs) z1 o1 e1
  · have ec : cA = G.2.1 1 := Option.some.inj (hNm.symm.trans (hE.2.2.1.2 1 _ rfl).2)
    subst ec
    exact am_newarr hE h0' r0 (by omega) (fun _ => rfl) k hA hS hX hl hvl (am_Vt hvs) z1 o1 e1
  · have ec : cA = G.2.1 4 := Option.some.inj (hNm.symm.trans (hE.2.2.1.2 4 _ rfl).2)
    subst ec
    exact am_newarr hE h0' r0 (by omega) (fun _ => rfl) k hA hS hX hl hvl (am_Vt hvs) z1 o1 e1
theorem am_newQ (hC : am_OK Z own cc n L mc ms) {C : String} {idx kk N : Nat} {i : Int32} (r : Nat) (hk' : (C = "HousePlans$Drawing" ∧ kk = 11) ∨ (C = "java/lang/Object" ∧ kk = 12)) (h0' : hk_ h r = 0) (r0 : r ≠ 0) (hi : i = nI N) (hN : N ≤ 4096) (hw1 : Cond.classLink own idx C ∈ am_TG) (hw2 : Cond.arrayOver (.object C) ∈ am_bw) (hcells : kc + 1 ≤ mc) (hslots : ks + N ≤ ms)
    (hd : decode cc pc = .ok (.anewarray idx, 3)) (k : am_W Z (kc + 1) (ks + N) (pc + 3) ls (.ref r :: st) (am_new h r kk N)) : am_W Z kc ks pc ls (.int i :: st) h := by
  obtain ⟨G, p, l, e, R, s, m, args, below, meth, c, h0, ad0, n', Q⟩ := Z
  obtain ⟨rfl, ⟨hx, hb, hml, hown, hts⟩, hlk, hE, htr, hR1, hR2, hR3, hR4⟩ := hC
  refine fun ad H locs lc hA hS hX hl hvl hvs => ?_
  subst hi
  have hi2 : (nI N).toNatClampNeg = N := nI_clamp (by omega)
  change W p l e R s m args below meth c H locs kc ks Q (F0 m pc lc (.int (nI N) :: _))
  refine W.anew hx hb hown (hts _ hw1) (va_AO.use (hE.1 _ hw2)) rfl hd rfl (nI_pos (by omega)) (by rw [hi2]; omega) (by omega) (by rw [hi2]; omega) fun cA kA comp f1 f2 f3 f4 => ?_
  rw [hi2]
  generalize hH1 : H.push ({ cls := cA, slots := Array.replicate N .null, vm := .none } : Cell) = H1
  have z1 : H1.size = H.size + 1 := by rw [← hH1, Array.size_push]
  have e1 : H1[H.size]? = some (arrV cA N (fun _ => .null)) := by rw [← hH1, Array.getElem?_push_size, ← arrV_new]
  have o1 : ∀ q : Nat, q < H.size → H1[q]? = H[q]? := fun q hq => by rw [← hH1, Array.getElem?_push, if_neg (Nat.ne_of_lt hq)]
  rcases hk' with ⟨rfl, rfl⟩ | ⟨rfl, rfl⟩
  · obtain ⟨_, _, -, -, -, g4⟩ := (hE.2.2.1.2 2 _ rfl).2
    have ec : cA = G.2.1 2 := Option.some.inj (f1.symm.trans g4)
    subst ec
    exact am_newarr hE h0' r0 (by omega) (fun _ => rfl) k hA hS hX hl hvl (am_Vt hvs) z1 o1 e1
  · obtain ⟨_, _, -, -, -, g4⟩ := (hE.2.2.1.2 3 _ rfl).2
    have ec : cA = G.2.1 3 := Option.some.inj (f1.symm.trans g4)
    subst ec
    exact am_newarr hE h0' r0 (by omega) (fun _ => rfl) k hA hS hX hl hvl (am_Vt hvs) z1 o1 e1
/-- the empty table of lists -/
theorem am_gets (hC : am_OK Z own cc n L mc ms) {idx : Nat} (hw : Cond.fieldLink own idx "java/util/ArrayList" "DEFAULTCAPACITY_EMPTY_ELEMENTDATA" "[Ljava/lang/Object;" ∈ am_TG) (hd : decode cc pc = .ok (.getstatic idx, 3)) (k : am_W Z kc ks (pc + 3) ls (.ref 1 :: st) h) : am_W Z kc ks pc ls st h := by
  obtain ⟨G, p, l, e, R, s, m, args, below, meth, c, h0, ad0, n', Q⟩ := Z
  obtain ⟨rfl, ⟨hx, hb, hml, hown, hts⟩, hlk, hE, htr, hR1, hR2, hR3, hR4⟩ := hC
  refine fun ad H locs lc hA hS hX hl hvl hvs => ?_
  have k9 := k ad H locs lc hA hS hX hl hvl (am_Vc (Or.inr (by rw [hA.1.2.1]; decide)) hvs)
  rw [List.map_cons] at k9
  change W p l e R s m args below meth c H locs kc ks Q (F0 m _ lc (am_rv ad 1 :: _)) at k9
  rw [am_rv_ref (by decide), hA.1.2.2.2.2.1] at k9
  exact va_gets hx hb hE.2.2.2.2.2.1 hS hown (hts _ hw) (fun _ q => q) hd k9
/-- the class object of Object[] -/
theorem am_ldcM (hC : am_OK Z own cc n L mc ms) {idx : Nat} (hw : Cond.classLink own idx "[Ljava/lang/Object;" ∈ am_TG) (hd : decode cc pc = .ok (.ldc idx, 2)) (k : am_W Z kc ks (pc + 2) ls (.ref 2 :: st) h) : am_W Z kc ks pc ls st h := by
  obtain ⟨G, p, l, e, R, s, m, args, below, meth, c, h0, ad0, n', Q⟩ := Z
  obtain ⟨rfl, ⟨hx, hb, hml, hown, hts⟩, hlk, hE, htr, hR1, hR2, hR3, hR4⟩ := hC
  refine fun ad H locs lc hA hS hX hl hvl hvs => ?_
  have k9 := k ad H locs lc hA hS hX hl hvl (am_Vc (Or.inr (by rw [hA.1.2.2.1]; decide)) hvs)
  rw [List.map_cons] at k9
  change W p l e R s m args below meth c H locs kc ks Q (F0 m _ lc (am_rv ad 2 :: _)) at k9
  rw [am_rv_ref (by decide), hA.1.2.2.2.2.2] at k9
  exact va_ldcM hx hb hown (hts _ hw) hE.2.2.2.2.2.2.2.1 hd k9
theorem am_getC (hC : am_OK Z own cc n L mc ms) {idx r : Nat} (hkr : hk_ h r = 12) (hw : Cond.methodLink own idx ⟨"java/lang/Object", "getClass", "()Ljava/lang/Class;"⟩ ∈ am_TG) (hw2 : Cond.declares ⟨"java/lang/Object", "getClass", "()Ljava/lang/Class;"⟩ ∈ am_bw) (hw3 : Cond.selects "[Ljava/lang/Object;" ⟨"java/lang/Object", "getClass", "()Ljava/lang/Class;"⟩ ⟨"java/lang/Object", "getClass", "()Ljava/lang/Class;"⟩ ∈ am_TG) (hw4 : Cond.instanceMethod ⟨"java/lang/Object", "getClass", "()Ljava/lang/Class;"⟩ ∈ am_TG) (hw5 : Cond.native ⟨"java/lang/Object", "getClass", "()Ljava/lang/Class;"⟩ ∈ am_TG) (hL : 1 ≤ L) (hst : st.all am_s1 = true ∧ st.length ≤ 8)
    (hd : decode cc pc = .ok (.invokevirtual idx, 3)) (k : am_W Z kc ks (pc + 3) ls (.ref 2 :: st) h) : am_W Z kc ks pc ls (.ref r :: st) h := by
  obtain ⟨G, p, l, e, R, s, m, args, below, meth, c, h0, ad0, n', Q⟩ := Z
  obtain ⟨rfl, ⟨hx, hb, hml, hown, hts⟩, hlk, hE, htr, hR1, hR2, hR3, hR4⟩ := hC
  refine fun ad H locs lc hA hS hX hl hvl hvs => ?_
  have k9 := k ad H locs lc hA hS hX hl hvl (am_Vc (Or.inr (by rw [hA.1.2.2.1]; decide)) (am_Vt hvs))
  rw [List.map_cons] at k9
  change W p l e R s m args below meth c H locs kc ks Q (F0 m _ lc (am_rv ad 2 :: _)) at k9
  rw [am_rv_ref (by decide), hA.1.2.2.2.2.2] at k9
  obtain ⟨r0, -⟩ := am_own hA hkr (by omega) (by omega)
  have hcat : ((st.map (am_cv ad)).map fun v => v.category).sum ≤ 8 := by
    obtain ⟨g1, g2⟩ := hst
    have : ∀ vs : List Value, vs.all am_s1 = true → ((vs.map (am_cv ad)).map fun v => v.category).sum = vs.length := by
      intro vs
      induction vs with
      | nil => intro _; rfl
      | cons v vs ih =>
        intro hv
        rw [List.all_cons, Bool.and_eq_true] at hv
        rw [List.map_cons, List.map_cons, List.sum_cons, ih hv.2, am_cat ad hv.1, List.length_cons]
        omega
    rw [this st g1]
    exact g2
  change W p l e R s m args below meth c H locs kc ks Q (F0 m pc lc (am_rv ad r :: _))
  rw [am_rv_ref r0]
  exact va_getC hx hb (hml.trans hl.1.symm) hown (hts _ hw) (va_Nw.use rfl (hE.1 _ hw2)) (hts _ hw3) (hts _ hw4) (hts _ hw5) hE.2.2.2.2.2.2.2.1 ⟨_, am_arr (k := 3) hA hkr (by omega), rfl, va_nmO (hE.2.2.1.2 3 _ rfl).2 rfl⟩ (by omega) (by omega) hd k9
end AMN
end
section
/-! ===== methods of the abstract machine: contracts, entries, ends, calls, throws ===== -/
def am_rm (L mc ms : Nat) : Room := { frames := L, cells := mc, slots := ms, locals := 100 * L }
def am_Pc (G : am_G) (h0 : am_H) (ad0 : Nat → Nat) (As : List Value) : Array Value → State → Prop := fun v U => v = (As.map (am_cv ad0)).toArray ∧ am_E G U ∧ am_A G h0 ad0 U.heap ∧ am_Vs h0 As
def am_Qc (G : am_G) (h0 : am_H) (ad0 : Nat → Nat) (P : Option Value → am_H → Prop) : Array Value → State → Outcome → State → Prop := fun _ st o t =>
  ∃ (v : Option Value) (h : am_H) (ad : Nat → Nat), o = .returned (v.map (am_cv ad)) ∧ P v h ∧ am_Vs h v.toList ∧ am_X h0 ad0 h ad ∧ am_A G h ad t.heap ∧ va_F (am_lo G) st t
def am_XC (G : am_G) (h0 : am_H) (ad0 : Nat → Nat) (E : String → am_H → Prop) : String → State → State → Prop := fun x st t =>
  ∃ (h : am_H) (ad : Nat → Nat), E x h ∧ am_X h0 ad0 h ad ∧ am_A G h ad t.heap ∧ va_F (am_lo G) st t
/-- a method's contract: at launch l, over the heap h0, with the arguments As, it returns as P says, or throws as E says -/
def am_Met (G : am_G) (l : Launch) (y : MethodName) (hd : Cond) (L mc ms : Nat) (As : List Value) (h0 : am_H) (P : Option Value → am_H → Prop) (E : String → am_H → Prop) : Prop :=
  ∀ ad0 : Nat → Nat, vx_Met l y (hd :: am_TG) (am_rm L mc ms) (am_Pc G h0 ad0 As) (am_Qc G h0 ad0 P) (am_XC G h0 ad0 E) mc ms (am_lo G)
def am_no : String → am_H → Prop := fun _ _ => False
/-- what a body owes at its end -/
def am_Rt (Z : am_Z) (ret : Option FieldType) (hh : List (Nat × Nat × Nat × Nat)) (P : Option Value → am_H → Prop) (E : String → am_H → Prop) (mc ms : Nat) : Prop := match Z with
  | (G, _, _, _, _, s, _, args, below, meth, c, h0, ad0, _, Q) => meth.sig.returnType = ret ∧ Q = vx_MQ below (am_Qc G h0 ad0 P) (am_XC G h0 ad0 E) args s mc ms (am_lo G) ∧ c.exceptionTable.toList = tableOf hh
theorem am_lv_args : ∀ (vs : List Value) (i k : Nat) (v : Value), (∀ w ∈ vs, w.category = 1) → vs[k]? = some v → (i + k, v) ∈ lv_args i vs
  | [], _, _, _, _, h => by simp at h
  | w :: ws, i, k, v, hc, h => by
    have hw : w.category = 1 := hc w List.mem_cons_self
    unfold lv_args
    rw [if_neg (by omega)]
    cases k with
    | zero =>
      simp at h
      rw [h]
      exact List.mem_cons_self
    | succ k =>
      refine List.mem_cons_of_mem _ ?_
      have := am_lv_args ws (i + 1) k v (fun x hx => hc x (List.mem_cons_of_mem _ hx)) (by simpa using h)
      rw [show i + (k + 1) = i + 1 + k by omega]
      exact this
theorem am_lg_len : ∀ (vs : List Value), (∀ w ∈ vs, w.category = 1) → (lg_sl vs).length = vs.length
  | [], _ => rfl
  | w :: ws, hc => by
    have hw : w.category = 1 := hc w List.mem_cons_self
    show (List.flatMap _ (w :: ws)).length = _
    rw [List.flatMap_cons, if_neg (by omega), List.length_append, List.length_cons]
    have := am_lg_len ws (fun x hx => hc x (List.mem_cons_of_mem _ hx))
    unfold lg_sl at this
    rw [this]
    simp
    omega
theorem am_cat1 {ad : Nat → Nat} {As : List Value} (h : As.all am_s1 = true) : ∀ w ∈ As.map (am_cv ad), w.category = 1 := by
  intro w hw
  obtain ⟨v, hv, rfl⟩ := List.mem_map.mp hw
  exact am_cat ad (List.all_eq_true.mp h v hv)
theorem am_L_entry {ad : Nat → Nat} {As : List Value} {n : Nat} (h : As.all am_s1 = true) (hn : As.length ≤ n) : am_L ad n (As ++ List.replicate (n - As.length) .null) ((lg_sl (As.map (am_cv ad)) ++ List.replicate (n - (lg_sl (As.map (am_cv ad))).length) Slot.unset).toArray) := by
  have hc := am_cat1 (ad := ad) h
  have hl := am_lg_len _ hc
  refine am_L_to (lv_entry (As.map (am_cv ad)) (n := n) (by rw [hl, List.length_map]; exact hn)) (fun i v hi hv => ?_)
  have hlt : i < As.length := by
    rcases Nat.lt_or_ge i As.length with q | q
    · exact q
    · rw [List.getElem?_append_right q] at hi
      have := List.mem_of_getElem? hi
      rw [List.eq_of_mem_replicate this] at hv
      cases hv
  rw [List.getElem?_append_left hlt] at hi
  have := am_lv_args (As.map (am_cv ad)) 0 i (am_cv ad v) hc (by rw [List.getElem?_map, hi]; rfl)
  rw [Nat.zero_add] at this
  exact this
theorem am_Vs_entry {h : am_H} {As : List Value} {k : Nat} (hv : am_Vs h As) : am_Vs h (As ++ List.replicate k .null) := by
  intro v hm
  rcases List.mem_append.mp hm with q | q
  · exact hv v q
  · rw [List.eq_of_mem_replicate q]
    trivial
theorem am_body {G : am_G} {l : Launch} {y : MethodName} {ws : List Cond} {cc : ByteArray} {n L mc ms : Nat} {ret : Option FieldType} {hh : List (Nat × Nat × Nat × Nat)} {As : List Value} {h0 : am_H} {ad0 : Nat → Nat} {P : Option Value → am_H → Prop} {E : String → am_H → Prop} (htr : l.stackTraces = false) (hAs : As.all am_s1 = true) (hn : As.length ≤ n) (hws : ∀ w ∈ am_TG, w ∈ ws)
    (body : ∀ Z : am_Z, am_OK Z y.cls cc n L mc ms → am_Rt Z ret hh P E mc ms → (y.name = "<init>" → am_In Z) → am_W Z 0 0 0 (As ++ List.replicate (n - As.length) .null) [] h0)
    {p : Program} {e : Env} {s : State} {m : MethodId} {args : Array Value} {below : List Frame} {meth : Method} {c : Code} {s₁ : State} (B : BodyLoose p l y (headSpec ws (am_rm L mc ms)) cc n ret e s m args below meth c s₁) (hml : c.maxLocals = n) (htb : c.exceptionTable.toList = tableOf hh) (hP : am_Pc G h0 ad0 As args s) :
    W p l e (headSpec ws (am_rm L mc ms)).room s m args below meth c s.heap [] 0 0 (vx_MQ below (am_Qc G h0 ad0 P) (am_XC G h0 ad0 E) args s mc ms (am_lo G)) (entryFrame m args n) := by
  obtain ⟨rfl, hE, hA, hV⟩ := hP
  have hts : ∀ w ∈ am_TG, w.before (As.map (am_cv ad0)).toArray s = true := fun w hw => atoms_spec (ws := ws) B.pre w (hws w hw)
  rw [lg_entry_eq]
  exact body (G, p, l, e, am_rm L mc ms, s, m, (As.map (am_cv ad0)).toArray, below, meth, c, h0, ad0, n, vx_MQ below (am_Qc G h0 ad0 P) (am_XC G h0 ad0 E) (As.map (am_cv ad0)).toArray s mc ms (am_lo G))
    ⟨rfl, ⟨B.exec, B.bytes, hml, findClass_of_methodNamed B.named, hts⟩, B.notSynchronized, hE, htr, Nat.le_refl _, Nat.le_refl _, Nat.le_refl _, Nat.le_refl _⟩ ⟨B.returns, rfl, htb⟩ (fun e => ((name_of_methodNamed B.named B.method).1).trans e) ad0 s.heap [] _ hA va_S.rf (am_X_rf _ _) (am_L_entry hAs hn) (am_Vs_entry hV) (fun _ h => nomatch h)
theorem am_intro {G : am_G} {l : Launch} {y : MethodName} {cc : ByteArray} {n L mc ms : Nat} {ret : Option FieldType} {As : List Value} {h0 : am_H} {P : Option Value → am_H → Prop} {E : String → am_H → Prop} (hy : plainFor y = true) (htr : l.stackTraces = false) (hAs : As.all am_s1 = true) (hn : As.length ≤ n)
    (body : ∀ Z : am_Z, am_OK Z y.cls cc n L mc ms → am_Rt Z ret [] P E mc ms → (y.name = "<init>" → am_In Z) → am_W Z 0 0 0 (As ++ List.replicate (n - As.length) .null) [] h0) : am_Met G l y (.code y cc n ret) L mc ms As h0 P E := by
  intro ad0
  refine MetFree.of_bodySF (code := cc) (maxLocals := n) (ret := ret) hy ?_ ?_
  · intro args s m h hn
    obtain ⟨meth, c, h1, h2, h3, h4, h5, h6, -, -⟩ := Cond.code_spec hn (atoms_spec (ws := Cond.code y cc n ret :: am_TG) h _ List.mem_cons_self)
    exact ⟨meth, c, h1, h2, h3, h4, h5, h6⟩
  · intro p e s m args below meth c s₁ B hml hP _
    have hh0 : s₁.heap = s.heap := by rw [B.state]; rfl
    have ht : c.exceptionTable.toList = tableOf [] := by
      obtain ⟨meth9, c9, h1, h2, -, -, -, -, h7, -⟩ := Cond.code_spec B.named (atoms_spec (ws := Cond.code y cc n ret :: am_TG) B.pre _ List.mem_cons_self)
      cases Option.some.inj (h1.symm.trans B.method)
      cases Option.some.inj (h2.symm.trans (Stand.of_body B).code)
      rw [Array.isEmpty_iff.mp h7]
      rfl
    obtain ⟨t, a1, o, b1, b2, b3⟩ := am_body htr hAs hn (fun w hw => List.mem_cons_of_mem _ hw) body B hml ht hP s₁ hh0 (Stand.of_body B)
    exact ⟨t, o, a1, b1, b2, b3⟩
theorem am_introW {G : am_G} {l : Launch} {y : MethodName} {cc : ByteArray} {n L mc ms : Nat} {ret : Option FieldType} {hh : List (Nat × Nat × Nat × Nat)} {As : List Value} {h0 : am_H} {P : Option Value → am_H → Prop} {E : String → am_H → Prop} (hy : plainName y.cls = true) (htr : l.stackTraces = false) (hAs : As.all am_s1 = true) (hn : As.length ≤ n)
    (body : ∀ Z : am_Z, am_OK Z y.cls cc n L mc ms → am_Rt Z ret hh P E mc ms → (y.name = "<init>" → am_In Z) → am_W Z 0 0 0 (As ++ List.replicate (n - As.length) .null) [] h0) : am_Met G l y (.codeWith y cc n ret hh) L mc ms As h0 P E := by
  intro ad0
  refine vx_ofWH (hh := hh) (cc := cc) (maxL := n) (ret := ret) hy rfl ?_
  intro p e s m args below meth c s₁ B hml hP
  exact am_body htr hAs hn (fun w hw => List.mem_cons_of_mem _ hw) body B hml (vx_table (x := y) B (atoms_spec (ws := Cond.codeWith y cc n ret hh :: am_TG) B.pre _ List.mem_cons_self)) hP
end
section
/-! ===== BEGIN a constructor that throws (launches without stack traces) ===== -/
section VXIA
variable {p : Program} {l : Launch} {e : Env} {R : Room} {s : State} {m : MethodId} {args : Array Value} {below : List Frame} {meth : Method} {c : Code} {T : State} {locs : List Loc} {cells slots : Nat}
theorem vx_callI (X : Stand p l e R s m args below meth c T locs cells slots) (hexec : p.tables.exec = Jvm.exec) {own : String} {index : Nat} {y : MethodName} {bytes : ByteArray} {maxL : Nat}
    (hown : s.vm.findClass own = some m.cls) (hy1 : y.name = "<init>") (hlink : (Cond.methodLink own index y).before args s = true) (hinst : (Cond.instanceMethod y).before args s = true)
    (hcode : (Cond.code y bytes maxL none).before args s = true) (hy : y.cls ≠ "java/lang/invoke/MethodHandle" ∧ y.cls ≠ "java/lang/invoke/VarHandle")
    {W9 : Nat} {Pre : Pt → Array Value → Prop} {Post : Pt → Array Value → Option Value → Pt → Prop} {PostX : Pt → Array Value → Addr → Pt → Prop} (hK : vx_Back l R p e below s args y 3 W9 Pre Post PostX)
    {g : JFrame} (hg : g.method = m) (hsize : g.locals.size = c.maxLocals) {a : Addr} {argsL rest : List Value} (hlen : ∀ sig, parseMethodDescriptor y.desc = some sig → argsL.length = sig.parameters.length)
    (hstack : g.stack = argsL.reverse ++ .ref a :: rest) (hW : 2 * g.monitorRoom + (rest.map fun v => v.category).sum ≤ W9) (hdg : decode c.code g.pc = .ok (.invokespecial index, 3))
    (hpre : ∀ vm₁, s.WarmedH vm₁ → Pre ⟨T.setVm vm₁, locs, cells, slots⟩ (Value.ref a :: argsL).toArray) :
    (∃ (v : Option Value) (vm₁ : Vm) (B : Pt), s.WarmedH vm₁ ∧ Stand p l e R s m args below meth c B.U B.locs B.cells B.slots ∧ Post ⟨T.setVm vm₁, locs, cells, slots⟩ (Value.ref a :: argsL).toArray v B ∧
      ∀ target, Steps p.tables e below (B.U.setTop { g with pc := g.pc + 3, stack := v.toList ++ rest }) target → Steps p.tables e below (T.setTop g) target) ∨
    (∃ (q : Addr) (vm₁ : Vm) (B : Pt), s.WarmedH vm₁ ∧ Stand p l e R s m args below meth c B.U B.locs B.cells B.slots ∧ PostX ⟨T.setVm vm₁, locs, cells, slots⟩ (Value.ref a :: argsL).toArray q B ∧
      Steps p.tables e below (T.setTop g) ((B.U.setTop { g with stack := rest }).pushFrame (.throwing q))) := by
  subst hg
  have hpl : e.platform.magicAccessors = ({} : Platform).magicAccessors := by rw [X.admits.platform]
  obtain ⟨mk, methM, cM, kP, vm₁, hnamed, hmethM, hcodeM, -, hlocalsM, -, hkP, -, hW₁, hstep₁⟩ := Steps.initColdArgs (e := e) X.here hexec X.warmed hpl hown hy1 hy hlink hinst hcode (f := g) rfl hlen hstack hdg
  have X₁ := X.noted hW₁
  rcases hK g.method meth c ⟨T.setVm vm₁, locs, cells, slots⟩ { g with stack := rest } (.invokespecial index) mk (Value.ref a :: argsL).toArray X₁ rfl hsize hdg hW (X₁.named hnamed) (hpre vm₁ X₁.warmed) with ⟨v, B, X', hpost, hsteps⟩ | ⟨q, B, X', hpost, hsteps⟩
  · exact Or.inl ⟨v, vm₁, B, X₁.warmed, X', hpost, fun target h => hstep₁ _ fun acts => by rw [doInvoke_state]; exact hsteps.trans h⟩
  · exact Or.inr ⟨q, vm₁, B, X₁.warmed, X', hpost, hstep₁ _ fun acts => by rw [doInvoke_state]; exact hsteps⟩
end VXIA
section VXIB
variable {p : Program} {l : Launch} {e : Env} {R : Room} {s : State} {m : MethodId} {args : Array Value} {below : List Frame} {meth : Method} {c : Code} {H : Heap} {locs : List Loc} {cells slots : Nat}
variable {y : MethodName} {bytes cc : ByteArray} {maxL nL mc ms n index : Nat} {ret : Option FieldType} {ws : List Cond} {rm : Room} {Pc : Array Value → State → Prop} {Qc : Array Value → State → Outcome → State → Prop} {XC : String → State → State → Prop} {free : Addr → Prop} {Ts : List Cond} {own C : String} {b : Addr} {As rest : List Value} {g : JFrame}
theorem vx_runI (S : CallFix p m c cc nL s args Ts own) (hM : vx_Met l y ws rm Pc Qc XC mc ms free) (cw : CallB R s args own index y bytes maxL none ws rm mc ms n ∧ y.name = "<init>" ∧ (Cond.instanceMethod y).before args s = true) (hp : PreS s H Pc (.ref b :: As))
    (hg : g.method = m) (hn : As.length = n) (hsize : g.locals.size = nL) (hstack : g.stack = As.reverse ++ .ref b :: rest) (hW : 2 * g.monitorRoom + (rest.map fun v => v.category).sum ≤ 8) (hdg : decode cc g.pc = .ok (.invokespecial index, 3)) (hf : cells + mc ≤ R.cells ∧ slots + ms ≤ R.slots) :
    vx_Run p l e R s m args below meth c H locs cells slots mc ms g rest (Qc (Value.ref b :: As).toArray) XC free := by
  have hK : vx_Back l R p e below s args y 3 8 (PreOf R mc ms Pc) (PostOf Qc mc ms free) (vx_Post XC mc ms free) := vx_callBack cw.1 hM hp.1
  obtain ⟨⟨-, -, -, -, -, -, hcode, -, hy, hlen, hl⟩, hy1, hin⟩ := cw
  obtain ⟨hx, hb, hml, ho, -⟩ := S
  have hPc := hp.2
  intro T hT X
  rcases vx_callI X hx (bytes := bytes) (maxL := maxL) ho hy1 hl hin hcode hy hK hg (hsize.trans hml.symm) (a := b) (argsL := As) (rest := rest) (fun sig h => hn.trans (hlen sig h)) hstack hW (by rw [hb]; exact hdg)
    (fun vm₁ hW₁ => ⟨hf.1, hf.2, hPc (T.setVm vm₁) hT hW₁⟩) with ⟨v, vm₁, ⟨U', l2, c2, s2⟩, hW₁, X', ⟨g', mk, t, L, e1, e2, hq, h1, hL, h2, h3⟩, st⟩ | ⟨q, vm₁, ⟨U', l2, c2, s2⟩, hW₁, X', ⟨g', mk, t, L, E, ce, e1, e2, hq, hce, hcv, hcl, h1, hL, h2, h3⟩, st⟩
  · dsimp only [Pt.U, Pt.locs, Pt.cells, Pt.slots] at X' e1 e2 h1 h2 h3 st
    subst h1; subst h2; subst h3
    exact Or.inl ⟨v, (T.setVm vm₁).calling g' mk (Value.ref b :: As).toArray, t, U', L, hT, X', hL, e1, e2, hq, st⟩
  · dsimp only [Pt.U, Pt.locs, Pt.cells, Pt.slots] at X' e1 e2 h1 h2 h3 st hcl
    subst h1; subst h2; subst h3
    exact Or.inr ⟨q, (T.setVm vm₁).calling g' mk (Value.ref b :: As).toArray, t, U', L, E, ce, hT, X', hL, e1, e2, hq, hce, hcv, vx_cls hW₁ hcl, st⟩
end VXIB
/-! ===== END ===== -/
/-! ===== BEGIN a private constructor of a nest mate that throws ===== -/
section VXIC
variable {p : Program} {l : Launch} {e : Env} {R : Room} {s : State} {m : MethodId} {args : Array Value} {below : List Frame} {meth : Method} {c : Code} {T : State} {locs : List Loc} {cells slots : Nat}
theorem vx_callIN (X : Stand p l e R s m args below meth c T locs cells slots) (hexec : p.tables.exec = Jvm.exec) {own : String} {index : Nat} {host : String} {y : MethodName} {bytes : ByteArray} {maxL : Nat}
    (hown : s.vm.findClass own = some m.cls) (hy1 : y.name = "<init>") (hlink : (Cond.methodLinkNest own index y host).before args s = true) (hinst : (Cond.instanceMethod y).before args s = true)
    (hcode : (Cond.code y bytes maxL none).before args s = true) (hy : y.cls ≠ "java/lang/invoke/MethodHandle" ∧ y.cls ≠ "java/lang/invoke/VarHandle")
    {W9 : Nat} {Pre : Pt → Array Value → Prop} {Post : Pt → Array Value → Option Value → Pt → Prop} {PostX : Pt → Array Value → Addr → Pt → Prop} (hK : vx_Back l R p e below s args y 3 W9 Pre Post PostX)
    {g : JFrame} (hg : g.method = m) (hsize : g.locals.size = c.maxLocals) {a : Addr} {argsL rest : List Value} (hlen : ∀ sig, parseMethodDescriptor y.desc = some sig → argsL.length = sig.parameters.length)
    (hstack : g.stack = argsL.reverse ++ .ref a :: rest) (hW : 2 * g.monitorRoom + (rest.map fun v => v.category).sum ≤ W9) (hdg : decode c.code g.pc = .ok (.invokespecial index, 3))
    (hpre : ∀ vm₁, s.WarmedH vm₁ → Pre ⟨T.setVm vm₁, locs, cells, slots⟩ (Value.ref a :: argsL).toArray) :
    (∃ (v : Option Value) (vm₁ : Vm) (B : Pt), s.WarmedH vm₁ ∧ Stand p l e R s m args below meth c B.U B.locs B.cells B.slots ∧ Post ⟨T.setVm vm₁, locs, cells, slots⟩ (Value.ref a :: argsL).toArray v B ∧
      ∀ target, Steps p.tables e below (B.U.setTop { g with pc := g.pc + 3, stack := v.toList ++ rest }) target → Steps p.tables e below (T.setTop g) target) ∨
    (∃ (q : Addr) (vm₁ : Vm) (B : Pt), s.WarmedH vm₁ ∧ Stand p l e R s m args below meth c B.U B.locs B.cells B.slots ∧ PostX ⟨T.setVm vm₁, locs, cells, slots⟩ (Value.ref a :: argsL).toArray q B ∧
      Steps p.tables e below (T.setTop g) ((B.U.setTop { g with stack := rest }).pushFrame (.throwing q))) := by
  subst hg
  have hpl : e.platform.magicAccessors = ({} : Platform).magicAccessors := by rw [X.admits.platform]
  obtain ⟨mk, methM, cM, kP, vm₁, hnamed, hmethM, hcodeM, -, hlocalsM, -, hkP, -, hW₁, hstep₁⟩ := Steps.initColdArgsNest (e := e) X.here hexec X.warmed hpl hown hy1 hy hlink hinst hcode (f := g) rfl hlen hstack hdg
  have X₁ := X.noted hW₁
  rcases hK g.method meth c ⟨T.setVm vm₁, locs, cells, slots⟩ { g with stack := rest } (.invokespecial index) mk (Value.ref a :: argsL).toArray X₁ rfl hsize hdg hW (X₁.named hnamed) (hpre vm₁ X₁.warmed) with ⟨v, B, X', hpost, hsteps⟩ | ⟨q, B, X', hpost, hsteps⟩
  · exact Or.inl ⟨v, vm₁, B, X₁.warmed, X', hpost, fun target h => hstep₁ _ fun acts => by rw [doInvoke_state]; exact hsteps.trans h⟩
  · exact Or.inr ⟨q, vm₁, B, X₁.warmed, X', hpost, hstep₁ _ fun acts => by rw [doInvoke_state]; exact hsteps⟩
end VXIC
section VXID
variable {p : Program} {l : Launch} {e : Env} {R : Room} {s : State} {m : MethodId} {args : Array Value} {below : List Frame} {meth : Method} {c : Code} {H : Heap} {locs : List Loc} {cells slots : Nat}
theorem vx_runIN {y : MethodName} {bytes cc : ByteArray} {maxL nL mc ms n index : Nat} {ws : List Cond} {rm : Room} {Pc : Array Value → State → Prop} {Qc : Array Value → State → Outcome → State → Prop} {XC : String → State → State → Prop} {free : Addr → Prop} {Ts : List Cond} {own host : String} {b : Addr} {As rest : List Value} {g : JFrame}
    (S : CallFix p m c cc nL s args Ts own) (hM : vx_Met l y ws rm Pc Qc XC mc ms free) (cw : va_CN R s args own index y host bytes maxL none ws rm mc ms n ∧ y.name = "<init>" ∧ (Cond.instanceMethod y).before args s = true) (hp : PreS s H Pc (.ref b :: As))
    (hg : g.method = m) (hn : As.length = n) (hsize : g.locals.size = nL) (hstack : g.stack = As.reverse ++ .ref b :: rest) (hW : 2 * g.monitorRoom + (rest.map fun v => v.category).sum ≤ 8) (hdg : decode cc g.pc = .ok (.invokespecial index, 3)) (hf : cells + mc ≤ R.cells ∧ slots + ms ≤ R.slots) :
    vx_Run p l e R s m args below meth c H locs cells slots mc ms g rest (Qc (Value.ref b :: As).toArray) XC free := by
  obtain ⟨⟨⟨hrc, hrs, hfr, hlo, hws, hcw⟩, hcode, hini, hy, hlen, hl⟩, hx1, hx2⟩ := cw
  have hK : vx_Back l R p e below s args y 3 8 (PreOf R mc ms Pc) (PostOf Qc mc ms free) (vx_Post XC mc ms free) := vx_back (bytes := bytes) (maxL := maxL) (ret := none) hM hp.1 hrc hrs hfr hlo hws hcw (fun a' U hW => word_at hW (Or.inl (by first | rfl | simp [Cond.onTables, Cond.keeps, Cond.steady])) hini)
  obtain ⟨hx, hb, hml, ho, -⟩ := S
  have hPc := hp.2
  intro T hT X
  rcases vx_callIN X hx (bytes := bytes) (maxL := maxL) ho hx1 hl hx2 hcode hy hK hg (hsize.trans hml.symm) (a := b) (argsL := As) (rest := rest) (fun sig h => hn.trans (hlen sig h)) hstack hW (by rw [hb]; exact hdg)
    (fun vm₁ hW₁ => ⟨hf.1, hf.2, hPc (T.setVm vm₁) hT hW₁⟩) with ⟨v, vm₁, ⟨U', l2, c2, s2⟩, hW₁, X', ⟨g', mk, t, L, e1, e2, hq, h1, hL, h2, h3⟩, st⟩ | ⟨q, vm₁, ⟨U', l2, c2, s2⟩, hW₁, X', ⟨g', mk, t, L, E, ce, e1, e2, hq, hce, hcv, hcl, h1, hL, h2, h3⟩, st⟩
  · dsimp only [Pt.U, Pt.locs, Pt.cells, Pt.slots] at X' e1 e2 h1 h2 h3 st
    subst h1; subst h2; subst h3
    exact Or.inl ⟨v, (T.setVm vm₁).calling g' mk (Value.ref b :: As).toArray, t, U', L, hT, X', hL, e1, e2, hq, st⟩
  · dsimp only [Pt.U, Pt.locs, Pt.cells, Pt.slots] at X' e1 e2 h1 h2 h3 st hcl
    subst h1; subst h2; subst h3
    exact Or.inr ⟨q, (T.setVm vm₁).calling g' mk (Value.ref b :: As).toArray, t, U', L, E, ce, hT, X', hL, e1, e2, hq, hce, hcv, vx_cls hW₁ hcl, st⟩
end VXID
/-! ===== END ===== -/
/-! ===== BEGIN a private method of a nest mate that may throw (follows va_callVN, va_callSN, va_runVN, va_runSN) ===== -/
section
variable {p : Program} {l : Launch} {e : Env} {R : Room} {s : State} {m : MethodId} {args : Array Value} {below : List Frame} {meth : Method} {c : Code} {H : Heap} {locs : List Loc} {cells slots : Nat}
variable {T : State}
theorem vx_callVN (X : Stand p l e R s m args below meth c T locs cells slots) (hexec : p.tables.exec = Jvm.exec) {own C : String} {index : Nat} {host : String} {y : MethodName} {bytes : ByteArray} {maxL : Nat} {ret : Option FieldType}
    (hown : s.vm.findClass own = some m.cls) (hlink : (Cond.methodLinkNest own index y host).before args s = true) (hinst : (Cond.instanceMethod y).before args s = true) (hsel : (Cond.selects C y y).before args s = true)
    (hcode : (Cond.code y bytes maxL ret).before args s = true) (hy : y.cls ≠ "java/lang/invoke/MethodHandle" ∧ y.cls ≠ "java/lang/invoke/VarHandle")
    {W : Nat} {Pre : Pt → Array Value → Prop} {Post : Pt → Array Value → Option Value → Pt → Prop} {PostX : Pt → Array Value → Addr → Pt → Prop} (hK : vx_Back l R p e below s args y 3 W Pre Post PostX)
    {b : Addr} {cellB : Cell} (hcell : T.heap[b]? = some cellB) (hobj : cellB.vm.isStatics = false) (hcls : s.vm.findClass C = some cellB.cls)
    {g : JFrame} (hg : g.method = m) (hsize : g.locals.size = c.maxLocals) {argsL rest : List Value} (hlen : ∀ sig, parseMethodDescriptor y.desc = some sig → argsL.length = sig.parameters.length)
    (hstack : g.stack = argsL.reverse ++ .ref b :: rest) (hW : 2 * g.monitorRoom + (rest.map fun v => v.category).sum ≤ W) (hdg : decode c.code g.pc = .ok (.invokevirtual index, 3))
    (hpre : ∀ vm₁, s.WarmedH vm₁ → Pre ⟨T.setVm vm₁, locs, cells, slots⟩ (Value.ref b :: argsL).toArray) :
    (∃ (v : Option Value) (vm₁ : Vm) (B : Pt), s.WarmedH vm₁ ∧ Stand p l e R s m args below meth c B.U B.locs B.cells B.slots ∧ Post ⟨T.setVm vm₁, locs, cells, slots⟩ (Value.ref b :: argsL).toArray v B ∧
      ∀ target, Steps p.tables e below (B.U.setTop { g with pc := g.pc + 3, stack := v.toList ++ rest }) target → Steps p.tables e below (T.setTop g) target) ∨
    (∃ (q : Addr) (vm₁ : Vm) (B : Pt), s.WarmedH vm₁ ∧ Stand p l e R s m args below meth c B.U B.locs B.cells B.slots ∧ PostX ⟨T.setVm vm₁, locs, cells, slots⟩ (Value.ref b :: argsL).toArray q B ∧
      Steps p.tables e below (T.setTop g) ((B.U.setTop { g with stack := rest }).pushFrame (.throwing q))) := by
  obtain ⟨mk, methM, hnamed, hmethM, hstM, habM⟩ := Cond.instanceMethod_spec hinst
  obtain ⟨methM', cM, hmethM', -, -, -, -, -, -, hsigM⟩ := Cond.code_spec hnamed hcode
  cases hmethM.symm.trans hmethM'
  obtain ⟨c2, r2, m2, q1, q2, q3, q4, kP, hkP, hkPi⟩ := Cond.selects_spec hsel
  cases hcls.symm.trans q1
  cases (State.methodFound?_of_named hnamed hy).symm.trans q2
  cases hnamed.symm.trans q3
  have hselP : selectMethod e.platform s.vm cellB.cls mk = .method mk := by rw [Launch.admits_selectMethod X.admits]; exact q4
  obtain ⟨vm₁, X₁, hstep₁⟩ := X.invokevirtualNest hexec hown hlink hnamed hmethM hstM hkP hkPi hy (a := b) (cell := cellB) hcell
    (fun z h => by rw [h] at hobj; cases hobj) hselP hmethM habM hkP hkPi (g := g) hg (argsL := argsL) (rest := rest) (hlen _ hsigM) hstack hdg
  rcases hK m meth c ⟨T.setVm vm₁, locs, cells, slots⟩ { g with stack := rest } (.invokevirtual index) mk (Value.ref b :: argsL).toArray X₁ hg hsize hdg hW (X₁.named hnamed) (hpre vm₁ X₁.warmed) with ⟨v, B, X', hpost, hsteps⟩ | ⟨q, B, X', hpost, hsteps⟩
  · exact Or.inl ⟨v, vm₁, B, X₁.warmed, X', hpost, fun target h => hstep₁ _ fun acts => by rw [doInvoke_state]; exact hsteps.trans h⟩
  · exact Or.inr ⟨q, vm₁, B, X₁.warmed, X', hpost, hstep₁ _ fun acts => by rw [doInvoke_state]; exact hsteps⟩
theorem vx_callSN (X : Stand p l e R s m args below meth c T locs cells slots) (hexec : p.tables.exec = Jvm.exec) {own : String} {index : Nat} {host : String} {y : MethodName} {bytes : ByteArray} {maxL : Nat} {ret : Option FieldType}
    (hown : s.vm.findClass own = some m.cls) (hlink : (Cond.methodLinkNest own index y host).before args s = true) (hstat : (Cond.static y).before args s = true) (hinit : (Cond.initialized y.cls).before args s = true)
    (hcode : (Cond.code y bytes maxL ret).before args s = true) (hy : y.cls ≠ "java/lang/invoke/MethodHandle" ∧ y.cls ≠ "java/lang/invoke/VarHandle")
    {W : Nat} {Pre : Pt → Array Value → Prop} {Post : Pt → Array Value → Option Value → Pt → Prop} {PostX : Pt → Array Value → Addr → Pt → Prop} (hK : vx_Back l R p e below s args y 3 W Pre Post PostX)
    {g : JFrame} (hg : g.method = m) (hsize : g.locals.size = c.maxLocals) {argsL rest : List Value} (hlen : ∀ sig, parseMethodDescriptor y.desc = some sig → argsL.length = sig.parameters.length)
    (hstack : g.stack = argsL.reverse ++ rest) (hW : 2 * g.monitorRoom + (rest.map fun v => v.category).sum ≤ W) (hdg : decode c.code g.pc = .ok (.invokestatic index, 3))
    (hpre : ∀ vm₁, s.WarmedH vm₁ → Pre ⟨T.setVm vm₁, locs, cells, slots⟩ argsL.toArray) :
    (∃ (v : Option Value) (vm₁ : Vm) (B : Pt), s.WarmedH vm₁ ∧ Stand p l e R s m args below meth c B.U B.locs B.cells B.slots ∧ Post ⟨T.setVm vm₁, locs, cells, slots⟩ argsL.toArray v B ∧
      ∀ target, Steps p.tables e below (B.U.setTop { g with pc := g.pc + 3, stack := v.toList ++ rest }) target → Steps p.tables e below (T.setTop g) target) ∨
    (∃ (q : Addr) (vm₁ : Vm) (B : Pt), s.WarmedH vm₁ ∧ Stand p l e R s m args below meth c B.U B.locs B.cells B.slots ∧ PostX ⟨T.setVm vm₁, locs, cells, slots⟩ argsL.toArray q B ∧
      Steps p.tables e below (T.setTop g) ((B.U.setTop { g with stack := rest }).pushFrame (.throwing q))) := by
  obtain ⟨mk, hnamed⟩ := Cond.code_named hcode
  obtain ⟨methM, cM, hmethM, -, -, -, -, -, -, hsigM⟩ := Cond.code_spec hnamed hcode
  have hstatic : methM.isStatic = true := Cond.static_spec hnamed hmethM hstat
  obtain ⟨kP, hkP, -⟩ := className_of_methodNamed hnamed
  have hinitP : kP.init = .initialized := Cond.initialized_spec (findClass_of_methodNamed hnamed) hkP hinit
  obtain ⟨vm₁, X₁, hstep₁⟩ := X.invokestaticNest hexec hown hlink hnamed hmethM hstatic hkP hinitP hy (g := g) hg (argsL := argsL) (rest := rest) (hlen _ hsigM) hstack hdg
  rcases hK m meth c ⟨T.setVm vm₁, locs, cells, slots⟩ { g with stack := rest } (.invokestatic index) mk argsL.toArray X₁ hg hsize hdg hW (X₁.named hnamed) (hpre vm₁ X₁.warmed) with ⟨v, B, X', hpost, hsteps⟩ | ⟨q, B, X', hpost, hsteps⟩
  · exact Or.inl ⟨v, vm₁, B, X₁.warmed, X', hpost, fun target h => hstep₁ _ fun acts => by rw [doInvoke_state]; exact hsteps.trans h⟩
  · exact Or.inr ⟨q, vm₁, B, X₁.warmed, X', hpost, hstep₁ _ fun acts => by rw [doInvoke_state]; exact hsteps⟩
theorem vx_runVN {y : MethodName} {bytes cc : ByteArray} {maxL nL mc ms n index : Nat} {ret : Option FieldType} {ws : List Cond} {rm : Room} {Pc : Array Value → State → Prop} {Qc : Array Value → State → Outcome → State → Prop} {XC : String → State → State → Prop} {free : Addr → Prop} {Ts : List Cond} {own C host : String} {b : Addr} {As rest : List Value} {g : JFrame}
    (S : CallFix p m c cc nL s args Ts own) (hM : vx_Met l y ws rm Pc Qc XC mc ms free) (cw : va_CN R s args own index y host bytes maxL ret ws rm mc ms n ∧ (Cond.instanceMethod y).before args s = true ∧ (Cond.selects C y y).before args s = true) (hp : PreV s H C b Pc As)
    (hg : g.method = m) (hn : As.length = n) (hsize : g.locals.size = nL) (hstack : g.stack = As.reverse ++ .ref b :: rest) (hW : 2 * g.monitorRoom + (rest.map fun v => v.category).sum ≤ 8) (hdg : decode cc g.pc = .ok (.invokevirtual index, 3)) (hf : cells + mc ≤ R.cells ∧ slots + ms ≤ R.slots) :
    vx_Run p l e R s m args below meth c H locs cells slots mc ms g rest (Qc (Value.ref b :: As).toArray) XC free := by
  obtain ⟨⟨⟨hrc, hrs, hfr, hlo, hws, hcw⟩, hcode, hini, hy, hlen, hl⟩, hx1, hx2⟩ := cw
  have hK : vx_Back l R p e below s args y 3 8 (PreOf R mc ms Pc) (PostOf Qc mc ms free) (vx_Post XC mc ms free) := vx_back (bytes := bytes) (maxL := maxL) (ret := ret) hM hp.1 hrc hrs hfr hlo hws hcw (fun a' U hW => word_at hW (Or.inl (by first | rfl | simp [Cond.onTables, Cond.keeps, Cond.steady])) hini)
  obtain ⟨hx, hb, hml, ho, -⟩ := S
  obtain ⟨-, ⟨cellB, hcB, hoB, hclB⟩, hPc⟩ := hp
  intro T hT X
  rcases vx_callVN X hx (C := C) (bytes := bytes) (maxL := maxL) (ret := ret) ho hl hx1 hx2 hcode hy hK (by rw [hT]; exact hcB) hoB hclB hg (hsize.trans hml.symm) (argsL := As) (rest := rest) (fun sig h => hn.trans (hlen sig h)) hstack hW (by rw [hb]; exact hdg)
    (fun vm₁ hW₁ => ⟨hf.1, hf.2, hPc (T.setVm vm₁) hT hW₁⟩) with ⟨v, vm₁, ⟨U', l2, c2, s2⟩, hW₁, X', ⟨g', mk, t, L, e1, e2, hq, h1, hL, h2, h3⟩, st⟩ | ⟨q, vm₁, ⟨U', l2, c2, s2⟩, hW₁, X', ⟨g', mk, t, L, E, ce, e1, e2, hq, hce, hcv, hcl, h1, hL, h2, h3⟩, st⟩
  · dsimp only [Pt.U, Pt.locs, Pt.cells, Pt.slots] at X' e1 e2 h1 h2 h3 st
    subst h1; subst h2; subst h3
    exact Or.inl ⟨v, (T.setVm vm₁).calling g' mk (Value.ref b :: As).toArray, t, U', L, hT, X', hL, e1, e2, hq, st⟩
  · dsimp only [Pt.U, Pt.locs, Pt.cells, Pt.slots] at X' e1 e2 h1 h2 h3 st hcl
    subst h1; subst h2; subst h3
    exact Or.inr ⟨q, (T.setVm vm₁).calling g' mk (Value.ref b :: As).toArray, t, U', L, E, ce, hT, X', hL, e1, e2, hq, hce, hcv, vx_cls hW₁ hcl, st⟩
theorem vx_runSN {y : MethodName} {bytes cc : ByteArray} {maxL nL mc ms n index : Nat} {ret : Option FieldType} {ws : List Cond} {rm : Room} {Pc : Array Value → State → Prop} {Qc : Array Value → State → Outcome → State → Prop} {XC : String → State → State → Prop} {free : Addr → Prop} {Ts : List Cond} {own host : String} {As rest : List Value} {g : JFrame}
    (S : CallFix p m c cc nL s args Ts own) (hM : vx_Met l y ws rm Pc Qc XC mc ms free) (cw : va_CN R s args own index y host bytes maxL ret ws rm mc ms n ∧ (Cond.static y).before args s = true ∧ True) (hp : PreS s H Pc As)
    (hg : g.method = m) (hn : As.length = n) (hsize : g.locals.size = nL) (hstack : g.stack = As.reverse ++ rest) (hW : 2 * g.monitorRoom + (rest.map fun v => v.category).sum ≤ 8) (hdg : decode cc g.pc = .ok (.invokestatic index, 3)) (hf : cells + mc ≤ R.cells ∧ slots + ms ≤ R.slots) :
    vx_Run p l e R s m args below meth c H locs cells slots mc ms g rest (Qc As.toArray) XC free := by
  obtain ⟨⟨⟨hrc, hrs, hfr, hlo, hws, hcw⟩, hcode, hini, hy, hlen, hl⟩, hx1, hx2⟩ := cw
  have hK : vx_Back l R p e below s args y 3 8 (PreOf R mc ms Pc) (PostOf Qc mc ms free) (vx_Post XC mc ms free) := vx_back (bytes := bytes) (maxL := maxL) (ret := ret) hM hp.1 hrc hrs hfr hlo hws hcw (fun a' U hW => word_at hW (Or.inl (by first | rfl | simp [Cond.onTables, Cond.keeps, Cond.steady])) hini)
  obtain ⟨hx, hb, hml, ho, -⟩ := S
  have hPc := hp.2
  intro T hT X
  rcases vx_callSN X hx (bytes := bytes) (maxL := maxL) (ret := ret) ho hl hx1 hini hcode hy hK hg (hsize.trans hml.symm) (argsL := As) (rest := rest) (fun sig h => hn.trans (hlen sig h)) hstack hW (by rw [hb]; exact hdg)
    (fun vm₁ hW₁ => ⟨hf.1, hf.2, hPc (T.setVm vm₁) hT hW₁⟩) with ⟨v, vm₁, ⟨U', l2, c2, s2⟩, hW₁, X', ⟨g', mk, t, L, e1, e2, hq, h1, hL, h2, h3⟩, st⟩ | ⟨q, vm₁, ⟨U', l2, c2, s2⟩, hW₁, X', ⟨g', mk, t, L, E, ce, e1, e2, hq, hce, hcv, hcl, h1, hL, h2, h3⟩, st⟩
  · dsimp only [Pt.U, Pt.locs, Pt.cells, Pt.slots] at X' e1 e2 h1 h2 h3 st
    subst h1; subst h2; subst h3
    exact Or.inl ⟨v, (T.setVm vm₁).calling g' mk As.toArray, t, U', L, hT, X', hL, e1, e2, hq, st⟩
  · dsimp only [Pt.U, Pt.locs, Pt.cells, Pt.slots] at X' e1 e2 h1 h2 h3 st hcl
    subst h1; subst h2; subst h3
    exact Or.inr ⟨q, (T.setVm vm₁).calling g' mk As.toArray, t, U', L, E, ce, hT, X', hL, e1, e2, hq, hce, hcv, vx_cls hW₁ hcl, st⟩
end
/-! ===== END ===== -/
end
section
/-! ===== ends and calls ===== -/
theorem am_catS {ad : Nat → Nat} : ∀ {vs : List Value}, vs.all am_s1 = true → ((vs.map (am_cv ad)).map fun v => v.category).sum = vs.length
  | [], _ => rfl
  | v :: vs, hv => by
    rw [List.all_cons, Bool.and_eq_true] at hv
    rw [List.map_cons, List.map_cons, List.sum_cons, am_catS hv.2, am_cat ad hv.1, List.length_cons]
    omega
theorem am_gi {ws : List Cond} (h : ∀ w ∈ ws, w ∈ am_TG) : GoodIn am_TG ws := fun w hw => ⟨h w hw, good_of_word (am_good w (h w hw))⟩
theorem am_gi' {w0 : Cond} (h : w0 ∈ am_TG) : GoodIn am_TG (w0 :: am_TG) := am_gi (fun w hw => (List.mem_cons.mp hw).elim (fun e => by rw [e]; exact h) id)
/-- what the tables say of a method that is called on an object, by its name -/
def am_mV (y : MethodName) (cc : ByteArray) (n : Nat) (ret : Option FieldType) (na : Nat) : Prop :=
  Cond.instanceMethod y ∈ am_TG ∧ Cond.selects y.cls y y ∈ am_TG ∧ Cond.initialized y.cls ∈ am_TG ∧ Cond.code y cc n ret ∈ am_TG ∧ (y.cls ≠ "java/lang/invoke/MethodHandle" ∧ y.cls ≠ "java/lang/invoke/VarHandle" ∧ (parseMethodDescriptor y.desc).map (fun d => d.parameters.length) = some na)
def am_mS (y : MethodName) (cc : ByteArray) (n : Nat) (ret : Option FieldType) (na : Nat) : Prop :=
  Cond.static y ∈ am_TG ∧ Cond.initialized y.cls ∈ am_TG ∧ Cond.code y cc n ret ∈ am_TG ∧ (y.cls ≠ "java/lang/invoke/MethodHandle" ∧ y.cls ≠ "java/lang/invoke/VarHandle" ∧ (parseMethodDescriptor y.desc).map (fun d => d.parameters.length) = some na)
def am_mI (y : MethodName) (cc : ByteArray) (n : Nat) (na : Nat) : Prop :=
  y.name = "<init>" ∧ Cond.instanceMethod y ∈ am_TG ∧ Cond.initialized y.cls ∈ am_TG ∧ Cond.code y cc n none ∈ am_TG ∧ (y.cls ≠ "java/lang/invoke/MethodHandle" ∧ y.cls ≠ "java/lang/invoke/VarHandle" ∧ (parseMethodDescriptor y.desc).map (fun d => d.parameters.length) = some na)
def am_mW (y : MethodName) (cc : ByteArray) (n : Nat) (ret : Option FieldType) (hh : List (Nat × Nat × Nat × Nat)) (na : Nat) : Prop :=
  Cond.static y ∈ am_TG ∧ Cond.initialized y.cls ∈ am_TG ∧ Cond.codeWith y cc n ret hh ∈ am_TG ∧ (y.cls ≠ "java/lang/invoke/MethodHandle" ∧ y.cls ≠ "java/lang/invoke/VarHandle" ∧ (parseMethodDescriptor y.desc).map (fun d => d.parameters.length) = some na)
section AMR
variable {Z : am_Z} {own : String} {cc : ByteArray} {n L mc ms : Nat} {kc ks pc : Nat} {ls st : List Value} {h : am_H} {hh : List (Nat × Nat × Nat × Nat)} {P : Option Value → am_H → Prop} {E : String → am_H → Prop}
theorem am_iret (hC : am_OK Z own cc n L mc ms) {ty : FieldType} {x : Int32} (hR : am_Rt Z (some ty) hh P E mc ms) (hx1 : narrow ty (.int x) = .int x) (hkc : kc ≤ mc) (hks : ks ≤ ms) (hd : decode cc pc = .ok (.ireturn, 1)) (hP : P (some (.int x)) h) : am_W Z kc ks pc ls [.int x] h := by
  obtain ⟨G, p, l, e, R, s, m, args, below, meth, c, h0, ad0, n', Q⟩ := Z
  obtain ⟨rfl, ⟨hx, hb, hml, hown, hts⟩, hlk, hE, htr, hR1, hR2, hR3, hR4⟩ := hC
  obtain ⟨hr, rfl, htb⟩ := hR
  refine fun ad H locs lc hA hS hX hl hvl hvs => ?_
  refine W.widen hkc hks (vx_ret ?_)
  exact W.zret hx hb hr hx1 (fun t ht hW => ⟨some (.int x), h, ad, rfl, hP, hvs, hX, by rw [ht]; exact hA, hS.F ht⟩) hS.2.2 hd
theorem am_aret (hC : am_OK Z own cc n L mc ms) {ty : FieldType} {x : Nat} (hR : am_Rt Z (some ty) hh P E mc ms) (hty : (∃ n, ty = .object n) ∨ ∃ t, ty = .array t) (hkc : kc ≤ mc) (hks : ks ≤ ms) (hd : decode cc pc = .ok (.areturn, 1)) (hP : P (some (.ref x)) h) : am_W Z kc ks pc ls [.ref x] h := by
  obtain ⟨G, p, l, e, R, s, m, args, below, meth, c, h0, ad0, n', Q⟩ := Z
  obtain ⟨rfl, ⟨hx, hb, hml, hown, hts⟩, hlk, hE, htr, hR1, hR2, hR3, hR4⟩ := hC
  obtain ⟨hr, rfl, htb⟩ := hR
  refine fun ad H locs lc hA hS hX hl hvl hvs => ?_
  refine W.widen hkc hks (vx_ret ?_)
  exact W.aret (v := am_rv ad x) hx hb hr hty (by unfold am_rv; split; exact Or.inl rfl; exact Or.inr ⟨_, rfl⟩) (fun t ht hW => ⟨some (.ref x), h, ad, rfl, hP, hvs, hX, by rw [ht]; exact hA, hS.F ht⟩) hS.2.2 hd
theorem am_vret (hC : am_OK Z own cc n L mc ms) (hR : am_Rt Z none hh P E mc ms) (hkc : kc ≤ mc) (hks : ks ≤ ms) (hd : decode cc pc = .ok (.return_, 1)) (hP : P none h) : am_W Z kc ks pc ls [] h := by
  obtain ⟨G, p, l, e, R, s, m, args, below, meth, c, h0, ad0, n', Q⟩ := Z
  obtain ⟨rfl, ⟨hx, hb, hml, hown, hts⟩, hlk, hE, htr, hR1, hR2, hR3, hR4⟩ := hC
  obtain ⟨hr, rfl, htb⟩ := hR
  refine fun ad H locs lc hA hS hX hl hvl hvs => ?_
  refine W.widen hkc hks (vx_ret ?_)
  exact W.vret hx hb hr (fun t ht hW => ⟨none, h, ad, rfl, hP, (fun _ h => nomatch h), hX, by rw [ht]; exact hA, hS.F ht⟩) hS.2.2 hd
theorem am_blind {G : am_G} {h0 : am_H} {ad0 : Nat → Nat} {As : List Value} : FrameBlind (am_Pc G h0 ad0 As) := fun a U g mk q => by
  obtain ⟨q1, q2, q3, q4⟩ := q
  exact ⟨q1, am_E_moved (s := U) (U := U.calling g mk a) (State.WarmedH.refl U) (Nat.le_refl _) (fun _ _ _ => rfl) q2, q3, q4⟩
theorem am_pre {G : am_G} {s : State} {H : Heap} {locs : List Loc} {ad : Nat → Nat} {As : List Value} (hE : am_E G s) (hS : va_S (am_lo G) s.heap H locs) (hA : am_A G h ad H) (hV : am_Vs h As) : ∀ U : State, U.heap = H → s.WarmedH U.vm → am_Pc G h ad As (As.map (am_cv ad)).toArray U := fun U hU hW =>
  ⟨rfl, am_E_moved hW (by rw [hU]; exact hS.1) (by rw [hU]; exact hS.2.1) hE, by rw [hU]; exact hA, hV⟩
/-- behind a call -/
theorem am_ofRun {G : am_G} {p : Program} {l : Launch} {e : Env} {R : Room} {s : State} {m : MethodId} {args : Array Value} {below : List Frame} {meth : Method} {c : Code} {h0 : am_H} {ad0 : Nat → Nat} {n' : Nat} {Q : State → Prop} {ad : Nat → Nat} {H : Heap} {locs : List Loc} {lc : Array Slot} {mc' ms' : Nat} {a : Array Value} {st0 : List Value}
    (hr : vx_Run p l e R s m args below meth c H locs kc ks mc' ms' (F0 m pc lc st0) (st.map (am_cv ad)) (am_Qc G h ad P a) (am_XC G h ad E) (am_lo G)) (hA : am_A G h ad H) (hS : va_S (am_lo G) s.heap H locs) (hX : am_X h0 ad0 h ad) (hl : am_L ad n' ls lc) (hvl : am_Vs h ls) (hvs : am_Vs h st)
    (kx : ∀ (x : String) (h' : am_H), E x h' → am_le h h' → am_WX (G, p, l, e, R, s, m, args, below, meth, c, h0, ad0, n', Q) (kc + mc') (ks + ms') pc ls st h' x)
    (kk : ∀ (v : Option Value) (h' : am_H), P v h' → am_le h h' → am_W (G, p, l, e, R, s, m, args, below, meth, c, h0, ad0, n', Q) (kc + mc') (ks + ms') (pc + 3) ls (v.toList ++ st) h') : W p l e R s m args below meth c H locs kc ks Q (F0 m pc lc st0) := by
  intro T hT X
  rcases hr T hT X with ⟨v, st₀, t, T', Lc, q0, X', hL, e1, e2, ⟨v', h', ad', hv, hp, hvv, hX', hA', hF⟩, stp⟩ | ⟨q, st₀, t, T', Lc, x, ce, q0, X', hL, e1, e2, ⟨h', ad', hp, hX', hA', hF⟩, hce, hcv, hcl, stp⟩
  · cases hv
    obtain ⟨k1, k2, k3⟩ := vx_keep q0 e1 hS (fun q _ z => z) (fun q z => z) hL hF
    have hle := hX'.1
    have w := kk v' h' hp hle ad' T'.heap (locs ++ Lc) lc (by rw [e1]; exact hA') k3 (am_X_tr hX hX') (am_L_ad hX'.2 hl hvl) (am_Vs_le (fun q hq => (hle q hq).1) hvl) (fun w hw => by
      rcases List.mem_append.mp hw with z | z
      · exact hvv w z
      · exact am_V_le (fun q hq => (hle q hq).1) (hvs w z))
    rw [List.map_append, am_map_ad hX'.2 hvs] at w
    obtain ⟨t2, a1, b1⟩ := w T' rfl X'
    refine ⟨t2, stp t2 ?_, b1⟩
    have ev : (v'.map (am_cv ad')).toList = v'.toList.map (am_cv ad') := by cases v' <;> rfl
    rw [ev]
    exact a1
  · obtain ⟨k1, k2, k3⟩ := vx_keep q0 e1 hS (fun q _ z => z) (fun q z => z) hL hF
    have hle := hX'.1
    have w := kx x h' hp hle ad' T'.heap (locs ++ Lc) lc q ce (by rw [e1]; exact hA') k3 (am_X_tr hX hX') (am_L_ad hX'.2 hl hvl) (am_Vs_le (fun q hq => (hle q hq).1) hvl) (am_Vs_le (fun q hq => (hle q hq).1) hvs) (by rw [e1]; exact hce) hcv hcl
    rw [am_map_ad hX'.2 hvs] at w
    obtain ⟨t2, a1, b1⟩ := w T' rfl X'
    exact ⟨t2, stp.trans a1, b1⟩
theorem am_mapr {ad : Nat → Nat} (As st : List Value) (v : Value) : (As.reverse ++ v :: st).map (am_cv ad) = (As.map (am_cv ad)).reverse ++ am_cv ad v :: st.map (am_cv ad) := by
  rw [List.map_append, List.map_cons, List.map_reverse]
theorem am_mapr' {ad : Nat → Nat} (As st : List Value) : (As.reverse ++ st).map (am_cv ad) = (As.map (am_cv ad)).reverse ++ st.map (am_cv ad) := by
  rw [List.map_append, List.map_reverse]
theorem am_Vsr {As st : List Value} {v : Value} (hv : am_Vs h (As.reverse ++ v :: st)) : am_Vs h (v :: As) ∧ am_Vs h st :=
  ⟨fun w hw => hv w ((List.mem_cons.mp hw).elim (fun e => by rw [e]; exact List.mem_append_right _ List.mem_cons_self) (fun e => List.mem_append_left _ (List.mem_reverse.mpr e))), fun w hw => hv w (List.mem_append_right _ (List.mem_cons_of_mem _ hw))⟩
theorem am_Vsr' {As st : List Value} (hv : am_Vs h (As.reverse ++ st)) : am_Vs h As ∧ am_Vs h st :=
  ⟨fun w hw => hv w (List.mem_append_left _ (List.mem_reverse.mpr hw)), fun w hw => hv w (List.mem_append_right _ hw)⟩
theorem am_lrm (L' : Nat) {Lx Rf : Nat} {maxL : Nat} (hL : L' + 1 ≤ Lx) (hR : 100 * Lx ≤ Rf) (hm : maxL ≤ 80) : 8 + (maxL + 11) + 100 * L' ≤ Rf := by omega
variable {y : MethodName} {cy : ByteArray} {ny L' mc' ms' na idx : Nat} {ret : Option FieldType}
theorem am_callV (hC : am_OK Z own cc n L mc ms) {C : String} {T : u_T} {N ci r : Nat} (As : List Value) (hc : am_cl[ci]? = some (C, T, N)) (hkr : hk_ h r = ci + 1) (hyC : y.cls = C) (hm : am_mV y cy ny ret na) (hw : Cond.methodLink own idx y ∈ am_TG)
    (hM : am_Met Z.1 Z.2.2.1 y (.code y cy ny ret) L' mc' ms' (.ref r :: As) h P E) (hna : As.length = na) (hst : st.all am_s1 = true ∧ st.length ≤ 8) (hL : L' + 1 ≤ L ∧ ny ≤ 80) (hkc : kc + mc' ≤ mc) (hks : ks + ms' ≤ ms) (hd : decode cc pc = .ok (.invokevirtual idx, 3)) {stk : List Value} (hsk : stk = As.reverse ++ .ref r :: st)
    (kx : ∀ (x : String) (h' : am_H), E x h' → am_le h h' → am_WX Z (kc + mc') (ks + ms') pc ls st h' x) (kk : ∀ (v : Option Value) (h' : am_H), P v h' → am_le h h' → am_W Z (kc + mc') (ks + ms') (pc + 3) ls (v.toList ++ st) h') : am_W Z kc ks pc ls stk h := by
  obtain ⟨G, p, l, e, R, s, m, args, below, meth, c, h0, ad0, n', Q⟩ := Z
  obtain ⟨rfl, ⟨hx, hb, hml, hown, hts⟩, hlk, hE, htr, hR1, hR2, hR3, hR4⟩ := hC
  subst hsk
  refine fun ad H locs lc hA hS hX hl hvl hvs => ?_
  obtain ⟨r0, -⟩ := am_own hA hkr (by omega) (by have := (am_cf hc).2.2.2; omega)
  obtain ⟨cell, q1, q2, q3, q4⟩ := am_obj hA hkr hc
  obtain ⟨v1, v2⟩ := am_Vsr hvs
  obtain ⟨m1, m2, m3, m4, m5⟩ := hm
  have er : am_cv ad (.ref r) = .ref (ad r) := am_rv_ref r0
  have hp := am_pre hE hS hA v1
  rw [List.map_cons, er] at hp
  have hcat : ((st.map (am_cv ad)).map fun v => v.category).sum ≤ 8 := by rw [am_catS hst.1]; exact hst.2
  have hgi : GoodIn am_TG (wsV own idx C y (.code y cy ny ret :: am_TG)) := by
    subst hyC
    refine am_gi (fun w hw9 => ?_)
    simp only [wsV, List.mem_append, List.mem_cons, List.not_mem_nil, or_false] at hw9
    rcases hw9 with (a | a | a | a) | a | a
    · rw [a]; exact hw
    · rw [a]; exact m1
    · rw [a]; exact m2
    · rw [a]; exact m3
    · rw [a]; exact m4
    · exact a
  have w := am_ofRun (st0 := (As.map (am_cv ad)).reverse ++ .ref (ad r) :: st.map (am_cv ad)) (vx_runV (C := C) (As := As.map (am_cv ad)) (b := ad r) ⟨hx, hb, hml, hown, hts⟩ (hM ad) (cwV na hts hgi rfl rfl rfl ⟨hyC, m5⟩ ⟨by show L' + 1 ≤ _; omega, am_lrm L' hL.1 hR2 hL.2⟩) ⟨am_blind, ⟨cell, q1, by rw [q3]; rfl, by rw [q2]; exact (hE.2.2.1.1 ci _ hc).2.1⟩, hp⟩ rfl (by rw [List.length_map]; exact hna) hl.1 rfl (lv_room hcat) hd ⟨by omega, by omega⟩) hA hS hX hl hvl v2 kx kk
  rw [am_mapr, er]
  exact w
theorem am_callVN (hC : am_OK Z own cc n L mc ms) {C host : String} {T : u_T} {N ci r : Nat} (As : List Value) (hc : am_cl[ci]? = some (C, T, N)) (hkr : hk_ h r = ci + 1) (hyC : y.cls = C) (hm : am_mV y cy ny ret na) (hw : Cond.methodLinkNest own idx y host ∈ am_bw)
    (hM : am_Met Z.1 Z.2.2.1 y (.code y cy ny ret) L' mc' ms' (.ref r :: As) h P E) (hna : As.length = na) (hst : st.all am_s1 = true ∧ st.length ≤ 8) (hL : L' + 1 ≤ L ∧ ny ≤ 80) (hkc : kc + mc' ≤ mc) (hks : ks + ms' ≤ ms) (hd : decode cc pc = .ok (.invokevirtual idx, 3)) {stk : List Value} (hsk : stk = As.reverse ++ .ref r :: st)
    (kx : ∀ (x : String) (h' : am_H), E x h' → am_le h h' → am_WX Z (kc + mc') (ks + ms') pc ls st h' x) (kk : ∀ (v : Option Value) (h' : am_H), P v h' → am_le h h' → am_W Z (kc + mc') (ks + ms') (pc + 3) ls (v.toList ++ st) h') : am_W Z kc ks pc ls stk h := by
  obtain ⟨G, p, l, e, R, s, m, args, below, meth, c, h0, ad0, n', Q⟩ := Z
  obtain ⟨rfl, ⟨hx, hb, hml, hown, hts⟩, hlk, hE, htr, hR1, hR2, hR3, hR4⟩ := hC
  subst hsk
  refine fun ad H locs lc hA hS hX hl hvl hvs => ?_
  obtain ⟨r0, -⟩ := am_own hA hkr (by omega) (by have := (am_cf hc).2.2.2; omega)
  obtain ⟨cell, q1, q2, q3, q4⟩ := am_obj hA hkr hc
  obtain ⟨v1, v2⟩ := am_Vsr hvs
  obtain ⟨m1, m2, m3, m4, m5⟩ := hm
  have er : am_cv ad (.ref r) = .ref (ad r) := am_rv_ref r0
  have hp := am_pre hE hS hA v1
  rw [List.map_cons, er] at hp
  have hcat : ((st.map (am_cv ad)).map fun v => v.category).sum ≤ 8 := by rw [am_catS hst.1]; exact hst.2
  have w := am_ofRun (st0 := (As.map (am_cv ad)).reverse ++ .ref (ad r) :: st.map (am_cv ad)) (vx_runVN (C := C) (As := As.map (am_cv ad)) (b := ad r) ⟨hx, hb, hml, hown, hts⟩ (hM ad) ⟨va_cnB na hts (am_gi' m4) rfl rfl rfl (hE.1 _ hw) (hts _ m3) m5 ⟨by show L' + 1 ≤ _; omega, am_lrm L' hL.1 hR2 hL.2⟩, hts _ m1, by subst hyC; exact hts _ m2⟩ ⟨am_blind, ⟨cell, q1, by rw [q3]; rfl, by rw [q2]; exact (hE.2.2.1.1 ci _ hc).2.1⟩, hp⟩ rfl (by rw [List.length_map]; exact hna) hl.1 rfl (lv_room hcat) hd ⟨by omega, by omega⟩) hA hS hX hl hvl v2 kx kk
  rw [am_mapr, er]
  exact w
theorem am_callS (hC : am_OK Z own cc n L mc ms) (As : List Value) (hm : am_mS y cy ny ret na) (hw : Cond.methodLink own idx y ∈ am_TG)
    (hM : am_Met Z.1 Z.2.2.1 y (.code y cy ny ret) L' mc' ms' As h P E) (hna : As.length = na) (hst : st.all am_s1 = true ∧ st.length ≤ 8) (hL : L' + 1 ≤ L ∧ ny ≤ 80) (hkc : kc + mc' ≤ mc) (hks : ks + ms' ≤ ms) (hd : decode cc pc = .ok (.invokestatic idx, 3)) {stk : List Value} (hsk : stk = As.reverse ++ st)
    (kx : ∀ (x : String) (h' : am_H), E x h' → am_le h h' → am_WX Z (kc + mc') (ks + ms') pc ls st h' x) (kk : ∀ (v : Option Value) (h' : am_H), P v h' → am_le h h' → am_W Z (kc + mc') (ks + ms') (pc + 3) ls (v.toList ++ st) h') : am_W Z kc ks pc ls stk h := by
  obtain ⟨G, p, l, e, R, s, m, args, below, meth, c, h0, ad0, n', Q⟩ := Z
  obtain ⟨rfl, ⟨hx, hb, hml, hown, hts⟩, hlk, hE, htr, hR1, hR2, hR3, hR4⟩ := hC
  subst hsk
  refine fun ad H locs lc hA hS hX hl hvl hvs => ?_
  obtain ⟨v1, v2⟩ := am_Vsr' hvs
  obtain ⟨m1, m3, m4, m5⟩ := hm
  have hp := am_pre hE hS hA v1
  have hcat : ((st.map (am_cv ad)).map fun v => v.category).sum ≤ 8 := by rw [am_catS hst.1]; exact hst.2
  have w := am_ofRun (st0 := (As.map (am_cv ad)).reverse ++ st.map (am_cv ad)) (vx_runS (As := As.map (am_cv ad)) ⟨hx, hb, hml, hown, hts⟩ (hM ad) ⟨callB_of na hts (am_gi' m4) rfl rfl rfl (hts _ m3) (hts _ hw) m5 ⟨by show L' + 1 ≤ _; omega, am_lrm L' hL.1 hR2 hL.2⟩, hts _ m1⟩ ⟨am_blind, hp⟩ rfl (by rw [List.length_map]; exact hna) hl.1 rfl (lv_room hcat) hd ⟨by omega, by omega⟩) hA hS hX hl hvl v2 kx kk
  rw [am_mapr']
  exact w
theorem am_callSN (hC : am_OK Z own cc n L mc ms) {host : String} (As : List Value) (hm : am_mS y cy ny ret na) (hw : Cond.methodLinkNest own idx y host ∈ am_bw)
    (hM : am_Met Z.1 Z.2.2.1 y (.code y cy ny ret) L' mc' ms' As h P E) (hna : As.length = na) (hst : st.all am_s1 = true ∧ st.length ≤ 8) (hL : L' + 1 ≤ L ∧ ny ≤ 80) (hkc : kc + mc' ≤ mc) (hks : ks + ms' ≤ ms) (hd : decode cc pc = .ok (.invokestatic idx, 3)) {stk : List Value} (hsk : stk = As.reverse ++ st)
    (kx : ∀ (x : String) (h' : am_H), E x h' → am_le h h' → am_WX Z (kc + mc') (ks + ms') pc ls st h' x) (kk : ∀ (v : Option Value) (h' : am_H), P v h' → am_le h h' → am_W Z (kc + mc') (ks + ms') (pc + 3) ls (v.toList ++ st) h') : am_W Z kc ks pc ls stk h := by
  obtain ⟨G, p, l, e, R, s, m, args, below, meth, c, h0, ad0, n', Q⟩ := Z
  obtain ⟨rfl, ⟨hx, hb, hml, hown, hts⟩, hlk, hE, htr, hR1, hR2, hR3, hR4⟩ := hC
  subst hsk
  refine fun ad H locs lc hA hS hX hl hvl hvs => ?_
  obtain ⟨v1, v2⟩ := am_Vsr' hvs
  obtain ⟨m1, m3, m4, m5⟩ := hm
  have hp := am_pre hE hS hA v1
  have hcat : ((st.map (am_cv ad)).map fun v => v.category).sum ≤ 8 := by rw [am_catS hst.1]; exact hst.2
  have w := am_ofRun (st0 := (As.map (am_cv ad)).reverse ++ st.map (am_cv ad)) (vx_runSN (As := As.map (am_cv ad)) ⟨hx, hb, hml, hown, hts⟩ (hM ad) ⟨va_cnB na hts (am_gi' m4) rfl rfl rfl (hE.1 _ hw) (hts _ m3) m5 ⟨by show L' + 1 ≤ _; omega, am_lrm L' hL.1 hR2 hL.2⟩, hts _ m1, trivial⟩ ⟨am_blind, hp⟩ rfl (by rw [List.length_map]; exact hna) hl.1 rfl (lv_room hcat) hd ⟨by omega, by omega⟩) hA hS hX hl hvl v2 kx kk
  rw [am_mapr']
  exact w
/-- a static method with handlers -/
theorem am_callSX (hC : am_OK Z own cc n L mc ms) {hy9 : List (Nat × Nat × Nat × Nat)} (As : List Value) (hm : am_mW y cy ny ret hy9 na) (hw : Cond.methodLink own idx y ∈ am_TG)
    (hM : am_Met Z.1 Z.2.2.1 y (.codeWith y cy ny ret hy9) L' mc' ms' As h P E) (hna : As.length = na) (hst : st.all am_s1 = true ∧ st.length ≤ 8) (hL : L' + 1 ≤ L ∧ ny ≤ 80) (hkc : kc + mc' ≤ mc) (hks : ks + ms' ≤ ms) (hd : decode cc pc = .ok (.invokestatic idx, 3)) {stk : List Value} (hsk : stk = As.reverse ++ st)
    (kx : ∀ (x : String) (h' : am_H), E x h' → am_le h h' → am_WX Z (kc + mc') (ks + ms') pc ls st h' x) (kk : ∀ (v : Option Value) (h' : am_H), P v h' → am_le h h' → am_W Z (kc + mc') (ks + ms') (pc + 3) ls (v.toList ++ st) h') : am_W Z kc ks pc ls stk h := by
  obtain ⟨G, p, l, e, R, s, m, args, below, meth, c, h0, ad0, n', Q⟩ := Z
  obtain ⟨rfl, ⟨hx, hb, hml, hown, hts⟩, hlk, hE, htr, hR1, hR2, hR3, hR4⟩ := hC
  subst hsk
  refine fun ad H locs lc hA hS hX hl hvl hvs => ?_
  obtain ⟨v1, v2⟩ := am_Vsr' hvs
  obtain ⟨m1, m3, m4, m5⟩ := hm
  have hp := am_pre hE hS hA v1
  have hcat : ((st.map (am_cv ad)).map fun v => v.category).sum ≤ 8 := by rw [am_catS hst.1]; exact hst.2
  have w := am_ofRun (st0 := (As.map (am_cv ad)).reverse ++ st.map (am_cv ad)) (vx_runSX (As := As.map (am_cv ad)) ⟨hx, hb, hml, hown, hts⟩ (hM ad) (vx_cwSW na hts (am_gi (fun w hw9 => by
      simp only [va_wsS, List.mem_append, List.mem_cons, List.not_mem_nil, or_false] at hw9
      rcases hw9 with (a | a | a) | a | a
      · rw [a]; exact hw
      · rw [a]; exact m1
      · rw [a]; exact m3
      · rw [a]; exact m4
      · exact a)) rfl rfl rfl m5 ⟨by show L' + 1 ≤ _; omega, am_lrm L' hL.1 hR2 hL.2⟩) ⟨am_blind, hp⟩ rfl (by rw [List.length_map]; exact hna) hl.1 rfl (lv_room hcat) hd ⟨by omega, by omega⟩) hA hS hX hl hvl v2 kx kk
  rw [am_mapr']
  exact w
/-- constructors -/
theorem am_callI (hC : am_OK Z own cc n L mc ms) {r : Nat} (As : List Value) (hr0 : r ≠ 0) (hm : am_mI y cy ny na) (hw : Cond.methodLink own idx y ∈ am_TG)
    (hM : am_Met Z.1 Z.2.2.1 y (.code y cy ny none) L' mc' ms' (.ref r :: As) h P E) (hna : As.length = na) (hst : st.all am_s1 = true ∧ st.length ≤ 8) (hL : L' + 1 ≤ L ∧ ny ≤ 80) (hkc : kc + mc' ≤ mc) (hks : ks + ms' ≤ ms) (hd : decode cc pc = .ok (.invokespecial idx, 3)) {stk : List Value} (hsk : stk = As.reverse ++ .ref r :: st)
    (kx : ∀ (x : String) (h' : am_H), E x h' → am_le h h' → am_WX Z (kc + mc') (ks + ms') pc ls st h' x) (kk : ∀ (v : Option Value) (h' : am_H), P v h' → am_le h h' → am_W Z (kc + mc') (ks + ms') (pc + 3) ls (v.toList ++ st) h') : am_W Z kc ks pc ls stk h := by
  obtain ⟨G, p, l, e, R, s, m, args, below, meth, c, h0, ad0, n', Q⟩ := Z
  obtain ⟨rfl, ⟨hx, hb, hml, hown, hts⟩, hlk, hE, htr, hR1, hR2, hR3, hR4⟩ := hC
  subst hsk
  refine fun ad H locs lc hA hS hX hl hvl hvs => ?_
  obtain ⟨v1, v2⟩ := am_Vsr hvs
  obtain ⟨m0, m1, m3, m4, m5⟩ := hm
  have er : am_cv ad (.ref r) = .ref (ad r) := am_rv_ref hr0
  have hp := am_pre hE hS hA v1
  rw [List.map_cons, er] at hp
  have hcat : ((st.map (am_cv ad)).map fun v => v.category).sum ≤ 8 := by rw [am_catS hst.1]; exact hst.2
  have w := am_ofRun (st0 := (As.map (am_cv ad)).reverse ++ .ref (ad r) :: st.map (am_cv ad)) (vx_runI (As := As.map (am_cv ad)) (b := ad r) ⟨hx, hb, hml, hown, hts⟩ (hM ad) ⟨callB_of na hts (am_gi' m4) rfl rfl rfl (hts _ m3) (hts _ hw) m5 ⟨by show L' + 1 ≤ _; omega, am_lrm L' hL.1 hR2 hL.2⟩, m0, hts _ m1⟩ ⟨am_blind, hp⟩ rfl (by rw [List.length_map]; exact hna) hl.1 rfl (lv_room hcat) hd ⟨by omega, by omega⟩) hA hS hX hl hvl v2 kx kk
  rw [am_mapr, er]
  exact w
theorem am_callIN (hC : am_OK Z own cc n L mc ms) {host : String} {r : Nat} (As : List Value) (hr0 : r ≠ 0) (hm : am_mI y cy ny na) (hw : Cond.methodLinkNest own idx y host ∈ am_bw)
    (hM : am_Met Z.1 Z.2.2.1 y (.code y cy ny none) L' mc' ms' (.ref r :: As) h P E) (hna : As.length = na) (hst : st.all am_s1 = true ∧ st.length ≤ 8) (hL : L' + 1 ≤ L ∧ ny ≤ 80) (hkc : kc + mc' ≤ mc) (hks : ks + ms' ≤ ms) (hd : decode cc pc = .ok (.invokespecial idx, 3)) {stk : List Value} (hsk : stk = As.reverse ++ .ref r :: st)
    (kx : ∀ (x : String) (h' : am_H), E x h' → am_le h h' → am_WX Z (kc + mc') (ks + ms') pc ls st h' x) (kk : ∀ (v : Option Value) (h' : am_H), P v h' → am_le h h' → am_W Z (kc + mc') (ks + ms') (pc + 3) ls (v.toList ++ st) h') : am_W Z kc ks pc ls stk h := by
  obtain ⟨G, p, l, e, R, s, m, args, below, meth, c, h0, ad0, n', Q⟩ := Z
  obtain ⟨rfl, ⟨hx, hb, hml, hown, hts⟩, hlk, hE, htr, hR1, hR2, hR3, hR4⟩ := hC
  subst hsk
  refine fun ad H locs lc hA hS hX hl hvl hvs => ?_
  obtain ⟨v1, v2⟩ := am_Vsr hvs
  obtain ⟨m0, m1, m3, m4, m5⟩ := hm
  have er : am_cv ad (.ref r) = .ref (ad r) := am_rv_ref hr0
  have hp := am_pre hE hS hA v1
  rw [List.map_cons, er] at hp
  have hcat : ((st.map (am_cv ad)).map fun v => v.category).sum ≤ 8 := by rw [am_catS hst.1]; exact hst.2
  have w := am_ofRun (st0 := (As.map (am_cv ad)).reverse ++ .ref (ad r) :: st.map (am_cv ad)) (vx_runIN (As := As.map (am_cv ad)) (b := ad r) ⟨hx, hb, hml, hown, hts⟩ (hM ad) ⟨va_cnB na hts (am_gi' m4) rfl rfl rfl (hE.1 _ hw) (hts _ m3) m5 ⟨by show L' + 1 ≤ _; omega, am_lrm L' hL.1 hR2 hL.2⟩, m0, hts _ m1⟩ ⟨am_blind, hp⟩ rfl (by rw [List.length_map]; exact hna) hl.1 rfl (lv_room hcat) hd ⟨by omega, by omega⟩) hA hS hX hl hvl v2 kx kk
  rw [am_mapr, er]
  exact w
end AMR
end
section
/-! ===== throws, handlers, copies, members of the library ===== -/
theorem am_A_grow {G : am_G} {h : am_H} {ad : Nat → Nat} {H H' : Heap} (hA : am_A G h ad H) (z : H.size ≤ H'.size) (oq : ∀ q : Nat, q < H.size → H'[q]? = H[q]?) : am_A G h ad H' := by
  obtain ⟨a0, a1, a2, a3, a4⟩ := hA
  refine ⟨a0, fun q hq => ?_, fun q hq => ?_, a3, a4⟩
  · rcases a2 q hq with e | e | ⟨-, e, -⟩
    · exact Or.inl (Or.inl (by rw [e]; exact a0.2.1))
    · exact Or.inl (Or.inr (by rw [e]; exact a0.2.2.1))
    · exact am_atk_kept (a1 q hq) (oq _ e)
  · rcases a2 q hq with e | e | ⟨e1, e2, e3⟩
    · exact Or.inl e
    · exact Or.inr (Or.inl e)
    · exact Or.inr (Or.inr ⟨e1, by omega, e3⟩)
section AMX
variable {Z : am_Z} {own : String} {cc : ByteArray} {n L mc ms : Nat} {kc ks pc : Nat} {ls st : List Value} {h : am_H} {hh : List (Nat × Nat × Nat × Nat)} {P : Option Value → am_H → Prop} {E : String → am_H → Prop}
/-- 'throw new X("text")' -/
theorem am_throw (hC : am_OK Z own cc n L mc ms) {ret : Option FieldType} (hR : am_Rt Z ret [] P E mc ms) {X text : String} {ik is ic : Nat} (hX1 : Bundle.fit X = true) (hw1 : Cond.classLink own ik X ∈ am_TG) (hw2 : Cond.initialized X ∈ am_TG) (hw3 : Cond.stringRef own is text ∈ lw_tbl) (hat : ∀ w ∈ vx_atS own ic X ["java/lang/RuntimeException", "java/lang/Exception"], (w ∈ am_TG ∨ w ∈ am_bw) ∧ vx_ot w = true)
    (hst : st.all am_s1 = true ∧ st.length ≤ 8) (hL : 6 ≤ L) (hkc : kc + 1 ≤ mc) (hks : ks + 6 ≤ ms) (d0 : decode cc pc = .ok (.new ik, 3)) (d3 : decode cc (pc + 3) = .ok (.dup, 1)) (d4 : decode cc (pc + 4) = .ok (.ldc is, 2)) (d6 : decode cc (pc + 6) = .ok (.invokespecial ic, 3)) (d9 : decode cc (pc + 9) = .ok (.athrow, 1))
    (hE' : E X h) : am_W Z kc ks pc ls st h := by
  obtain ⟨G, p, l, e, R, s, m, args, below, meth, c, h0, ad0, n', Q⟩ := Z
  obtain ⟨rfl, ⟨hx, hb, hml, hown, hts⟩, hlk, hE, htr, hR1, hR2, hR3, hR4⟩ := hC
  obtain ⟨hr, rfl, htb⟩ := hR
  refine fun ad H locs lc hA hS hX hl hvl hvs => ?_
  obtain ⟨sa, hsa⟩ := hE.2.1.1 (own, is, text) hw3
  have hcat : ((st.map (am_cv ad)).map fun v => v.category).sum ≤ 8 := by rw [am_catS hst.1]; exact hst.2
  refine vx_throwS (names := ["java/lang/RuntimeException", "java/lang/Exception"]) hx hb htr hown hX1 (by decide +kernel) (hts _ hw1) (hts _ hw2) hsa (fun w hw => ?_) (fun w hw => ?_) hE.2.2.2.1 hE.2.2.2.2.1 hS (hl.1.trans hml.symm) d0 d3 d4 d6 d9 (fun x hx9 => ?_) (by show 2 + 3 < _; omega) (by show _ + (13 * (2 + 1) + 43) ≤ _; omega) (by omega) (by omega) hlk (fun t hal hz hq => ?_) hS.2.2 hkc hks
  · rcases (hat w hw).1 with g | g
    · exact hts w g
    · have g2 := (hat w hw).2
      simp only [vx_ot, Bool.or_eq_true] at g2
      rcases g2 with g2 | g2
      · exact va_tabs g2 rfl (hE.1 w g)
      · have hb9 := (List.mem_filter.mp g).2
        cases w <;> first | exact va_tabs rfl rfl (hE.1 _ g) | (cases hb9; done) | skip
        rename_i t
        cases g2
  · rcases List.mem_cons.mp hw with g | hw
    · rw [g]
      unfold vx_ot
      rw [am_good _ hw1, Bool.or_true]
    · rcases List.mem_cons.mp hw with g | hw
      · rw [g]
        unfold vx_ot
        rw [am_good _ hw2, Bool.or_true]
      · exact (hat w hw).2
  · rw [htb] at hx9
    cases hx9
  · exact ⟨h, ad, hE', hX, am_A_grow hA hz hq, Nat.le_trans hS.1 hz, fun q g1 g2 => by rw [hq q (Nat.lt_of_lt_of_le g1 hS.1)]; exact hS.2.1 q g1 g2⟩
/-- an exception leaves the method -/
theorem am_out (hC : am_OK Z own cc n L mc ms) {ret : Option FieldType} (hR : am_Rt Z ret [] P E mc ms) {X : String} (hkc : kc ≤ mc) (hks : ks ≤ ms) (hE' : E X h) : am_WX Z kc ks pc ls st h X := by
  obtain ⟨G, p, l, e, R, s, m, args, below, meth, c, h0, ad0, n', Q⟩ := Z
  obtain ⟨rfl, ⟨hx, hb, hml, hown, hts⟩, hlk, hE, htr, hR1, hR2, hR3, hR4⟩ := hC
  obtain ⟨hr, rfl, htb⟩ := hR
  refine fun ad H locs lc q ce hA hS hX hl hvl hvs hce hcv hcl => ?_
  refine vx_out (fun x hx9 => ?_) hlk hce hcv hcl (fun t ht hal => ⟨h, ad, hE', hX, by rw [ht]; exact hA, hS.F ht⟩) hS.2.2 hkc hks
  rw [htb] at hx9
  cases hx9
/-- a handler takes it, and puts it away at place i -/
theorem am_catch (hC : am_OK Z own cc n L mc ms) {ret : Option FieldType} (hR : am_Rt Z ret hh P E mc ms) {X : String} (pre : List ExceptionTableEntry) (x : ExceptionTableEntry) (suf : List ExceptionTableEntry) (hsp : tableOf hh = pre ++ x :: suf) (hpass : ∀ z ∈ pre, ∃ nm, z.catchType ≠ 0 ∧ Cond.classLink own z.catchType nm ∈ am_TG ∧ (X, nm) ∈ am_nc) (hcov : covers x pc = true) (h0c : x.catchType ≠ 0)
    (hw : Cond.classLink own x.catchType X ∈ am_TG) (hw2 : Cond.castable X X ∈ am_bw) {i len : Nat} (hi : i < n) (hd : decode cc x.handlerPc = .ok (.astore i, len) ∧ len = 2 ∨ ∃ i' : Fin 4, (i' : Nat) = i ∧ decode cc x.handlerPc = .ok (.astore_n i', len) ∧ len = 1) (k : am_W Z kc ks (x.handlerPc + len) (ls.set i .null) [] h) : am_WX Z kc ks pc ls st h X := by
  obtain ⟨G, p, l, e, R, s, m, args, below, meth, c, h0, ad0, n', Q⟩ := Z
  obtain ⟨rfl, ⟨hx, hb, hml, hown, hts⟩, hlk, hE, htr, hR1, hR2, hR3, hR4⟩ := hC
  obtain ⟨hr, rfl, htb⟩ := hR
  refine fun ad H locs lc q ce hA hS hX hl hvl hvs hce hcv hcl => ?_
  have fin : ∀ lc' : Array Slot, lv_has lc' n' ((i, Value.ref q) :: (am_ll ad 0 ls).filter (fun q => !(q.1 == i) && !(q.1 + 1 == i && q.2.category == 2))) → am_L ad n' (ls.set i .null) lc' := by
    intro lc' hl'
    refine am_L_to hl' (fun j w hw9 h1 => ?_)
    have hj : i ≠ j := by
      intro e9
      subst e9
      rw [List.getElem?_set] at hw9
      simp only [if_true] at hw9
      split at hw9
      · cases hw9; cases h1
      · cases hw9
    rw [List.getElem?_set_ne hj] at hw9
    refine List.mem_cons_of_mem _ (List.mem_filter.mpr ⟨(am_ll_mem ad ls 0 _).mpr ⟨j, w, hw9, h1, by rw [Nat.zero_add]⟩, ?_⟩)
    have h2 : (j == i) = false := by simpa using Ne.symm hj
    simp [h2, am_cat ad h1]
  refine vx_catch hown pre x suf (htb.trans hsp) (fun z hz => ?_) hcov h0c (hts _ hw) (va_Nw.use rfl (hE.1 _ hw2)) hce hcv hcl ?_
  · obtain ⟨nm, g1, g2, g3⟩ := hpass z hz
    exact Or.inr ⟨g1, nm, hts _ g2, hE.2.1.2 _ g3⟩
  · rcases hd with ⟨hd, rfl⟩ | ⟨i', hi', hd, rfl⟩
    · exact lv_astore hx hb hd hl hi rfl (fun lc' hl' => k ad H locs lc' hA hS hX (fin lc' hl') (am_Vset hvl trivial) (fun _ h => nomatch h))
    · exact lv_astore_n hx hb hd hi' hl hi rfl (fun lc' hl' => k ad H locs lc' hA hS hX (fin lc' hl') (am_Vset hvl trivial) (fun _ h => nomatch h))
theorem am_objinit (hC : am_OK Z own cc n L mc ms) {idx r : Nat} (hr0 : r ≠ 0) (hw : Cond.methodLink own idx Lib.objectInit ∈ am_TG) (hw2 : Cond.instanceMethod Lib.objectInit ∈ am_TG) (hw3 : Cond.code Lib.objectInit ⟨#[0xb1]⟩ 1 none ∈ am_TG) (hL : 1 ≤ L) (hst : st.all am_s1 = true ∧ st.length ≤ 8) (hd : decode cc pc = .ok (.invokespecial idx, 3)) (k : am_W Z kc ks (pc + 3) ls st h) : am_W Z kc ks pc ls (.ref r :: st) h := by
  obtain ⟨G, p, l, e, R, s, m, args, below, meth, c, h0, ad0, n', Q⟩ := Z
  obtain ⟨rfl, ⟨hx, hb, hml, hown, hts⟩, hlk, hE, htr, hR1, hR2, hR3, hR4⟩ := hC
  refine fun ad H locs lc hA hS hX hl hvl hvs => ?_
  have k9 := k ad H locs lc hA hS hX hl hvl (am_Vt hvs)
  have hcat : ((st.map (am_cv ad)).map fun v => v.category).sum ≤ 8 := by rw [am_catS hst.1]; exact hst.2
  change W p l e R s m args below meth c H locs kc ks Q (F0 m pc lc (am_rv ad r :: _))
  rw [am_rv_ref hr0]
  exact W.objInit hx hb hown (hts _ hw) (hts _ hw2) (hts _ hw3) rfl (hl.1.trans hml.symm) rfl hd (by omega) (by show 2 * 0 + _ + 12 ≤ _; omega) k9
theorem am_cast (hC : am_OK Z own cc n L mc ms) {C : String} {T : u_T} {N ci idx r : Nat} (hc : am_cl[ci]? = some (C, T, N)) (hkr : hk_ h r = ci + 1) (hw : Cond.classLink own idx C ∈ am_TG) (hd : decode cc pc = .ok (.checkcast idx, 3)) (k : am_W Z kc ks (pc + 3) ls (.ref r :: st) h) : am_W Z kc ks pc ls (.ref r :: st) h := by
  obtain ⟨G, p, l, e, R, s, m, args, below, meth, c, h0, ad0, n', Q⟩ := Z
  obtain ⟨rfl, ⟨hx, hb, hml, hown, hts⟩, hlk, hE, htr, hR1, hR2, hR3, hR4⟩ := hC
  refine fun ad H locs lc hA hS hX hl hvl hvs => ?_
  have k9 := k ad H locs lc hA hS hX hl hvl hvs
  obtain ⟨r0, -⟩ := am_own hA hkr (by omega) (by have := (am_cf hc).2.2.2; omega)
  obtain ⟨cell, q1, q2, q3, q4⟩ := am_obj hA hkr hc
  have hK := (hE.2.2.1.1 ci _ hc).2
  rw [List.map_cons] at k9 ⊢
  change W p l e R s m args below meth c H locs kc ks Q (F0 m _ lc (am_rv ad r :: _)) at k9
  change W p l e R s m args below meth c H locs kc ks Q (F0 m pc lc (am_rv ad r :: _))
  rw [am_rv_ref r0] at k9 ⊢
  exact va_castS hx hb hown (hts _ hw) hK ⟨cell, q1, by rw [q3]; rfl, by rw [q2]; exact hK.1⟩ hd k9
theorem am_mmax (hC : am_OK Z own cc n L mc ms) {idx : Nat} {x y : Int32} (hw : Cond.methodLink own idx Lib.Math.max.name ∈ am_TG) (hw2 : Cond.static Lib.Math.max.name ∈ am_TG) (hw3 : Cond.initialized "java/lang/Math" ∈ am_TG) (hw4 : Cond.code Lib.Math.max.name Lib.Math.max.code 2 (some .int) ∈ am_TG) (hL : 1 ≤ L) (hst : st.all am_s1 = true ∧ st.length ≤ 8) (hkc : kc ≤ mc) (hks : ks ≤ ms) (hd : decode cc pc = .ok (.invokestatic idx, 3)) (k : am_W Z kc ks (pc + 3) ls (.int (if x < y then y else x) :: st) h) : am_W Z kc ks pc ls (.int y :: .int x :: st) h := by
  obtain ⟨G, p, l, e, R, s, m, args, below, meth, c, h0, ad0, n', Q⟩ := Z
  obtain ⟨rfl, ⟨hx, hb, hml, hown, hts⟩, hlk, hE, htr, hR1, hR2, hR3, hR4⟩ := hC
  refine fun ad H locs lc hA hS hX hl hvl hvs => ?_
  have hcat : ((st.map (am_cv ad)).map fun v => v.category).sum ≤ 8 := by rw [am_catS hst.1]; exact hst.2
  exact va_mmax hx hb (hml.trans hl.1.symm) hown (hts _ hw) (hts _ hw2) (hts _ hw3) (hts _ hw4) (by omega) (by omega) (by omega) (by omega) hd (k ad H locs lc hA hS hX hl hvl (am_Vc trivial (am_Vt (am_Vt hvs))))
theorem am_mmin (hC : am_OK Z own cc n L mc ms) {idx : Nat} {x y : Int32} (hw : Cond.methodLink own idx Lib.Math.min.name ∈ am_TG) (hw2 : Cond.static Lib.Math.min.name ∈ am_TG) (hw3 : Cond.initialized "java/lang/Math" ∈ am_TG) (hw4 : Cond.code Lib.Math.min.name Lib.Math.min.code 2 (some .int) ∈ am_TG) (hL : 1 ≤ L) (hst : st.all am_s1 = true ∧ st.length ≤ 8) (hkc : kc ≤ mc) (hks : ks ≤ ms) (hd : decode cc pc = .ok (.invokestatic idx, 3)) (k : am_W Z kc ks (pc + 3) ls (.int (if y < x then y else x) :: st) h) : am_W Z kc ks pc ls (.int y :: .int x :: st) h := by
  obtain ⟨G, p, l, e, R, s, m, args, below, meth, c, h0, ad0, n', Q⟩ := Z
  obtain ⟨rfl, ⟨hx, hb, hml, hown, hts⟩, hlk, hE, htr, hR1, hR2, hR3, hR4⟩ := hC
  refine fun ad H locs lc hA hS hX hl hvl hvs => ?_
  have hcat : ((st.map (am_cv ad)).map fun v => v.category).sum ≤ 8 := by rw [am_catS hst.1]; exact hst.2
  exact va_mmin hx hb (hml.trans hl.1.symm) hown (hts _ hw) (hts _ hw2) (hts _ hw3) (hts _ hw4) (by omega) (by omega) (by omega) (by omega) hd (k ad H locs lc hA hS hX hl hvl (am_Vc trivial (am_Vt (am_Vt hvs))))
end AMX
end
section
theorem tw_0 : (Jvm.Cond.initialized "HousePlansLaw") ∈ am_TG := am_inTG (List.mem_append_right _ (List.mem_of_getElem? (i := 0) (by decide +kernel))) rfl
theorem tw_1 : (Jvm.Cond.initialized "HousePlans") ∈ am_TG := am_inTG (List.mem_append_right _ (List.mem_of_getElem? (i := 1) (by decide +kernel))) rfl
theorem tw_2 : (Jvm.Cond.initialized "java/util/AbstractCollection") ∈ am_TG := am_inTG (List.mem_append_right _ (List.mem_of_getElem? (i := 2) (by decide +kernel))) rfl
theorem tw_3 : (Jvm.Cond.initialized "java/util/AbstractList") ∈ am_TG := am_inTG (List.mem_append_right _ (List.mem_of_getElem? (i := 3) (by decide +kernel))) rfl
theorem tw_4 : (Jvm.Cond.initialized "java/util/ArrayList") ∈ am_TG := am_inTG (List.mem_append_right _ (List.mem_of_getElem? (i := 4) (by decide +kernel))) rfl
theorem tw_5 : (Jvm.Cond.initialized "HousePlans$Floor") ∈ am_TG := am_inTG (List.mem_append_right _ (List.mem_of_getElem? (i := 5) (by decide +kernel))) rfl
theorem tw_6 : (Jvm.Cond.initialized "HousePlans$State") ∈ am_TG := am_inTG (List.mem_append_right _ (List.mem_of_getElem? (i := 6) (by decide +kernel))) rfl
theorem tw_7 : (Jvm.Cond.initialized "HousePlansModel") ∈ am_TG := am_inTG (List.mem_append_right _ (List.mem_of_getElem? (i := 7) (by decide +kernel))) rfl
theorem tw_8 : (Jvm.Cond.initialized "java/lang/Throwable") ∈ am_TG := am_inTG (List.mem_append_right _ (List.mem_of_getElem? (i := 8) (by decide +kernel))) rfl
theorem tw_9 : (Jvm.Cond.initialized "java/lang/Exception") ∈ am_TG := am_inTG (List.mem_append_right _ (List.mem_of_getElem? (i := 9) (by decide +kernel))) rfl
theorem tw_10 : (Jvm.Cond.initialized "java/lang/RuntimeException") ∈ am_TG := am_inTG (List.mem_append_right _ (List.mem_of_getElem? (i := 10) (by decide +kernel))) rfl
theorem tw_11 : (Jvm.Cond.initialized "java/lang/IllegalStateException") ∈ am_TG := am_inTG (List.mem_append_right _ (List.mem_of_getElem? (i := 11) (by decide +kernel))) rfl
theorem tw_12 : (Jvm.Cond.initialized "HousePlans$Drawing") ∈ am_TG := am_inTG (List.mem_append_right _ (List.mem_of_getElem? (i := 12) (by decide +kernel))) rfl
theorem tw_13 : (Jvm.Cond.initialized "java/util/Arrays") ∈ am_TG := am_inTG (List.mem_append_right _ (List.mem_of_getElem? (i := 13) (by decide +kernel))) rfl
theorem tw_14 : (Jvm.Cond.initialized "jdk/internal/util/ArraysSupport") ∈ am_TG := am_inTG (List.mem_append_right _ (List.mem_of_getElem? (i := 14) (by decide +kernel))) rfl
theorem tw_15 : (Jvm.Cond.initialized "java/lang/Math") ∈ am_TG := am_inTG (List.mem_append_right _ (List.mem_of_getElem? (i := 15) (by decide +kernel))) rfl
theorem tw_16 : (Jvm.Cond.initialized "java/lang/System") ∈ am_TG := am_inTG (List.mem_append_right _ (List.mem_of_getElem? (i := 16) (by decide +kernel))) rfl
theorem tw_17 : (Jvm.Cond.initialized "java/lang/IndexOutOfBoundsException") ∈ am_TG := am_inTG (List.mem_append_right _ (List.mem_of_getElem? (i := 17) (by decide +kernel))) rfl
theorem tw_18 : (Jvm.Cond.initialized "java/util/Objects") ∈ am_TG := am_inTG (List.mem_append_right _ (List.mem_of_getElem? (i := 18) (by decide +kernel))) rfl
theorem tw_19 : (Jvm.Cond.initialized "jdk/internal/util/Preconditions") ∈ am_TG := am_inTG (List.mem_append_right _ (List.mem_of_getElem? (i := 19) (by decide +kernel))) rfl
theorem tw_20 : (Jvm.Cond.initialized "java/lang/IllegalArgumentException") ∈ am_TG := am_inTG (List.mem_append_right _ (List.mem_of_getElem? (i := 20) (by decide +kernel))) rfl
theorem tw_21 : (Jvm.Cond.initialized "HousePlans$Permit") ∈ am_TG := am_inTG (List.mem_append_right _ (List.mem_of_getElem? (i := 21) (by decide +kernel))) rfl
theorem tw_22 : (Jvm.Cond.initialized "HousePlans$Print") ∈ am_TG := am_inTG (List.mem_append_right _ (List.mem_of_getElem? (i := 22) (by decide +kernel))) rfl
theorem tw_23 : (Jvm.Cond.classLink "HousePlansLaw" (8 : Nat) "HousePlans") ∈ am_TG := am_inTG (List.mem_append_right _ (List.mem_of_getElem? (i := 23) (by decide +kernel))) rfl
theorem tw_24 : (Jvm.Cond.instantiable "HousePlans" (4 : Nat)) ∈ am_TG := am_inTG (List.mem_append_right _ (List.mem_of_getElem? (i := 24) (by decide +kernel))) rfl
theorem tw_25 : (Jvm.Cond.methodLink "HousePlansLaw" (84 : Nat) ({ cls := "HousePlans", name := "<init>", desc := "()V" } : Jvm.MethodName)) ∈ am_TG := am_inTG (List.mem_append_right _ (List.mem_of_getElem? (i := 25) (by decide +kernel))) rfl
theorem tw_26 : (Jvm.Cond.instanceMethod ({ cls := "HousePlans", name := "<init>", desc := "()V" } : Jvm.MethodName)) ∈ am_TG := am_inTG (List.mem_append_right _ (List.mem_of_getElem? (i := 26) (by decide +kernel))) rfl
theorem tw_27 : (Jvm.Cond.code ({ cls := "HousePlans", name := "<init>", desc := "()V" } : Jvm.MethodName) prog_1_method_1_code (1 : Nat) (Option.none : Option Jvm.ClassFile.FieldType)) ∈ am_TG := am_inTG (List.mem_append_right _ (List.mem_of_getElem? (i := 27) (by decide +kernel))) rfl
theorem tw_28 : (Jvm.Cond.methodLink "HousePlans" (1 : Nat) ({ cls := "java/lang/Object", name := "<init>", desc := "()V" } : Jvm.MethodName)) ∈ am_TG := am_inTG (List.mem_append_right _ (List.mem_of_getElem? (i := 28) (by decide +kernel))) rfl
theorem tw_29 : (Jvm.Cond.instanceMethod ({ cls := "java/lang/Object", name := "<init>", desc := "()V" } : Jvm.MethodName)) ∈ am_TG := am_inTG (List.mem_append_right _ (List.mem_of_getElem? (i := 29) (by decide +kernel))) rfl
theorem tw_30 : (Jvm.Cond.code ({ cls := "java/lang/Object", name := "<init>", desc := "()V" } : Jvm.MethodName) object_method_1_code (1 : Nat) (Option.none : Option Jvm.ClassFile.FieldType)) ∈ am_TG := am_inTG (List.mem_append_right _ (List.mem_of_getElem? (i := 30) (by decide +kernel))) rfl
theorem tw_31 : (Jvm.Cond.classLink "HousePlans" (7 : Nat) "java/util/ArrayList") ∈ am_TG := am_inTG (List.mem_append_right _ (List.mem_of_getElem? (i := 31) (by decide +kernel))) rfl
theorem tw_32 : (Jvm.Cond.instantiable "java/util/ArrayList" (3 : Nat)) ∈ am_TG := am_inTG (List.mem_append_right _ (List.mem_of_getElem? (i := 32) (by decide +kernel))) rfl
theorem tw_33 : (Jvm.Cond.methodLink "HousePlans" (9 : Nat) ({ cls := "java/util/ArrayList", name := "<init>", desc := "()V" } : Jvm.MethodName)) ∈ am_TG := am_inTG (List.mem_append_right _ (List.mem_of_getElem? (i := 33) (by decide +kernel))) rfl
theorem tw_34 : (Jvm.Cond.instanceMethod ({ cls := "java/util/ArrayList", name := "<init>", desc := "()V" } : Jvm.MethodName)) ∈ am_TG := am_inTG (List.mem_append_right _ (List.mem_of_getElem? (i := 34) (by decide +kernel))) rfl
theorem tw_35 : (Jvm.Cond.code ({ cls := "java/util/ArrayList", name := "<init>", desc := "()V" } : Jvm.MethodName) prog_23_method_2_code (1 : Nat) (Option.none : Option Jvm.ClassFile.FieldType)) ∈ am_TG := am_inTG (List.mem_append_right _ (List.mem_of_getElem? (i := 35) (by decide +kernel))) rfl
theorem tw_36 : (Jvm.Cond.methodLink "java/util/ArrayList" (1 : Nat) ({ cls := "java/util/AbstractList", name := "<init>", desc := "()V" } : Jvm.MethodName)) ∈ am_TG := am_inTG (List.mem_append_right _ (List.mem_of_getElem? (i := 36) (by decide +kernel))) rfl
theorem tw_37 : (Jvm.Cond.instanceMethod ({ cls := "java/util/AbstractList", name := "<init>", desc := "()V" } : Jvm.MethodName)) ∈ am_TG := am_inTG (List.mem_append_right _ (List.mem_of_getElem? (i := 37) (by decide +kernel))) rfl
theorem tw_38 : (Jvm.Cond.code ({ cls := "java/util/AbstractList", name := "<init>", desc := "()V" } : Jvm.MethodName) prog_22_method_1_code (1 : Nat) (Option.none : Option Jvm.ClassFile.FieldType)) ∈ am_TG := am_inTG (List.mem_append_right _ (List.mem_of_getElem? (i := 38) (by decide +kernel))) rfl
theorem tw_39 : (Jvm.Cond.methodLink "java/util/AbstractList" (1 : Nat) ({ cls := "java/util/AbstractCollection", name := "<init>", desc := "()V" } : Jvm.MethodName)) ∈ am_TG := am_inTG (List.mem_append_right _ (List.mem_of_getElem? (i := 39) (by decide +kernel))) rfl
theorem tw_40 : (Jvm.Cond.instanceMethod ({ cls := "java/util/AbstractCollection", name := "<init>", desc := "()V" } : Jvm.MethodName)) ∈ am_TG := am_inTG (List.mem_append_right _ (List.mem_of_getElem? (i := 40) (by decide +kernel))) rfl
theorem tw_41 : (Jvm.Cond.code ({ cls := "java/util/AbstractCollection", name := "<init>", desc := "()V" } : Jvm.MethodName) prog_21_method_1_code (1 : Nat) (Option.none : Option Jvm.ClassFile.FieldType)) ∈ am_TG := am_inTG (List.mem_append_right _ (List.mem_of_getElem? (i := 41) (by decide +kernel))) rfl
theorem tw_42 : (Jvm.Cond.methodLink "java/util/AbstractCollection" (1 : Nat) ({ cls := "java/lang/Object", name := "<init>", desc := "()V" } : Jvm.MethodName)) ∈ am_TG := am_inTG (List.mem_append_right _ (List.mem_of_getElem? (i := 42) (by decide +kernel))) rfl
theorem tw_43 : (Jvm.Cond.fieldLink "java/util/ArrayList" (39 : Nat) "java/util/ArrayList" "DEFAULTCAPACITY_EMPTY_ELEMENTDATA" "[Ljava/lang/Object;") ∈ am_TG := am_inTG (List.mem_append_right _ (List.mem_of_getElem? (i := 43) (by decide +kernel))) rfl
theorem tw_45 : (Jvm.Cond.fieldLink "java/util/ArrayList" (9 : Nat) "java/util/ArrayList" "elementData" "[Ljava/lang/Object;") ∈ am_TG := am_inTG (List.mem_append_right _ (List.mem_of_getElem? (i := 45) (by decide +kernel))) rfl
theorem tw_46 : (Jvm.Cond.fieldLink "java/util/ArrayList" (48 : Nat) "java/util/ArrayList" "size" "I") ∈ am_TG := am_inTG (List.mem_append_right _ (List.mem_of_getElem? (i := 46) (by decide +kernel))) rfl
theorem tw_47 : (Jvm.Cond.fieldLink "java/util/AbstractList" (7 : Nat) "java/util/AbstractList" "modCount" "I") ∈ am_TG := am_inTG (List.mem_append_right _ (List.mem_of_getElem? (i := 47) (by decide +kernel))) rfl
theorem tw_48 : (Jvm.Cond.fieldLink "java/util/ArrayList" (63 : Nat) "java/util/ArrayList" "modCount" "I") ∈ am_TG := am_inTG (List.mem_append_right _ (List.mem_of_getElem? (i := 48) (by decide +kernel))) rfl
theorem tw_49 : (Jvm.Cond.sameField "java/util/ArrayList" "java/util/AbstractList" "modCount" "I") ∈ am_TG := am_inTG (List.mem_append_right _ (List.mem_of_getElem? (i := 49) (by decide +kernel))) rfl
theorem tw_57 : (Jvm.Cond.classLink "HousePlans" (22 : Nat) "HousePlans$Floor") ∈ am_TG := am_inTG (List.mem_append_right _ (List.mem_of_getElem? (i := 57) (by decide +kernel))) rfl
theorem tw_58 : (Jvm.Cond.instantiable "HousePlans$Floor" (4 : Nat)) ∈ am_TG := am_inTG (List.mem_append_right _ (List.mem_of_getElem? (i := 58) (by decide +kernel))) rfl
theorem tw_59 : (Jvm.Cond.methodLinkNest "HousePlans" (24 : Nat) ({ cls := "HousePlans$Floor", name := "<init>", desc := "()V" } : Jvm.MethodName) "HousePlans") ∈ am_bw := am_inB (List.mem_append_right _ (List.mem_of_getElem? (i := 59) (by decide +kernel))) rfl
theorem tw_60 : (Jvm.Cond.instanceMethod ({ cls := "HousePlans$Floor", name := "<init>", desc := "()V" } : Jvm.MethodName)) ∈ am_TG := am_inTG (List.mem_append_right _ (List.mem_of_getElem? (i := 60) (by decide +kernel))) rfl
theorem tw_61 : (Jvm.Cond.code ({ cls := "HousePlans$Floor", name := "<init>", desc := "()V" } : Jvm.MethodName) prog_3_method_1_code (1 : Nat) (Option.none : Option Jvm.ClassFile.FieldType)) ∈ am_TG := am_inTG (List.mem_append_right _ (List.mem_of_getElem? (i := 61) (by decide +kernel))) rfl
theorem tw_62 : (Jvm.Cond.methodLink "HousePlans$Floor" (3 : Nat) ({ cls := "java/lang/Object", name := "<init>", desc := "()V" } : Jvm.MethodName)) ∈ am_TG := am_inTG (List.mem_append_right _ (List.mem_of_getElem? (i := 62) (by decide +kernel))) rfl
theorem tw_63 : (Jvm.Cond.classLink "HousePlans$Floor" (9 : Nat) "HousePlans$State") ∈ am_TG := am_inTG (List.mem_append_right _ (List.mem_of_getElem? (i := 63) (by decide +kernel))) rfl
theorem tw_64 : (Jvm.Cond.instantiable "HousePlans$State" (2 : Nat)) ∈ am_TG := am_inTG (List.mem_append_right _ (List.mem_of_getElem? (i := 64) (by decide +kernel))) rfl
theorem tw_65 : (Jvm.Cond.methodLinkNest "HousePlans$Floor" (11 : Nat) ({ cls := "HousePlans$State", name := "<init>", desc := "()V" } : Jvm.MethodName) "HousePlans") ∈ am_bw := am_inB (List.mem_append_right _ (List.mem_of_getElem? (i := 65) (by decide +kernel))) rfl
theorem tw_66 : (Jvm.Cond.instanceMethod ({ cls := "HousePlans$State", name := "<init>", desc := "()V" } : Jvm.MethodName)) ∈ am_TG := am_inTG (List.mem_append_right _ (List.mem_of_getElem? (i := 66) (by decide +kernel))) rfl
theorem tw_67 : (Jvm.Cond.code ({ cls := "HousePlans$State", name := "<init>", desc := "()V" } : Jvm.MethodName) prog_6_method_1_code (1 : Nat) (Option.none : Option Jvm.ClassFile.FieldType)) ∈ am_TG := am_inTG (List.mem_append_right _ (List.mem_of_getElem? (i := 67) (by decide +kernel))) rfl
theorem tw_68 : (Jvm.Cond.methodLink "HousePlans$State" (3 : Nat) ({ cls := "java/lang/Object", name := "<init>", desc := "()V" } : Jvm.MethodName)) ∈ am_TG := am_inTG (List.mem_append_right _ (List.mem_of_getElem? (i := 68) (by decide +kernel))) rfl
theorem tw_69 : (Jvm.Cond.fieldLink "HousePlans$State" (9 : Nat) "HousePlans$State" "sides" "[I") ∈ am_TG := am_inTG (List.mem_append_right _ (List.mem_of_getElem? (i := 69) (by decide +kernel))) rfl
theorem tw_70 : (Jvm.Cond.fieldLinkNest "HousePlans$Floor" (38 : Nat) "HousePlans$State" "sides" "[I" "HousePlans") ∈ am_bw := am_inB (List.mem_append_right _ (List.mem_of_getElem? (i := 70) (by decide +kernel))) rfl
theorem tw_71 : (Jvm.Cond.fieldLink "HousePlans$State" (15 : Nat) "HousePlans$State" "exits" "[Z") ∈ am_TG := am_inTG (List.mem_append_right _ (List.mem_of_getElem? (i := 71) (by decide +kernel))) rfl
theorem tw_72 : (Jvm.Cond.fieldLinkNest "HousePlans$Floor" (67 : Nat) "HousePlans$State" "exits" "[Z" "HousePlans") ∈ am_bw := am_inB (List.mem_append_right _ (List.mem_of_getElem? (i := 72) (by decide +kernel))) rfl
theorem tw_78 : (Jvm.Cond.arrayClass Jvm.ClassFile.FieldType.int) ∈ am_TG := am_inTG (List.mem_append_right _ (List.mem_of_getElem? (i := 78) (by decide +kernel))) rfl
theorem tw_79 : (Jvm.Cond.arrayClass Jvm.ClassFile.FieldType.boolean) ∈ am_TG := am_inTG (List.mem_append_right _ (List.mem_of_getElem? (i := 79) (by decide +kernel))) rfl
theorem tw_80 : (Jvm.Cond.fieldLink "HousePlans$Floor" (12 : Nat) "HousePlans$Floor" "state" "LHousePlans$State;") ∈ am_TG := am_inTG (List.mem_append_right _ (List.mem_of_getElem? (i := 80) (by decide +kernel))) rfl
theorem tw_81 : (Jvm.Cond.fieldLink "HousePlans$Floor" (18 : Nat) "HousePlans$Floor" "roomOf" "[I") ∈ am_TG := am_inTG (List.mem_append_right _ (List.mem_of_getElem? (i := 81) (by decide +kernel))) rfl
theorem tw_82 : (Jvm.Cond.fieldLinkNest "HousePlans" (103 : Nat) "HousePlans$Floor" "roomOf" "[I" "HousePlans") ∈ am_bw := am_inB (List.mem_append_right _ (List.mem_of_getElem? (i := 82) (by decide +kernel))) rfl
theorem tw_83 : (Jvm.Cond.fieldLink "HousePlans$Floor" (22 : Nat) "HousePlans$Floor" "doorsOutOf" "[I") ∈ am_TG := am_inTG (List.mem_append_right _ (List.mem_of_getElem? (i := 83) (by decide +kernel))) rfl
theorem tw_84 : (Jvm.Cond.fieldLinkNest "HousePlans" (109 : Nat) "HousePlans$Floor" "doorsOutOf" "[I" "HousePlans") ∈ am_bw := am_inB (List.mem_append_right _ (List.mem_of_getElem? (i := 84) (by decide +kernel))) rfl
theorem tw_85 : (Jvm.Cond.fieldLink "HousePlans$Floor" (25 : Nat) "HousePlans$Floor" "doorsFrom" "[I") ∈ am_TG := am_inTG (List.mem_append_right _ (List.mem_of_getElem? (i := 85) (by decide +kernel))) rfl
theorem tw_95 : (Jvm.Cond.fieldLink "HousePlans" (10 : Nat) "HousePlans" "drawingList" "Ljava/util/ArrayList;") ∈ am_TG := am_inTG (List.mem_append_right _ (List.mem_of_getElem? (i := 95) (by decide +kernel))) rfl
theorem tw_96 : (Jvm.Cond.fieldLink "HousePlans" (16 : Nat) "HousePlans" "permitList" "Ljava/util/ArrayList;") ∈ am_TG := am_inTG (List.mem_append_right _ (List.mem_of_getElem? (i := 96) (by decide +kernel))) rfl
theorem tw_97 : (Jvm.Cond.fieldLink "HousePlans" (19 : Nat) "HousePlans" "printList" "Ljava/util/ArrayList;") ∈ am_TG := am_inTG (List.mem_append_right _ (List.mem_of_getElem? (i := 97) (by decide +kernel))) rfl
theorem tw_98 : (Jvm.Cond.fieldLink "HousePlans" (25 : Nat) "HousePlans" "floor" "LHousePlans$Floor;") ∈ am_TG := am_inTG (List.mem_append_right _ (List.mem_of_getElem? (i := 98) (by decide +kernel))) rfl
theorem tw_108 : (Jvm.Cond.methodLink "HousePlansLaw" (108 : Nat) ({ cls := "HousePlans", name := "drawings", desc := "()I" } : Jvm.MethodName)) ∈ am_TG := am_inTG (List.mem_append_right _ (List.mem_of_getElem? (i := 108) (by decide +kernel))) rfl
theorem tw_109 : (Jvm.Cond.instanceMethod ({ cls := "HousePlans", name := "drawings", desc := "()I" } : Jvm.MethodName)) ∈ am_TG := am_inTG (List.mem_append_right _ (List.mem_of_getElem? (i := 109) (by decide +kernel))) rfl
theorem tw_110 : (Jvm.Cond.selects "HousePlans" ({ cls := "HousePlans", name := "drawings", desc := "()I" } : Jvm.MethodName) ({ cls := "HousePlans", name := "drawings", desc := "()I" } : Jvm.MethodName)) ∈ am_TG := am_inTG (List.mem_append_right _ (List.mem_of_getElem? (i := 110) (by decide +kernel))) rfl
theorem tw_111 : (Jvm.Cond.code ({ cls := "HousePlans", name := "drawings", desc := "()I" } : Jvm.MethodName) prog_1_method_6_code (1 : Nat) (Option.some Jvm.ClassFile.FieldType.int)) ∈ am_TG := am_inTG (List.mem_append_right _ (List.mem_of_getElem? (i := 111) (by decide +kernel))) rfl
theorem tw_112 : (Jvm.Cond.methodLink "HousePlans" (29 : Nat) ({ cls := "java/util/ArrayList", name := "size", desc := "()I" } : Jvm.MethodName)) ∈ am_TG := am_inTG (List.mem_append_right _ (List.mem_of_getElem? (i := 112) (by decide +kernel))) rfl
theorem tw_113 : (Jvm.Cond.instanceMethod ({ cls := "java/util/ArrayList", name := "size", desc := "()I" } : Jvm.MethodName)) ∈ am_TG := am_inTG (List.mem_append_right _ (List.mem_of_getElem? (i := 113) (by decide +kernel))) rfl
theorem tw_114 : (Jvm.Cond.selects "java/util/ArrayList" ({ cls := "java/util/ArrayList", name := "size", desc := "()I" } : Jvm.MethodName) ({ cls := "java/util/ArrayList", name := "size", desc := "()I" } : Jvm.MethodName)) ∈ am_TG := am_inTG (List.mem_append_right _ (List.mem_of_getElem? (i := 114) (by decide +kernel))) rfl
theorem tw_115 : (Jvm.Cond.code ({ cls := "java/util/ArrayList", name := "size", desc := "()I" } : Jvm.MethodName) prog_23_method_8_code (1 : Nat) (Option.some Jvm.ClassFile.FieldType.int)) ∈ am_TG := am_inTG (List.mem_append_right _ (List.mem_of_getElem? (i := 115) (by decide +kernel))) rfl
theorem tw_116 : (Jvm.Cond.methodLink "HousePlansLaw" (164 : Nat) ({ cls := "HousePlans", name := "old", desc := "()I" } : Jvm.MethodName)) ∈ am_TG := am_inTG (List.mem_append_right _ (List.mem_of_getElem? (i := 116) (by decide +kernel))) rfl
theorem tw_117 : (Jvm.Cond.instanceMethod ({ cls := "HousePlans", name := "old", desc := "()I" } : Jvm.MethodName)) ∈ am_TG := am_inTG (List.mem_append_right _ (List.mem_of_getElem? (i := 117) (by decide +kernel))) rfl
theorem tw_118 : (Jvm.Cond.selects "HousePlans" ({ cls := "HousePlans", name := "old", desc := "()I" } : Jvm.MethodName) ({ cls := "HousePlans", name := "old", desc := "()I" } : Jvm.MethodName)) ∈ am_TG := am_inTG (List.mem_append_right _ (List.mem_of_getElem? (i := 118) (by decide +kernel))) rfl
theorem tw_119 : (Jvm.Cond.code ({ cls := "HousePlans", name := "old", desc := "()I" } : Jvm.MethodName) prog_1_method_23_code (3 : Nat) (Option.some Jvm.ClassFile.FieldType.int)) ∈ am_TG := am_inTG (List.mem_append_right _ (List.mem_of_getElem? (i := 119) (by decide +kernel))) rfl
theorem tw_120 : (Jvm.Cond.methodLink "HousePlans" (151 : Nat) ({ cls := "java/util/ArrayList", name := "get", desc := "(I)Ljava/lang/Object;" } : Jvm.MethodName)) ∈ am_TG := am_inTG (List.mem_append_right _ (List.mem_of_getElem? (i := 120) (by decide +kernel))) rfl
theorem tw_121 : (Jvm.Cond.instanceMethod ({ cls := "java/util/ArrayList", name := "get", desc := "(I)Ljava/lang/Object;" } : Jvm.MethodName)) ∈ am_TG := am_inTG (List.mem_append_right _ (List.mem_of_getElem? (i := 121) (by decide +kernel))) rfl
theorem tw_122 : (Jvm.Cond.selects "java/util/ArrayList" ({ cls := "java/util/ArrayList", name := "get", desc := "(I)Ljava/lang/Object;" } : Jvm.MethodName) ({ cls := "java/util/ArrayList", name := "get", desc := "(I)Ljava/lang/Object;" } : Jvm.MethodName)) ∈ am_TG := am_inTG (List.mem_append_right _ (List.mem_of_getElem? (i := 122) (by decide +kernel))) rfl
theorem tw_123 : (Jvm.Cond.code ({ cls := "java/util/ArrayList", name := "get", desc := "(I)Ljava/lang/Object;" } : Jvm.MethodName) prog_23_method_20_code (2 : Nat) (Option.some (Jvm.ClassFile.FieldType.object "java/lang/Object"))) ∈ am_TG := am_inTG (List.mem_append_right _ (List.mem_of_getElem? (i := 123) (by decide +kernel))) rfl
theorem tw_124 : (Jvm.Cond.methodLink "java/util/ArrayList" (118 : Nat) ({ cls := "java/util/Objects", name := "checkIndex", desc := "(II)I" } : Jvm.MethodName)) ∈ am_TG := am_inTG (List.mem_append_right _ (List.mem_of_getElem? (i := 124) (by decide +kernel))) rfl
theorem tw_125 : (Jvm.Cond.static ({ cls := "java/util/Objects", name := "checkIndex", desc := "(II)I" } : Jvm.MethodName)) ∈ am_TG := am_inTG (List.mem_append_right _ (List.mem_of_getElem? (i := 125) (by decide +kernel))) rfl
theorem tw_126 : (Jvm.Cond.code ({ cls := "java/util/Objects", name := "checkIndex", desc := "(II)I" } : Jvm.MethodName) prog_27_method_17_code (2 : Nat) (Option.some Jvm.ClassFile.FieldType.int)) ∈ am_TG := am_inTG (List.mem_append_right _ (List.mem_of_getElem? (i := 126) (by decide +kernel))) rfl
theorem tw_127 : (Jvm.Cond.methodLink "java/util/Objects" (105 : Nat) ({ cls := "jdk/internal/util/Preconditions", name := "checkIndex", desc := "(IILjava/util/function/BiFunction;)I" } : Jvm.MethodName)) ∈ am_TG := am_inTG (List.mem_append_right _ (List.mem_of_getElem? (i := 127) (by decide +kernel))) rfl
theorem tw_128 : (Jvm.Cond.static ({ cls := "jdk/internal/util/Preconditions", name := "checkIndex", desc := "(IILjava/util/function/BiFunction;)I" } : Jvm.MethodName)) ∈ am_TG := am_inTG (List.mem_append_right _ (List.mem_of_getElem? (i := 128) (by decide +kernel))) rfl
theorem tw_129 : (Jvm.Cond.code ({ cls := "jdk/internal/util/Preconditions", name := "checkIndex", desc := "(IILjava/util/function/BiFunction;)I" } : Jvm.MethodName) prog_31_method_11_code (3 : Nat) (Option.some Jvm.ClassFile.FieldType.int)) ∈ am_TG := am_inTG (List.mem_append_right _ (List.mem_of_getElem? (i := 129) (by decide +kernel))) rfl
theorem tw_130 : (Jvm.Cond.methodLink "java/util/ArrayList" (123 : Nat) ({ cls := "java/util/ArrayList", name := "elementData", desc := "(I)Ljava/lang/Object;" } : Jvm.MethodName)) ∈ am_TG := am_inTG (List.mem_append_right _ (List.mem_of_getElem? (i := 130) (by decide +kernel))) rfl
theorem tw_131 : (Jvm.Cond.instanceMethod ({ cls := "java/util/ArrayList", name := "elementData", desc := "(I)Ljava/lang/Object;" } : Jvm.MethodName)) ∈ am_TG := am_inTG (List.mem_append_right _ (List.mem_of_getElem? (i := 131) (by decide +kernel))) rfl
theorem tw_132 : (Jvm.Cond.selects "java/util/ArrayList" ({ cls := "java/util/ArrayList", name := "elementData", desc := "(I)Ljava/lang/Object;" } : Jvm.MethodName) ({ cls := "java/util/ArrayList", name := "elementData", desc := "(I)Ljava/lang/Object;" } : Jvm.MethodName)) ∈ am_TG := am_inTG (List.mem_append_right _ (List.mem_of_getElem? (i := 132) (by decide +kernel))) rfl
theorem tw_133 : (Jvm.Cond.code ({ cls := "java/util/ArrayList", name := "elementData", desc := "(I)Ljava/lang/Object;" } : Jvm.MethodName) prog_23_method_18_code (2 : Nat) (Option.some (Jvm.ClassFile.FieldType.object "java/lang/Object"))) ∈ am_TG := am_inTG (List.mem_append_right _ (List.mem_of_getElem? (i := 133) (by decide +kernel))) rfl
theorem tw_134 : (Jvm.Cond.classLink "HousePlans" (160 : Nat) "HousePlans$Print") ∈ am_TG := am_inTG (List.mem_append_right _ (List.mem_of_getElem? (i := 134) (by decide +kernel))) rfl
theorem tw_135 : (Jvm.Cond.methodLinkNest "HousePlans" (175 : Nat) ({ cls := "HousePlans$Print", name := "isOld", desc := "()Z" } : Jvm.MethodName) "HousePlans") ∈ am_bw := am_inB (List.mem_append_right _ (List.mem_of_getElem? (i := 135) (by decide +kernel))) rfl
theorem tw_137 : (Jvm.Cond.instanceMethod ({ cls := "HousePlans$Print", name := "isOld", desc := "()Z" } : Jvm.MethodName)) ∈ am_TG := am_inTG (List.mem_append_right _ (List.mem_of_getElem? (i := 137) (by decide +kernel))) rfl
theorem tw_138 : (Jvm.Cond.instantiable "HousePlans$Print" (3 : Nat)) ∈ am_TG := am_inTG (List.mem_append_right _ (List.mem_of_getElem? (i := 138) (by decide +kernel))) rfl
theorem tw_139 : (Jvm.Cond.code ({ cls := "HousePlans$Print", name := "isOld", desc := "()Z" } : Jvm.MethodName) prog_5_method_2_code (1 : Nat) (Option.some Jvm.ClassFile.FieldType.boolean)) ∈ am_TG := am_inTG (List.mem_append_right _ (List.mem_of_getElem? (i := 139) (by decide +kernel))) rfl
theorem tw_140 : (Jvm.Cond.methodLinkNest "HousePlans$Print" (28 : Nat) ({ cls := "HousePlans$State", name := "isThatOf", desc := "(LHousePlans$Drawing;)Z" } : Jvm.MethodName) "HousePlans") ∈ am_bw := am_inB (List.mem_append_right _ (List.mem_of_getElem? (i := 140) (by decide +kernel))) rfl
theorem tw_142 : (Jvm.Cond.instanceMethod ({ cls := "HousePlans$State", name := "isThatOf", desc := "(LHousePlans$Drawing;)Z" } : Jvm.MethodName)) ∈ am_TG := am_inTG (List.mem_append_right _ (List.mem_of_getElem? (i := 142) (by decide +kernel))) rfl
theorem tw_143 : (Jvm.Cond.code ({ cls := "HousePlans$State", name := "isThatOf", desc := "(LHousePlans$Drawing;)Z" } : Jvm.MethodName) prog_6_method_3_code (3 : Nat) (Option.some Jvm.ClassFile.FieldType.boolean)) ∈ am_TG := am_inTG (List.mem_append_right _ (List.mem_of_getElem? (i := 143) (by decide +kernel))) rfl
theorem tw_144 : (Jvm.Cond.methodLinkNest "HousePlans$State" (19 : Nat) ({ cls := "HousePlans$Drawing", name := "sideNow", desc := "(I)I" } : Jvm.MethodName) "HousePlans") ∈ am_bw := am_inB (List.mem_append_right _ (List.mem_of_getElem? (i := 144) (by decide +kernel))) rfl
theorem tw_146 : (Jvm.Cond.instanceMethod ({ cls := "HousePlans$Drawing", name := "sideNow", desc := "(I)I" } : Jvm.MethodName)) ∈ am_TG := am_inTG (List.mem_append_right _ (List.mem_of_getElem? (i := 146) (by decide +kernel))) rfl
theorem tw_147 : (Jvm.Cond.instantiable "HousePlans$Drawing" (5 : Nat)) ∈ am_TG := am_inTG (List.mem_append_right _ (List.mem_of_getElem? (i := 147) (by decide +kernel))) rfl
theorem tw_148 : (Jvm.Cond.code ({ cls := "HousePlans$Drawing", name := "sideNow", desc := "(I)I" } : Jvm.MethodName) prog_2_method_3_code (2 : Nat) (Option.some Jvm.ClassFile.FieldType.int)) ∈ am_TG := am_inTG (List.mem_append_right _ (List.mem_of_getElem? (i := 148) (by decide +kernel))) rfl
theorem tw_149 : (Jvm.Cond.methodLink "HousePlans$Drawing" (36 : Nat) ({ cls := "HousePlans$Drawing", name := "sideIn", desc := "(LHousePlans$Drawing;II)I" } : Jvm.MethodName)) ∈ am_TG := am_inTG (List.mem_append_right _ (List.mem_of_getElem? (i := 149) (by decide +kernel))) rfl
theorem tw_150 : (Jvm.Cond.static ({ cls := "HousePlans$Drawing", name := "sideIn", desc := "(LHousePlans$Drawing;II)I" } : Jvm.MethodName)) ∈ am_TG := am_inTG (List.mem_append_right _ (List.mem_of_getElem? (i := 150) (by decide +kernel))) rfl
theorem tw_151 : (Jvm.Cond.code ({ cls := "HousePlans$Drawing", name := "sideIn", desc := "(LHousePlans$Drawing;II)I" } : Jvm.MethodName) prog_2_method_6_code (8 : Nat) (Option.some Jvm.ClassFile.FieldType.int)) ∈ am_TG := am_inTG (List.mem_append_right _ (List.mem_of_getElem? (i := 151) (by decide +kernel))) rfl
theorem tw_152 : (Jvm.Cond.methodLinkNest "HousePlans$State" (25 : Nat) ({ cls := "HousePlans$Drawing", name := "exitNow", desc := "(I)Z" } : Jvm.MethodName) "HousePlans") ∈ am_bw := am_inB (List.mem_append_right _ (List.mem_of_getElem? (i := 152) (by decide +kernel))) rfl
theorem tw_154 : (Jvm.Cond.instanceMethod ({ cls := "HousePlans$Drawing", name := "exitNow", desc := "(I)Z" } : Jvm.MethodName)) ∈ am_TG := am_inTG (List.mem_append_right _ (List.mem_of_getElem? (i := 154) (by decide +kernel))) rfl
theorem tw_155 : (Jvm.Cond.code ({ cls := "HousePlans$Drawing", name := "exitNow", desc := "(I)Z" } : Jvm.MethodName) prog_2_method_4_code (2 : Nat) (Option.some Jvm.ClassFile.FieldType.boolean)) ∈ am_TG := am_inTG (List.mem_append_right _ (List.mem_of_getElem? (i := 155) (by decide +kernel))) rfl
theorem tw_156 : (Jvm.Cond.methodLink "HousePlans$Drawing" (40 : Nat) ({ cls := "HousePlans$Drawing", name := "exitIn", desc := "(LHousePlans$Drawing;II)Z" } : Jvm.MethodName)) ∈ am_TG := am_inTG (List.mem_append_right _ (List.mem_of_getElem? (i := 156) (by decide +kernel))) rfl
theorem tw_157 : (Jvm.Cond.static ({ cls := "HousePlans$Drawing", name := "exitIn", desc := "(LHousePlans$Drawing;II)Z" } : Jvm.MethodName)) ∈ am_TG := am_inTG (List.mem_append_right _ (List.mem_of_getElem? (i := 157) (by decide +kernel))) rfl
theorem tw_158 : (Jvm.Cond.code ({ cls := "HousePlans$Drawing", name := "exitIn", desc := "(LHousePlans$Drawing;II)Z" } : Jvm.MethodName) prog_2_method_7_code (7 : Nat) (Option.some Jvm.ClassFile.FieldType.boolean)) ∈ am_TG := am_inTG (List.mem_append_right _ (List.mem_of_getElem? (i := 158) (by decide +kernel))) rfl
theorem tw_159 : (Jvm.Cond.methodLink "HousePlansLaw" (88 : Nat) ({ cls := "HousePlansLaw", name := "begin", desc := "(LHousePlans;[J)I" } : Jvm.MethodName)) ∈ am_TG := am_inTG (List.mem_append_right _ (List.mem_of_getElem? (i := 159) (by decide +kernel))) rfl
theorem tw_160 : (Jvm.Cond.static ({ cls := "HousePlansLaw", name := "begin", desc := "(LHousePlans;[J)I" } : Jvm.MethodName)) ∈ am_TG := am_inTG (List.mem_append_right _ (List.mem_of_getElem? (i := 160) (by decide +kernel))) rfl
theorem tw_161 : (Jvm.Cond.codeWith ({ cls := "HousePlansLaw", name := "begin", desc := "(LHousePlans;[J)I" } : Jvm.MethodName) method_3_code (3 : Nat) (Option.some Jvm.ClassFile.FieldType.int) [((0 : Nat), (8 : Nat), (11 : Nat), (13 : Nat))]) ∈ am_TG := am_inTG (List.mem_append_right _ (List.mem_of_getElem? (i := 161) (by decide +kernel))) rfl
theorem tw_162 : (Jvm.Cond.classLink "HousePlansLaw" (13 : Nat) "java/lang/IllegalStateException") ∈ am_TG := am_inTG (List.mem_append_right _ (List.mem_of_getElem? (i := 162) (by decide +kernel))) rfl
theorem tw_163 : (Jvm.Cond.methodLink "HousePlansLaw" (7 : Nat) ({ cls := "HousePlans", name := "begin", desc := "()I" } : Jvm.MethodName)) ∈ am_TG := am_inTG (List.mem_append_right _ (List.mem_of_getElem? (i := 163) (by decide +kernel))) rfl
theorem tw_164 : (Jvm.Cond.instanceMethod ({ cls := "HousePlans", name := "begin", desc := "()I" } : Jvm.MethodName)) ∈ am_TG := am_inTG (List.mem_append_right _ (List.mem_of_getElem? (i := 164) (by decide +kernel))) rfl
theorem tw_165 : (Jvm.Cond.selects "HousePlans" ({ cls := "HousePlans", name := "begin", desc := "()I" } : Jvm.MethodName) ({ cls := "HousePlans", name := "begin", desc := "()I" } : Jvm.MethodName)) ∈ am_TG := am_inTG (List.mem_append_right _ (List.mem_of_getElem? (i := 165) (by decide +kernel))) rfl
theorem tw_166 : (Jvm.Cond.code ({ cls := "HousePlans", name := "begin", desc := "()I" } : Jvm.MethodName) prog_1_method_2_code (2 : Nat) (Option.some Jvm.ClassFile.FieldType.int)) ∈ am_TG := am_inTG (List.mem_append_right _ (List.mem_of_getElem? (i := 166) (by decide +kernel))) rfl
theorem tw_167 : (Jvm.Cond.classLink "HousePlans" (33 : Nat) "java/lang/IllegalStateException") ∈ am_TG := am_inTG (List.mem_append_right _ (List.mem_of_getElem? (i := 167) (by decide +kernel))) rfl
theorem tw_168 : (Jvm.Cond.instantiable "java/lang/IllegalStateException" (6 : Nat)) ∈ am_TG := am_inTG (List.mem_append_right _ (List.mem_of_getElem? (i := 168) (by decide +kernel))) rfl
theorem tw_169 : (Jvm.Cond.castable "java/lang/IllegalStateException" "java/lang/IllegalStateException") ∈ am_bw := am_inB (List.mem_append_right _ (List.mem_of_getElem? (i := 169) (by decide +kernel))) rfl
theorem tw_170 : (Jvm.Cond.declares ({ cls := "java/lang/RuntimeException", name := "<init>", desc := "()V" } : Jvm.MethodName)) ∈ am_bw := am_inB (List.mem_append_right _ (List.mem_of_getElem? (i := 170) (by decide +kernel))) rfl
theorem tw_171 : (Jvm.Cond.declares ({ cls := "java/lang/RuntimeException", name := "<init>", desc := "(Ljava/lang/String;)V" } : Jvm.MethodName)) ∈ am_bw := am_inB (List.mem_append_right _ (List.mem_of_getElem? (i := 171) (by decide +kernel))) rfl
theorem tw_172 : (Jvm.Cond.declares ({ cls := "java/lang/Exception", name := "<init>", desc := "()V" } : Jvm.MethodName)) ∈ am_bw := am_inB (List.mem_append_right _ (List.mem_of_getElem? (i := 172) (by decide +kernel))) rfl
theorem tw_173 : (Jvm.Cond.declares ({ cls := "java/lang/Exception", name := "<init>", desc := "(Ljava/lang/String;)V" } : Jvm.MethodName)) ∈ am_bw := am_inB (List.mem_append_right _ (List.mem_of_getElem? (i := 173) (by decide +kernel))) rfl
theorem tw_174 : (Jvm.Cond.declares ({ cls := "java/lang/Throwable", name := "<init>", desc := "()V" } : Jvm.MethodName)) ∈ am_bw := am_inB (List.mem_append_right _ (List.mem_of_getElem? (i := 174) (by decide +kernel))) rfl
theorem tw_175 : (Jvm.Cond.declares ({ cls := "java/lang/Throwable", name := "<init>", desc := "(Ljava/lang/String;)V" } : Jvm.MethodName)) ∈ am_bw := am_inB (List.mem_append_right _ (List.mem_of_getElem? (i := 175) (by decide +kernel))) rfl
theorem tw_176 : (Jvm.Cond.selects "java/lang/IllegalStateException" ({ cls := "java/lang/Throwable", name := "fillInStackTrace", desc := "(I)Ljava/lang/Throwable;" } : Jvm.MethodName) ({ cls := "java/lang/Throwable", name := "fillInStackTrace", desc := "(I)Ljava/lang/Throwable;" } : Jvm.MethodName)) ∈ am_TG := am_inTG (List.mem_append_right _ (List.mem_of_getElem? (i := 176) (by decide +kernel))) rfl
theorem tw_177 : (Jvm.Cond.selects "java/lang/IllegalStateException" ({ cls := "java/lang/Throwable", name := "fillInStackTrace", desc := "()Ljava/lang/Throwable;" } : Jvm.MethodName) ({ cls := "java/lang/Throwable", name := "fillInStackTrace", desc := "()Ljava/lang/Throwable;" } : Jvm.MethodName)) ∈ am_TG := am_inTG (List.mem_append_right _ (List.mem_of_getElem? (i := 177) (by decide +kernel))) rfl
theorem tw_188 : (Jvm.Cond.fieldLink "java/lang/Throwable" (198 : Nat) "java/lang/Throwable" "backtrace" "Ljava/lang/Object;") ∈ am_TG := am_inTG (List.mem_append_right _ (List.mem_of_getElem? (i := 188) (by decide +kernel))) rfl
theorem tw_190 : (Jvm.Cond.instanceMethod ({ cls := "java/lang/Throwable", name := "<init>", desc := "()V" } : Jvm.MethodName)) ∈ am_TG := am_inTG (List.mem_append_right _ (List.mem_of_getElem? (i := 190) (by decide +kernel))) rfl
theorem tw_191 : (Jvm.Cond.code ({ cls := "java/lang/Throwable", name := "<init>", desc := "()V" } : Jvm.MethodName) prog_20_method_1_code (1 : Nat) (Option.none : Option Jvm.ClassFile.FieldType)) ∈ am_TG := am_inTG (List.mem_append_right _ (List.mem_of_getElem? (i := 191) (by decide +kernel))) rfl
theorem tw_192 : (Jvm.Cond.methodLink "java/lang/Throwable" (1 : Nat) ({ cls := "java/lang/Object", name := "<init>", desc := "()V" } : Jvm.MethodName)) ∈ am_TG := am_inTG (List.mem_append_right _ (List.mem_of_getElem? (i := 192) (by decide +kernel))) rfl
theorem tw_193 : (Jvm.Cond.fieldLink "java/lang/Throwable" (13 : Nat) "java/lang/Throwable" "UNASSIGNED_STACK" "[Ljava/lang/StackTraceElement;") ∈ am_TG := am_inTG (List.mem_append_right _ (List.mem_of_getElem? (i := 193) (by decide +kernel))) rfl
theorem tw_195 : (Jvm.Cond.fieldLink "java/lang/Throwable" (20 : Nat) "java/lang/Throwable" "SUPPRESSED_SENTINEL" "Ljava/util/List;") ∈ am_TG := am_inTG (List.mem_append_right _ (List.mem_of_getElem? (i := 195) (by decide +kernel))) rfl
theorem tw_197 : (Jvm.Cond.methodLink "java/lang/Throwable" (27 : Nat) ({ cls := "java/lang/Throwable", name := "fillInStackTrace", desc := "()Ljava/lang/Throwable;" } : Jvm.MethodName)) ∈ am_TG := am_inTG (List.mem_append_right _ (List.mem_of_getElem? (i := 197) (by decide +kernel))) rfl
theorem tw_198 : (Jvm.Cond.instanceMethod ({ cls := "java/lang/Throwable", name := "fillInStackTrace", desc := "()Ljava/lang/Throwable;" } : Jvm.MethodName)) ∈ am_TG := am_inTG (List.mem_append_right _ (List.mem_of_getElem? (i := 198) (by decide +kernel))) rfl
theorem tw_199 : (Jvm.Cond.sameMethod "java/lang/Throwable" "java/lang/Throwable" "fillInStackTrace" "()Ljava/lang/Throwable;") ∈ am_TG := am_inTG (List.mem_append_right _ (List.mem_of_getElem? (i := 199) (by decide +kernel))) rfl
theorem tw_200 : (Jvm.Cond.selects "java/lang/IllegalArgumentException" ({ cls := "java/lang/Throwable", name := "fillInStackTrace", desc := "()Ljava/lang/Throwable;" } : Jvm.MethodName) ({ cls := "java/lang/Throwable", name := "fillInStackTrace", desc := "()Ljava/lang/Throwable;" } : Jvm.MethodName)) ∈ am_TG := am_inTG (List.mem_append_right _ (List.mem_of_getElem? (i := 200) (by decide +kernel))) rfl
theorem tw_201 : (Jvm.Cond.selects "java/lang/IndexOutOfBoundsException" ({ cls := "java/lang/Throwable", name := "fillInStackTrace", desc := "()Ljava/lang/Throwable;" } : Jvm.MethodName) ({ cls := "java/lang/Throwable", name := "fillInStackTrace", desc := "()Ljava/lang/Throwable;" } : Jvm.MethodName)) ∈ am_TG := am_inTG (List.mem_append_right _ (List.mem_of_getElem? (i := 201) (by decide +kernel))) rfl
theorem tw_202 : (Jvm.Cond.codeSync ({ cls := "java/lang/Throwable", name := "fillInStackTrace", desc := "()Ljava/lang/Throwable;" } : Jvm.MethodName) prog_20_method_18_code (1 : Nat) (Option.some (Jvm.ClassFile.FieldType.object "java/lang/Throwable"))) ∈ am_TG := am_inTG (List.mem_append_right _ (List.mem_of_getElem? (i := 202) (by decide +kernel))) rfl
theorem tw_203 : (Jvm.Cond.methodLink "java/lang/Throwable" (202 : Nat) ({ cls := "java/lang/Throwable", name := "fillInStackTrace", desc := "(I)Ljava/lang/Throwable;" } : Jvm.MethodName)) ∈ am_TG := am_inTG (List.mem_append_right _ (List.mem_of_getElem? (i := 203) (by decide +kernel))) rfl
theorem tw_205 : (Jvm.Cond.instanceMethod ({ cls := "java/lang/Throwable", name := "fillInStackTrace", desc := "(I)Ljava/lang/Throwable;" } : Jvm.MethodName)) ∈ am_TG := am_inTG (List.mem_append_right _ (List.mem_of_getElem? (i := 205) (by decide +kernel))) rfl
theorem tw_206 : (Jvm.Cond.instantiable "java/lang/Throwable" (6 : Nat)) ∈ am_TG := am_inTG (List.mem_append_right _ (List.mem_of_getElem? (i := 206) (by decide +kernel))) rfl
theorem tw_207 : (Jvm.Cond.native ({ cls := "java/lang/Throwable", name := "fillInStackTrace", desc := "(I)Ljava/lang/Throwable;" } : Jvm.MethodName)) ∈ am_TG := am_inTG (List.mem_append_right _ (List.mem_of_getElem? (i := 207) (by decide +kernel))) rfl
theorem tw_208 : (Jvm.Cond.stringRef "HousePlans" (35 : Nat) "there are 6 drawings") ∈ lw_tbl := (List.mem_append_right _ (List.mem_of_getElem? (i := 208) (by decide +kernel)))
theorem tw_209 : (Jvm.Cond.methodLink "HousePlans" (37 : Nat) ({ cls := "java/lang/IllegalStateException", name := "<init>", desc := "(Ljava/lang/String;)V" } : Jvm.MethodName)) ∈ am_TG := am_inTG (List.mem_append_right _ (List.mem_of_getElem? (i := 209) (by decide +kernel))) rfl
theorem tw_210 : (Jvm.Cond.instanceMethod ({ cls := "java/lang/IllegalStateException", name := "<init>", desc := "(Ljava/lang/String;)V" } : Jvm.MethodName)) ∈ am_TG := am_inTG (List.mem_append_right _ (List.mem_of_getElem? (i := 210) (by decide +kernel))) rfl
theorem tw_211 : (Jvm.Cond.code ({ cls := "java/lang/IllegalStateException", name := "<init>", desc := "(Ljava/lang/String;)V" } : Jvm.MethodName) prog_13_method_2_code (2 : Nat) (Option.none : Option Jvm.ClassFile.FieldType)) ∈ am_TG := am_inTG (List.mem_append_right _ (List.mem_of_getElem? (i := 211) (by decide +kernel))) rfl
theorem tw_212 : (Jvm.Cond.methodLink "java/lang/IllegalStateException" (7 : Nat) ({ cls := "java/lang/RuntimeException", name := "<init>", desc := "(Ljava/lang/String;)V" } : Jvm.MethodName)) ∈ am_TG := am_inTG (List.mem_append_right _ (List.mem_of_getElem? (i := 212) (by decide +kernel))) rfl
theorem tw_213 : (Jvm.Cond.instanceMethod ({ cls := "java/lang/RuntimeException", name := "<init>", desc := "(Ljava/lang/String;)V" } : Jvm.MethodName)) ∈ am_TG := am_inTG (List.mem_append_right _ (List.mem_of_getElem? (i := 213) (by decide +kernel))) rfl
theorem tw_214 : (Jvm.Cond.code ({ cls := "java/lang/RuntimeException", name := "<init>", desc := "(Ljava/lang/String;)V" } : Jvm.MethodName) prog_17_method_2_code (2 : Nat) (Option.none : Option Jvm.ClassFile.FieldType)) ∈ am_TG := am_inTG (List.mem_append_right _ (List.mem_of_getElem? (i := 214) (by decide +kernel))) rfl
theorem tw_215 : (Jvm.Cond.methodLink "java/lang/RuntimeException" (7 : Nat) ({ cls := "java/lang/Exception", name := "<init>", desc := "(Ljava/lang/String;)V" } : Jvm.MethodName)) ∈ am_TG := am_inTG (List.mem_append_right _ (List.mem_of_getElem? (i := 215) (by decide +kernel))) rfl
theorem tw_216 : (Jvm.Cond.instanceMethod ({ cls := "java/lang/Exception", name := "<init>", desc := "(Ljava/lang/String;)V" } : Jvm.MethodName)) ∈ am_TG := am_inTG (List.mem_append_right _ (List.mem_of_getElem? (i := 216) (by decide +kernel))) rfl
theorem tw_217 : (Jvm.Cond.code ({ cls := "java/lang/Exception", name := "<init>", desc := "(Ljava/lang/String;)V" } : Jvm.MethodName) prog_11_method_2_code (2 : Nat) (Option.none : Option Jvm.ClassFile.FieldType)) ∈ am_TG := am_inTG (List.mem_append_right _ (List.mem_of_getElem? (i := 217) (by decide +kernel))) rfl
theorem tw_218 : (Jvm.Cond.methodLink "java/lang/Exception" (7 : Nat) ({ cls := "java/lang/Throwable", name := "<init>", desc := "(Ljava/lang/String;)V" } : Jvm.MethodName)) ∈ am_TG := am_inTG (List.mem_append_right _ (List.mem_of_getElem? (i := 218) (by decide +kernel))) rfl
theorem tw_219 : (Jvm.Cond.instanceMethod ({ cls := "java/lang/Throwable", name := "<init>", desc := "(Ljava/lang/String;)V" } : Jvm.MethodName)) ∈ am_TG := am_inTG (List.mem_append_right _ (List.mem_of_getElem? (i := 219) (by decide +kernel))) rfl
theorem tw_220 : (Jvm.Cond.code ({ cls := "java/lang/Throwable", name := "<init>", desc := "(Ljava/lang/String;)V" } : Jvm.MethodName) prog_20_method_2_code (2 : Nat) (Option.none : Option Jvm.ClassFile.FieldType)) ∈ am_TG := am_inTG (List.mem_append_right _ (List.mem_of_getElem? (i := 220) (by decide +kernel))) rfl
theorem tw_221 : (Jvm.Cond.fieldLink "java/lang/Throwable" (198 : Nat) "java/lang/Throwable" "backtrace" "Ljava/lang/Object;") ∈ am_TG := am_inTG (List.mem_append_right _ (List.mem_of_getElem? (i := 221) (by decide +kernel))) rfl
theorem tw_222 : (Jvm.Cond.fieldLink "java/lang/Throwable" (31 : Nat) "java/lang/Throwable" "detailMessage" "Ljava/lang/String;") ∈ am_TG := am_inTG (List.mem_append_right _ (List.mem_of_getElem? (i := 222) (by decide +kernel))) rfl
theorem tw_223 : (Jvm.Cond.fieldLink "java/lang/Throwable" (7 : Nat) "java/lang/Throwable" "cause" "Ljava/lang/Throwable;") ∈ am_TG := am_inTG (List.mem_append_right _ (List.mem_of_getElem? (i := 223) (by decide +kernel))) rfl
theorem tw_224 : (Jvm.Cond.fieldLink "java/lang/Throwable" (17 : Nat) "java/lang/Throwable" "stackTrace" "[Ljava/lang/StackTraceElement;") ∈ am_TG := am_inTG (List.mem_append_right _ (List.mem_of_getElem? (i := 224) (by decide +kernel))) rfl
theorem tw_225 : (Jvm.Cond.fieldLink "java/lang/Throwable" (24 : Nat) "java/lang/Throwable" "suppressedExceptions" "Ljava/util/List;") ∈ am_TG := am_inTG (List.mem_append_right _ (List.mem_of_getElem? (i := 225) (by decide +kernel))) rfl
theorem tw_234 : (Jvm.Cond.arrayClass Jvm.ClassFile.FieldType.byte) ∈ am_TG := am_inTG (List.mem_append_right _ (List.mem_of_getElem? (i := 234) (by decide +kernel))) rfl
theorem tw_235 : (Jvm.Cond.classLink "HousePlans" (40 : Nat) "HousePlans$Drawing") ∈ am_TG := am_inTG (List.mem_append_right _ (List.mem_of_getElem? (i := 235) (by decide +kernel))) rfl
theorem tw_236 : (Jvm.Cond.methodLinkNest "HousePlans" (42 : Nat) ({ cls := "HousePlans$Drawing", name := "<init>", desc := "()V" } : Jvm.MethodName) "HousePlans") ∈ am_bw := am_inB (List.mem_append_right _ (List.mem_of_getElem? (i := 236) (by decide +kernel))) rfl
theorem tw_237 : (Jvm.Cond.instanceMethod ({ cls := "HousePlans$Drawing", name := "<init>", desc := "()V" } : Jvm.MethodName)) ∈ am_TG := am_inTG (List.mem_append_right _ (List.mem_of_getElem? (i := 237) (by decide +kernel))) rfl
theorem tw_238 : (Jvm.Cond.code ({ cls := "HousePlans$Drawing", name := "<init>", desc := "()V" } : Jvm.MethodName) prog_2_method_1_code (1 : Nat) (Option.none : Option Jvm.ClassFile.FieldType)) ∈ am_TG := am_inTG (List.mem_append_right _ (List.mem_of_getElem? (i := 238) (by decide +kernel))) rfl
theorem tw_239 : (Jvm.Cond.methodLink "HousePlans$Drawing" (3 : Nat) ({ cls := "java/lang/Object", name := "<init>", desc := "()V" } : Jvm.MethodName)) ∈ am_TG := am_inTG (List.mem_append_right _ (List.mem_of_getElem? (i := 239) (by decide +kernel))) rfl
theorem tw_240 : (Jvm.Cond.classLink "HousePlans$Drawing" (10 : Nat) "HousePlans$Drawing") ∈ am_TG := am_inTG (List.mem_append_right _ (List.mem_of_getElem? (i := 240) (by decide +kernel))) rfl
theorem tw_241 : (Jvm.Cond.arrayOver (Jvm.ClassFile.FieldType.object "HousePlans$Drawing")) ∈ am_bw := am_inB (List.mem_append_right _ (List.mem_of_getElem? (i := 241) (by decide +kernel))) rfl
theorem tw_242 : (Jvm.Cond.methodLink "HousePlans$Drawing" (30 : Nat) ({ cls := "java/util/Arrays", name := "fill", desc := "([II)V" } : Jvm.MethodName)) ∈ am_TG := am_inTG (List.mem_append_right _ (List.mem_of_getElem? (i := 242) (by decide +kernel))) rfl
theorem tw_243 : (Jvm.Cond.static ({ cls := "java/util/Arrays", name := "fill", desc := "([II)V" } : Jvm.MethodName)) ∈ am_TG := am_inTG (List.mem_append_right _ (List.mem_of_getElem? (i := 243) (by decide +kernel))) rfl
theorem tw_244 : (Jvm.Cond.code ({ cls := "java/util/Arrays", name := "fill", desc := "([II)V" } : Jvm.MethodName) prog_24_method_103_code (4 : Nat) (Option.none : Option Jvm.ClassFile.FieldType)) ∈ am_TG := am_inTG (List.mem_append_right _ (List.mem_of_getElem? (i := 244) (by decide +kernel))) rfl
theorem tw_245 : (Jvm.Cond.fieldLink "HousePlans$Drawing" (9 : Nat) "HousePlans$Drawing" "told" "[I") ∈ am_TG := am_inTG (List.mem_append_right _ (List.mem_of_getElem? (i := 245) (by decide +kernel))) rfl
theorem tw_246 : (Jvm.Cond.fieldLinkNest "HousePlans" (67 : Nat) "HousePlans$Drawing" "told" "[I" "HousePlans") ∈ am_bw := am_inB (List.mem_append_right _ (List.mem_of_getElem? (i := 246) (by decide +kernel))) rfl
theorem tw_247 : (Jvm.Cond.fieldLink "HousePlans$Drawing" (15 : Nat) "HousePlans$Drawing" "toldExits" "[Z") ∈ am_TG := am_inTG (List.mem_append_right _ (List.mem_of_getElem? (i := 247) (by decide +kernel))) rfl
theorem tw_248 : (Jvm.Cond.fieldLinkNest "HousePlans" (74 : Nat) "HousePlans$Drawing" "toldExits" "[Z" "HousePlans") ∈ am_bw := am_inB (List.mem_append_right _ (List.mem_of_getElem? (i := 248) (by decide +kernel))) rfl
theorem tw_249 : (Jvm.Cond.fieldLink "HousePlans$Drawing" (19 : Nat) "HousePlans$Drawing" "others" "[LHousePlans$Drawing;") ∈ am_TG := am_inTG (List.mem_append_right _ (List.mem_of_getElem? (i := 249) (by decide +kernel))) rfl
theorem tw_250 : (Jvm.Cond.fieldLinkNest "HousePlans" (84 : Nat) "HousePlans$Drawing" "others" "[LHousePlans$Drawing;" "HousePlans") ∈ am_bw := am_inB (List.mem_append_right _ (List.mem_of_getElem? (i := 250) (by decide +kernel))) rfl
theorem tw_251 : (Jvm.Cond.fieldLink "HousePlans$Drawing" (23 : Nat) "HousePlans$Drawing" "locker" "I") ∈ am_TG := am_inTG (List.mem_append_right _ (List.mem_of_getElem? (i := 251) (by decide +kernel))) rfl
theorem tw_252 : (Jvm.Cond.fieldLinkNest "HousePlans" (115 : Nat) "HousePlans$Drawing" "locker" "I" "HousePlans") ∈ am_bw := am_inB (List.mem_append_right _ (List.mem_of_getElem? (i := 252) (by decide +kernel))) rfl
theorem tw_253 : (Jvm.Cond.fieldLink "HousePlans$Drawing" (27 : Nat) "HousePlans$Drawing" "borrower" "I") ∈ am_TG := am_inTG (List.mem_append_right _ (List.mem_of_getElem? (i := 253) (by decide +kernel))) rfl
theorem tw_254 : (Jvm.Cond.fieldLinkNest "HousePlans" (124 : Nat) "HousePlans$Drawing" "borrower" "I" "HousePlans") ∈ am_bw := am_inB (List.mem_append_right _ (List.mem_of_getElem? (i := 254) (by decide +kernel))) rfl
theorem tw_266 : (Jvm.Cond.methodLink "HousePlans" (43 : Nat) ({ cls := "java/util/ArrayList", name := "add", desc := "(Ljava/lang/Object;)Z" } : Jvm.MethodName)) ∈ am_TG := am_inTG (List.mem_append_right _ (List.mem_of_getElem? (i := 266) (by decide +kernel))) rfl
theorem tw_267 : (Jvm.Cond.instanceMethod ({ cls := "java/util/ArrayList", name := "add", desc := "(Ljava/lang/Object;)Z" } : Jvm.MethodName)) ∈ am_TG := am_inTG (List.mem_append_right _ (List.mem_of_getElem? (i := 267) (by decide +kernel))) rfl
theorem tw_268 : (Jvm.Cond.selects "java/util/ArrayList" ({ cls := "java/util/ArrayList", name := "add", desc := "(Ljava/lang/Object;)Z" } : Jvm.MethodName) ({ cls := "java/util/ArrayList", name := "add", desc := "(Ljava/lang/Object;)Z" } : Jvm.MethodName)) ∈ am_TG := am_inTG (List.mem_append_right _ (List.mem_of_getElem? (i := 268) (by decide +kernel))) rfl
theorem tw_269 : (Jvm.Cond.code ({ cls := "java/util/ArrayList", name := "add", desc := "(Ljava/lang/Object;)Z" } : Jvm.MethodName) prog_23_method_25_code (2 : Nat) (Option.some Jvm.ClassFile.FieldType.boolean)) ∈ am_TG := am_inTG (List.mem_append_right _ (List.mem_of_getElem? (i := 269) (by decide +kernel))) rfl
theorem tw_270 : (Jvm.Cond.methodLink "java/util/ArrayList" (131 : Nat) ({ cls := "java/util/ArrayList", name := "add", desc := "(Ljava/lang/Object;[Ljava/lang/Object;I)V" } : Jvm.MethodName)) ∈ am_TG := am_inTG (List.mem_append_right _ (List.mem_of_getElem? (i := 270) (by decide +kernel))) rfl
theorem tw_272 : (Jvm.Cond.instanceMethod ({ cls := "java/util/ArrayList", name := "add", desc := "(Ljava/lang/Object;[Ljava/lang/Object;I)V" } : Jvm.MethodName)) ∈ am_TG := am_inTG (List.mem_append_right _ (List.mem_of_getElem? (i := 272) (by decide +kernel))) rfl
theorem tw_273 : (Jvm.Cond.code ({ cls := "java/util/ArrayList", name := "add", desc := "(Ljava/lang/Object;[Ljava/lang/Object;I)V" } : Jvm.MethodName) prog_23_method_24_code (4 : Nat) (Option.none : Option Jvm.ClassFile.FieldType)) ∈ am_TG := am_inTG (List.mem_append_right _ (List.mem_of_getElem? (i := 273) (by decide +kernel))) rfl
theorem tw_274 : (Jvm.Cond.methodLink "java/util/ArrayList" (129 : Nat) ({ cls := "java/util/ArrayList", name := "grow", desc := "()[Ljava/lang/Object;" } : Jvm.MethodName)) ∈ am_TG := am_inTG (List.mem_append_right _ (List.mem_of_getElem? (i := 274) (by decide +kernel))) rfl
theorem tw_276 : (Jvm.Cond.instanceMethod ({ cls := "java/util/ArrayList", name := "grow", desc := "()[Ljava/lang/Object;" } : Jvm.MethodName)) ∈ am_TG := am_inTG (List.mem_append_right _ (List.mem_of_getElem? (i := 276) (by decide +kernel))) rfl
theorem tw_277 : (Jvm.Cond.code ({ cls := "java/util/ArrayList", name := "grow", desc := "()[Ljava/lang/Object;" } : Jvm.MethodName) prog_23_method_7_code (1 : Nat) (Option.some (Jvm.ClassFile.FieldType.array (Jvm.ClassFile.FieldType.object "java/lang/Object")))) ∈ am_TG := am_inTG (List.mem_append_right _ (List.mem_of_getElem? (i := 277) (by decide +kernel))) rfl
theorem tw_278 : (Jvm.Cond.methodLink "java/util/ArrayList" (69 : Nat) ({ cls := "java/util/ArrayList", name := "grow", desc := "(I)[Ljava/lang/Object;" } : Jvm.MethodName)) ∈ am_TG := am_inTG (List.mem_append_right _ (List.mem_of_getElem? (i := 278) (by decide +kernel))) rfl
theorem tw_280 : (Jvm.Cond.instanceMethod ({ cls := "java/util/ArrayList", name := "grow", desc := "(I)[Ljava/lang/Object;" } : Jvm.MethodName)) ∈ am_TG := am_inTG (List.mem_append_right _ (List.mem_of_getElem? (i := 280) (by decide +kernel))) rfl
theorem tw_281 : (Jvm.Cond.code ({ cls := "java/util/ArrayList", name := "grow", desc := "(I)[Ljava/lang/Object;" } : Jvm.MethodName) prog_23_method_6_code (4 : Nat) (Option.some (Jvm.ClassFile.FieldType.array (Jvm.ClassFile.FieldType.object "java/lang/Object")))) ∈ am_TG := am_inTG (List.mem_append_right _ (List.mem_of_getElem? (i := 281) (by decide +kernel))) rfl
theorem tw_282 : (Jvm.Cond.methodLink "java/util/ArrayList" (73 : Nat) ({ cls := "jdk/internal/util/ArraysSupport", name := "newLength", desc := "(III)I" } : Jvm.MethodName)) ∈ am_TG := am_inTG (List.mem_append_right _ (List.mem_of_getElem? (i := 282) (by decide +kernel))) rfl
theorem tw_283 : (Jvm.Cond.static ({ cls := "jdk/internal/util/ArraysSupport", name := "newLength", desc := "(III)I" } : Jvm.MethodName)) ∈ am_TG := am_inTG (List.mem_append_right _ (List.mem_of_getElem? (i := 283) (by decide +kernel))) rfl
theorem tw_284 : (Jvm.Cond.code ({ cls := "jdk/internal/util/ArraysSupport", name := "newLength", desc := "(III)I" } : Jvm.MethodName) prog_30_method_27_code (4 : Nat) (Option.some Jvm.ClassFile.FieldType.int)) ∈ am_TG := am_inTG (List.mem_append_right _ (List.mem_of_getElem? (i := 284) (by decide +kernel))) rfl
theorem tw_285 : (Jvm.Cond.methodLink "jdk/internal/util/ArraysSupport" (194 : Nat) ({ cls := "java/lang/Math", name := "max", desc := "(II)I" } : Jvm.MethodName)) ∈ am_TG := am_inTG (List.mem_append_right _ (List.mem_of_getElem? (i := 285) (by decide +kernel))) rfl
theorem tw_286 : (Jvm.Cond.static ({ cls := "java/lang/Math", name := "max", desc := "(II)I" } : Jvm.MethodName)) ∈ am_TG := am_inTG (List.mem_append_right _ (List.mem_of_getElem? (i := 286) (by decide +kernel))) rfl
theorem tw_287 : (Jvm.Cond.code ({ cls := "java/lang/Math", name := "max", desc := "(II)I" } : Jvm.MethodName) prog_16_method_65_code (2 : Nat) (Option.some Jvm.ClassFile.FieldType.int)) ∈ am_TG := am_inTG (List.mem_append_right _ (List.mem_of_getElem? (i := 287) (by decide +kernel))) rfl
theorem tw_288 : (Jvm.Cond.constant "jdk/internal/util/ArraysSupport" (200 : Nat) (2147483639 : Int32)) ∈ am_TG := am_inTG (List.mem_append_right _ (List.mem_of_getElem? (i := 288) (by decide +kernel))) rfl
theorem tw_289 : (Jvm.Cond.methodLink "jdk/internal/util/ArraysSupport" (201 : Nat) ({ cls := "jdk/internal/util/ArraysSupport", name := "hugeLength", desc := "(II)I" } : Jvm.MethodName)) ∈ am_TG := am_inTG (List.mem_append_right _ (List.mem_of_getElem? (i := 289) (by decide +kernel))) rfl
theorem tw_290 : (Jvm.Cond.static ({ cls := "jdk/internal/util/ArraysSupport", name := "hugeLength", desc := "(II)I" } : Jvm.MethodName)) ∈ am_TG := am_inTG (List.mem_append_right _ (List.mem_of_getElem? (i := 290) (by decide +kernel))) rfl
theorem tw_291 : (Jvm.Cond.code ({ cls := "jdk/internal/util/ArraysSupport", name := "hugeLength", desc := "(II)I" } : Jvm.MethodName) prog_30_method_28_code (3 : Nat) (Option.some Jvm.ClassFile.FieldType.int)) ∈ am_TG := am_inTG (List.mem_append_right _ (List.mem_of_getElem? (i := 291) (by decide +kernel))) rfl
theorem tw_292 : (Jvm.Cond.methodLink "java/util/ArrayList" (66 : Nat) ({ cls := "java/util/Arrays", name := "copyOf", desc := "([Ljava/lang/Object;I)[Ljava/lang/Object;" } : Jvm.MethodName)) ∈ am_TG := am_inTG (List.mem_append_right _ (List.mem_of_getElem? (i := 292) (by decide +kernel))) rfl
theorem tw_293 : (Jvm.Cond.static ({ cls := "java/util/Arrays", name := "copyOf", desc := "([Ljava/lang/Object;I)[Ljava/lang/Object;" } : Jvm.MethodName)) ∈ am_TG := am_inTG (List.mem_append_right _ (List.mem_of_getElem? (i := 293) (by decide +kernel))) rfl
theorem tw_294 : (Jvm.Cond.code ({ cls := "java/util/Arrays", name := "copyOf", desc := "([Ljava/lang/Object;I)[Ljava/lang/Object;" } : Jvm.MethodName) prog_24_method_119_code (2 : Nat) (Option.some (Jvm.ClassFile.FieldType.array (Jvm.ClassFile.FieldType.object "java/lang/Object")))) ∈ am_TG := am_inTG (List.mem_append_right _ (List.mem_of_getElem? (i := 294) (by decide +kernel))) rfl
theorem tw_295 : (Jvm.Cond.methodLink "java/util/Arrays" (86 : Nat) ({ cls := "java/lang/Object", name := "getClass", desc := "()Ljava/lang/Class;" } : Jvm.MethodName)) ∈ am_TG := am_inTG (List.mem_append_right _ (List.mem_of_getElem? (i := 295) (by decide +kernel))) rfl
theorem tw_296 : (Jvm.Cond.instanceMethod ({ cls := "java/lang/Object", name := "getClass", desc := "()Ljava/lang/Class;" } : Jvm.MethodName)) ∈ am_TG := am_inTG (List.mem_append_right _ (List.mem_of_getElem? (i := 296) (by decide +kernel))) rfl
theorem tw_297 : (Jvm.Cond.sameMethod "java/lang/Object" "java/lang/Object" "getClass" "()Ljava/lang/Class;") ∈ am_TG := am_inTG (List.mem_append_right _ (List.mem_of_getElem? (i := 297) (by decide +kernel))) rfl
theorem tw_298 : (Jvm.Cond.selects "HousePlans" ({ cls := "java/lang/Object", name := "getClass", desc := "()Ljava/lang/Class;" } : Jvm.MethodName) ({ cls := "java/lang/Object", name := "getClass", desc := "()Ljava/lang/Class;" } : Jvm.MethodName)) ∈ am_TG := am_inTG (List.mem_append_right _ (List.mem_of_getElem? (i := 298) (by decide +kernel))) rfl
theorem tw_299 : (Jvm.Cond.selects "HousePlans$Drawing" ({ cls := "java/lang/Object", name := "getClass", desc := "()Ljava/lang/Class;" } : Jvm.MethodName) ({ cls := "java/lang/Object", name := "getClass", desc := "()Ljava/lang/Class;" } : Jvm.MethodName)) ∈ am_TG := am_inTG (List.mem_append_right _ (List.mem_of_getElem? (i := 299) (by decide +kernel))) rfl
theorem tw_300 : (Jvm.Cond.selects "HousePlans$Floor" ({ cls := "java/lang/Object", name := "getClass", desc := "()Ljava/lang/Class;" } : Jvm.MethodName) ({ cls := "java/lang/Object", name := "getClass", desc := "()Ljava/lang/Class;" } : Jvm.MethodName)) ∈ am_TG := am_inTG (List.mem_append_right _ (List.mem_of_getElem? (i := 300) (by decide +kernel))) rfl
theorem tw_301 : (Jvm.Cond.selects "HousePlans$Permit" ({ cls := "java/lang/Object", name := "getClass", desc := "()Ljava/lang/Class;" } : Jvm.MethodName) ({ cls := "java/lang/Object", name := "getClass", desc := "()Ljava/lang/Class;" } : Jvm.MethodName)) ∈ am_TG := am_inTG (List.mem_append_right _ (List.mem_of_getElem? (i := 301) (by decide +kernel))) rfl
theorem tw_302 : (Jvm.Cond.selects "HousePlans$Print" ({ cls := "java/lang/Object", name := "getClass", desc := "()Ljava/lang/Class;" } : Jvm.MethodName) ({ cls := "java/lang/Object", name := "getClass", desc := "()Ljava/lang/Class;" } : Jvm.MethodName)) ∈ am_TG := am_inTG (List.mem_append_right _ (List.mem_of_getElem? (i := 302) (by decide +kernel))) rfl
theorem tw_303 : (Jvm.Cond.selects "HousePlans$State" ({ cls := "java/lang/Object", name := "getClass", desc := "()Ljava/lang/Class;" } : Jvm.MethodName) ({ cls := "java/lang/Object", name := "getClass", desc := "()Ljava/lang/Class;" } : Jvm.MethodName)) ∈ am_TG := am_inTG (List.mem_append_right _ (List.mem_of_getElem? (i := 303) (by decide +kernel))) rfl
theorem tw_304 : (Jvm.Cond.selects "HousePlansModel" ({ cls := "java/lang/Object", name := "getClass", desc := "()Ljava/lang/Class;" } : Jvm.MethodName) ({ cls := "java/lang/Object", name := "getClass", desc := "()Ljava/lang/Class;" } : Jvm.MethodName)) ∈ am_TG := am_inTG (List.mem_append_right _ (List.mem_of_getElem? (i := 304) (by decide +kernel))) rfl
theorem tw_305 : (Jvm.Cond.selects "java/lang/IllegalArgumentException" ({ cls := "java/lang/Object", name := "getClass", desc := "()Ljava/lang/Class;" } : Jvm.MethodName) ({ cls := "java/lang/Object", name := "getClass", desc := "()Ljava/lang/Class;" } : Jvm.MethodName)) ∈ am_TG := am_inTG (List.mem_append_right _ (List.mem_of_getElem? (i := 305) (by decide +kernel))) rfl
theorem tw_306 : (Jvm.Cond.selects "java/lang/IllegalStateException" ({ cls := "java/lang/Object", name := "getClass", desc := "()Ljava/lang/Class;" } : Jvm.MethodName) ({ cls := "java/lang/Object", name := "getClass", desc := "()Ljava/lang/Class;" } : Jvm.MethodName)) ∈ am_TG := am_inTG (List.mem_append_right _ (List.mem_of_getElem? (i := 306) (by decide +kernel))) rfl
theorem tw_307 : (Jvm.Cond.selects "java/lang/IndexOutOfBoundsException" ({ cls := "java/lang/Object", name := "getClass", desc := "()Ljava/lang/Class;" } : Jvm.MethodName) ({ cls := "java/lang/Object", name := "getClass", desc := "()Ljava/lang/Class;" } : Jvm.MethodName)) ∈ am_TG := am_inTG (List.mem_append_right _ (List.mem_of_getElem? (i := 307) (by decide +kernel))) rfl
theorem tw_308 : (Jvm.Cond.selects "java/util/ArrayList" ({ cls := "java/lang/Object", name := "getClass", desc := "()Ljava/lang/Class;" } : Jvm.MethodName) ({ cls := "java/lang/Object", name := "getClass", desc := "()Ljava/lang/Class;" } : Jvm.MethodName)) ∈ am_TG := am_inTG (List.mem_append_right _ (List.mem_of_getElem? (i := 308) (by decide +kernel))) rfl
theorem tw_309 : (Jvm.Cond.native ({ cls := "java/lang/Object", name := "getClass", desc := "()Ljava/lang/Class;" } : Jvm.MethodName)) ∈ am_TG := am_inTG (List.mem_append_right _ (List.mem_of_getElem? (i := 309) (by decide +kernel))) rfl
theorem tw_310 : (Jvm.Cond.methodLink "java/util/Arrays" (300 : Nat) ({ cls := "java/util/Arrays", name := "copyOf", desc := "([Ljava/lang/Object;ILjava/lang/Class;)[Ljava/lang/Object;" } : Jvm.MethodName)) ∈ am_TG := am_inTG (List.mem_append_right _ (List.mem_of_getElem? (i := 310) (by decide +kernel))) rfl
theorem tw_311 : (Jvm.Cond.static ({ cls := "java/util/Arrays", name := "copyOf", desc := "([Ljava/lang/Object;ILjava/lang/Class;)[Ljava/lang/Object;" } : Jvm.MethodName)) ∈ am_TG := am_inTG (List.mem_append_right _ (List.mem_of_getElem? (i := 311) (by decide +kernel))) rfl
theorem tw_312 : (Jvm.Cond.code ({ cls := "java/util/Arrays", name := "copyOf", desc := "([Ljava/lang/Object;ILjava/lang/Class;)[Ljava/lang/Object;" } : Jvm.MethodName) prog_24_method_120_code (4 : Nat) (Option.some (Jvm.ClassFile.FieldType.array (Jvm.ClassFile.FieldType.object "java/lang/Object")))) ∈ am_TG := am_inTG (List.mem_append_right _ (List.mem_of_getElem? (i := 312) (by decide +kernel))) rfl
theorem tw_313 : (Jvm.Cond.classLink "java/util/Arrays" (110 : Nat) "[Ljava/lang/Object;") ∈ am_TG := am_inTG (List.mem_append_right _ (List.mem_of_getElem? (i := 313) (by decide +kernel))) rfl
theorem tw_314 : (Jvm.Cond.arrayOver (Jvm.ClassFile.FieldType.object "java/lang/Object")) ∈ am_bw := am_inB (List.mem_append_right _ (List.mem_of_getElem? (i := 314) (by decide +kernel))) rfl
theorem tw_315 : (Jvm.Cond.classLink "java/util/Arrays" (2 : Nat) "java/lang/Object") ∈ am_TG := am_inTG (List.mem_append_right _ (List.mem_of_getElem? (i := 315) (by decide +kernel))) rfl
theorem tw_316 : (Jvm.Cond.methodLink "java/util/Arrays" (304 : Nat) ({ cls := "java/lang/Math", name := "min", desc := "(II)I" } : Jvm.MethodName)) ∈ am_TG := am_inTG (List.mem_append_right _ (List.mem_of_getElem? (i := 316) (by decide +kernel))) rfl
theorem tw_317 : (Jvm.Cond.static ({ cls := "java/lang/Math", name := "min", desc := "(II)I" } : Jvm.MethodName)) ∈ am_TG := am_inTG (List.mem_append_right _ (List.mem_of_getElem? (i := 317) (by decide +kernel))) rfl
theorem tw_318 : (Jvm.Cond.code ({ cls := "java/lang/Math", name := "min", desc := "(II)I" } : Jvm.MethodName) prog_16_method_69_code (2 : Nat) (Option.some Jvm.ClassFile.FieldType.int)) ∈ am_TG := am_inTG (List.mem_append_right _ (List.mem_of_getElem? (i := 318) (by decide +kernel))) rfl
theorem tw_319 : (Jvm.Cond.methodLink "java/util/Arrays" (150 : Nat) ({ cls := "java/lang/System", name := "arraycopy", desc := "(Ljava/lang/Object;ILjava/lang/Object;II)V" } : Jvm.MethodName)) ∈ am_TG := am_inTG (List.mem_append_right _ (List.mem_of_getElem? (i := 319) (by decide +kernel))) rfl
theorem tw_320 : (Jvm.Cond.static ({ cls := "java/lang/System", name := "arraycopy", desc := "(Ljava/lang/Object;ILjava/lang/Object;II)V" } : Jvm.MethodName)) ∈ am_TG := am_inTG (List.mem_append_right _ (List.mem_of_getElem? (i := 320) (by decide +kernel))) rfl
theorem tw_321 : (Jvm.Cond.native ({ cls := "java/lang/System", name := "arraycopy", desc := "(Ljava/lang/Object;ILjava/lang/Object;II)V" } : Jvm.MethodName)) ∈ am_TG := am_inTG (List.mem_append_right _ (List.mem_of_getElem? (i := 321) (by decide +kernel))) rfl
theorem tw_322 : (Jvm.Cond.methodLink "java/util/ArrayList" (79 : Nat) ({ cls := "java/lang/Math", name := "max", desc := "(II)I" } : Jvm.MethodName)) ∈ am_TG := am_inTG (List.mem_append_right _ (List.mem_of_getElem? (i := 322) (by decide +kernel))) rfl
theorem tw_323 : (Jvm.Cond.classLink "java/util/ArrayList" (7 : Nat) "java/lang/Object") ∈ am_TG := am_inTG (List.mem_append_right _ (List.mem_of_getElem? (i := 323) (by decide +kernel))) rfl
theorem tw_324 : (Jvm.Cond.methodLink "HousePlansLaw" (97 : Nat) ({ cls := "HousePlansLaw", name := "tell", desc := "(LHousePlans;IIII[J)I" } : Jvm.MethodName)) ∈ am_TG := am_inTG (List.mem_append_right _ (List.mem_of_getElem? (i := 324) (by decide +kernel))) rfl
theorem tw_325 : (Jvm.Cond.static ({ cls := "HousePlansLaw", name := "tell", desc := "(LHousePlans;IIII[J)I" } : Jvm.MethodName)) ∈ am_TG := am_inTG (List.mem_append_right _ (List.mem_of_getElem? (i := 325) (by decide +kernel))) rfl
theorem tw_326 : (Jvm.Cond.codeWith ({ cls := "HousePlansLaw", name := "tell", desc := "(LHousePlans;IIII[J)I" } : Jvm.MethodName) method_4_code (7 : Nat) (Option.some Jvm.ClassFile.FieldType.int) [((0 : Nat), (14 : Nat), (17 : Nat), (19 : Nat)), ((0 : Nat), (14 : Nat), (21 : Nat), (21 : Nat)), ((0 : Nat), (14 : Nat), (25 : Nat), (13 : Nat))]) ∈ am_TG := am_inTG (List.mem_append_right _ (List.mem_of_getElem? (i := 326) (by decide +kernel))) rfl
theorem tw_327 : (Jvm.Cond.classLink "HousePlansLaw" (19 : Nat) "java/lang/IndexOutOfBoundsException") ∈ am_TG := am_inTG (List.mem_append_right _ (List.mem_of_getElem? (i := 327) (by decide +kernel))) rfl
theorem tw_328 : (Jvm.Cond.classLink "HousePlansLaw" (21 : Nat) "java/lang/IllegalArgumentException") ∈ am_TG := am_inTG (List.mem_append_right _ (List.mem_of_getElem? (i := 328) (by decide +kernel))) rfl
theorem tw_329 : (Jvm.Cond.methodLink "HousePlansLaw" (15 : Nat) ({ cls := "HousePlans", name := "tell", desc := "(IIII)I" } : Jvm.MethodName)) ∈ am_TG := am_inTG (List.mem_append_right _ (List.mem_of_getElem? (i := 329) (by decide +kernel))) rfl
theorem tw_330 : (Jvm.Cond.instanceMethod ({ cls := "HousePlans", name := "tell", desc := "(IIII)I" } : Jvm.MethodName)) ∈ am_TG := am_inTG (List.mem_append_right _ (List.mem_of_getElem? (i := 330) (by decide +kernel))) rfl
theorem tw_331 : (Jvm.Cond.selects "HousePlans" ({ cls := "HousePlans", name := "tell", desc := "(IIII)I" } : Jvm.MethodName) ({ cls := "HousePlans", name := "tell", desc := "(IIII)I" } : Jvm.MethodName)) ∈ am_TG := am_inTG (List.mem_append_right _ (List.mem_of_getElem? (i := 331) (by decide +kernel))) rfl
theorem tw_332 : (Jvm.Cond.code ({ cls := "HousePlans", name := "tell", desc := "(IIII)I" } : Jvm.MethodName) prog_1_method_3_code (7 : Nat) (Option.some Jvm.ClassFile.FieldType.int)) ∈ am_TG := am_inTG (List.mem_append_right _ (List.mem_of_getElem? (i := 332) (by decide +kernel))) rfl
theorem tw_333 : (Jvm.Cond.methodLink "HousePlans" (47 : Nat) ({ cls := "HousePlans", name := "drawingAt", desc := "(I)LHousePlans$Drawing;" } : Jvm.MethodName)) ∈ am_TG := am_inTG (List.mem_append_right _ (List.mem_of_getElem? (i := 333) (by decide +kernel))) rfl
theorem tw_335 : (Jvm.Cond.instanceMethod ({ cls := "HousePlans", name := "drawingAt", desc := "(I)LHousePlans$Drawing;" } : Jvm.MethodName)) ∈ am_TG := am_inTG (List.mem_append_right _ (List.mem_of_getElem? (i := 335) (by decide +kernel))) rfl
theorem tw_336 : (Jvm.Cond.code ({ cls := "HousePlans", name := "drawingAt", desc := "(I)LHousePlans$Drawing;" } : Jvm.MethodName) prog_1_method_24_code (2 : Nat) (Option.some (Jvm.ClassFile.FieldType.object "HousePlans$Drawing"))) ∈ am_TG := am_inTG (List.mem_append_right _ (List.mem_of_getElem? (i := 336) (by decide +kernel))) rfl
theorem tw_337 : (Jvm.Cond.classLink "HousePlans" (146 : Nat) "java/lang/IndexOutOfBoundsException") ∈ am_TG := am_inTG (List.mem_append_right _ (List.mem_of_getElem? (i := 337) (by decide +kernel))) rfl
theorem tw_338 : (Jvm.Cond.instantiable "java/lang/IndexOutOfBoundsException" (6 : Nat)) ∈ am_TG := am_inTG (List.mem_append_right _ (List.mem_of_getElem? (i := 338) (by decide +kernel))) rfl
theorem tw_339 : (Jvm.Cond.castable "java/lang/IndexOutOfBoundsException" "java/lang/IndexOutOfBoundsException") ∈ am_bw := am_inB (List.mem_append_right _ (List.mem_of_getElem? (i := 339) (by decide +kernel))) rfl
theorem tw_340 : (Jvm.Cond.selects "java/lang/IndexOutOfBoundsException" ({ cls := "java/lang/Throwable", name := "fillInStackTrace", desc := "(I)Ljava/lang/Throwable;" } : Jvm.MethodName) ({ cls := "java/lang/Throwable", name := "fillInStackTrace", desc := "(I)Ljava/lang/Throwable;" } : Jvm.MethodName)) ∈ am_TG := am_inTG (List.mem_append_right _ (List.mem_of_getElem? (i := 340) (by decide +kernel))) rfl
theorem tw_346 : (Jvm.Cond.stringRef "HousePlans" (178 : Nat) "no such drawing") ∈ lw_tbl := (List.mem_append_right _ (List.mem_of_getElem? (i := 346) (by decide +kernel)))
theorem tw_347 : (Jvm.Cond.methodLink "HousePlans" (150 : Nat) ({ cls := "java/lang/IndexOutOfBoundsException", name := "<init>", desc := "(Ljava/lang/String;)V" } : Jvm.MethodName)) ∈ am_TG := am_inTG (List.mem_append_right _ (List.mem_of_getElem? (i := 347) (by decide +kernel))) rfl
theorem tw_348 : (Jvm.Cond.instanceMethod ({ cls := "java/lang/IndexOutOfBoundsException", name := "<init>", desc := "(Ljava/lang/String;)V" } : Jvm.MethodName)) ∈ am_TG := am_inTG (List.mem_append_right _ (List.mem_of_getElem? (i := 348) (by decide +kernel))) rfl
theorem tw_349 : (Jvm.Cond.code ({ cls := "java/lang/IndexOutOfBoundsException", name := "<init>", desc := "(Ljava/lang/String;)V" } : Jvm.MethodName) prog_14_method_2_code (2 : Nat) (Option.none : Option Jvm.ClassFile.FieldType)) ∈ am_TG := am_inTG (List.mem_append_right _ (List.mem_of_getElem? (i := 349) (by decide +kernel))) rfl
theorem tw_350 : (Jvm.Cond.methodLink "java/lang/IndexOutOfBoundsException" (7 : Nat) ({ cls := "java/lang/RuntimeException", name := "<init>", desc := "(Ljava/lang/String;)V" } : Jvm.MethodName)) ∈ am_TG := am_inTG (List.mem_append_right _ (List.mem_of_getElem? (i := 350) (by decide +kernel))) rfl
theorem tw_353 : (Jvm.Cond.methodLink "HousePlans" (51 : Nat) ({ cls := "HousePlans", name := "needPerson", desc := "(I)V" } : Jvm.MethodName)) ∈ am_TG := am_inTG (List.mem_append_right _ (List.mem_of_getElem? (i := 353) (by decide +kernel))) rfl
theorem tw_354 : (Jvm.Cond.static ({ cls := "HousePlans", name := "needPerson", desc := "(I)V" } : Jvm.MethodName)) ∈ am_TG := am_inTG (List.mem_append_right _ (List.mem_of_getElem? (i := 354) (by decide +kernel))) rfl
theorem tw_355 : (Jvm.Cond.code ({ cls := "HousePlans", name := "needPerson", desc := "(I)V" } : Jvm.MethodName) prog_1_method_27_code (1 : Nat) (Option.none : Option Jvm.ClassFile.FieldType)) ∈ am_TG := am_inTG (List.mem_append_right _ (List.mem_of_getElem? (i := 355) (by decide +kernel))) rfl
theorem tw_356 : (Jvm.Cond.classLink "HousePlans" (58 : Nat) "java/lang/IllegalArgumentException") ∈ am_TG := am_inTG (List.mem_append_right _ (List.mem_of_getElem? (i := 356) (by decide +kernel))) rfl
theorem tw_357 : (Jvm.Cond.instantiable "java/lang/IllegalArgumentException" (6 : Nat)) ∈ am_TG := am_inTG (List.mem_append_right _ (List.mem_of_getElem? (i := 357) (by decide +kernel))) rfl
theorem tw_358 : (Jvm.Cond.castable "java/lang/IllegalArgumentException" "java/lang/IllegalArgumentException") ∈ am_bw := am_inB (List.mem_append_right _ (List.mem_of_getElem? (i := 358) (by decide +kernel))) rfl
theorem tw_359 : (Jvm.Cond.selects "java/lang/IllegalArgumentException" ({ cls := "java/lang/Throwable", name := "fillInStackTrace", desc := "(I)Ljava/lang/Throwable;" } : Jvm.MethodName) ({ cls := "java/lang/Throwable", name := "fillInStackTrace", desc := "(I)Ljava/lang/Throwable;" } : Jvm.MethodName)) ∈ am_TG := am_inTG (List.mem_append_right _ (List.mem_of_getElem? (i := 359) (by decide +kernel))) rfl
theorem tw_365 : (Jvm.Cond.stringRef "HousePlans" (186 : Nat) "no such person") ∈ lw_tbl := (List.mem_append_right _ (List.mem_of_getElem? (i := 365) (by decide +kernel)))
theorem tw_366 : (Jvm.Cond.methodLink "HousePlans" (62 : Nat) ({ cls := "java/lang/IllegalArgumentException", name := "<init>", desc := "(Ljava/lang/String;)V" } : Jvm.MethodName)) ∈ am_TG := am_inTG (List.mem_append_right _ (List.mem_of_getElem? (i := 366) (by decide +kernel))) rfl
theorem tw_367 : (Jvm.Cond.instanceMethod ({ cls := "java/lang/IllegalArgumentException", name := "<init>", desc := "(Ljava/lang/String;)V" } : Jvm.MethodName)) ∈ am_TG := am_inTG (List.mem_append_right _ (List.mem_of_getElem? (i := 367) (by decide +kernel))) rfl
theorem tw_368 : (Jvm.Cond.code ({ cls := "java/lang/IllegalArgumentException", name := "<init>", desc := "(Ljava/lang/String;)V" } : Jvm.MethodName) prog_12_method_2_code (2 : Nat) (Option.none : Option Jvm.ClassFile.FieldType)) ∈ am_TG := am_inTG (List.mem_append_right _ (List.mem_of_getElem? (i := 368) (by decide +kernel))) rfl
theorem tw_369 : (Jvm.Cond.methodLink "java/lang/IllegalArgumentException" (7 : Nat) ({ cls := "java/lang/RuntimeException", name := "<init>", desc := "(Ljava/lang/String;)V" } : Jvm.MethodName)) ∈ am_TG := am_inTG (List.mem_append_right _ (List.mem_of_getElem? (i := 369) (by decide +kernel))) rfl
theorem tw_372 : (Jvm.Cond.methodLink "HousePlans" (55 : Nat) ({ cls := "HousePlans", name := "needSide", desc := "(I)V" } : Jvm.MethodName)) ∈ am_TG := am_inTG (List.mem_append_right _ (List.mem_of_getElem? (i := 372) (by decide +kernel))) rfl
theorem tw_373 : (Jvm.Cond.static ({ cls := "HousePlans", name := "needSide", desc := "(I)V" } : Jvm.MethodName)) ∈ am_TG := am_inTG (List.mem_append_right _ (List.mem_of_getElem? (i := 373) (by decide +kernel))) rfl
theorem tw_374 : (Jvm.Cond.code ({ cls := "HousePlans", name := "needSide", desc := "(I)V" } : Jvm.MethodName) prog_1_method_28_code (1 : Nat) (Option.none : Option Jvm.ClassFile.FieldType)) ∈ am_TG := am_inTG (List.mem_append_right _ (List.mem_of_getElem? (i := 374) (by decide +kernel))) rfl
theorem tw_375 : (Jvm.Cond.stringRef "HousePlans" (188 : Nat) "no such side") ∈ lw_tbl := (List.mem_append_right _ (List.mem_of_getElem? (i := 375) (by decide +kernel)))
theorem tw_376 : (Jvm.Cond.stringRef "HousePlans" (60 : Nat) "a side is not that") ∈ lw_tbl := (List.mem_append_right _ (List.mem_of_getElem? (i := 376) (by decide +kernel)))
theorem tw_377 : (Jvm.Cond.methodLink "HousePlans" (63 : Nat) ({ cls := "HousePlans", name := "needChanger", desc := "(LHousePlans$Drawing;I)V" } : Jvm.MethodName)) ∈ am_TG := am_inTG (List.mem_append_right _ (List.mem_of_getElem? (i := 377) (by decide +kernel))) rfl
theorem tw_378 : (Jvm.Cond.static ({ cls := "HousePlans", name := "needChanger", desc := "(LHousePlans$Drawing;I)V" } : Jvm.MethodName)) ∈ am_TG := am_inTG (List.mem_append_right _ (List.mem_of_getElem? (i := 378) (by decide +kernel))) rfl
theorem tw_379 : (Jvm.Cond.code ({ cls := "HousePlans", name := "needChanger", desc := "(LHousePlans$Drawing;I)V" } : Jvm.MethodName) prog_1_method_30_code (2 : Nat) (Option.none : Option Jvm.ClassFile.FieldType)) ∈ am_TG := am_inTG (List.mem_append_right _ (List.mem_of_getElem? (i := 379) (by decide +kernel))) rfl
theorem tw_380 : (Jvm.Cond.methodLinkNest "HousePlans" (131 : Nat) ({ cls := "HousePlans$Drawing", name := "changer", desc := "()I" } : Jvm.MethodName) "HousePlans") ∈ am_bw := am_inB (List.mem_append_right _ (List.mem_of_getElem? (i := 380) (by decide +kernel))) rfl
theorem tw_382 : (Jvm.Cond.instanceMethod ({ cls := "HousePlans$Drawing", name := "changer", desc := "()I" } : Jvm.MethodName)) ∈ am_TG := am_inTG (List.mem_append_right _ (List.mem_of_getElem? (i := 382) (by decide +kernel))) rfl
theorem tw_383 : (Jvm.Cond.code ({ cls := "HousePlans$Drawing", name := "changer", desc := "()I" } : Jvm.MethodName) prog_2_method_2_code (1 : Nat) (Option.some Jvm.ClassFile.FieldType.int)) ∈ am_TG := am_inTG (List.mem_append_right _ (List.mem_of_getElem? (i := 383) (by decide +kernel))) rfl
theorem tw_384 : (Jvm.Cond.stringRef "HousePlans" (192 : Nat) "the person cannot change the drawing") ∈ lw_tbl := (List.mem_append_right _ (List.mem_of_getElem? (i := 384) (by decide +kernel)))
theorem tw_385 : (Jvm.Cond.methodLink "HousePlansLaw" (101 : Nat) ({ cls := "HousePlansLaw", name := "setExit", desc := "(LHousePlans;IIIZ[J)I" } : Jvm.MethodName)) ∈ am_TG := am_inTG (List.mem_append_right _ (List.mem_of_getElem? (i := 385) (by decide +kernel))) rfl
theorem tw_386 : (Jvm.Cond.static ({ cls := "HousePlansLaw", name := "setExit", desc := "(LHousePlans;IIIZ[J)I" } : Jvm.MethodName)) ∈ am_TG := am_inTG (List.mem_append_right _ (List.mem_of_getElem? (i := 386) (by decide +kernel))) rfl
theorem tw_387 : (Jvm.Cond.codeWith ({ cls := "HousePlansLaw", name := "setExit", desc := "(LHousePlans;IIIZ[J)I" } : Jvm.MethodName) method_5_code (7 : Nat) (Option.some Jvm.ClassFile.FieldType.int) [((0 : Nat), (21 : Nat), (24 : Nat), (19 : Nat)), ((0 : Nat), (21 : Nat), (28 : Nat), (21 : Nat)), ((0 : Nat), (21 : Nat), (32 : Nat), (13 : Nat))]) ∈ am_TG := am_inTG (List.mem_append_right _ (List.mem_of_getElem? (i := 387) (by decide +kernel))) rfl
theorem tw_388 : (Jvm.Cond.methodLink "HousePlansLaw" (23 : Nat) ({ cls := "HousePlans", name := "setExit", desc := "(IIIZ)Z" } : Jvm.MethodName)) ∈ am_TG := am_inTG (List.mem_append_right _ (List.mem_of_getElem? (i := 388) (by decide +kernel))) rfl
theorem tw_389 : (Jvm.Cond.instanceMethod ({ cls := "HousePlans", name := "setExit", desc := "(IIIZ)Z" } : Jvm.MethodName)) ∈ am_TG := am_inTG (List.mem_append_right _ (List.mem_of_getElem? (i := 389) (by decide +kernel))) rfl
theorem tw_390 : (Jvm.Cond.selects "HousePlans" ({ cls := "HousePlans", name := "setExit", desc := "(IIIZ)Z" } : Jvm.MethodName) ({ cls := "HousePlans", name := "setExit", desc := "(IIIZ)Z" } : Jvm.MethodName)) ∈ am_TG := am_inTG (List.mem_append_right _ (List.mem_of_getElem? (i := 390) (by decide +kernel))) rfl
theorem tw_391 : (Jvm.Cond.code ({ cls := "HousePlans", name := "setExit", desc := "(IIIZ)Z" } : Jvm.MethodName) prog_1_method_4_code (7 : Nat) (Option.some Jvm.ClassFile.FieldType.boolean)) ∈ am_TG := am_inTG (List.mem_append_right _ (List.mem_of_getElem? (i := 391) (by decide +kernel))) rfl
theorem tw_392 : (Jvm.Cond.methodLink "HousePlans" (71 : Nat) ({ cls := "HousePlans", name := "needCell", desc := "(I)V" } : Jvm.MethodName)) ∈ am_TG := am_inTG (List.mem_append_right _ (List.mem_of_getElem? (i := 392) (by decide +kernel))) rfl
theorem tw_393 : (Jvm.Cond.static ({ cls := "HousePlans", name := "needCell", desc := "(I)V" } : Jvm.MethodName)) ∈ am_TG := am_inTG (List.mem_append_right _ (List.mem_of_getElem? (i := 393) (by decide +kernel))) rfl
theorem tw_394 : (Jvm.Cond.code ({ cls := "HousePlans", name := "needCell", desc := "(I)V" } : Jvm.MethodName) prog_1_method_29_code (1 : Nat) (Option.none : Option Jvm.ClassFile.FieldType)) ∈ am_TG := am_inTG (List.mem_append_right _ (List.mem_of_getElem? (i := 394) (by decide +kernel))) rfl
theorem tw_395 : (Jvm.Cond.stringRef "HousePlans" (190 : Nat) "no such cell") ∈ lw_tbl := (List.mem_append_right _ (List.mem_of_getElem? (i := 395) (by decide +kernel)))
theorem tw_396 : (Jvm.Cond.methodLink "HousePlansLaw" (105 : Nat) ({ cls := "HousePlansLaw", name := "refer", desc := "(LHousePlans;IIIZ[J)I" } : Jvm.MethodName)) ∈ am_TG := am_inTG (List.mem_append_right _ (List.mem_of_getElem? (i := 396) (by decide +kernel))) rfl
theorem tw_397 : (Jvm.Cond.static ({ cls := "HousePlansLaw", name := "refer", desc := "(LHousePlans;IIIZ[J)I" } : Jvm.MethodName)) ∈ am_TG := am_inTG (List.mem_append_right _ (List.mem_of_getElem? (i := 397) (by decide +kernel))) rfl
theorem tw_398 : (Jvm.Cond.codeWith ({ cls := "HousePlansLaw", name := "refer", desc := "(LHousePlans;IIIZ[J)I" } : Jvm.MethodName) method_6_code (7 : Nat) (Option.some Jvm.ClassFile.FieldType.int) [((0 : Nat), (21 : Nat), (24 : Nat), (19 : Nat)), ((0 : Nat), (21 : Nat), (28 : Nat), (21 : Nat)), ((0 : Nat), (21 : Nat), (32 : Nat), (13 : Nat))]) ∈ am_TG := am_inTG (List.mem_append_right _ (List.mem_of_getElem? (i := 398) (by decide +kernel))) rfl
theorem tw_399 : (Jvm.Cond.methodLink "HousePlansLaw" (27 : Nat) ({ cls := "HousePlans", name := "refer", desc := "(IIIZ)Z" } : Jvm.MethodName)) ∈ am_TG := am_inTG (List.mem_append_right _ (List.mem_of_getElem? (i := 399) (by decide +kernel))) rfl
theorem tw_400 : (Jvm.Cond.instanceMethod ({ cls := "HousePlans", name := "refer", desc := "(IIIZ)Z" } : Jvm.MethodName)) ∈ am_TG := am_inTG (List.mem_append_right _ (List.mem_of_getElem? (i := 400) (by decide +kernel))) rfl
theorem tw_401 : (Jvm.Cond.selects "HousePlans" ({ cls := "HousePlans", name := "refer", desc := "(IIIZ)Z" } : Jvm.MethodName) ({ cls := "HousePlans", name := "refer", desc := "(IIIZ)Z" } : Jvm.MethodName)) ∈ am_TG := am_inTG (List.mem_append_right _ (List.mem_of_getElem? (i := 401) (by decide +kernel))) rfl
theorem tw_402 : (Jvm.Cond.code ({ cls := "HousePlans", name := "refer", desc := "(IIIZ)Z" } : Jvm.MethodName) prog_1_method_5_code (8 : Nat) (Option.some Jvm.ClassFile.FieldType.boolean)) ∈ am_TG := am_inTG (List.mem_append_right _ (List.mem_of_getElem? (i := 402) (by decide +kernel))) rfl
theorem tw_403 : (Jvm.Cond.methodLinkNest "HousePlans" (78 : Nat) ({ cls := "HousePlans$Drawing", name := "leadsTo", desc := "(LHousePlans$Drawing;)Z" } : Jvm.MethodName) "HousePlans") ∈ am_bw := am_inB (List.mem_append_right _ (List.mem_of_getElem? (i := 403) (by decide +kernel))) rfl
theorem tw_405 : (Jvm.Cond.instanceMethod ({ cls := "HousePlans$Drawing", name := "leadsTo", desc := "(LHousePlans$Drawing;)Z" } : Jvm.MethodName)) ∈ am_TG := am_inTG (List.mem_append_right _ (List.mem_of_getElem? (i := 405) (by decide +kernel))) rfl
theorem tw_406 : (Jvm.Cond.code ({ cls := "HousePlans$Drawing", name := "leadsTo", desc := "(LHousePlans$Drawing;)Z" } : Jvm.MethodName) prog_2_method_5_code (2 : Nat) (Option.some Jvm.ClassFile.FieldType.boolean)) ∈ am_TG := am_inTG (List.mem_append_right _ (List.mem_of_getElem? (i := 406) (by decide +kernel))) rfl
theorem tw_407 : (Jvm.Cond.methodLink "HousePlans$Drawing" (44 : Nat) ({ cls := "HousePlans$Drawing", name := "leads", desc := "(LHousePlans$Drawing;LHousePlans$Drawing;I)Z" } : Jvm.MethodName)) ∈ am_TG := am_inTG (List.mem_append_right _ (List.mem_of_getElem? (i := 407) (by decide +kernel))) rfl
theorem tw_408 : (Jvm.Cond.static ({ cls := "HousePlans$Drawing", name := "leads", desc := "(LHousePlans$Drawing;LHousePlans$Drawing;I)Z" } : Jvm.MethodName)) ∈ am_TG := am_inTG (List.mem_append_right _ (List.mem_of_getElem? (i := 408) (by decide +kernel))) rfl
theorem tw_409 : (Jvm.Cond.code ({ cls := "HousePlans$Drawing", name := "leads", desc := "(LHousePlans$Drawing;LHousePlans$Drawing;I)Z" } : Jvm.MethodName) prog_2_method_8_code (7 : Nat) (Option.some Jvm.ClassFile.FieldType.boolean)) ∈ am_TG := am_inTG (List.mem_append_right _ (List.mem_of_getElem? (i := 409) (by decide +kernel))) rfl
theorem tw_410 : (Jvm.Cond.stringRef "HousePlans" (82 : Nat) "a drawing would refer to itself") ∈ lw_tbl := (List.mem_append_right _ (List.mem_of_getElem? (i := 410) (by decide +kernel)))
theorem tw_411 : (Jvm.Cond.methodLink "HousePlansLaw" (112 : Nat) ({ cls := "HousePlansLaw", name := "side", desc := "(LHousePlans;II[J)I" } : Jvm.MethodName)) ∈ am_TG := am_inTG (List.mem_append_right _ (List.mem_of_getElem? (i := 411) (by decide +kernel))) rfl
theorem tw_412 : (Jvm.Cond.static ({ cls := "HousePlansLaw", name := "side", desc := "(LHousePlans;II[J)I" } : Jvm.MethodName)) ∈ am_TG := am_inTG (List.mem_append_right _ (List.mem_of_getElem? (i := 412) (by decide +kernel))) rfl
theorem tw_413 : (Jvm.Cond.codeWith ({ cls := "HousePlansLaw", name := "side", desc := "(LHousePlans;II[J)I" } : Jvm.MethodName) method_7_code (5 : Nat) (Option.some Jvm.ClassFile.FieldType.int) [((0 : Nat), (10 : Nat), (13 : Nat), (19 : Nat)), ((0 : Nat), (10 : Nat), (17 : Nat), (21 : Nat))]) ∈ am_TG := am_inTG (List.mem_append_right _ (List.mem_of_getElem? (i := 413) (by decide +kernel))) rfl
theorem tw_414 : (Jvm.Cond.methodLink "HousePlansLaw" (30 : Nat) ({ cls := "HousePlans", name := "side", desc := "(II)I" } : Jvm.MethodName)) ∈ am_TG := am_inTG (List.mem_append_right _ (List.mem_of_getElem? (i := 414) (by decide +kernel))) rfl
theorem tw_415 : (Jvm.Cond.instanceMethod ({ cls := "HousePlans", name := "side", desc := "(II)I" } : Jvm.MethodName)) ∈ am_TG := am_inTG (List.mem_append_right _ (List.mem_of_getElem? (i := 415) (by decide +kernel))) rfl
theorem tw_416 : (Jvm.Cond.selects "HousePlans" ({ cls := "HousePlans", name := "side", desc := "(II)I" } : Jvm.MethodName) ({ cls := "HousePlans", name := "side", desc := "(II)I" } : Jvm.MethodName)) ∈ am_TG := am_inTG (List.mem_append_right _ (List.mem_of_getElem? (i := 416) (by decide +kernel))) rfl
theorem tw_417 : (Jvm.Cond.code ({ cls := "HousePlans", name := "side", desc := "(II)I" } : Jvm.MethodName) prog_1_method_7_code (4 : Nat) (Option.some Jvm.ClassFile.FieldType.int)) ∈ am_TG := am_inTG (List.mem_append_right _ (List.mem_of_getElem? (i := 417) (by decide +kernel))) rfl
theorem tw_418 : (Jvm.Cond.methodLinkNest "HousePlans" (88 : Nat) ({ cls := "HousePlans$Drawing", name := "sideNow", desc := "(I)I" } : Jvm.MethodName) "HousePlans") ∈ am_bw := am_inB (List.mem_append_right _ (List.mem_of_getElem? (i := 418) (by decide +kernel))) rfl
theorem tw_419 : (Jvm.Cond.methodLink "HousePlansLaw" (116 : Nat) ({ cls := "HousePlansLaw", name := "hasExit", desc := "(LHousePlans;II[J)I" } : Jvm.MethodName)) ∈ am_TG := am_inTG (List.mem_append_right _ (List.mem_of_getElem? (i := 419) (by decide +kernel))) rfl
theorem tw_420 : (Jvm.Cond.static ({ cls := "HousePlansLaw", name := "hasExit", desc := "(LHousePlans;II[J)I" } : Jvm.MethodName)) ∈ am_TG := am_inTG (List.mem_append_right _ (List.mem_of_getElem? (i := 420) (by decide +kernel))) rfl
theorem tw_421 : (Jvm.Cond.codeWith ({ cls := "HousePlansLaw", name := "hasExit", desc := "(LHousePlans;II[J)I" } : Jvm.MethodName) method_8_code (5 : Nat) (Option.some Jvm.ClassFile.FieldType.int) [((0 : Nat), (17 : Nat), (20 : Nat), (19 : Nat)), ((0 : Nat), (17 : Nat), (24 : Nat), (21 : Nat))]) ∈ am_TG := am_inTG (List.mem_append_right _ (List.mem_of_getElem? (i := 421) (by decide +kernel))) rfl
theorem tw_422 : (Jvm.Cond.methodLink "HousePlansLaw" (34 : Nat) ({ cls := "HousePlans", name := "hasExit", desc := "(II)Z" } : Jvm.MethodName)) ∈ am_TG := am_inTG (List.mem_append_right _ (List.mem_of_getElem? (i := 422) (by decide +kernel))) rfl
theorem tw_423 : (Jvm.Cond.instanceMethod ({ cls := "HousePlans", name := "hasExit", desc := "(II)Z" } : Jvm.MethodName)) ∈ am_TG := am_inTG (List.mem_append_right _ (List.mem_of_getElem? (i := 423) (by decide +kernel))) rfl
theorem tw_424 : (Jvm.Cond.selects "HousePlans" ({ cls := "HousePlans", name := "hasExit", desc := "(II)Z" } : Jvm.MethodName) ({ cls := "HousePlans", name := "hasExit", desc := "(II)Z" } : Jvm.MethodName)) ∈ am_TG := am_inTG (List.mem_append_right _ (List.mem_of_getElem? (i := 424) (by decide +kernel))) rfl
theorem tw_425 : (Jvm.Cond.code ({ cls := "HousePlans", name := "hasExit", desc := "(II)Z" } : Jvm.MethodName) prog_1_method_8_code (4 : Nat) (Option.some Jvm.ClassFile.FieldType.boolean)) ∈ am_TG := am_inTG (List.mem_append_right _ (List.mem_of_getElem? (i := 425) (by decide +kernel))) rfl
theorem tw_426 : (Jvm.Cond.methodLinkNest "HousePlans" (92 : Nat) ({ cls := "HousePlans$Drawing", name := "exitNow", desc := "(I)Z" } : Jvm.MethodName) "HousePlans") ∈ am_bw := am_inB (List.mem_append_right _ (List.mem_of_getElem? (i := 426) (by decide +kernel))) rfl
theorem tw_427 : (Jvm.Cond.methodLink "HousePlansLaw" (119 : Nat) ({ cls := "HousePlansLaw", name := "rooms", desc := "(LHousePlans;I[J)I" } : Jvm.MethodName)) ∈ am_TG := am_inTG (List.mem_append_right _ (List.mem_of_getElem? (i := 427) (by decide +kernel))) rfl
theorem tw_428 : (Jvm.Cond.static ({ cls := "HousePlansLaw", name := "rooms", desc := "(LHousePlans;I[J)I" } : Jvm.MethodName)) ∈ am_TG := am_inTG (List.mem_append_right _ (List.mem_of_getElem? (i := 428) (by decide +kernel))) rfl
theorem tw_429 : (Jvm.Cond.codeWith ({ cls := "HousePlansLaw", name := "rooms", desc := "(LHousePlans;I[J)I" } : Jvm.MethodName) method_9_code (4 : Nat) (Option.some Jvm.ClassFile.FieldType.int) [((0 : Nat), (9 : Nat), (12 : Nat), (19 : Nat))]) ∈ am_TG := am_inTG (List.mem_append_right _ (List.mem_of_getElem? (i := 429) (by decide +kernel))) rfl
theorem tw_430 : (Jvm.Cond.methodLink "HousePlansLaw" (38 : Nat) ({ cls := "HousePlans", name := "rooms", desc := "(I)I" } : Jvm.MethodName)) ∈ am_TG := am_inTG (List.mem_append_right _ (List.mem_of_getElem? (i := 430) (by decide +kernel))) rfl
theorem tw_431 : (Jvm.Cond.instanceMethod ({ cls := "HousePlans", name := "rooms", desc := "(I)I" } : Jvm.MethodName)) ∈ am_TG := am_inTG (List.mem_append_right _ (List.mem_of_getElem? (i := 431) (by decide +kernel))) rfl
theorem tw_432 : (Jvm.Cond.selects "HousePlans" ({ cls := "HousePlans", name := "rooms", desc := "(I)I" } : Jvm.MethodName) ({ cls := "HousePlans", name := "rooms", desc := "(I)I" } : Jvm.MethodName)) ∈ am_TG := am_inTG (List.mem_append_right _ (List.mem_of_getElem? (i := 432) (by decide +kernel))) rfl
theorem tw_433 : (Jvm.Cond.code ({ cls := "HousePlans", name := "rooms", desc := "(I)I" } : Jvm.MethodName) prog_1_method_9_code (2 : Nat) (Option.some Jvm.ClassFile.FieldType.int)) ∈ am_TG := am_inTG (List.mem_append_right _ (List.mem_of_getElem? (i := 433) (by decide +kernel))) rfl
theorem tw_434 : (Jvm.Cond.methodLinkNest "HousePlans" (96 : Nat) ({ cls := "HousePlans$Floor", name := "lookAt", desc := "(LHousePlans$Drawing;)V" } : Jvm.MethodName) "HousePlans") ∈ am_bw := am_inB (List.mem_append_right _ (List.mem_of_getElem? (i := 434) (by decide +kernel))) rfl
theorem tw_436 : (Jvm.Cond.instanceMethod ({ cls := "HousePlans$Floor", name := "lookAt", desc := "(LHousePlans$Drawing;)V" } : Jvm.MethodName)) ∈ am_TG := am_inTG (List.mem_append_right _ (List.mem_of_getElem? (i := 436) (by decide +kernel))) rfl
theorem tw_437 : (Jvm.Cond.code ({ cls := "HousePlans$Floor", name := "lookAt", desc := "(LHousePlans$Drawing;)V" } : Jvm.MethodName) prog_3_method_2_code (2 : Nat) (Option.none : Option Jvm.ClassFile.FieldType)) ∈ am_TG := am_inTG (List.mem_append_right _ (List.mem_of_getElem? (i := 437) (by decide +kernel))) rfl
theorem tw_438 : (Jvm.Cond.methodLinkNest "HousePlans$Floor" (28 : Nat) ({ cls := "HousePlans$State", name := "takeFrom", desc := "(LHousePlans$Drawing;)V" } : Jvm.MethodName) "HousePlans") ∈ am_bw := am_inB (List.mem_append_right _ (List.mem_of_getElem? (i := 438) (by decide +kernel))) rfl
theorem tw_440 : (Jvm.Cond.instanceMethod ({ cls := "HousePlans$State", name := "takeFrom", desc := "(LHousePlans$Drawing;)V" } : Jvm.MethodName)) ∈ am_TG := am_inTG (List.mem_append_right _ (List.mem_of_getElem? (i := 440) (by decide +kernel))) rfl
theorem tw_441 : (Jvm.Cond.code ({ cls := "HousePlans$State", name := "takeFrom", desc := "(LHousePlans$Drawing;)V" } : Jvm.MethodName) prog_6_method_2_code (3 : Nat) (Option.none : Option Jvm.ClassFile.FieldType)) ∈ am_TG := am_inTG (List.mem_append_right _ (List.mem_of_getElem? (i := 441) (by decide +kernel))) rfl
theorem tw_442 : (Jvm.Cond.methodLink "HousePlans$Floor" (32 : Nat) ({ cls := "HousePlans$Floor", name := "findRooms", desc := "()V" } : Jvm.MethodName)) ∈ am_TG := am_inTG (List.mem_append_right _ (List.mem_of_getElem? (i := 442) (by decide +kernel))) rfl
theorem tw_444 : (Jvm.Cond.instanceMethod ({ cls := "HousePlans$Floor", name := "findRooms", desc := "()V" } : Jvm.MethodName)) ∈ am_TG := am_inTG (List.mem_append_right _ (List.mem_of_getElem? (i := 444) (by decide +kernel))) rfl
theorem tw_445 : (Jvm.Cond.code ({ cls := "HousePlans$Floor", name := "findRooms", desc := "()V" } : Jvm.MethodName) prog_3_method_3_code (2 : Nat) (Option.none : Option Jvm.ClassFile.FieldType)) ∈ am_TG := am_inTG (List.mem_append_right _ (List.mem_of_getElem? (i := 445) (by decide +kernel))) rfl
theorem tw_446 : (Jvm.Cond.methodLinkNest "HousePlans$Floor" (41 : Nat) ({ cls := "HousePlans", name := "firstCell", desc := "(I)I" } : Jvm.MethodName) "HousePlans") ∈ am_bw := am_inB (List.mem_append_right _ (List.mem_of_getElem? (i := 446) (by decide +kernel))) rfl
theorem tw_447 : (Jvm.Cond.static ({ cls := "HousePlans", name := "firstCell", desc := "(I)I" } : Jvm.MethodName)) ∈ am_TG := am_inTG (List.mem_append_right _ (List.mem_of_getElem? (i := 447) (by decide +kernel))) rfl
theorem tw_448 : (Jvm.Cond.code ({ cls := "HousePlans", name := "firstCell", desc := "(I)I" } : Jvm.MethodName) prog_1_method_32_code (1 : Nat) (Option.some Jvm.ClassFile.FieldType.int)) ∈ am_TG := am_inTG (List.mem_append_right _ (List.mem_of_getElem? (i := 448) (by decide +kernel))) rfl
theorem tw_449 : (Jvm.Cond.methodLinkNest "HousePlans$Floor" (45 : Nat) ({ cls := "HousePlans", name := "secondCell", desc := "(I)I" } : Jvm.MethodName) "HousePlans") ∈ am_bw := am_inB (List.mem_append_right _ (List.mem_of_getElem? (i := 449) (by decide +kernel))) rfl
theorem tw_450 : (Jvm.Cond.static ({ cls := "HousePlans", name := "secondCell", desc := "(I)I" } : Jvm.MethodName)) ∈ am_TG := am_inTG (List.mem_append_right _ (List.mem_of_getElem? (i := 450) (by decide +kernel))) rfl
theorem tw_451 : (Jvm.Cond.code ({ cls := "HousePlans", name := "secondCell", desc := "(I)I" } : Jvm.MethodName) prog_1_method_33_code (1 : Nat) (Option.some Jvm.ClassFile.FieldType.int)) ∈ am_TG := am_inTG (List.mem_append_right _ (List.mem_of_getElem? (i := 451) (by decide +kernel))) rfl
theorem tw_452 : (Jvm.Cond.methodLink "HousePlans" (196 : Nat) ({ cls := "HousePlans", name := "firstCell", desc := "(I)I" } : Jvm.MethodName)) ∈ am_TG := am_inTG (List.mem_append_right _ (List.mem_of_getElem? (i := 452) (by decide +kernel))) rfl
theorem tw_453 : (Jvm.Cond.methodLink "HousePlans$Floor" (48 : Nat) ({ cls := "HousePlans$Floor", name := "join", desc := "(II)V" } : Jvm.MethodName)) ∈ am_TG := am_inTG (List.mem_append_right _ (List.mem_of_getElem? (i := 453) (by decide +kernel))) rfl
theorem tw_455 : (Jvm.Cond.instanceMethod ({ cls := "HousePlans$Floor", name := "join", desc := "(II)V" } : Jvm.MethodName)) ∈ am_TG := am_inTG (List.mem_append_right _ (List.mem_of_getElem? (i := 455) (by decide +kernel))) rfl
theorem tw_456 : (Jvm.Cond.code ({ cls := "HousePlans$Floor", name := "join", desc := "(II)V" } : Jvm.MethodName) prog_3_method_4_code (6 : Nat) (Option.none : Option Jvm.ClassFile.FieldType)) ∈ am_TG := am_inTG (List.mem_append_right _ (List.mem_of_getElem? (i := 456) (by decide +kernel))) rfl
theorem tw_457 : (Jvm.Cond.methodLink "HousePlans$Floor" (52 : Nat) ({ cls := "java/lang/Math", name := "min", desc := "(II)I" } : Jvm.MethodName)) ∈ am_TG := am_inTG (List.mem_append_right _ (List.mem_of_getElem? (i := 457) (by decide +kernel))) rfl
theorem tw_458 : (Jvm.Cond.methodLink "HousePlans$Floor" (58 : Nat) ({ cls := "java/lang/Math", name := "max", desc := "(II)I" } : Jvm.MethodName)) ∈ am_TG := am_inTG (List.mem_append_right _ (List.mem_of_getElem? (i := 458) (by decide +kernel))) rfl
theorem tw_459 : (Jvm.Cond.methodLink "HousePlans$Floor" (35 : Nat) ({ cls := "HousePlans$Floor", name := "findWaysOut", desc := "()V" } : Jvm.MethodName)) ∈ am_TG := am_inTG (List.mem_append_right _ (List.mem_of_getElem? (i := 459) (by decide +kernel))) rfl
theorem tw_461 : (Jvm.Cond.instanceMethod ({ cls := "HousePlans$Floor", name := "findWaysOut", desc := "()V" } : Jvm.MethodName)) ∈ am_TG := am_inTG (List.mem_append_right _ (List.mem_of_getElem? (i := 461) (by decide +kernel))) rfl
theorem tw_462 : (Jvm.Cond.code ({ cls := "HousePlans$Floor", name := "findWaysOut", desc := "()V" } : Jvm.MethodName) prog_3_method_5_code (2 : Nat) (Option.none : Option Jvm.ClassFile.FieldType)) ∈ am_TG := am_inTG (List.mem_append_right _ (List.mem_of_getElem? (i := 462) (by decide +kernel))) rfl
theorem tw_463 : (Jvm.Cond.methodLink "HousePlans$Floor" (61 : Nat) ({ cls := "java/util/Arrays", name := "fill", desc := "([II)V" } : Jvm.MethodName)) ∈ am_TG := am_inTG (List.mem_append_right _ (List.mem_of_getElem? (i := 463) (by decide +kernel))) rfl
theorem tw_464 : (Jvm.Cond.methodLink "HousePlans$Floor" (71 : Nat) ({ cls := "HousePlans$Floor", name := "goThroughDoors", desc := "([I)V" } : Jvm.MethodName)) ∈ am_TG := am_inTG (List.mem_append_right _ (List.mem_of_getElem? (i := 464) (by decide +kernel))) rfl
theorem tw_466 : (Jvm.Cond.instanceMethod ({ cls := "HousePlans$Floor", name := "goThroughDoors", desc := "([I)V" } : Jvm.MethodName)) ∈ am_TG := am_inTG (List.mem_append_right _ (List.mem_of_getElem? (i := 466) (by decide +kernel))) rfl
theorem tw_467 : (Jvm.Cond.code ({ cls := "HousePlans$Floor", name := "goThroughDoors", desc := "([I)V" } : Jvm.MethodName) prog_3_method_6_code (7 : Nat) (Option.none : Option Jvm.ClassFile.FieldType)) ∈ am_TG := am_inTG (List.mem_append_right _ (List.mem_of_getElem? (i := 467) (by decide +kernel))) rfl
theorem tw_468 : (Jvm.Cond.methodLink "HousePlans$Floor" (75 : Nat) ({ cls := "HousePlans$Floor", name := "goThrough", desc := "([IIII)Z" } : Jvm.MethodName)) ∈ am_TG := am_inTG (List.mem_append_right _ (List.mem_of_getElem? (i := 468) (by decide +kernel))) rfl
theorem tw_469 : (Jvm.Cond.static ({ cls := "HousePlans$Floor", name := "goThrough", desc := "([IIII)Z" } : Jvm.MethodName)) ∈ am_TG := am_inTG (List.mem_append_right _ (List.mem_of_getElem? (i := 469) (by decide +kernel))) rfl
theorem tw_470 : (Jvm.Cond.code ({ cls := "HousePlans$Floor", name := "goThrough", desc := "([IIII)Z" } : Jvm.MethodName) prog_3_method_7_code (4 : Nat) (Option.some Jvm.ClassFile.FieldType.boolean)) ∈ am_TG := am_inTG (List.mem_append_right _ (List.mem_of_getElem? (i := 470) (by decide +kernel))) rfl
theorem tw_471 : (Jvm.Cond.methodLinkNest "HousePlans" (100 : Nat) ({ cls := "HousePlans$Floor", name := "countRooms", desc := "()I" } : Jvm.MethodName) "HousePlans") ∈ am_bw := am_inB (List.mem_append_right _ (List.mem_of_getElem? (i := 471) (by decide +kernel))) rfl
theorem tw_473 : (Jvm.Cond.instanceMethod ({ cls := "HousePlans$Floor", name := "countRooms", desc := "()I" } : Jvm.MethodName)) ∈ am_TG := am_inTG (List.mem_append_right _ (List.mem_of_getElem? (i := 473) (by decide +kernel))) rfl
theorem tw_474 : (Jvm.Cond.code ({ cls := "HousePlans$Floor", name := "countRooms", desc := "()I" } : Jvm.MethodName) prog_3_method_8_code (3 : Nat) (Option.some Jvm.ClassFile.FieldType.int)) ∈ am_TG := am_inTG (List.mem_append_right _ (List.mem_of_getElem? (i := 474) (by decide +kernel))) rfl
theorem tw_475 : (Jvm.Cond.methodLink "HousePlansLaw" (123 : Nat) ({ cls := "HousePlansLaw", name := "room", desc := "(LHousePlans;II[J)I" } : Jvm.MethodName)) ∈ am_TG := am_inTG (List.mem_append_right _ (List.mem_of_getElem? (i := 475) (by decide +kernel))) rfl
theorem tw_476 : (Jvm.Cond.static ({ cls := "HousePlansLaw", name := "room", desc := "(LHousePlans;II[J)I" } : Jvm.MethodName)) ∈ am_TG := am_inTG (List.mem_append_right _ (List.mem_of_getElem? (i := 476) (by decide +kernel))) rfl
theorem tw_477 : (Jvm.Cond.codeWith ({ cls := "HousePlansLaw", name := "room", desc := "(LHousePlans;II[J)I" } : Jvm.MethodName) method_10_code (5 : Nat) (Option.some Jvm.ClassFile.FieldType.int) [((0 : Nat), (10 : Nat), (13 : Nat), (19 : Nat)), ((0 : Nat), (10 : Nat), (17 : Nat), (21 : Nat))]) ∈ am_TG := am_inTG (List.mem_append_right _ (List.mem_of_getElem? (i := 477) (by decide +kernel))) rfl
theorem tw_478 : (Jvm.Cond.methodLink "HousePlansLaw" (42 : Nat) ({ cls := "HousePlans", name := "room", desc := "(II)I" } : Jvm.MethodName)) ∈ am_TG := am_inTG (List.mem_append_right _ (List.mem_of_getElem? (i := 478) (by decide +kernel))) rfl
theorem tw_479 : (Jvm.Cond.instanceMethod ({ cls := "HousePlans", name := "room", desc := "(II)I" } : Jvm.MethodName)) ∈ am_TG := am_inTG (List.mem_append_right _ (List.mem_of_getElem? (i := 479) (by decide +kernel))) rfl
theorem tw_480 : (Jvm.Cond.selects "HousePlans" ({ cls := "HousePlans", name := "room", desc := "(II)I" } : Jvm.MethodName) ({ cls := "HousePlans", name := "room", desc := "(II)I" } : Jvm.MethodName)) ∈ am_TG := am_inTG (List.mem_append_right _ (List.mem_of_getElem? (i := 480) (by decide +kernel))) rfl
theorem tw_481 : (Jvm.Cond.code ({ cls := "HousePlans", name := "room", desc := "(II)I" } : Jvm.MethodName) prog_1_method_10_code (4 : Nat) (Option.some Jvm.ClassFile.FieldType.int)) ∈ am_TG := am_inTG (List.mem_append_right _ (List.mem_of_getElem? (i := 481) (by decide +kernel))) rfl
theorem tw_482 : (Jvm.Cond.methodLink "HousePlansLaw" (126 : Nat) ({ cls := "HousePlansLaw", name := "size", desc := "(LHousePlans;II[J)I" } : Jvm.MethodName)) ∈ am_TG := am_inTG (List.mem_append_right _ (List.mem_of_getElem? (i := 482) (by decide +kernel))) rfl
theorem tw_483 : (Jvm.Cond.static ({ cls := "HousePlansLaw", name := "size", desc := "(LHousePlans;II[J)I" } : Jvm.MethodName)) ∈ am_TG := am_inTG (List.mem_append_right _ (List.mem_of_getElem? (i := 483) (by decide +kernel))) rfl
theorem tw_484 : (Jvm.Cond.codeWith ({ cls := "HousePlansLaw", name := "size", desc := "(LHousePlans;II[J)I" } : Jvm.MethodName) method_11_code (5 : Nat) (Option.some Jvm.ClassFile.FieldType.int) [((0 : Nat), (10 : Nat), (13 : Nat), (19 : Nat)), ((0 : Nat), (10 : Nat), (17 : Nat), (21 : Nat))]) ∈ am_TG := am_inTG (List.mem_append_right _ (List.mem_of_getElem? (i := 484) (by decide +kernel))) rfl
theorem tw_485 : (Jvm.Cond.methodLink "HousePlansLaw" (45 : Nat) ({ cls := "HousePlans", name := "size", desc := "(II)I" } : Jvm.MethodName)) ∈ am_TG := am_inTG (List.mem_append_right _ (List.mem_of_getElem? (i := 485) (by decide +kernel))) rfl
theorem tw_486 : (Jvm.Cond.instanceMethod ({ cls := "HousePlans", name := "size", desc := "(II)I" } : Jvm.MethodName)) ∈ am_TG := am_inTG (List.mem_append_right _ (List.mem_of_getElem? (i := 486) (by decide +kernel))) rfl
theorem tw_487 : (Jvm.Cond.selects "HousePlans" ({ cls := "HousePlans", name := "size", desc := "(II)I" } : Jvm.MethodName) ({ cls := "HousePlans", name := "size", desc := "(II)I" } : Jvm.MethodName)) ∈ am_TG := am_inTG (List.mem_append_right _ (List.mem_of_getElem? (i := 487) (by decide +kernel))) rfl
theorem tw_488 : (Jvm.Cond.code ({ cls := "HousePlans", name := "size", desc := "(II)I" } : Jvm.MethodName) prog_1_method_11_code (4 : Nat) (Option.some Jvm.ClassFile.FieldType.int)) ∈ am_TG := am_inTG (List.mem_append_right _ (List.mem_of_getElem? (i := 488) (by decide +kernel))) rfl
theorem tw_489 : (Jvm.Cond.methodLinkNest "HousePlans" (106 : Nat) ({ cls := "HousePlans$Floor", name := "countCells", desc := "(I)I" } : Jvm.MethodName) "HousePlans") ∈ am_bw := am_inB (List.mem_append_right _ (List.mem_of_getElem? (i := 489) (by decide +kernel))) rfl
theorem tw_491 : (Jvm.Cond.instanceMethod ({ cls := "HousePlans$Floor", name := "countCells", desc := "(I)I" } : Jvm.MethodName)) ∈ am_TG := am_inTG (List.mem_append_right _ (List.mem_of_getElem? (i := 491) (by decide +kernel))) rfl
theorem tw_492 : (Jvm.Cond.code ({ cls := "HousePlans$Floor", name := "countCells", desc := "(I)I" } : Jvm.MethodName) prog_3_method_9_code (4 : Nat) (Option.some Jvm.ClassFile.FieldType.int)) ∈ am_TG := am_inTG (List.mem_append_right _ (List.mem_of_getElem? (i := 492) (by decide +kernel))) rfl
theorem tw_493 : (Jvm.Cond.methodLink "HousePlansLaw" (129 : Nat) ({ cls := "HousePlansLaw", name := "doorsOut", desc := "(LHousePlans;II[J)I" } : Jvm.MethodName)) ∈ am_TG := am_inTG (List.mem_append_right _ (List.mem_of_getElem? (i := 493) (by decide +kernel))) rfl
theorem tw_494 : (Jvm.Cond.static ({ cls := "HousePlansLaw", name := "doorsOut", desc := "(LHousePlans;II[J)I" } : Jvm.MethodName)) ∈ am_TG := am_inTG (List.mem_append_right _ (List.mem_of_getElem? (i := 494) (by decide +kernel))) rfl
theorem tw_495 : (Jvm.Cond.codeWith ({ cls := "HousePlansLaw", name := "doorsOut", desc := "(LHousePlans;II[J)I" } : Jvm.MethodName) method_12_code (5 : Nat) (Option.some Jvm.ClassFile.FieldType.int) [((0 : Nat), (10 : Nat), (13 : Nat), (19 : Nat)), ((0 : Nat), (10 : Nat), (17 : Nat), (21 : Nat))]) ∈ am_TG := am_inTG (List.mem_append_right _ (List.mem_of_getElem? (i := 495) (by decide +kernel))) rfl
theorem tw_496 : (Jvm.Cond.methodLink "HousePlansLaw" (48 : Nat) ({ cls := "HousePlans", name := "doorsOut", desc := "(II)I" } : Jvm.MethodName)) ∈ am_TG := am_inTG (List.mem_append_right _ (List.mem_of_getElem? (i := 496) (by decide +kernel))) rfl
theorem tw_497 : (Jvm.Cond.instanceMethod ({ cls := "HousePlans", name := "doorsOut", desc := "(II)I" } : Jvm.MethodName)) ∈ am_TG := am_inTG (List.mem_append_right _ (List.mem_of_getElem? (i := 497) (by decide +kernel))) rfl
theorem tw_498 : (Jvm.Cond.selects "HousePlans" ({ cls := "HousePlans", name := "doorsOut", desc := "(II)I" } : Jvm.MethodName) ({ cls := "HousePlans", name := "doorsOut", desc := "(II)I" } : Jvm.MethodName)) ∈ am_TG := am_inTG (List.mem_append_right _ (List.mem_of_getElem? (i := 498) (by decide +kernel))) rfl
theorem tw_499 : (Jvm.Cond.code ({ cls := "HousePlans", name := "doorsOut", desc := "(II)I" } : Jvm.MethodName) prog_1_method_12_code (4 : Nat) (Option.some Jvm.ClassFile.FieldType.int)) ∈ am_TG := am_inTG (List.mem_append_right _ (List.mem_of_getElem? (i := 499) (by decide +kernel))) rfl
theorem tw_500 : (Jvm.Cond.methodLink "HousePlansLaw" (132 : Nat) ({ cls := "HousePlansLaw", name := "doorThatHelps", desc := "(LHousePlans;II[J)I" } : Jvm.MethodName)) ∈ am_TG := am_inTG (List.mem_append_right _ (List.mem_of_getElem? (i := 500) (by decide +kernel))) rfl
theorem tw_501 : (Jvm.Cond.static ({ cls := "HousePlansLaw", name := "doorThatHelps", desc := "(LHousePlans;II[J)I" } : Jvm.MethodName)) ∈ am_TG := am_inTG (List.mem_append_right _ (List.mem_of_getElem? (i := 501) (by decide +kernel))) rfl
theorem tw_502 : (Jvm.Cond.codeWith ({ cls := "HousePlansLaw", name := "doorThatHelps", desc := "(LHousePlans;II[J)I" } : Jvm.MethodName) method_13_code (5 : Nat) (Option.some Jvm.ClassFile.FieldType.int) [((0 : Nat), (10 : Nat), (13 : Nat), (19 : Nat)), ((0 : Nat), (10 : Nat), (17 : Nat), (21 : Nat))]) ∈ am_TG := am_inTG (List.mem_append_right _ (List.mem_of_getElem? (i := 502) (by decide +kernel))) rfl
theorem tw_503 : (Jvm.Cond.methodLink "HousePlansLaw" (51 : Nat) ({ cls := "HousePlans", name := "doorThatHelps", desc := "(II)I" } : Jvm.MethodName)) ∈ am_TG := am_inTG (List.mem_append_right _ (List.mem_of_getElem? (i := 503) (by decide +kernel))) rfl
theorem tw_504 : (Jvm.Cond.instanceMethod ({ cls := "HousePlans", name := "doorThatHelps", desc := "(II)I" } : Jvm.MethodName)) ∈ am_TG := am_inTG (List.mem_append_right _ (List.mem_of_getElem? (i := 504) (by decide +kernel))) rfl
theorem tw_505 : (Jvm.Cond.selects "HousePlans" ({ cls := "HousePlans", name := "doorThatHelps", desc := "(II)I" } : Jvm.MethodName) ({ cls := "HousePlans", name := "doorThatHelps", desc := "(II)I" } : Jvm.MethodName)) ∈ am_TG := am_inTG (List.mem_append_right _ (List.mem_of_getElem? (i := 505) (by decide +kernel))) rfl
theorem tw_506 : (Jvm.Cond.code ({ cls := "HousePlans", name := "doorThatHelps", desc := "(II)I" } : Jvm.MethodName) prog_1_method_13_code (4 : Nat) (Option.some Jvm.ClassFile.FieldType.int)) ∈ am_TG := am_inTG (List.mem_append_right _ (List.mem_of_getElem? (i := 506) (by decide +kernel))) rfl
theorem tw_507 : (Jvm.Cond.methodLinkNest "HousePlans" (112 : Nat) ({ cls := "HousePlans$Floor", name := "wallThatHelps", desc := "(I)I" } : Jvm.MethodName) "HousePlans") ∈ am_bw := am_inB (List.mem_append_right _ (List.mem_of_getElem? (i := 507) (by decide +kernel))) rfl
theorem tw_509 : (Jvm.Cond.instanceMethod ({ cls := "HousePlans$Floor", name := "wallThatHelps", desc := "(I)I" } : Jvm.MethodName)) ∈ am_TG := am_inTG (List.mem_append_right _ (List.mem_of_getElem? (i := 509) (by decide +kernel))) rfl
theorem tw_510 : (Jvm.Cond.code ({ cls := "HousePlans$Floor", name := "wallThatHelps", desc := "(I)I" } : Jvm.MethodName) prog_3_method_11_code (5 : Nat) (Option.some Jvm.ClassFile.FieldType.int)) ∈ am_TG := am_inTG (List.mem_append_right _ (List.mem_of_getElem? (i := 510) (by decide +kernel))) rfl
theorem tw_511 : (Jvm.Cond.methodLink "HousePlans$Floor" (79 : Nat) ({ cls := "HousePlans$Floor", name := "leadsOut", desc := "(II)Z" } : Jvm.MethodName)) ∈ am_TG := am_inTG (List.mem_append_right _ (List.mem_of_getElem? (i := 511) (by decide +kernel))) rfl
theorem tw_513 : (Jvm.Cond.instanceMethod ({ cls := "HousePlans$Floor", name := "leadsOut", desc := "(II)Z" } : Jvm.MethodName)) ∈ am_TG := am_inTG (List.mem_append_right _ (List.mem_of_getElem? (i := 513) (by decide +kernel))) rfl
theorem tw_514 : (Jvm.Cond.code ({ cls := "HousePlans$Floor", name := "leadsOut", desc := "(II)Z" } : Jvm.MethodName) prog_3_method_12_code (3 : Nat) (Option.some Jvm.ClassFile.FieldType.boolean)) ∈ am_TG := am_inTG (List.mem_append_right _ (List.mem_of_getElem? (i := 514) (by decide +kernel))) rfl
theorem tw_515 : (Jvm.Cond.methodLink "HousePlansLaw" (135 : Nat) ({ cls := "HousePlansLaw", name := "lock", desc := "(LHousePlans;II)I" } : Jvm.MethodName)) ∈ am_TG := am_inTG (List.mem_append_right _ (List.mem_of_getElem? (i := 515) (by decide +kernel))) rfl
theorem tw_516 : (Jvm.Cond.static ({ cls := "HousePlansLaw", name := "lock", desc := "(LHousePlans;II)I" } : Jvm.MethodName)) ∈ am_TG := am_inTG (List.mem_append_right _ (List.mem_of_getElem? (i := 516) (by decide +kernel))) rfl
theorem tw_517 : (Jvm.Cond.codeWith ({ cls := "HousePlansLaw", name := "lock", desc := "(LHousePlans;II)I" } : Jvm.MethodName) method_14_code (4 : Nat) (Option.some Jvm.ClassFile.FieldType.int) [((0 : Nat), (6 : Nat), (9 : Nat), (19 : Nat)), ((0 : Nat), (6 : Nat), (12 : Nat), (21 : Nat)), ((0 : Nat), (6 : Nat), (15 : Nat), (13 : Nat))]) ∈ am_TG := am_inTG (List.mem_append_right _ (List.mem_of_getElem? (i := 517) (by decide +kernel))) rfl
theorem tw_518 : (Jvm.Cond.methodLink "HousePlansLaw" (54 : Nat) ({ cls := "HousePlans", name := "lock", desc := "(II)V" } : Jvm.MethodName)) ∈ am_TG := am_inTG (List.mem_append_right _ (List.mem_of_getElem? (i := 518) (by decide +kernel))) rfl
theorem tw_519 : (Jvm.Cond.instanceMethod ({ cls := "HousePlans", name := "lock", desc := "(II)V" } : Jvm.MethodName)) ∈ am_TG := am_inTG (List.mem_append_right _ (List.mem_of_getElem? (i := 519) (by decide +kernel))) rfl
theorem tw_520 : (Jvm.Cond.selects "HousePlans" ({ cls := "HousePlans", name := "lock", desc := "(II)V" } : Jvm.MethodName) ({ cls := "HousePlans", name := "lock", desc := "(II)V" } : Jvm.MethodName)) ∈ am_TG := am_inTG (List.mem_append_right _ (List.mem_of_getElem? (i := 520) (by decide +kernel))) rfl
theorem tw_521 : (Jvm.Cond.code ({ cls := "HousePlans", name := "lock", desc := "(II)V" } : Jvm.MethodName) prog_1_method_14_code (4 : Nat) (Option.none : Option Jvm.ClassFile.FieldType)) ∈ am_TG := am_inTG (List.mem_append_right _ (List.mem_of_getElem? (i := 521) (by decide +kernel))) rfl
theorem tw_522 : (Jvm.Cond.stringRef "HousePlans" (119 : Nat) "the drawing is locked") ∈ lw_tbl := (List.mem_append_right _ (List.mem_of_getElem? (i := 522) (by decide +kernel)))
theorem tw_523 : (Jvm.Cond.methodLink "HousePlansLaw" (139 : Nat) ({ cls := "HousePlansLaw", name := "unlock", desc := "(LHousePlans;II)I" } : Jvm.MethodName)) ∈ am_TG := am_inTG (List.mem_append_right _ (List.mem_of_getElem? (i := 523) (by decide +kernel))) rfl
theorem tw_524 : (Jvm.Cond.static ({ cls := "HousePlansLaw", name := "unlock", desc := "(LHousePlans;II)I" } : Jvm.MethodName)) ∈ am_TG := am_inTG (List.mem_append_right _ (List.mem_of_getElem? (i := 524) (by decide +kernel))) rfl
theorem tw_525 : (Jvm.Cond.codeWith ({ cls := "HousePlansLaw", name := "unlock", desc := "(LHousePlans;II)I" } : Jvm.MethodName) method_15_code (4 : Nat) (Option.some Jvm.ClassFile.FieldType.int) [((0 : Nat), (6 : Nat), (9 : Nat), (19 : Nat)), ((0 : Nat), (6 : Nat), (12 : Nat), (21 : Nat)), ((0 : Nat), (6 : Nat), (15 : Nat), (13 : Nat))]) ∈ am_TG := am_inTG (List.mem_append_right _ (List.mem_of_getElem? (i := 525) (by decide +kernel))) rfl
theorem tw_526 : (Jvm.Cond.methodLink "HousePlansLaw" (58 : Nat) ({ cls := "HousePlans", name := "unlock", desc := "(II)V" } : Jvm.MethodName)) ∈ am_TG := am_inTG (List.mem_append_right _ (List.mem_of_getElem? (i := 526) (by decide +kernel))) rfl
theorem tw_527 : (Jvm.Cond.instanceMethod ({ cls := "HousePlans", name := "unlock", desc := "(II)V" } : Jvm.MethodName)) ∈ am_TG := am_inTG (List.mem_append_right _ (List.mem_of_getElem? (i := 527) (by decide +kernel))) rfl
theorem tw_528 : (Jvm.Cond.selects "HousePlans" ({ cls := "HousePlans", name := "unlock", desc := "(II)V" } : Jvm.MethodName) ({ cls := "HousePlans", name := "unlock", desc := "(II)V" } : Jvm.MethodName)) ∈ am_TG := am_inTG (List.mem_append_right _ (List.mem_of_getElem? (i := 528) (by decide +kernel))) rfl
theorem tw_529 : (Jvm.Cond.code ({ cls := "HousePlans", name := "unlock", desc := "(II)V" } : Jvm.MethodName) prog_1_method_15_code (4 : Nat) (Option.none : Option Jvm.ClassFile.FieldType)) ∈ am_TG := am_inTG (List.mem_append_right _ (List.mem_of_getElem? (i := 529) (by decide +kernel))) rfl
theorem tw_530 : (Jvm.Cond.methodLink "HousePlans" (121 : Nat) ({ cls := "HousePlans", name := "needLocker", desc := "(LHousePlans$Drawing;I)V" } : Jvm.MethodName)) ∈ am_TG := am_inTG (List.mem_append_right _ (List.mem_of_getElem? (i := 530) (by decide +kernel))) rfl
theorem tw_531 : (Jvm.Cond.static ({ cls := "HousePlans", name := "needLocker", desc := "(LHousePlans$Drawing;I)V" } : Jvm.MethodName)) ∈ am_TG := am_inTG (List.mem_append_right _ (List.mem_of_getElem? (i := 531) (by decide +kernel))) rfl
theorem tw_532 : (Jvm.Cond.code ({ cls := "HousePlans", name := "needLocker", desc := "(LHousePlans$Drawing;I)V" } : Jvm.MethodName) prog_1_method_31_code (2 : Nat) (Option.none : Option Jvm.ClassFile.FieldType)) ∈ am_TG := am_inTG (List.mem_append_right _ (List.mem_of_getElem? (i := 532) (by decide +kernel))) rfl
theorem tw_533 : (Jvm.Cond.stringRef "HousePlans" (194 : Nat) "the person has not locked the drawing") ∈ lw_tbl := (List.mem_append_right _ (List.mem_of_getElem? (i := 533) (by decide +kernel)))
theorem tw_534 : (Jvm.Cond.stringRef "HousePlans" (127 : Nat) "the lock is lent") ∈ lw_tbl := (List.mem_append_right _ (List.mem_of_getElem? (i := 534) (by decide +kernel)))
theorem tw_535 : (Jvm.Cond.methodLink "HousePlansLaw" (142 : Nat) ({ cls := "HousePlansLaw", name := "lend", desc := "(LHousePlans;III[J)I" } : Jvm.MethodName)) ∈ am_TG := am_inTG (List.mem_append_right _ (List.mem_of_getElem? (i := 535) (by decide +kernel))) rfl
theorem tw_536 : (Jvm.Cond.static ({ cls := "HousePlansLaw", name := "lend", desc := "(LHousePlans;III[J)I" } : Jvm.MethodName)) ∈ am_TG := am_inTG (List.mem_append_right _ (List.mem_of_getElem? (i := 536) (by decide +kernel))) rfl
theorem tw_537 : (Jvm.Cond.codeWith ({ cls := "HousePlansLaw", name := "lend", desc := "(LHousePlans;III[J)I" } : Jvm.MethodName) method_16_code (6 : Nat) (Option.some Jvm.ClassFile.FieldType.int) [((0 : Nat), (12 : Nat), (15 : Nat), (19 : Nat)), ((0 : Nat), (12 : Nat), (19 : Nat), (21 : Nat)), ((0 : Nat), (12 : Nat), (23 : Nat), (13 : Nat))]) ∈ am_TG := am_inTG (List.mem_append_right _ (List.mem_of_getElem? (i := 537) (by decide +kernel))) rfl
theorem tw_538 : (Jvm.Cond.methodLink "HousePlansLaw" (61 : Nat) ({ cls := "HousePlans", name := "lend", desc := "(III)I" } : Jvm.MethodName)) ∈ am_TG := am_inTG (List.mem_append_right _ (List.mem_of_getElem? (i := 538) (by decide +kernel))) rfl
theorem tw_539 : (Jvm.Cond.instanceMethod ({ cls := "HousePlans", name := "lend", desc := "(III)I" } : Jvm.MethodName)) ∈ am_TG := am_inTG (List.mem_append_right _ (List.mem_of_getElem? (i := 539) (by decide +kernel))) rfl
theorem tw_540 : (Jvm.Cond.selects "HousePlans" ({ cls := "HousePlans", name := "lend", desc := "(III)I" } : Jvm.MethodName) ({ cls := "HousePlans", name := "lend", desc := "(III)I" } : Jvm.MethodName)) ∈ am_TG := am_inTG (List.mem_append_right _ (List.mem_of_getElem? (i := 540) (by decide +kernel))) rfl
theorem tw_541 : (Jvm.Cond.code ({ cls := "HousePlans", name := "lend", desc := "(III)I" } : Jvm.MethodName) prog_1_method_16_code (6 : Nat) (Option.some Jvm.ClassFile.FieldType.int)) ∈ am_TG := am_inTG (List.mem_append_right _ (List.mem_of_getElem? (i := 541) (by decide +kernel))) rfl
theorem tw_542 : (Jvm.Cond.stringRef "HousePlans" (129 : Nat) "nobody lends to himself") ∈ lw_tbl := (List.mem_append_right _ (List.mem_of_getElem? (i := 542) (by decide +kernel)))
theorem tw_543 : (Jvm.Cond.methodLink "HousePlansLaw" (146 : Nat) ({ cls := "HousePlansLaw", name := "canChange", desc := "(LHousePlans;I[J)I" } : Jvm.MethodName)) ∈ am_TG := am_inTG (List.mem_append_right _ (List.mem_of_getElem? (i := 543) (by decide +kernel))) rfl
theorem tw_544 : (Jvm.Cond.static ({ cls := "HousePlansLaw", name := "canChange", desc := "(LHousePlans;I[J)I" } : Jvm.MethodName)) ∈ am_TG := am_inTG (List.mem_append_right _ (List.mem_of_getElem? (i := 544) (by decide +kernel))) rfl
theorem tw_545 : (Jvm.Cond.codeWith ({ cls := "HousePlansLaw", name := "canChange", desc := "(LHousePlans;I[J)I" } : Jvm.MethodName) method_17_code (4 : Nat) (Option.some Jvm.ClassFile.FieldType.int) [((0 : Nat), (9 : Nat), (12 : Nat), (19 : Nat))]) ∈ am_TG := am_inTG (List.mem_append_right _ (List.mem_of_getElem? (i := 545) (by decide +kernel))) rfl
theorem tw_546 : (Jvm.Cond.methodLink "HousePlansLaw" (65 : Nat) ({ cls := "HousePlans", name := "canChange", desc := "(I)I" } : Jvm.MethodName)) ∈ am_TG := am_inTG (List.mem_append_right _ (List.mem_of_getElem? (i := 546) (by decide +kernel))) rfl
theorem tw_547 : (Jvm.Cond.instanceMethod ({ cls := "HousePlans", name := "canChange", desc := "(I)I" } : Jvm.MethodName)) ∈ am_TG := am_inTG (List.mem_append_right _ (List.mem_of_getElem? (i := 547) (by decide +kernel))) rfl
theorem tw_548 : (Jvm.Cond.selects "HousePlans" ({ cls := "HousePlans", name := "canChange", desc := "(I)I" } : Jvm.MethodName) ({ cls := "HousePlans", name := "canChange", desc := "(I)I" } : Jvm.MethodName)) ∈ am_TG := am_inTG (List.mem_append_right _ (List.mem_of_getElem? (i := 548) (by decide +kernel))) rfl
theorem tw_549 : (Jvm.Cond.code ({ cls := "HousePlans", name := "canChange", desc := "(I)I" } : Jvm.MethodName) prog_1_method_17_code (2 : Nat) (Option.some Jvm.ClassFile.FieldType.int)) ∈ am_TG := am_inTG (List.mem_append_right _ (List.mem_of_getElem? (i := 549) (by decide +kernel))) rfl
theorem tw_550 : (Jvm.Cond.methodLink "HousePlansLaw" (149 : Nat) ({ cls := "HousePlansLaw", name := "grant", desc := "(LHousePlans;I[J)I" } : Jvm.MethodName)) ∈ am_TG := am_inTG (List.mem_append_right _ (List.mem_of_getElem? (i := 550) (by decide +kernel))) rfl
theorem tw_551 : (Jvm.Cond.static ({ cls := "HousePlansLaw", name := "grant", desc := "(LHousePlans;I[J)I" } : Jvm.MethodName)) ∈ am_TG := am_inTG (List.mem_append_right _ (List.mem_of_getElem? (i := 551) (by decide +kernel))) rfl
theorem tw_552 : (Jvm.Cond.codeWith ({ cls := "HousePlansLaw", name := "grant", desc := "(LHousePlans;I[J)I" } : Jvm.MethodName) method_18_code (4 : Nat) (Option.some Jvm.ClassFile.FieldType.int) [((0 : Nat), (9 : Nat), (12 : Nat), (19 : Nat)), ((0 : Nat), (9 : Nat), (15 : Nat), (13 : Nat))]) ∈ am_TG := am_inTG (List.mem_append_right _ (List.mem_of_getElem? (i := 552) (by decide +kernel))) rfl
theorem tw_553 : (Jvm.Cond.methodLink "HousePlansLaw" (68 : Nat) ({ cls := "HousePlans", name := "grant", desc := "(I)I" } : Jvm.MethodName)) ∈ am_TG := am_inTG (List.mem_append_right _ (List.mem_of_getElem? (i := 553) (by decide +kernel))) rfl
theorem tw_554 : (Jvm.Cond.instanceMethod ({ cls := "HousePlans", name := "grant", desc := "(I)I" } : Jvm.MethodName)) ∈ am_TG := am_inTG (List.mem_append_right _ (List.mem_of_getElem? (i := 554) (by decide +kernel))) rfl
theorem tw_555 : (Jvm.Cond.selects "HousePlans" ({ cls := "HousePlans", name := "grant", desc := "(I)I" } : Jvm.MethodName) ({ cls := "HousePlans", name := "grant", desc := "(I)I" } : Jvm.MethodName)) ∈ am_TG := am_inTG (List.mem_append_right _ (List.mem_of_getElem? (i := 555) (by decide +kernel))) rfl
theorem tw_556 : (Jvm.Cond.code ({ cls := "HousePlans", name := "grant", desc := "(I)I" } : Jvm.MethodName) prog_1_method_18_code (4 : Nat) (Option.some Jvm.ClassFile.FieldType.int)) ∈ am_TG := am_inTG (List.mem_append_right _ (List.mem_of_getElem? (i := 556) (by decide +kernel))) rfl
theorem tw_557 : (Jvm.Cond.stringRef "HousePlans" (134 : Nat) "there are 20 permits") ∈ lw_tbl := (List.mem_append_right _ (List.mem_of_getElem? (i := 557) (by decide +kernel)))
theorem tw_558 : (Jvm.Cond.methodLinkNest "HousePlans" (136 : Nat) ({ cls := "HousePlans$Floor", name := "everyRoomHasWayOut", desc := "()Z" } : Jvm.MethodName) "HousePlans") ∈ am_bw := am_inB (List.mem_append_right _ (List.mem_of_getElem? (i := 558) (by decide +kernel))) rfl
theorem tw_560 : (Jvm.Cond.instanceMethod ({ cls := "HousePlans$Floor", name := "everyRoomHasWayOut", desc := "()Z" } : Jvm.MethodName)) ∈ am_TG := am_inTG (List.mem_append_right _ (List.mem_of_getElem? (i := 560) (by decide +kernel))) rfl
theorem tw_561 : (Jvm.Cond.code ({ cls := "HousePlans$Floor", name := "everyRoomHasWayOut", desc := "()Z" } : Jvm.MethodName) prog_3_method_10_code (2 : Nat) (Option.some Jvm.ClassFile.FieldType.boolean)) ∈ am_TG := am_inTG (List.mem_append_right _ (List.mem_of_getElem? (i := 561) (by decide +kernel))) rfl
theorem tw_562 : (Jvm.Cond.stringRef "HousePlans" (140 : Nat) "some room has no way out") ∈ lw_tbl := (List.mem_append_right _ (List.mem_of_getElem? (i := 562) (by decide +kernel)))
theorem tw_563 : (Jvm.Cond.classLink "HousePlans" (142 : Nat) "HousePlans$Permit") ∈ am_TG := am_inTG (List.mem_append_right _ (List.mem_of_getElem? (i := 563) (by decide +kernel))) rfl
theorem tw_564 : (Jvm.Cond.instantiable "HousePlans$Permit" (2 : Nat)) ∈ am_TG := am_inTG (List.mem_append_right _ (List.mem_of_getElem? (i := 564) (by decide +kernel))) rfl
theorem tw_565 : (Jvm.Cond.methodLinkNest "HousePlans" (144 : Nat) ({ cls := "HousePlans$Permit", name := "<init>", desc := "(LHousePlans$Drawing;)V" } : Jvm.MethodName) "HousePlans") ∈ am_bw := am_inB (List.mem_append_right _ (List.mem_of_getElem? (i := 565) (by decide +kernel))) rfl
theorem tw_566 : (Jvm.Cond.instanceMethod ({ cls := "HousePlans$Permit", name := "<init>", desc := "(LHousePlans$Drawing;)V" } : Jvm.MethodName)) ∈ am_TG := am_inTG (List.mem_append_right _ (List.mem_of_getElem? (i := 566) (by decide +kernel))) rfl
theorem tw_567 : (Jvm.Cond.code ({ cls := "HousePlans$Permit", name := "<init>", desc := "(LHousePlans$Drawing;)V" } : Jvm.MethodName) prog_4_method_1_code (2 : Nat) (Option.none : Option Jvm.ClassFile.FieldType)) ∈ am_TG := am_inTG (List.mem_append_right _ (List.mem_of_getElem? (i := 567) (by decide +kernel))) rfl
theorem tw_568 : (Jvm.Cond.methodLink "HousePlans$Permit" (1 : Nat) ({ cls := "java/lang/Object", name := "<init>", desc := "()V" } : Jvm.MethodName)) ∈ am_TG := am_inTG (List.mem_append_right _ (List.mem_of_getElem? (i := 568) (by decide +kernel))) rfl
theorem tw_569 : (Jvm.Cond.classLink "HousePlans$Permit" (7 : Nat) "HousePlans$State") ∈ am_TG := am_inTG (List.mem_append_right _ (List.mem_of_getElem? (i := 569) (by decide +kernel))) rfl
theorem tw_570 : (Jvm.Cond.methodLinkNest "HousePlans$Permit" (9 : Nat) ({ cls := "HousePlans$State", name := "<init>", desc := "()V" } : Jvm.MethodName) "HousePlans") ∈ am_bw := am_inB (List.mem_append_right _ (List.mem_of_getElem? (i := 570) (by decide +kernel))) rfl
theorem tw_571 : (Jvm.Cond.methodLinkNest "HousePlans$Permit" (20 : Nat) ({ cls := "HousePlans$State", name := "takeFrom", desc := "(LHousePlans$Drawing;)V" } : Jvm.MethodName) "HousePlans") ∈ am_bw := am_inB (List.mem_append_right _ (List.mem_of_getElem? (i := 571) (by decide +kernel))) rfl
theorem tw_572 : (Jvm.Cond.fieldLink "HousePlans$Permit" (16 : Nat) "HousePlans$Permit" "drawing" "LHousePlans$Drawing;") ∈ am_TG := am_inTG (List.mem_append_right _ (List.mem_of_getElem? (i := 572) (by decide +kernel))) rfl
theorem tw_573 : (Jvm.Cond.fieldLinkNest "HousePlans" (182 : Nat) "HousePlans$Permit" "drawing" "LHousePlans$Drawing;" "HousePlans") ∈ am_bw := am_inB (List.mem_append_right _ (List.mem_of_getElem? (i := 573) (by decide +kernel))) rfl
theorem tw_574 : (Jvm.Cond.fieldLink "HousePlans$Permit" (10 : Nat) "HousePlans$Permit" "kept" "LHousePlans$State;") ∈ am_TG := am_inTG (List.mem_append_right _ (List.mem_of_getElem? (i := 574) (by decide +kernel))) rfl
theorem tw_580 : (Jvm.Cond.methodLink "HousePlansLaw" (152 : Nat) ({ cls := "HousePlansLaw", name := "holds", desc := "(LHousePlans;I[J)I" } : Jvm.MethodName)) ∈ am_TG := am_inTG (List.mem_append_right _ (List.mem_of_getElem? (i := 580) (by decide +kernel))) rfl
theorem tw_581 : (Jvm.Cond.static ({ cls := "HousePlansLaw", name := "holds", desc := "(LHousePlans;I[J)I" } : Jvm.MethodName)) ∈ am_TG := am_inTG (List.mem_append_right _ (List.mem_of_getElem? (i := 581) (by decide +kernel))) rfl
theorem tw_582 : (Jvm.Cond.codeWith ({ cls := "HousePlansLaw", name := "holds", desc := "(LHousePlans;I[J)I" } : Jvm.MethodName) method_19_code (4 : Nat) (Option.some Jvm.ClassFile.FieldType.int) [((0 : Nat), (16 : Nat), (19 : Nat), (19 : Nat))]) ∈ am_TG := am_inTG (List.mem_append_right _ (List.mem_of_getElem? (i := 582) (by decide +kernel))) rfl
theorem tw_583 : (Jvm.Cond.methodLink "HousePlansLaw" (71 : Nat) ({ cls := "HousePlans", name := "holds", desc := "(I)Z" } : Jvm.MethodName)) ∈ am_TG := am_inTG (List.mem_append_right _ (List.mem_of_getElem? (i := 583) (by decide +kernel))) rfl
theorem tw_584 : (Jvm.Cond.instanceMethod ({ cls := "HousePlans", name := "holds", desc := "(I)Z" } : Jvm.MethodName)) ∈ am_TG := am_inTG (List.mem_append_right _ (List.mem_of_getElem? (i := 584) (by decide +kernel))) rfl
theorem tw_585 : (Jvm.Cond.selects "HousePlans" ({ cls := "HousePlans", name := "holds", desc := "(I)Z" } : Jvm.MethodName) ({ cls := "HousePlans", name := "holds", desc := "(I)Z" } : Jvm.MethodName)) ∈ am_TG := am_inTG (List.mem_append_right _ (List.mem_of_getElem? (i := 585) (by decide +kernel))) rfl
theorem tw_586 : (Jvm.Cond.code ({ cls := "HousePlans", name := "holds", desc := "(I)Z" } : Jvm.MethodName) prog_1_method_19_code (2 : Nat) (Option.some Jvm.ClassFile.FieldType.boolean)) ∈ am_TG := am_inTG (List.mem_append_right _ (List.mem_of_getElem? (i := 586) (by decide +kernel))) rfl
theorem tw_587 : (Jvm.Cond.stringRef "HousePlans" (148 : Nat) "no such permit") ∈ lw_tbl := (List.mem_append_right _ (List.mem_of_getElem? (i := 587) (by decide +kernel)))
theorem tw_588 : (Jvm.Cond.methodLinkNest "HousePlans" (155 : Nat) ({ cls := "HousePlans$Permit", name := "isValid", desc := "()Z" } : Jvm.MethodName) "HousePlans") ∈ am_bw := am_inB (List.mem_append_right _ (List.mem_of_getElem? (i := 588) (by decide +kernel))) rfl
theorem tw_590 : (Jvm.Cond.instanceMethod ({ cls := "HousePlans$Permit", name := "isValid", desc := "()Z" } : Jvm.MethodName)) ∈ am_TG := am_inTG (List.mem_append_right _ (List.mem_of_getElem? (i := 590) (by decide +kernel))) rfl
theorem tw_591 : (Jvm.Cond.code ({ cls := "HousePlans$Permit", name := "isValid", desc := "()Z" } : Jvm.MethodName) prog_4_method_2_code (1 : Nat) (Option.some Jvm.ClassFile.FieldType.boolean)) ∈ am_TG := am_inTG (List.mem_append_right _ (List.mem_of_getElem? (i := 591) (by decide +kernel))) rfl
theorem tw_592 : (Jvm.Cond.methodLinkNest "HousePlans$Permit" (24 : Nat) ({ cls := "HousePlans$State", name := "isThatOf", desc := "(LHousePlans$Drawing;)Z" } : Jvm.MethodName) "HousePlans") ∈ am_bw := am_inB (List.mem_append_right _ (List.mem_of_getElem? (i := 592) (by decide +kernel))) rfl
theorem tw_593 : (Jvm.Cond.methodLink "HousePlansLaw" (155 : Nat) ({ cls := "HousePlansLaw", name := "print", desc := "(LHousePlans;I[J)I" } : Jvm.MethodName)) ∈ am_TG := am_inTG (List.mem_append_right _ (List.mem_of_getElem? (i := 593) (by decide +kernel))) rfl
theorem tw_594 : (Jvm.Cond.static ({ cls := "HousePlansLaw", name := "print", desc := "(LHousePlans;I[J)I" } : Jvm.MethodName)) ∈ am_TG := am_inTG (List.mem_append_right _ (List.mem_of_getElem? (i := 594) (by decide +kernel))) rfl
theorem tw_595 : (Jvm.Cond.codeWith ({ cls := "HousePlansLaw", name := "print", desc := "(LHousePlans;I[J)I" } : Jvm.MethodName) method_20_code (4 : Nat) (Option.some Jvm.ClassFile.FieldType.int) [((0 : Nat), (9 : Nat), (12 : Nat), (19 : Nat)), ((0 : Nat), (9 : Nat), (15 : Nat), (13 : Nat))]) ∈ am_TG := am_inTG (List.mem_append_right _ (List.mem_of_getElem? (i := 595) (by decide +kernel))) rfl
theorem tw_596 : (Jvm.Cond.methodLink "HousePlansLaw" (75 : Nat) ({ cls := "HousePlans", name := "print", desc := "(I)I" } : Jvm.MethodName)) ∈ am_TG := am_inTG (List.mem_append_right _ (List.mem_of_getElem? (i := 596) (by decide +kernel))) rfl
theorem tw_597 : (Jvm.Cond.instanceMethod ({ cls := "HousePlans", name := "print", desc := "(I)I" } : Jvm.MethodName)) ∈ am_TG := am_inTG (List.mem_append_right _ (List.mem_of_getElem? (i := 597) (by decide +kernel))) rfl
theorem tw_598 : (Jvm.Cond.selects "HousePlans" ({ cls := "HousePlans", name := "print", desc := "(I)I" } : Jvm.MethodName) ({ cls := "HousePlans", name := "print", desc := "(I)I" } : Jvm.MethodName)) ∈ am_TG := am_inTG (List.mem_append_right _ (List.mem_of_getElem? (i := 598) (by decide +kernel))) rfl
theorem tw_599 : (Jvm.Cond.code ({ cls := "HousePlans", name := "print", desc := "(I)I" } : Jvm.MethodName) prog_1_method_20_code (4 : Nat) (Option.some Jvm.ClassFile.FieldType.int)) ∈ am_TG := am_inTG (List.mem_append_right _ (List.mem_of_getElem? (i := 599) (by decide +kernel))) rfl
theorem tw_600 : (Jvm.Cond.stringRef "HousePlans" (158 : Nat) "there are 30 prints") ∈ lw_tbl := (List.mem_append_right _ (List.mem_of_getElem? (i := 600) (by decide +kernel)))
theorem tw_601 : (Jvm.Cond.methodLink "HousePlans" (162 : Nat) ({ cls := "HousePlans", name := "highestPermit", desc := "(LHousePlans$Drawing;)I" } : Jvm.MethodName)) ∈ am_TG := am_inTG (List.mem_append_right _ (List.mem_of_getElem? (i := 601) (by decide +kernel))) rfl
theorem tw_603 : (Jvm.Cond.instanceMethod ({ cls := "HousePlans", name := "highestPermit", desc := "(LHousePlans$Drawing;)I" } : Jvm.MethodName)) ∈ am_TG := am_inTG (List.mem_append_right _ (List.mem_of_getElem? (i := 603) (by decide +kernel))) rfl
theorem tw_604 : (Jvm.Cond.code ({ cls := "HousePlans", name := "highestPermit", desc := "(LHousePlans$Drawing;)I" } : Jvm.MethodName) prog_1_method_26_code (4 : Nat) (Option.some Jvm.ClassFile.FieldType.int)) ∈ am_TG := am_inTG (List.mem_append_right _ (List.mem_of_getElem? (i := 604) (by decide +kernel))) rfl
theorem tw_605 : (Jvm.Cond.methodLinkNest "HousePlans" (166 : Nat) ({ cls := "HousePlans$Print", name := "<init>", desc := "(LHousePlans$Drawing;I)V" } : Jvm.MethodName) "HousePlans") ∈ am_bw := am_inB (List.mem_append_right _ (List.mem_of_getElem? (i := 605) (by decide +kernel))) rfl
theorem tw_606 : (Jvm.Cond.instanceMethod ({ cls := "HousePlans$Print", name := "<init>", desc := "(LHousePlans$Drawing;I)V" } : Jvm.MethodName)) ∈ am_TG := am_inTG (List.mem_append_right _ (List.mem_of_getElem? (i := 606) (by decide +kernel))) rfl
theorem tw_607 : (Jvm.Cond.code ({ cls := "HousePlans$Print", name := "<init>", desc := "(LHousePlans$Drawing;I)V" } : Jvm.MethodName) prog_5_method_1_code (3 : Nat) (Option.none : Option Jvm.ClassFile.FieldType)) ∈ am_TG := am_inTG (List.mem_append_right _ (List.mem_of_getElem? (i := 607) (by decide +kernel))) rfl
theorem tw_608 : (Jvm.Cond.methodLink "HousePlans$Print" (1 : Nat) ({ cls := "java/lang/Object", name := "<init>", desc := "()V" } : Jvm.MethodName)) ∈ am_TG := am_inTG (List.mem_append_right _ (List.mem_of_getElem? (i := 608) (by decide +kernel))) rfl
theorem tw_609 : (Jvm.Cond.classLink "HousePlans$Print" (7 : Nat) "HousePlans$State") ∈ am_TG := am_inTG (List.mem_append_right _ (List.mem_of_getElem? (i := 609) (by decide +kernel))) rfl
theorem tw_610 : (Jvm.Cond.methodLinkNest "HousePlans$Print" (9 : Nat) ({ cls := "HousePlans$State", name := "<init>", desc := "()V" } : Jvm.MethodName) "HousePlans") ∈ am_bw := am_inB (List.mem_append_right _ (List.mem_of_getElem? (i := 610) (by decide +kernel))) rfl
theorem tw_611 : (Jvm.Cond.methodLinkNest "HousePlans$Print" (24 : Nat) ({ cls := "HousePlans$State", name := "takeFrom", desc := "(LHousePlans$Drawing;)V" } : Jvm.MethodName) "HousePlans") ∈ am_bw := am_inB (List.mem_append_right _ (List.mem_of_getElem? (i := 611) (by decide +kernel))) rfl
theorem tw_612 : (Jvm.Cond.fieldLink "HousePlans$Print" (16 : Nat) "HousePlans$Print" "drawing" "LHousePlans$Drawing;") ∈ am_TG := am_inTG (List.mem_append_right _ (List.mem_of_getElem? (i := 612) (by decide +kernel))) rfl
theorem tw_613 : (Jvm.Cond.fieldLink "HousePlans$Print" (10 : Nat) "HousePlans$Print" "kept" "LHousePlans$State;") ∈ am_TG := am_inTG (List.mem_append_right _ (List.mem_of_getElem? (i := 613) (by decide +kernel))) rfl
theorem tw_614 : (Jvm.Cond.fieldLink "HousePlans$Print" (20 : Nat) "HousePlans$Print" "permit" "I") ∈ am_TG := am_inTG (List.mem_append_right _ (List.mem_of_getElem? (i := 614) (by decide +kernel))) rfl
theorem tw_615 : (Jvm.Cond.fieldLinkNest "HousePlans" (172 : Nat) "HousePlans$Print" "permit" "I" "HousePlans") ∈ am_bw := am_inB (List.mem_append_right _ (List.mem_of_getElem? (i := 615) (by decide +kernel))) rfl
theorem tw_623 : (Jvm.Cond.methodLink "HousePlansLaw" (158 : Nat) ({ cls := "HousePlansLaw", name := "permitOf", desc := "(LHousePlans;I[J)I" } : Jvm.MethodName)) ∈ am_TG := am_inTG (List.mem_append_right _ (List.mem_of_getElem? (i := 623) (by decide +kernel))) rfl
theorem tw_624 : (Jvm.Cond.static ({ cls := "HousePlansLaw", name := "permitOf", desc := "(LHousePlans;I[J)I" } : Jvm.MethodName)) ∈ am_TG := am_inTG (List.mem_append_right _ (List.mem_of_getElem? (i := 624) (by decide +kernel))) rfl
theorem tw_625 : (Jvm.Cond.codeWith ({ cls := "HousePlansLaw", name := "permitOf", desc := "(LHousePlans;I[J)I" } : Jvm.MethodName) method_21_code (4 : Nat) (Option.some Jvm.ClassFile.FieldType.int) [((0 : Nat), (9 : Nat), (12 : Nat), (19 : Nat))]) ∈ am_TG := am_inTG (List.mem_append_right _ (List.mem_of_getElem? (i := 625) (by decide +kernel))) rfl
theorem tw_626 : (Jvm.Cond.methodLink "HousePlansLaw" (78 : Nat) ({ cls := "HousePlans", name := "permitOf", desc := "(I)I" } : Jvm.MethodName)) ∈ am_TG := am_inTG (List.mem_append_right _ (List.mem_of_getElem? (i := 626) (by decide +kernel))) rfl
theorem tw_627 : (Jvm.Cond.instanceMethod ({ cls := "HousePlans", name := "permitOf", desc := "(I)I" } : Jvm.MethodName)) ∈ am_TG := am_inTG (List.mem_append_right _ (List.mem_of_getElem? (i := 627) (by decide +kernel))) rfl
theorem tw_628 : (Jvm.Cond.selects "HousePlans" ({ cls := "HousePlans", name := "permitOf", desc := "(I)I" } : Jvm.MethodName) ({ cls := "HousePlans", name := "permitOf", desc := "(I)I" } : Jvm.MethodName)) ∈ am_TG := am_inTG (List.mem_append_right _ (List.mem_of_getElem? (i := 628) (by decide +kernel))) rfl
theorem tw_629 : (Jvm.Cond.code ({ cls := "HousePlans", name := "permitOf", desc := "(I)I" } : Jvm.MethodName) prog_1_method_21_code (2 : Nat) (Option.some Jvm.ClassFile.FieldType.int)) ∈ am_TG := am_inTG (List.mem_append_right _ (List.mem_of_getElem? (i := 629) (by decide +kernel))) rfl
theorem tw_630 : (Jvm.Cond.methodLink "HousePlans" (168 : Nat) ({ cls := "HousePlans", name := "printAt", desc := "(I)LHousePlans$Print;" } : Jvm.MethodName)) ∈ am_TG := am_inTG (List.mem_append_right _ (List.mem_of_getElem? (i := 630) (by decide +kernel))) rfl
theorem tw_632 : (Jvm.Cond.instanceMethod ({ cls := "HousePlans", name := "printAt", desc := "(I)LHousePlans$Print;" } : Jvm.MethodName)) ∈ am_TG := am_inTG (List.mem_append_right _ (List.mem_of_getElem? (i := 632) (by decide +kernel))) rfl
theorem tw_633 : (Jvm.Cond.code ({ cls := "HousePlans", name := "printAt", desc := "(I)LHousePlans$Print;" } : Jvm.MethodName) prog_1_method_25_code (2 : Nat) (Option.some (Jvm.ClassFile.FieldType.object "HousePlans$Print"))) ∈ am_TG := am_inTG (List.mem_append_right _ (List.mem_of_getElem? (i := 633) (by decide +kernel))) rfl
theorem tw_634 : (Jvm.Cond.stringRef "HousePlans" (180 : Nat) "no such print") ∈ lw_tbl := (List.mem_append_right _ (List.mem_of_getElem? (i := 634) (by decide +kernel)))
theorem tw_635 : (Jvm.Cond.methodLink "HousePlansLaw" (161 : Nat) ({ cls := "HousePlansLaw", name := "isGood", desc := "(LHousePlans;I[J)I" } : Jvm.MethodName)) ∈ am_TG := am_inTG (List.mem_append_right _ (List.mem_of_getElem? (i := 635) (by decide +kernel))) rfl
theorem tw_636 : (Jvm.Cond.static ({ cls := "HousePlansLaw", name := "isGood", desc := "(LHousePlans;I[J)I" } : Jvm.MethodName)) ∈ am_TG := am_inTG (List.mem_append_right _ (List.mem_of_getElem? (i := 636) (by decide +kernel))) rfl
theorem tw_637 : (Jvm.Cond.codeWith ({ cls := "HousePlansLaw", name := "isGood", desc := "(LHousePlans;I[J)I" } : Jvm.MethodName) method_22_code (4 : Nat) (Option.some Jvm.ClassFile.FieldType.int) [((0 : Nat), (16 : Nat), (19 : Nat), (19 : Nat))]) ∈ am_TG := am_inTG (List.mem_append_right _ (List.mem_of_getElem? (i := 637) (by decide +kernel))) rfl
theorem tw_638 : (Jvm.Cond.methodLink "HousePlansLaw" (81 : Nat) ({ cls := "HousePlans", name := "isGood", desc := "(I)Z" } : Jvm.MethodName)) ∈ am_TG := am_inTG (List.mem_append_right _ (List.mem_of_getElem? (i := 638) (by decide +kernel))) rfl
theorem tw_639 : (Jvm.Cond.instanceMethod ({ cls := "HousePlans", name := "isGood", desc := "(I)Z" } : Jvm.MethodName)) ∈ am_TG := am_inTG (List.mem_append_right _ (List.mem_of_getElem? (i := 639) (by decide +kernel))) rfl
theorem tw_640 : (Jvm.Cond.selects "HousePlans" ({ cls := "HousePlans", name := "isGood", desc := "(I)Z" } : Jvm.MethodName) ({ cls := "HousePlans", name := "isGood", desc := "(I)Z" } : Jvm.MethodName)) ∈ am_TG := am_inTG (List.mem_append_right _ (List.mem_of_getElem? (i := 640) (by decide +kernel))) rfl
theorem tw_641 : (Jvm.Cond.code ({ cls := "HousePlans", name := "isGood", desc := "(I)Z" } : Jvm.MethodName) prog_1_method_22_code (3 : Nat) (Option.some Jvm.ClassFile.FieldType.boolean)) ∈ am_TG := am_inTG (List.mem_append_right _ (List.mem_of_getElem? (i := 641) (by decide +kernel))) rfl
theorem tw_642 : (Jvm.Cond.classLink "HousePlansLaw" (85 : Nat) "HousePlansModel") ∈ am_TG := am_inTG (List.mem_append_right _ (List.mem_of_getElem? (i := 642) (by decide +kernel))) rfl
theorem tw_643 : (Jvm.Cond.instantiable "HousePlansModel" (20 : Nat)) ∈ am_TG := am_inTG (List.mem_append_right _ (List.mem_of_getElem? (i := 643) (by decide +kernel))) rfl
theorem tw_644 : (Jvm.Cond.methodLink "HousePlansLaw" (87 : Nat) ({ cls := "HousePlansModel", name := "<init>", desc := "()V" } : Jvm.MethodName)) ∈ am_TG := am_inTG (List.mem_append_right _ (List.mem_of_getElem? (i := 644) (by decide +kernel))) rfl
theorem tw_645 : (Jvm.Cond.instanceMethod ({ cls := "HousePlansModel", name := "<init>", desc := "()V" } : Jvm.MethodName)) ∈ am_TG := am_inTG (List.mem_append_right _ (List.mem_of_getElem? (i := 645) (by decide +kernel))) rfl
theorem tw_646 : (Jvm.Cond.code ({ cls := "HousePlansModel", name := "<init>", desc := "()V" } : Jvm.MethodName) prog_8_method_1_code (1 : Nat) (Option.none : Option Jvm.ClassFile.FieldType)) ∈ am_TG := am_inTG (List.mem_append_right _ (List.mem_of_getElem? (i := 646) (by decide +kernel))) rfl
theorem tw_647 : (Jvm.Cond.methodLink "HousePlansModel" (1 : Nat) ({ cls := "java/lang/Object", name := "<init>", desc := "()V" } : Jvm.MethodName)) ∈ am_TG := am_inTG (List.mem_append_right _ (List.mem_of_getElem? (i := 647) (by decide +kernel))) rfl
theorem tw_648 : (Jvm.Cond.fieldLink "HousePlansModel" (62 : Nat) "HousePlansModel" "drawings" "I") ∈ am_TG := am_inTG (List.mem_append_right _ (List.mem_of_getElem? (i := 648) (by decide +kernel))) rfl
theorem tw_649 : (Jvm.Cond.fieldLink "HousePlansModel" (7 : Nat) "HousePlansModel" "told" "[I") ∈ am_TG := am_inTG (List.mem_append_right _ (List.mem_of_getElem? (i := 649) (by decide +kernel))) rfl
theorem tw_650 : (Jvm.Cond.fieldLink "HousePlansModel" (13 : Nat) "HousePlansModel" "exits" "[I") ∈ am_TG := am_inTG (List.mem_append_right _ (List.mem_of_getElem? (i := 650) (by decide +kernel))) rfl
theorem tw_651 : (Jvm.Cond.fieldLink "HousePlansModel" (16 : Nat) "HousePlansModel" "refers" "[I") ∈ am_TG := am_inTG (List.mem_append_right _ (List.mem_of_getElem? (i := 651) (by decide +kernel))) rfl
theorem tw_652 : (Jvm.Cond.fieldLink "HousePlansModel" (19 : Nat) "HousePlansModel" "locker" "[I") ∈ am_TG := am_inTG (List.mem_append_right _ (List.mem_of_getElem? (i := 652) (by decide +kernel))) rfl
theorem tw_653 : (Jvm.Cond.fieldLink "HousePlansModel" (22 : Nat) "HousePlansModel" "lent" "[I") ∈ am_TG := am_inTG (List.mem_append_right _ (List.mem_of_getElem? (i := 653) (by decide +kernel))) rfl
theorem tw_654 : (Jvm.Cond.fieldLink "HousePlansModel" (25 : Nat) "HousePlansModel" "sides" "[I") ∈ am_TG := am_inTG (List.mem_append_right _ (List.mem_of_getElem? (i := 654) (by decide +kernel))) rfl
theorem tw_655 : (Jvm.Cond.fieldLink "HousePlansModel" (28 : Nat) "HousePlansModel" "outs" "[I") ∈ am_TG := am_inTG (List.mem_append_right _ (List.mem_of_getElem? (i := 655) (by decide +kernel))) rfl
theorem tw_656 : (Jvm.Cond.fieldLink "HousePlansModel" (31 : Nat) "HousePlansModel" "room" "[I") ∈ am_TG := am_inTG (List.mem_append_right _ (List.mem_of_getElem? (i := 656) (by decide +kernel))) rfl
theorem tw_657 : (Jvm.Cond.fieldLink "HousePlansModel" (34 : Nat) "HousePlansModel" "far" "[I") ∈ am_TG := am_inTG (List.mem_append_right _ (List.mem_of_getElem? (i := 657) (by decide +kernel))) rfl
theorem tw_658 : (Jvm.Cond.fieldLink "HousePlansModel" (110 : Nat) "HousePlansModel" "permits" "I") ∈ am_TG := am_inTG (List.mem_append_right _ (List.mem_of_getElem? (i := 658) (by decide +kernel))) rfl
theorem tw_659 : (Jvm.Cond.fieldLink "HousePlansModel" (37 : Nat) "HousePlansModel" "permitOf" "[I") ∈ am_TG := am_inTG (List.mem_append_right _ (List.mem_of_getElem? (i := 659) (by decide +kernel))) rfl
theorem tw_660 : (Jvm.Cond.fieldLink "HousePlansModel" (40 : Nat) "HousePlansModel" "keptSides" "[I") ∈ am_TG := am_inTG (List.mem_append_right _ (List.mem_of_getElem? (i := 660) (by decide +kernel))) rfl
theorem tw_661 : (Jvm.Cond.fieldLink "HousePlansModel" (43 : Nat) "HousePlansModel" "keptOuts" "[I") ∈ am_TG := am_inTG (List.mem_append_right _ (List.mem_of_getElem? (i := 661) (by decide +kernel))) rfl
theorem tw_662 : (Jvm.Cond.fieldLink "HousePlansModel" (116 : Nat) "HousePlansModel" "prints" "I") ∈ am_TG := am_inTG (List.mem_append_right _ (List.mem_of_getElem? (i := 662) (by decide +kernel))) rfl
theorem tw_663 : (Jvm.Cond.fieldLink "HousePlansModel" (46 : Nat) "HousePlansModel" "printOf" "[I") ∈ am_TG := am_inTG (List.mem_append_right _ (List.mem_of_getElem? (i := 663) (by decide +kernel))) rfl
theorem tw_664 : (Jvm.Cond.fieldLink "HousePlansModel" (49 : Nat) "HousePlansModel" "printSides" "[I") ∈ am_TG := am_inTG (List.mem_append_right _ (List.mem_of_getElem? (i := 664) (by decide +kernel))) rfl
theorem tw_665 : (Jvm.Cond.fieldLink "HousePlansModel" (52 : Nat) "HousePlansModel" "printOuts" "[I") ∈ am_TG := am_inTG (List.mem_append_right _ (List.mem_of_getElem? (i := 665) (by decide +kernel))) rfl
theorem tw_666 : (Jvm.Cond.fieldLink "HousePlansModel" (55 : Nat) "HousePlansModel" "keeps" "[I") ∈ am_TG := am_inTG (List.mem_append_right _ (List.mem_of_getElem? (i := 666) (by decide +kernel))) rfl
theorem tw_667 : (Jvm.Cond.fieldLink "HousePlansModel" (58 : Nat) "HousePlansModel" "thrown" "I") ∈ am_TG := am_inTG (List.mem_append_right _ (List.mem_of_getElem? (i := 667) (by decide +kernel))) rfl
theorem tw_709 : (Jvm.Cond.methodLink "HousePlansLaw" (94 : Nat) ({ cls := "HousePlansModel", name := "thrown", desc := "()I" } : Jvm.MethodName)) ∈ am_TG := am_inTG (List.mem_append_right _ (List.mem_of_getElem? (i := 709) (by decide +kernel))) rfl
theorem tw_710 : (Jvm.Cond.instanceMethod ({ cls := "HousePlansModel", name := "thrown", desc := "()I" } : Jvm.MethodName)) ∈ am_TG := am_inTG (List.mem_append_right _ (List.mem_of_getElem? (i := 710) (by decide +kernel))) rfl
theorem tw_711 : (Jvm.Cond.selects "HousePlansModel" ({ cls := "HousePlansModel", name := "thrown", desc := "()I" } : Jvm.MethodName) ({ cls := "HousePlansModel", name := "thrown", desc := "()I" } : Jvm.MethodName)) ∈ am_TG := am_inTG (List.mem_append_right _ (List.mem_of_getElem? (i := 711) (by decide +kernel))) rfl
theorem tw_712 : (Jvm.Cond.code ({ cls := "HousePlansModel", name := "thrown", desc := "()I" } : Jvm.MethodName) prog_8_method_2_code (1 : Nat) (Option.some Jvm.ClassFile.FieldType.int)) ∈ am_TG := am_inTG (List.mem_append_right _ (List.mem_of_getElem? (i := 712) (by decide +kernel))) rfl
theorem tw_713 : (Jvm.Cond.methodLink "HousePlansLaw" (93 : Nat) ({ cls := "HousePlansModel", name := "begin", desc := "()I" } : Jvm.MethodName)) ∈ am_TG := am_inTG (List.mem_append_right _ (List.mem_of_getElem? (i := 713) (by decide +kernel))) rfl
theorem tw_714 : (Jvm.Cond.instanceMethod ({ cls := "HousePlansModel", name := "begin", desc := "()I" } : Jvm.MethodName)) ∈ am_TG := am_inTG (List.mem_append_right _ (List.mem_of_getElem? (i := 714) (by decide +kernel))) rfl
theorem tw_715 : (Jvm.Cond.selects "HousePlansModel" ({ cls := "HousePlansModel", name := "begin", desc := "()I" } : Jvm.MethodName) ({ cls := "HousePlansModel", name := "begin", desc := "()I" } : Jvm.MethodName)) ∈ am_TG := am_inTG (List.mem_append_right _ (List.mem_of_getElem? (i := 715) (by decide +kernel))) rfl
theorem tw_716 : (Jvm.Cond.code ({ cls := "HousePlansModel", name := "begin", desc := "()I" } : Jvm.MethodName) prog_8_method_15_code (2 : Nat) (Option.some Jvm.ClassFile.FieldType.int)) ∈ am_TG := am_inTG (List.mem_append_right _ (List.mem_of_getElem? (i := 716) (by decide +kernel))) rfl
theorem tw_717 : (Jvm.Cond.methodLink "HousePlansLaw" (100 : Nat) ({ cls := "HousePlansModel", name := "tell", desc := "(IIII)I" } : Jvm.MethodName)) ∈ am_TG := am_inTG (List.mem_append_right _ (List.mem_of_getElem? (i := 717) (by decide +kernel))) rfl
theorem tw_718 : (Jvm.Cond.instanceMethod ({ cls := "HousePlansModel", name := "tell", desc := "(IIII)I" } : Jvm.MethodName)) ∈ am_TG := am_inTG (List.mem_append_right _ (List.mem_of_getElem? (i := 718) (by decide +kernel))) rfl
theorem tw_719 : (Jvm.Cond.selects "HousePlansModel" ({ cls := "HousePlansModel", name := "tell", desc := "(IIII)I" } : Jvm.MethodName) ({ cls := "HousePlansModel", name := "tell", desc := "(IIII)I" } : Jvm.MethodName)) ∈ am_TG := am_inTG (List.mem_append_right _ (List.mem_of_getElem? (i := 719) (by decide +kernel))) rfl
theorem tw_720 : (Jvm.Cond.code ({ cls := "HousePlansModel", name := "tell", desc := "(IIII)I" } : Jvm.MethodName) prog_8_method_16_code (7 : Nat) (Option.some Jvm.ClassFile.FieldType.int)) ∈ am_TG := am_inTG (List.mem_append_right _ (List.mem_of_getElem? (i := 720) (by decide +kernel))) rfl
theorem tw_721 : (Jvm.Cond.methodLink "HousePlansModel" (94 : Nat) ({ cls := "HousePlansModel", name := "isPerson", desc := "(I)Z" } : Jvm.MethodName)) ∈ am_TG := am_inTG (List.mem_append_right _ (List.mem_of_getElem? (i := 721) (by decide +kernel))) rfl
theorem tw_722 : (Jvm.Cond.static ({ cls := "HousePlansModel", name := "isPerson", desc := "(I)Z" } : Jvm.MethodName)) ∈ am_TG := am_inTG (List.mem_append_right _ (List.mem_of_getElem? (i := 722) (by decide +kernel))) rfl
theorem tw_723 : (Jvm.Cond.code ({ cls := "HousePlansModel", name := "isPerson", desc := "(I)Z" } : Jvm.MethodName) prog_8_method_5_code (1 : Nat) (Option.some Jvm.ClassFile.FieldType.boolean)) ∈ am_TG := am_inTG (List.mem_append_right _ (List.mem_of_getElem? (i := 723) (by decide +kernel))) rfl
theorem tw_724 : (Jvm.Cond.methodLink "HousePlansModel" (65 : Nat) ({ cls := "HousePlansModel", name := "isIn", desc := "(III)Z" } : Jvm.MethodName)) ∈ am_TG := am_inTG (List.mem_append_right _ (List.mem_of_getElem? (i := 724) (by decide +kernel))) rfl
theorem tw_725 : (Jvm.Cond.static ({ cls := "HousePlansModel", name := "isIn", desc := "(III)Z" } : Jvm.MethodName)) ∈ am_TG := am_inTG (List.mem_append_right _ (List.mem_of_getElem? (i := 725) (by decide +kernel))) rfl
theorem tw_726 : (Jvm.Cond.code ({ cls := "HousePlansModel", name := "isIn", desc := "(III)Z" } : Jvm.MethodName) prog_8_method_3_code (3 : Nat) (Option.some Jvm.ClassFile.FieldType.boolean)) ∈ am_TG := am_inTG (List.mem_append_right _ (List.mem_of_getElem? (i := 726) (by decide +kernel))) rfl
theorem tw_727 : (Jvm.Cond.methodLink "HousePlansModel" (83 : Nat) ({ cls := "HousePlansModel", name := "isDrawing", desc := "(I)Z" } : Jvm.MethodName)) ∈ am_TG := am_inTG (List.mem_append_right _ (List.mem_of_getElem? (i := 727) (by decide +kernel))) rfl
theorem tw_729 : (Jvm.Cond.instanceMethod ({ cls := "HousePlansModel", name := "isDrawing", desc := "(I)Z" } : Jvm.MethodName)) ∈ am_TG := am_inTG (List.mem_append_right _ (List.mem_of_getElem? (i := 729) (by decide +kernel))) rfl
theorem tw_730 : (Jvm.Cond.code ({ cls := "HousePlansModel", name := "isDrawing", desc := "(I)Z" } : Jvm.MethodName) prog_8_method_4_code (2 : Nat) (Option.some Jvm.ClassFile.FieldType.boolean)) ∈ am_TG := am_inTG (List.mem_append_right _ (List.mem_of_getElem? (i := 730) (by decide +kernel))) rfl
theorem tw_731 : (Jvm.Cond.methodLink "HousePlansModel" (97 : Nat) ({ cls := "HousePlansModel", name := "changer", desc := "(I)I" } : Jvm.MethodName)) ∈ am_TG := am_inTG (List.mem_append_right _ (List.mem_of_getElem? (i := 731) (by decide +kernel))) rfl
theorem tw_733 : (Jvm.Cond.instanceMethod ({ cls := "HousePlansModel", name := "changer", desc := "(I)I" } : Jvm.MethodName)) ∈ am_TG := am_inTG (List.mem_append_right _ (List.mem_of_getElem? (i := 733) (by decide +kernel))) rfl
theorem tw_734 : (Jvm.Cond.code ({ cls := "HousePlansModel", name := "changer", desc := "(I)I" } : Jvm.MethodName) prog_8_method_6_code (2 : Nat) (Option.some Jvm.ClassFile.FieldType.int)) ∈ am_TG := am_inTG (List.mem_append_right _ (List.mem_of_getElem? (i := 734) (by decide +kernel))) rfl
theorem tw_735 : (Jvm.Cond.methodLink "HousePlansLaw" (104 : Nat) ({ cls := "HousePlansModel", name := "setExit", desc := "(IIIZ)Z" } : Jvm.MethodName)) ∈ am_TG := am_inTG (List.mem_append_right _ (List.mem_of_getElem? (i := 735) (by decide +kernel))) rfl
theorem tw_736 : (Jvm.Cond.instanceMethod ({ cls := "HousePlansModel", name := "setExit", desc := "(IIIZ)Z" } : Jvm.MethodName)) ∈ am_TG := am_inTG (List.mem_append_right _ (List.mem_of_getElem? (i := 736) (by decide +kernel))) rfl
theorem tw_737 : (Jvm.Cond.selects "HousePlansModel" ({ cls := "HousePlansModel", name := "setExit", desc := "(IIIZ)Z" } : Jvm.MethodName) ({ cls := "HousePlansModel", name := "setExit", desc := "(IIIZ)Z" } : Jvm.MethodName)) ∈ am_TG := am_inTG (List.mem_append_right _ (List.mem_of_getElem? (i := 737) (by decide +kernel))) rfl
theorem tw_738 : (Jvm.Cond.code ({ cls := "HousePlansModel", name := "setExit", desc := "(IIIZ)Z" } : Jvm.MethodName) prog_8_method_17_code (7 : Nat) (Option.some Jvm.ClassFile.FieldType.boolean)) ∈ am_TG := am_inTG (List.mem_append_right _ (List.mem_of_getElem? (i := 738) (by decide +kernel))) rfl
theorem tw_739 : (Jvm.Cond.methodLink "HousePlansModel" (87 : Nat) ({ cls := "HousePlansModel", name := "isCell", desc := "(I)Z" } : Jvm.MethodName)) ∈ am_TG := am_inTG (List.mem_append_right _ (List.mem_of_getElem? (i := 739) (by decide +kernel))) rfl
theorem tw_740 : (Jvm.Cond.static ({ cls := "HousePlansModel", name := "isCell", desc := "(I)Z" } : Jvm.MethodName)) ∈ am_TG := am_inTG (List.mem_append_right _ (List.mem_of_getElem? (i := 740) (by decide +kernel))) rfl
theorem tw_741 : (Jvm.Cond.code ({ cls := "HousePlansModel", name := "isCell", desc := "(I)Z" } : Jvm.MethodName) prog_8_method_13_code (1 : Nat) (Option.some Jvm.ClassFile.FieldType.boolean)) ∈ am_TG := am_inTG (List.mem_append_right _ (List.mem_of_getElem? (i := 741) (by decide +kernel))) rfl
theorem tw_742 : (Jvm.Cond.methodLink "HousePlansLaw" (107 : Nat) ({ cls := "HousePlansModel", name := "refer", desc := "(IIIZ)Z" } : Jvm.MethodName)) ∈ am_TG := am_inTG (List.mem_append_right _ (List.mem_of_getElem? (i := 742) (by decide +kernel))) rfl
theorem tw_743 : (Jvm.Cond.instanceMethod ({ cls := "HousePlansModel", name := "refer", desc := "(IIIZ)Z" } : Jvm.MethodName)) ∈ am_TG := am_inTG (List.mem_append_right _ (List.mem_of_getElem? (i := 743) (by decide +kernel))) rfl
theorem tw_744 : (Jvm.Cond.selects "HousePlansModel" ({ cls := "HousePlansModel", name := "refer", desc := "(IIIZ)Z" } : Jvm.MethodName) ({ cls := "HousePlansModel", name := "refer", desc := "(IIIZ)Z" } : Jvm.MethodName)) ∈ am_TG := am_inTG (List.mem_append_right _ (List.mem_of_getElem? (i := 744) (by decide +kernel))) rfl
theorem tw_745 : (Jvm.Cond.code ({ cls := "HousePlansModel", name := "refer", desc := "(IIIZ)Z" } : Jvm.MethodName) prog_8_method_19_code (7 : Nat) (Option.some Jvm.ClassFile.FieldType.boolean)) ∈ am_TG := am_inTG (List.mem_append_right _ (List.mem_of_getElem? (i := 745) (by decide +kernel))) rfl
theorem tw_746 : (Jvm.Cond.methodLink "HousePlansModel" (100 : Nat) ({ cls := "HousePlansModel", name := "over", desc := "(I)I" } : Jvm.MethodName)) ∈ am_TG := am_inTG (List.mem_append_right _ (List.mem_of_getElem? (i := 746) (by decide +kernel))) rfl
theorem tw_748 : (Jvm.Cond.instanceMethod ({ cls := "HousePlansModel", name := "over", desc := "(I)I" } : Jvm.MethodName)) ∈ am_TG := am_inTG (List.mem_append_right _ (List.mem_of_getElem? (i := 748) (by decide +kernel))) rfl
theorem tw_749 : (Jvm.Cond.code ({ cls := "HousePlansModel", name := "over", desc := "(I)I" } : Jvm.MethodName) prog_8_method_18_code (5 : Nat) (Option.some Jvm.ClassFile.FieldType.int)) ∈ am_TG := am_inTG (List.mem_append_right _ (List.mem_of_getElem? (i := 749) (by decide +kernel))) rfl
theorem tw_750 : (Jvm.Cond.methodLink "HousePlansLaw" (111 : Nat) ({ cls := "HousePlansModel", name := "drawings", desc := "()I" } : Jvm.MethodName)) ∈ am_TG := am_inTG (List.mem_append_right _ (List.mem_of_getElem? (i := 750) (by decide +kernel))) rfl
theorem tw_751 : (Jvm.Cond.instanceMethod ({ cls := "HousePlansModel", name := "drawings", desc := "()I" } : Jvm.MethodName)) ∈ am_TG := am_inTG (List.mem_append_right _ (List.mem_of_getElem? (i := 751) (by decide +kernel))) rfl
theorem tw_752 : (Jvm.Cond.selects "HousePlansModel" ({ cls := "HousePlansModel", name := "drawings", desc := "()I" } : Jvm.MethodName) ({ cls := "HousePlansModel", name := "drawings", desc := "()I" } : Jvm.MethodName)) ∈ am_TG := am_inTG (List.mem_append_right _ (List.mem_of_getElem? (i := 752) (by decide +kernel))) rfl
theorem tw_753 : (Jvm.Cond.code ({ cls := "HousePlansModel", name := "drawings", desc := "()I" } : Jvm.MethodName) prog_8_method_20_code (1 : Nat) (Option.some Jvm.ClassFile.FieldType.int)) ∈ am_TG := am_inTG (List.mem_append_right _ (List.mem_of_getElem? (i := 753) (by decide +kernel))) rfl
theorem tw_754 : (Jvm.Cond.methodLink "HousePlansLaw" (115 : Nat) ({ cls := "HousePlansModel", name := "side", desc := "(II)I" } : Jvm.MethodName)) ∈ am_TG := am_inTG (List.mem_append_right _ (List.mem_of_getElem? (i := 754) (by decide +kernel))) rfl
theorem tw_755 : (Jvm.Cond.instanceMethod ({ cls := "HousePlansModel", name := "side", desc := "(II)I" } : Jvm.MethodName)) ∈ am_TG := am_inTG (List.mem_append_right _ (List.mem_of_getElem? (i := 755) (by decide +kernel))) rfl
theorem tw_756 : (Jvm.Cond.selects "HousePlansModel" ({ cls := "HousePlansModel", name := "side", desc := "(II)I" } : Jvm.MethodName) ({ cls := "HousePlansModel", name := "side", desc := "(II)I" } : Jvm.MethodName)) ∈ am_TG := am_inTG (List.mem_append_right _ (List.mem_of_getElem? (i := 756) (by decide +kernel))) rfl
theorem tw_757 : (Jvm.Cond.code ({ cls := "HousePlansModel", name := "side", desc := "(II)I" } : Jvm.MethodName) prog_8_method_21_code (3 : Nat) (Option.some Jvm.ClassFile.FieldType.int)) ∈ am_TG := am_inTG (List.mem_append_right _ (List.mem_of_getElem? (i := 757) (by decide +kernel))) rfl
theorem tw_758 : (Jvm.Cond.methodLink "HousePlansModel" (77 : Nat) ({ cls := "HousePlansModel", name := "finds", desc := "()V" } : Jvm.MethodName)) ∈ am_TG := am_inTG (List.mem_append_right _ (List.mem_of_getElem? (i := 758) (by decide +kernel))) rfl
theorem tw_760 : (Jvm.Cond.instanceMethod ({ cls := "HousePlansModel", name := "finds", desc := "()V" } : Jvm.MethodName)) ∈ am_TG := am_inTG (List.mem_append_right _ (List.mem_of_getElem? (i := 760) (by decide +kernel))) rfl
theorem tw_761 : (Jvm.Cond.code ({ cls := "HousePlansModel", name := "finds", desc := "()V" } : Jvm.MethodName) prog_8_method_8_code (4 : Nat) (Option.none : Option Jvm.ClassFile.FieldType)) ∈ am_TG := am_inTG (List.mem_append_right _ (List.mem_of_getElem? (i := 761) (by decide +kernel))) rfl
theorem tw_762 : (Jvm.Cond.methodLink "HousePlansModel" (69 : Nat) ({ cls := "HousePlansModel", name := "found", desc := "(II)I" } : Jvm.MethodName)) ∈ am_TG := am_inTG (List.mem_append_right _ (List.mem_of_getElem? (i := 762) (by decide +kernel))) rfl
theorem tw_764 : (Jvm.Cond.instanceMethod ({ cls := "HousePlansModel", name := "found", desc := "(II)I" } : Jvm.MethodName)) ∈ am_TG := am_inTG (List.mem_append_right _ (List.mem_of_getElem? (i := 764) (by decide +kernel))) rfl
theorem tw_765 : (Jvm.Cond.code ({ cls := "HousePlansModel", name := "found", desc := "(II)I" } : Jvm.MethodName) prog_8_method_7_code (5 : Nat) (Option.some Jvm.ClassFile.FieldType.int)) ∈ am_TG := am_inTG (List.mem_append_right _ (List.mem_of_getElem? (i := 765) (by decide +kernel))) rfl
theorem tw_766 : (Jvm.Cond.methodLink "HousePlansLaw" (118 : Nat) ({ cls := "HousePlansModel", name := "hasExit", desc := "(II)Z" } : Jvm.MethodName)) ∈ am_TG := am_inTG (List.mem_append_right _ (List.mem_of_getElem? (i := 766) (by decide +kernel))) rfl
theorem tw_767 : (Jvm.Cond.instanceMethod ({ cls := "HousePlansModel", name := "hasExit", desc := "(II)Z" } : Jvm.MethodName)) ∈ am_TG := am_inTG (List.mem_append_right _ (List.mem_of_getElem? (i := 767) (by decide +kernel))) rfl
theorem tw_768 : (Jvm.Cond.selects "HousePlansModel" ({ cls := "HousePlansModel", name := "hasExit", desc := "(II)Z" } : Jvm.MethodName) ({ cls := "HousePlansModel", name := "hasExit", desc := "(II)Z" } : Jvm.MethodName)) ∈ am_TG := am_inTG (List.mem_append_right _ (List.mem_of_getElem? (i := 768) (by decide +kernel))) rfl
theorem tw_769 : (Jvm.Cond.code ({ cls := "HousePlansModel", name := "hasExit", desc := "(II)Z" } : Jvm.MethodName) prog_8_method_22_code (3 : Nat) (Option.some Jvm.ClassFile.FieldType.boolean)) ∈ am_TG := am_inTG (List.mem_append_right _ (List.mem_of_getElem? (i := 769) (by decide +kernel))) rfl
theorem tw_770 : (Jvm.Cond.methodLink "HousePlansModel" (103 : Nat) ({ cls := "HousePlansModel", name := "asks", desc := "(II)Z" } : Jvm.MethodName)) ∈ am_TG := am_inTG (List.mem_append_right _ (List.mem_of_getElem? (i := 770) (by decide +kernel))) rfl
theorem tw_772 : (Jvm.Cond.instanceMethod ({ cls := "HousePlansModel", name := "asks", desc := "(II)Z" } : Jvm.MethodName)) ∈ am_TG := am_inTG (List.mem_append_right _ (List.mem_of_getElem? (i := 772) (by decide +kernel))) rfl
theorem tw_773 : (Jvm.Cond.code ({ cls := "HousePlansModel", name := "asks", desc := "(II)Z" } : Jvm.MethodName) prog_8_method_14_code (3 : Nat) (Option.some Jvm.ClassFile.FieldType.boolean)) ∈ am_TG := am_inTG (List.mem_append_right _ (List.mem_of_getElem? (i := 773) (by decide +kernel))) rfl
theorem tw_774 : (Jvm.Cond.methodLink "HousePlansModel" (90 : Nat) ({ cls := "HousePlansModel", name := "looks", desc := "(I)V" } : Jvm.MethodName)) ∈ am_TG := am_inTG (List.mem_append_right _ (List.mem_of_getElem? (i := 774) (by decide +kernel))) rfl
theorem tw_776 : (Jvm.Cond.instanceMethod ({ cls := "HousePlansModel", name := "looks", desc := "(I)V" } : Jvm.MethodName)) ∈ am_TG := am_inTG (List.mem_append_right _ (List.mem_of_getElem? (i := 776) (by decide +kernel))) rfl
theorem tw_777 : (Jvm.Cond.code ({ cls := "HousePlansModel", name := "looks", desc := "(I)V" } : Jvm.MethodName) prog_8_method_11_code (6 : Nat) (Option.none : Option Jvm.ClassFile.FieldType)) ∈ am_TG := am_inTG (List.mem_append_right _ (List.mem_of_getElem? (i := 777) (by decide +kernel))) rfl
theorem tw_778 : (Jvm.Cond.methodLink "HousePlansModel" (73 : Nat) ({ cls := "HousePlansModel", name := "low", desc := "(I)I" } : Jvm.MethodName)) ∈ am_TG := am_inTG (List.mem_append_right _ (List.mem_of_getElem? (i := 778) (by decide +kernel))) rfl
theorem tw_779 : (Jvm.Cond.static ({ cls := "HousePlansModel", name := "low", desc := "(I)I" } : Jvm.MethodName)) ∈ am_TG := am_inTG (List.mem_append_right _ (List.mem_of_getElem? (i := 779) (by decide +kernel))) rfl
theorem tw_780 : (Jvm.Cond.code ({ cls := "HousePlansModel", name := "low", desc := "(I)I" } : Jvm.MethodName) prog_8_method_9_code (1 : Nat) (Option.some Jvm.ClassFile.FieldType.int)) ∈ am_TG := am_inTG (List.mem_append_right _ (List.mem_of_getElem? (i := 780) (by decide +kernel))) rfl
theorem tw_781 : (Jvm.Cond.methodLink "HousePlansModel" (80 : Nat) ({ cls := "HousePlansModel", name := "high", desc := "(I)I" } : Jvm.MethodName)) ∈ am_TG := am_inTG (List.mem_append_right _ (List.mem_of_getElem? (i := 781) (by decide +kernel))) rfl
theorem tw_782 : (Jvm.Cond.static ({ cls := "HousePlansModel", name := "high", desc := "(I)I" } : Jvm.MethodName)) ∈ am_TG := am_inTG (List.mem_append_right _ (List.mem_of_getElem? (i := 782) (by decide +kernel))) rfl
theorem tw_783 : (Jvm.Cond.code ({ cls := "HousePlansModel", name := "high", desc := "(I)I" } : Jvm.MethodName) prog_8_method_10_code (1 : Nat) (Option.some Jvm.ClassFile.FieldType.int)) ∈ am_TG := am_inTG (List.mem_append_right _ (List.mem_of_getElem? (i := 783) (by decide +kernel))) rfl
theorem tw_784 : (Jvm.Cond.methodLink "HousePlansLaw" (122 : Nat) ({ cls := "HousePlansModel", name := "rooms", desc := "(I)I" } : Jvm.MethodName)) ∈ am_TG := am_inTG (List.mem_append_right _ (List.mem_of_getElem? (i := 784) (by decide +kernel))) rfl
theorem tw_785 : (Jvm.Cond.instanceMethod ({ cls := "HousePlansModel", name := "rooms", desc := "(I)I" } : Jvm.MethodName)) ∈ am_TG := am_inTG (List.mem_append_right _ (List.mem_of_getElem? (i := 785) (by decide +kernel))) rfl
theorem tw_786 : (Jvm.Cond.selects "HousePlansModel" ({ cls := "HousePlansModel", name := "rooms", desc := "(I)I" } : Jvm.MethodName) ({ cls := "HousePlansModel", name := "rooms", desc := "(I)I" } : Jvm.MethodName)) ∈ am_TG := am_inTG (List.mem_append_right _ (List.mem_of_getElem? (i := 786) (by decide +kernel))) rfl
theorem tw_787 : (Jvm.Cond.code ({ cls := "HousePlansModel", name := "rooms", desc := "(I)I" } : Jvm.MethodName) prog_8_method_23_code (5 : Nat) (Option.some Jvm.ClassFile.FieldType.int)) ∈ am_TG := am_inTG (List.mem_append_right _ (List.mem_of_getElem? (i := 787) (by decide +kernel))) rfl
theorem tw_788 : (Jvm.Cond.methodLink "HousePlansLaw" (125 : Nat) ({ cls := "HousePlansModel", name := "room", desc := "(II)I" } : Jvm.MethodName)) ∈ am_TG := am_inTG (List.mem_append_right _ (List.mem_of_getElem? (i := 788) (by decide +kernel))) rfl
theorem tw_789 : (Jvm.Cond.instanceMethod ({ cls := "HousePlansModel", name := "room", desc := "(II)I" } : Jvm.MethodName)) ∈ am_TG := am_inTG (List.mem_append_right _ (List.mem_of_getElem? (i := 789) (by decide +kernel))) rfl
theorem tw_790 : (Jvm.Cond.selects "HousePlansModel" ({ cls := "HousePlansModel", name := "room", desc := "(II)I" } : Jvm.MethodName) ({ cls := "HousePlansModel", name := "room", desc := "(II)I" } : Jvm.MethodName)) ∈ am_TG := am_inTG (List.mem_append_right _ (List.mem_of_getElem? (i := 790) (by decide +kernel))) rfl
theorem tw_791 : (Jvm.Cond.code ({ cls := "HousePlansModel", name := "room", desc := "(II)I" } : Jvm.MethodName) prog_8_method_24_code (3 : Nat) (Option.some Jvm.ClassFile.FieldType.int)) ∈ am_TG := am_inTG (List.mem_append_right _ (List.mem_of_getElem? (i := 791) (by decide +kernel))) rfl
theorem tw_792 : (Jvm.Cond.methodLink "HousePlansLaw" (128 : Nat) ({ cls := "HousePlansModel", name := "size", desc := "(II)I" } : Jvm.MethodName)) ∈ am_TG := am_inTG (List.mem_append_right _ (List.mem_of_getElem? (i := 792) (by decide +kernel))) rfl
theorem tw_793 : (Jvm.Cond.instanceMethod ({ cls := "HousePlansModel", name := "size", desc := "(II)I" } : Jvm.MethodName)) ∈ am_TG := am_inTG (List.mem_append_right _ (List.mem_of_getElem? (i := 793) (by decide +kernel))) rfl
theorem tw_794 : (Jvm.Cond.selects "HousePlansModel" ({ cls := "HousePlansModel", name := "size", desc := "(II)I" } : Jvm.MethodName) ({ cls := "HousePlansModel", name := "size", desc := "(II)I" } : Jvm.MethodName)) ∈ am_TG := am_inTG (List.mem_append_right _ (List.mem_of_getElem? (i := 794) (by decide +kernel))) rfl
theorem tw_795 : (Jvm.Cond.code ({ cls := "HousePlansModel", name := "size", desc := "(II)I" } : Jvm.MethodName) prog_8_method_25_code (6 : Nat) (Option.some Jvm.ClassFile.FieldType.int)) ∈ am_TG := am_inTG (List.mem_append_right _ (List.mem_of_getElem? (i := 795) (by decide +kernel))) rfl
theorem tw_796 : (Jvm.Cond.methodLink "HousePlansLaw" (131 : Nat) ({ cls := "HousePlansModel", name := "doorsOut", desc := "(II)I" } : Jvm.MethodName)) ∈ am_TG := am_inTG (List.mem_append_right _ (List.mem_of_getElem? (i := 796) (by decide +kernel))) rfl
theorem tw_797 : (Jvm.Cond.instanceMethod ({ cls := "HousePlansModel", name := "doorsOut", desc := "(II)I" } : Jvm.MethodName)) ∈ am_TG := am_inTG (List.mem_append_right _ (List.mem_of_getElem? (i := 797) (by decide +kernel))) rfl
theorem tw_798 : (Jvm.Cond.selects "HousePlansModel" ({ cls := "HousePlansModel", name := "doorsOut", desc := "(II)I" } : Jvm.MethodName) ({ cls := "HousePlansModel", name := "doorsOut", desc := "(II)I" } : Jvm.MethodName)) ∈ am_TG := am_inTG (List.mem_append_right _ (List.mem_of_getElem? (i := 798) (by decide +kernel))) rfl
theorem tw_799 : (Jvm.Cond.code ({ cls := "HousePlansModel", name := "doorsOut", desc := "(II)I" } : Jvm.MethodName) prog_8_method_26_code (4 : Nat) (Option.some Jvm.ClassFile.FieldType.int)) ∈ am_TG := am_inTG (List.mem_append_right _ (List.mem_of_getElem? (i := 799) (by decide +kernel))) rfl
theorem tw_800 : (Jvm.Cond.methodLink "HousePlansLaw" (134 : Nat) ({ cls := "HousePlansModel", name := "doorThatHelps", desc := "(II)I" } : Jvm.MethodName)) ∈ am_TG := am_inTG (List.mem_append_right _ (List.mem_of_getElem? (i := 800) (by decide +kernel))) rfl
theorem tw_801 : (Jvm.Cond.instanceMethod ({ cls := "HousePlansModel", name := "doorThatHelps", desc := "(II)I" } : Jvm.MethodName)) ∈ am_TG := am_inTG (List.mem_append_right _ (List.mem_of_getElem? (i := 801) (by decide +kernel))) rfl
theorem tw_802 : (Jvm.Cond.selects "HousePlansModel" ({ cls := "HousePlansModel", name := "doorThatHelps", desc := "(II)I" } : Jvm.MethodName) ({ cls := "HousePlansModel", name := "doorThatHelps", desc := "(II)I" } : Jvm.MethodName)) ∈ am_TG := am_inTG (List.mem_append_right _ (List.mem_of_getElem? (i := 802) (by decide +kernel))) rfl
theorem tw_803 : (Jvm.Cond.code ({ cls := "HousePlansModel", name := "doorThatHelps", desc := "(II)I" } : Jvm.MethodName) prog_8_method_27_code (8 : Nat) (Option.some Jvm.ClassFile.FieldType.int)) ∈ am_TG := am_inTG (List.mem_append_right _ (List.mem_of_getElem? (i := 803) (by decide +kernel))) rfl
theorem tw_804 : (Jvm.Cond.methodLink "HousePlansModel" (107 : Nat) ({ cls := "HousePlansModel", name := "isJoined", desc := "(III)Z" } : Jvm.MethodName)) ∈ am_TG := am_inTG (List.mem_append_right _ (List.mem_of_getElem? (i := 804) (by decide +kernel))) rfl
theorem tw_806 : (Jvm.Cond.instanceMethod ({ cls := "HousePlansModel", name := "isJoined", desc := "(III)Z" } : Jvm.MethodName)) ∈ am_TG := am_inTG (List.mem_append_right _ (List.mem_of_getElem? (i := 806) (by decide +kernel))) rfl
theorem tw_807 : (Jvm.Cond.code ({ cls := "HousePlansModel", name := "isJoined", desc := "(III)Z" } : Jvm.MethodName) prog_8_method_12_code (8 : Nat) (Option.some Jvm.ClassFile.FieldType.boolean)) ∈ am_TG := am_inTG (List.mem_append_right _ (List.mem_of_getElem? (i := 807) (by decide +kernel))) rfl
theorem tw_808 : (Jvm.Cond.methodLink "HousePlansLaw" (138 : Nat) ({ cls := "HousePlansModel", name := "lock", desc := "(II)V" } : Jvm.MethodName)) ∈ am_TG := am_inTG (List.mem_append_right _ (List.mem_of_getElem? (i := 808) (by decide +kernel))) rfl
theorem tw_809 : (Jvm.Cond.instanceMethod ({ cls := "HousePlansModel", name := "lock", desc := "(II)V" } : Jvm.MethodName)) ∈ am_TG := am_inTG (List.mem_append_right _ (List.mem_of_getElem? (i := 809) (by decide +kernel))) rfl
theorem tw_810 : (Jvm.Cond.selects "HousePlansModel" ({ cls := "HousePlansModel", name := "lock", desc := "(II)V" } : Jvm.MethodName) ({ cls := "HousePlansModel", name := "lock", desc := "(II)V" } : Jvm.MethodName)) ∈ am_TG := am_inTG (List.mem_append_right _ (List.mem_of_getElem? (i := 810) (by decide +kernel))) rfl
theorem tw_811 : (Jvm.Cond.code ({ cls := "HousePlansModel", name := "lock", desc := "(II)V" } : Jvm.MethodName) prog_8_method_28_code (3 : Nat) (Option.none : Option Jvm.ClassFile.FieldType)) ∈ am_TG := am_inTG (List.mem_append_right _ (List.mem_of_getElem? (i := 811) (by decide +kernel))) rfl
theorem tw_812 : (Jvm.Cond.methodLink "HousePlansLaw" (141 : Nat) ({ cls := "HousePlansModel", name := "unlock", desc := "(II)V" } : Jvm.MethodName)) ∈ am_TG := am_inTG (List.mem_append_right _ (List.mem_of_getElem? (i := 812) (by decide +kernel))) rfl
theorem tw_813 : (Jvm.Cond.instanceMethod ({ cls := "HousePlansModel", name := "unlock", desc := "(II)V" } : Jvm.MethodName)) ∈ am_TG := am_inTG (List.mem_append_right _ (List.mem_of_getElem? (i := 813) (by decide +kernel))) rfl
theorem tw_814 : (Jvm.Cond.selects "HousePlansModel" ({ cls := "HousePlansModel", name := "unlock", desc := "(II)V" } : Jvm.MethodName) ({ cls := "HousePlansModel", name := "unlock", desc := "(II)V" } : Jvm.MethodName)) ∈ am_TG := am_inTG (List.mem_append_right _ (List.mem_of_getElem? (i := 814) (by decide +kernel))) rfl
theorem tw_815 : (Jvm.Cond.code ({ cls := "HousePlansModel", name := "unlock", desc := "(II)V" } : Jvm.MethodName) prog_8_method_29_code (3 : Nat) (Option.none : Option Jvm.ClassFile.FieldType)) ∈ am_TG := am_inTG (List.mem_append_right _ (List.mem_of_getElem? (i := 815) (by decide +kernel))) rfl
theorem tw_816 : (Jvm.Cond.methodLink "HousePlansLaw" (145 : Nat) ({ cls := "HousePlansModel", name := "lend", desc := "(III)I" } : Jvm.MethodName)) ∈ am_TG := am_inTG (List.mem_append_right _ (List.mem_of_getElem? (i := 816) (by decide +kernel))) rfl
theorem tw_817 : (Jvm.Cond.instanceMethod ({ cls := "HousePlansModel", name := "lend", desc := "(III)I" } : Jvm.MethodName)) ∈ am_TG := am_inTG (List.mem_append_right _ (List.mem_of_getElem? (i := 817) (by decide +kernel))) rfl
theorem tw_818 : (Jvm.Cond.selects "HousePlansModel" ({ cls := "HousePlansModel", name := "lend", desc := "(III)I" } : Jvm.MethodName) ({ cls := "HousePlansModel", name := "lend", desc := "(III)I" } : Jvm.MethodName)) ∈ am_TG := am_inTG (List.mem_append_right _ (List.mem_of_getElem? (i := 818) (by decide +kernel))) rfl
theorem tw_819 : (Jvm.Cond.code ({ cls := "HousePlansModel", name := "lend", desc := "(III)I" } : Jvm.MethodName) prog_8_method_30_code (6 : Nat) (Option.some Jvm.ClassFile.FieldType.int)) ∈ am_TG := am_inTG (List.mem_append_right _ (List.mem_of_getElem? (i := 819) (by decide +kernel))) rfl
theorem tw_820 : (Jvm.Cond.methodLink "HousePlansLaw" (148 : Nat) ({ cls := "HousePlansModel", name := "canChange", desc := "(I)I" } : Jvm.MethodName)) ∈ am_TG := am_inTG (List.mem_append_right _ (List.mem_of_getElem? (i := 820) (by decide +kernel))) rfl
theorem tw_821 : (Jvm.Cond.instanceMethod ({ cls := "HousePlansModel", name := "canChange", desc := "(I)I" } : Jvm.MethodName)) ∈ am_TG := am_inTG (List.mem_append_right _ (List.mem_of_getElem? (i := 821) (by decide +kernel))) rfl
theorem tw_822 : (Jvm.Cond.selects "HousePlansModel" ({ cls := "HousePlansModel", name := "canChange", desc := "(I)I" } : Jvm.MethodName) ({ cls := "HousePlansModel", name := "canChange", desc := "(I)I" } : Jvm.MethodName)) ∈ am_TG := am_inTG (List.mem_append_right _ (List.mem_of_getElem? (i := 822) (by decide +kernel))) rfl
theorem tw_823 : (Jvm.Cond.code ({ cls := "HousePlansModel", name := "canChange", desc := "(I)I" } : Jvm.MethodName) prog_8_method_31_code (2 : Nat) (Option.some Jvm.ClassFile.FieldType.int)) ∈ am_TG := am_inTG (List.mem_append_right _ (List.mem_of_getElem? (i := 823) (by decide +kernel))) rfl
theorem tw_824 : (Jvm.Cond.methodLink "HousePlansLaw" (151 : Nat) ({ cls := "HousePlansModel", name := "grant", desc := "(I)I" } : Jvm.MethodName)) ∈ am_TG := am_inTG (List.mem_append_right _ (List.mem_of_getElem? (i := 824) (by decide +kernel))) rfl
theorem tw_825 : (Jvm.Cond.instanceMethod ({ cls := "HousePlansModel", name := "grant", desc := "(I)I" } : Jvm.MethodName)) ∈ am_TG := am_inTG (List.mem_append_right _ (List.mem_of_getElem? (i := 825) (by decide +kernel))) rfl
theorem tw_826 : (Jvm.Cond.selects "HousePlansModel" ({ cls := "HousePlansModel", name := "grant", desc := "(I)I" } : Jvm.MethodName) ({ cls := "HousePlansModel", name := "grant", desc := "(I)I" } : Jvm.MethodName)) ∈ am_TG := am_inTG (List.mem_append_right _ (List.mem_of_getElem? (i := 826) (by decide +kernel))) rfl
theorem tw_827 : (Jvm.Cond.code ({ cls := "HousePlansModel", name := "grant", desc := "(I)I" } : Jvm.MethodName) prog_8_method_34_code (4 : Nat) (Option.some Jvm.ClassFile.FieldType.int)) ∈ am_TG := am_inTG (List.mem_append_right _ (List.mem_of_getElem? (i := 827) (by decide +kernel))) rfl
theorem tw_828 : (Jvm.Cond.methodLink "HousePlansLaw" (154 : Nat) ({ cls := "HousePlansModel", name := "holds", desc := "(I)Z" } : Jvm.MethodName)) ∈ am_TG := am_inTG (List.mem_append_right _ (List.mem_of_getElem? (i := 828) (by decide +kernel))) rfl
theorem tw_829 : (Jvm.Cond.instanceMethod ({ cls := "HousePlansModel", name := "holds", desc := "(I)Z" } : Jvm.MethodName)) ∈ am_TG := am_inTG (List.mem_append_right _ (List.mem_of_getElem? (i := 829) (by decide +kernel))) rfl
theorem tw_830 : (Jvm.Cond.selects "HousePlansModel" ({ cls := "HousePlansModel", name := "holds", desc := "(I)Z" } : Jvm.MethodName) ({ cls := "HousePlansModel", name := "holds", desc := "(I)Z" } : Jvm.MethodName)) ∈ am_TG := am_inTG (List.mem_append_right _ (List.mem_of_getElem? (i := 830) (by decide +kernel))) rfl
theorem tw_831 : (Jvm.Cond.code ({ cls := "HousePlansModel", name := "holds", desc := "(I)Z" } : Jvm.MethodName) prog_8_method_35_code (2 : Nat) (Option.some Jvm.ClassFile.FieldType.boolean)) ∈ am_TG := am_inTG (List.mem_append_right _ (List.mem_of_getElem? (i := 831) (by decide +kernel))) rfl
theorem tw_832 : (Jvm.Cond.methodLink "HousePlansModel" (113 : Nat) ({ cls := "HousePlansModel", name := "stands", desc := "(I)Z" } : Jvm.MethodName)) ∈ am_TG := am_inTG (List.mem_append_right _ (List.mem_of_getElem? (i := 832) (by decide +kernel))) rfl
theorem tw_834 : (Jvm.Cond.instanceMethod ({ cls := "HousePlansModel", name := "stands", desc := "(I)Z" } : Jvm.MethodName)) ∈ am_TG := am_inTG (List.mem_append_right _ (List.mem_of_getElem? (i := 834) (by decide +kernel))) rfl
theorem tw_835 : (Jvm.Cond.code ({ cls := "HousePlansModel", name := "stands", desc := "(I)Z" } : Jvm.MethodName) prog_8_method_32_code (5 : Nat) (Option.some Jvm.ClassFile.FieldType.boolean)) ∈ am_TG := am_inTG (List.mem_append_right _ (List.mem_of_getElem? (i := 835) (by decide +kernel))) rfl
theorem tw_836 : (Jvm.Cond.methodLink "HousePlansLaw" (157 : Nat) ({ cls := "HousePlansModel", name := "print", desc := "(I)I" } : Jvm.MethodName)) ∈ am_TG := am_inTG (List.mem_append_right _ (List.mem_of_getElem? (i := 836) (by decide +kernel))) rfl
theorem tw_837 : (Jvm.Cond.instanceMethod ({ cls := "HousePlansModel", name := "print", desc := "(I)I" } : Jvm.MethodName)) ∈ am_TG := am_inTG (List.mem_append_right _ (List.mem_of_getElem? (i := 837) (by decide +kernel))) rfl
theorem tw_838 : (Jvm.Cond.selects "HousePlansModel" ({ cls := "HousePlansModel", name := "print", desc := "(I)I" } : Jvm.MethodName) ({ cls := "HousePlansModel", name := "print", desc := "(I)I" } : Jvm.MethodName)) ∈ am_TG := am_inTG (List.mem_append_right _ (List.mem_of_getElem? (i := 838) (by decide +kernel))) rfl
theorem tw_839 : (Jvm.Cond.code ({ cls := "HousePlansModel", name := "print", desc := "(I)I" } : Jvm.MethodName) prog_8_method_36_code (3 : Nat) (Option.some Jvm.ClassFile.FieldType.int)) ∈ am_TG := am_inTG (List.mem_append_right _ (List.mem_of_getElem? (i := 839) (by decide +kernel))) rfl
theorem tw_840 : (Jvm.Cond.methodLink "HousePlansLaw" (160 : Nat) ({ cls := "HousePlansModel", name := "permitOf", desc := "(I)I" } : Jvm.MethodName)) ∈ am_TG := am_inTG (List.mem_append_right _ (List.mem_of_getElem? (i := 840) (by decide +kernel))) rfl
theorem tw_841 : (Jvm.Cond.instanceMethod ({ cls := "HousePlansModel", name := "permitOf", desc := "(I)I" } : Jvm.MethodName)) ∈ am_TG := am_inTG (List.mem_append_right _ (List.mem_of_getElem? (i := 841) (by decide +kernel))) rfl
theorem tw_842 : (Jvm.Cond.selects "HousePlansModel" ({ cls := "HousePlansModel", name := "permitOf", desc := "(I)I" } : Jvm.MethodName) ({ cls := "HousePlansModel", name := "permitOf", desc := "(I)I" } : Jvm.MethodName)) ∈ am_TG := am_inTG (List.mem_append_right _ (List.mem_of_getElem? (i := 842) (by decide +kernel))) rfl
theorem tw_843 : (Jvm.Cond.code ({ cls := "HousePlansModel", name := "permitOf", desc := "(I)I" } : Jvm.MethodName) prog_8_method_38_code (2 : Nat) (Option.some Jvm.ClassFile.FieldType.int)) ∈ am_TG := am_inTG (List.mem_append_right _ (List.mem_of_getElem? (i := 843) (by decide +kernel))) rfl
theorem tw_844 : (Jvm.Cond.methodLink "HousePlansModel" (119 : Nat) ({ cls := "HousePlansModel", name := "isPrint", desc := "(I)Z" } : Jvm.MethodName)) ∈ am_TG := am_inTG (List.mem_append_right _ (List.mem_of_getElem? (i := 844) (by decide +kernel))) rfl
theorem tw_846 : (Jvm.Cond.instanceMethod ({ cls := "HousePlansModel", name := "isPrint", desc := "(I)Z" } : Jvm.MethodName)) ∈ am_TG := am_inTG (List.mem_append_right _ (List.mem_of_getElem? (i := 846) (by decide +kernel))) rfl
theorem tw_847 : (Jvm.Cond.code ({ cls := "HousePlansModel", name := "isPrint", desc := "(I)Z" } : Jvm.MethodName) prog_8_method_37_code (2 : Nat) (Option.some Jvm.ClassFile.FieldType.boolean)) ∈ am_TG := am_inTG (List.mem_append_right _ (List.mem_of_getElem? (i := 847) (by decide +kernel))) rfl
theorem tw_848 : (Jvm.Cond.methodLink "HousePlansLaw" (163 : Nat) ({ cls := "HousePlansModel", name := "isGood", desc := "(I)Z" } : Jvm.MethodName)) ∈ am_TG := am_inTG (List.mem_append_right _ (List.mem_of_getElem? (i := 848) (by decide +kernel))) rfl
theorem tw_849 : (Jvm.Cond.instanceMethod ({ cls := "HousePlansModel", name := "isGood", desc := "(I)Z" } : Jvm.MethodName)) ∈ am_TG := am_inTG (List.mem_append_right _ (List.mem_of_getElem? (i := 849) (by decide +kernel))) rfl
theorem tw_850 : (Jvm.Cond.selects "HousePlansModel" ({ cls := "HousePlansModel", name := "isGood", desc := "(I)Z" } : Jvm.MethodName) ({ cls := "HousePlansModel", name := "isGood", desc := "(I)Z" } : Jvm.MethodName)) ∈ am_TG := am_inTG (List.mem_append_right _ (List.mem_of_getElem? (i := 850) (by decide +kernel))) rfl
theorem tw_851 : (Jvm.Cond.code ({ cls := "HousePlansModel", name := "isGood", desc := "(I)Z" } : Jvm.MethodName) prog_8_method_39_code (2 : Nat) (Option.some Jvm.ClassFile.FieldType.boolean)) ∈ am_TG := am_inTG (List.mem_append_right _ (List.mem_of_getElem? (i := 851) (by decide +kernel))) rfl
theorem tw_852 : (Jvm.Cond.methodLink "HousePlansModel" (122 : Nat) ({ cls := "HousePlansModel", name := "isOld", desc := "(I)Z" } : Jvm.MethodName)) ∈ am_TG := am_inTG (List.mem_append_right _ (List.mem_of_getElem? (i := 852) (by decide +kernel))) rfl
theorem tw_854 : (Jvm.Cond.instanceMethod ({ cls := "HousePlansModel", name := "isOld", desc := "(I)Z" } : Jvm.MethodName)) ∈ am_TG := am_inTG (List.mem_append_right _ (List.mem_of_getElem? (i := 854) (by decide +kernel))) rfl
theorem tw_855 : (Jvm.Cond.code ({ cls := "HousePlansModel", name := "isOld", desc := "(I)Z" } : Jvm.MethodName) prog_8_method_33_code (5 : Nat) (Option.some Jvm.ClassFile.FieldType.boolean)) ∈ am_TG := am_inTG (List.mem_append_right _ (List.mem_of_getElem? (i := 855) (by decide +kernel))) rfl
theorem tw_856 : (Jvm.Cond.methodLink "HousePlansLaw" (167 : Nat) ({ cls := "HousePlansModel", name := "old", desc := "()I" } : Jvm.MethodName)) ∈ am_TG := am_inTG (List.mem_append_right _ (List.mem_of_getElem? (i := 856) (by decide +kernel))) rfl
theorem tw_857 : (Jvm.Cond.instanceMethod ({ cls := "HousePlansModel", name := "old", desc := "()I" } : Jvm.MethodName)) ∈ am_TG := am_inTG (List.mem_append_right _ (List.mem_of_getElem? (i := 857) (by decide +kernel))) rfl
theorem tw_858 : (Jvm.Cond.selects "HousePlansModel" ({ cls := "HousePlansModel", name := "old", desc := "()I" } : Jvm.MethodName) ({ cls := "HousePlansModel", name := "old", desc := "()I" } : Jvm.MethodName)) ∈ am_TG := am_inTG (List.mem_append_right _ (List.mem_of_getElem? (i := 858) (by decide +kernel))) rfl
theorem tw_859 : (Jvm.Cond.code ({ cls := "HousePlansModel", name := "old", desc := "()I" } : Jvm.MethodName) prog_8_method_40_code (3 : Nat) (Option.some Jvm.ClassFile.FieldType.int)) ∈ am_TG := am_inTG (List.mem_append_right _ (List.mem_of_getElem? (i := 859) (by decide +kernel))) rfl
theorem tw_860 : (Jvm.Cond.arrayClass Jvm.ClassFile.FieldType.long) ∈ am_TG := am_inTG (List.mem_append_right _ (List.mem_of_getElem? (i := 860) (by decide +kernel))) rfl
theorem tw_861 : (Jvm.Cond.sameMethod "java/lang/Throwable" "java/lang/Throwable" "fillInStackTrace" "(I)Ljava/lang/Throwable;") ∈ am_TG := am_inTG (List.mem_append_right _ (List.mem_of_getElem? (i := 861) (by decide +kernel))) rfl
theorem tw_862 : (Jvm.Cond.castable "HousePlans$Drawing" "java/lang/Object") ∈ am_bw := am_inB (List.mem_append_right _ (List.mem_of_getElem? (i := 862) (by decide +kernel))) rfl
theorem tw_863 : (Jvm.Cond.castable "HousePlans" "java/lang/Object") ∈ am_bw := am_inB (List.mem_append_right _ (List.mem_of_getElem? (i := 863) (by decide +kernel))) rfl
theorem tw_864 : (Jvm.Cond.castable "java/util/ArrayList" "java/lang/Object") ∈ am_bw := am_inB (List.mem_append_right _ (List.mem_of_getElem? (i := 864) (by decide +kernel))) rfl
theorem tw_865 : (Jvm.Cond.castable "HousePlans$Floor" "java/lang/Object") ∈ am_bw := am_inB (List.mem_append_right _ (List.mem_of_getElem? (i := 865) (by decide +kernel))) rfl
theorem tw_866 : (Jvm.Cond.castable "HousePlans$State" "java/lang/Object") ∈ am_bw := am_inB (List.mem_append_right _ (List.mem_of_getElem? (i := 866) (by decide +kernel))) rfl
theorem tw_867 : (Jvm.Cond.castable "HousePlansModel" "java/lang/Object") ∈ am_bw := am_inB (List.mem_append_right _ (List.mem_of_getElem? (i := 867) (by decide +kernel))) rfl
theorem tw_868 : (Jvm.Cond.castable "java/lang/IllegalStateException" "java/lang/Object") ∈ am_bw := am_inB (List.mem_append_right _ (List.mem_of_getElem? (i := 868) (by decide +kernel))) rfl
theorem tw_869 : (Jvm.Cond.castable "java/lang/IndexOutOfBoundsException" "java/lang/Object") ∈ am_bw := am_inB (List.mem_append_right _ (List.mem_of_getElem? (i := 869) (by decide +kernel))) rfl
theorem tw_870 : (Jvm.Cond.castable "java/lang/IllegalArgumentException" "java/lang/Object") ∈ am_bw := am_inB (List.mem_append_right _ (List.mem_of_getElem? (i := 870) (by decide +kernel))) rfl
theorem tw_871 : (Jvm.Cond.castable "HousePlans$Permit" "java/lang/Object") ∈ am_bw := am_inB (List.mem_append_right _ (List.mem_of_getElem? (i := 871) (by decide +kernel))) rfl
theorem tw_872 : (Jvm.Cond.castable "HousePlans$Print" "java/lang/Object") ∈ am_bw := am_inB (List.mem_append_right _ (List.mem_of_getElem? (i := 872) (by decide +kernel))) rfl
theorem tw_873 : (Jvm.Cond.castable "java/lang/Throwable" "java/lang/Object") ∈ am_bw := am_inB (List.mem_append_right _ (List.mem_of_getElem? (i := 873) (by decide +kernel))) rfl
theorem tw_874 : (Jvm.Cond.castable "java/lang/String" "java/lang/Object") ∈ am_bw := am_inB (List.mem_append_right _ (List.mem_of_getElem? (i := 874) (by decide +kernel))) rfl
theorem tw_875 : (Jvm.Cond.sameMethod "[Ljava/lang/Object;" "java/lang/Object" "getClass" "()Ljava/lang/Class;") ∈ am_TG := am_inTG (List.mem_append_right _ (List.mem_of_getElem? (i := 875) (by decide +kernel))) rfl
theorem tw_876 : (Jvm.Cond.selects "[Ljava/lang/Object;" ({ cls := "java/lang/Object", name := "getClass", desc := "()Ljava/lang/Class;" } : Jvm.MethodName) ({ cls := "java/lang/Object", name := "getClass", desc := "()Ljava/lang/Class;" } : Jvm.MethodName)) ∈ am_TG := am_inTG (List.mem_append_right _ (List.mem_of_getElem? (i := 876) (by decide +kernel))) rfl
theorem tw_877 : (Jvm.Cond.declares ({ cls := "java/lang/Object", name := "getClass", desc := "()Ljava/lang/Class;" } : Jvm.MethodName)) ∈ am_bw := am_inB (List.mem_append_right _ (List.mem_of_getElem? (i := 877) (by decide +kernel))) rfl
theorem tw_878 : (Jvm.Cond.castable "[I" "java/lang/Object") ∈ am_bw := am_inB (List.mem_append_right _ (List.mem_of_getElem? (i := 878) (by decide +kernel))) rfl
theorem tw_879 : (Jvm.Cond.castable "[Z" "java/lang/Object") ∈ am_bw := am_inB (List.mem_append_right _ (List.mem_of_getElem? (i := 879) (by decide +kernel))) rfl
theorem tw_880 : (Jvm.Cond.castable "[B" "java/lang/Object") ∈ am_bw := am_inB (List.mem_append_right _ (List.mem_of_getElem? (i := 880) (by decide +kernel))) rfl
theorem tw_881 : (Jvm.Cond.castable "[LHousePlans$Drawing;" "java/lang/Object") ∈ am_bw := am_inB (List.mem_append_right _ (List.mem_of_getElem? (i := 881) (by decide +kernel))) rfl
theorem tw_882 : (Jvm.Cond.castable "[Ljava/lang/Object;" "java/lang/Object") ∈ am_bw := am_inB (List.mem_append_right _ (List.mem_of_getElem? (i := 882) (by decide +kernel))) rfl
theorem tw_883 : (Jvm.Cond.castable "[J" "java/lang/Object") ∈ am_bw := am_inB (List.mem_append_right _ (List.mem_of_getElem? (i := 883) (by decide +kernel))) rfl
theorem ts_0 : Cond.selects (⟨"HousePlans$Print", "isOld", "()Z"⟩ : MethodName).cls (⟨"HousePlans$Print", "isOld", "()Z"⟩ : MethodName) (⟨"HousePlans$Print", "isOld", "()Z"⟩ : MethodName) ∈ am_TG := am_inTG (List.mem_append_left _ (List.mem_of_getElem? (i := 0) (by decide +kernel))) rfl
theorem ts_1 : Cond.selects (⟨"HousePlans$State", "isThatOf", "(LHousePlans$Drawing;)Z"⟩ : MethodName).cls (⟨"HousePlans$State", "isThatOf", "(LHousePlans$Drawing;)Z"⟩ : MethodName) (⟨"HousePlans$State", "isThatOf", "(LHousePlans$Drawing;)Z"⟩ : MethodName) ∈ am_TG := am_inTG (List.mem_append_left _ (List.mem_of_getElem? (i := 1) (by decide +kernel))) rfl
theorem ts_2 : Cond.selects (⟨"HousePlans$Drawing", "sideNow", "(I)I"⟩ : MethodName).cls (⟨"HousePlans$Drawing", "sideNow", "(I)I"⟩ : MethodName) (⟨"HousePlans$Drawing", "sideNow", "(I)I"⟩ : MethodName) ∈ am_TG := am_inTG (List.mem_append_left _ (List.mem_of_getElem? (i := 2) (by decide +kernel))) rfl
theorem ts_3 : Cond.selects (⟨"HousePlans$Drawing", "exitNow", "(I)Z"⟩ : MethodName).cls (⟨"HousePlans$Drawing", "exitNow", "(I)Z"⟩ : MethodName) (⟨"HousePlans$Drawing", "exitNow", "(I)Z"⟩ : MethodName) ∈ am_TG := am_inTG (List.mem_append_left _ (List.mem_of_getElem? (i := 3) (by decide +kernel))) rfl
theorem ts_4 : Cond.selects (⟨"java/lang/Throwable", "fillInStackTrace", "(I)Ljava/lang/Throwable;"⟩ : MethodName).cls (⟨"java/lang/Throwable", "fillInStackTrace", "(I)Ljava/lang/Throwable;"⟩ : MethodName) (⟨"java/lang/Throwable", "fillInStackTrace", "(I)Ljava/lang/Throwable;"⟩ : MethodName) ∈ am_TG := am_inTG (List.mem_append_left _ (List.mem_of_getElem? (i := 4) (by decide +kernel))) rfl
theorem ts_5 : Cond.selects (⟨"java/util/ArrayList", "add", "(Ljava/lang/Object;[Ljava/lang/Object;I)V"⟩ : MethodName).cls (⟨"java/util/ArrayList", "add", "(Ljava/lang/Object;[Ljava/lang/Object;I)V"⟩ : MethodName) (⟨"java/util/ArrayList", "add", "(Ljava/lang/Object;[Ljava/lang/Object;I)V"⟩ : MethodName) ∈ am_TG := am_inTG (List.mem_append_left _ (List.mem_of_getElem? (i := 5) (by decide +kernel))) rfl
theorem ts_6 : Cond.selects (⟨"java/util/ArrayList", "grow", "()[Ljava/lang/Object;"⟩ : MethodName).cls (⟨"java/util/ArrayList", "grow", "()[Ljava/lang/Object;"⟩ : MethodName) (⟨"java/util/ArrayList", "grow", "()[Ljava/lang/Object;"⟩ : MethodName) ∈ am_TG := am_inTG (List.mem_append_left _ (List.mem_of_getElem? (i := 6) (by decide +kernel))) rfl
theorem ts_7 : Cond.selects (⟨"java/util/ArrayList", "grow", "(I)[Ljava/lang/Object;"⟩ : MethodName).cls (⟨"java/util/ArrayList", "grow", "(I)[Ljava/lang/Object;"⟩ : MethodName) (⟨"java/util/ArrayList", "grow", "(I)[Ljava/lang/Object;"⟩ : MethodName) ∈ am_TG := am_inTG (List.mem_append_left _ (List.mem_of_getElem? (i := 7) (by decide +kernel))) rfl
theorem ts_8 : Cond.selects (⟨"HousePlans", "drawingAt", "(I)LHousePlans$Drawing;"⟩ : MethodName).cls (⟨"HousePlans", "drawingAt", "(I)LHousePlans$Drawing;"⟩ : MethodName) (⟨"HousePlans", "drawingAt", "(I)LHousePlans$Drawing;"⟩ : MethodName) ∈ am_TG := am_inTG (List.mem_append_left _ (List.mem_of_getElem? (i := 8) (by decide +kernel))) rfl
theorem ts_9 : Cond.selects (⟨"HousePlans$Drawing", "changer", "()I"⟩ : MethodName).cls (⟨"HousePlans$Drawing", "changer", "()I"⟩ : MethodName) (⟨"HousePlans$Drawing", "changer", "()I"⟩ : MethodName) ∈ am_TG := am_inTG (List.mem_append_left _ (List.mem_of_getElem? (i := 9) (by decide +kernel))) rfl
theorem ts_10 : Cond.selects (⟨"HousePlans$Drawing", "leadsTo", "(LHousePlans$Drawing;)Z"⟩ : MethodName).cls (⟨"HousePlans$Drawing", "leadsTo", "(LHousePlans$Drawing;)Z"⟩ : MethodName) (⟨"HousePlans$Drawing", "leadsTo", "(LHousePlans$Drawing;)Z"⟩ : MethodName) ∈ am_TG := am_inTG (List.mem_append_left _ (List.mem_of_getElem? (i := 10) (by decide +kernel))) rfl
theorem ts_11 : Cond.selects (⟨"HousePlans$Floor", "lookAt", "(LHousePlans$Drawing;)V"⟩ : MethodName).cls (⟨"HousePlans$Floor", "lookAt", "(LHousePlans$Drawing;)V"⟩ : MethodName) (⟨"HousePlans$Floor", "lookAt", "(LHousePlans$Drawing;)V"⟩ : MethodName) ∈ am_TG := am_inTG (List.mem_append_left _ (List.mem_of_getElem? (i := 11) (by decide +kernel))) rfl
theorem ts_12 : Cond.selects (⟨"HousePlans$State", "takeFrom", "(LHousePlans$Drawing;)V"⟩ : MethodName).cls (⟨"HousePlans$State", "takeFrom", "(LHousePlans$Drawing;)V"⟩ : MethodName) (⟨"HousePlans$State", "takeFrom", "(LHousePlans$Drawing;)V"⟩ : MethodName) ∈ am_TG := am_inTG (List.mem_append_left _ (List.mem_of_getElem? (i := 12) (by decide +kernel))) rfl
theorem ts_13 : Cond.selects (⟨"HousePlans$Floor", "findRooms", "()V"⟩ : MethodName).cls (⟨"HousePlans$Floor", "findRooms", "()V"⟩ : MethodName) (⟨"HousePlans$Floor", "findRooms", "()V"⟩ : MethodName) ∈ am_TG := am_inTG (List.mem_append_left _ (List.mem_of_getElem? (i := 13) (by decide +kernel))) rfl
theorem ts_14 : Cond.selects (⟨"HousePlans$Floor", "join", "(II)V"⟩ : MethodName).cls (⟨"HousePlans$Floor", "join", "(II)V"⟩ : MethodName) (⟨"HousePlans$Floor", "join", "(II)V"⟩ : MethodName) ∈ am_TG := am_inTG (List.mem_append_left _ (List.mem_of_getElem? (i := 14) (by decide +kernel))) rfl
theorem ts_15 : Cond.selects (⟨"HousePlans$Floor", "findWaysOut", "()V"⟩ : MethodName).cls (⟨"HousePlans$Floor", "findWaysOut", "()V"⟩ : MethodName) (⟨"HousePlans$Floor", "findWaysOut", "()V"⟩ : MethodName) ∈ am_TG := am_inTG (List.mem_append_left _ (List.mem_of_getElem? (i := 15) (by decide +kernel))) rfl
theorem ts_16 : Cond.selects (⟨"HousePlans$Floor", "goThroughDoors", "([I)V"⟩ : MethodName).cls (⟨"HousePlans$Floor", "goThroughDoors", "([I)V"⟩ : MethodName) (⟨"HousePlans$Floor", "goThroughDoors", "([I)V"⟩ : MethodName) ∈ am_TG := am_inTG (List.mem_append_left _ (List.mem_of_getElem? (i := 16) (by decide +kernel))) rfl
theorem ts_17 : Cond.selects (⟨"HousePlans$Floor", "countRooms", "()I"⟩ : MethodName).cls (⟨"HousePlans$Floor", "countRooms", "()I"⟩ : MethodName) (⟨"HousePlans$Floor", "countRooms", "()I"⟩ : MethodName) ∈ am_TG := am_inTG (List.mem_append_left _ (List.mem_of_getElem? (i := 17) (by decide +kernel))) rfl
theorem ts_18 : Cond.selects (⟨"HousePlans$Floor", "countCells", "(I)I"⟩ : MethodName).cls (⟨"HousePlans$Floor", "countCells", "(I)I"⟩ : MethodName) (⟨"HousePlans$Floor", "countCells", "(I)I"⟩ : MethodName) ∈ am_TG := am_inTG (List.mem_append_left _ (List.mem_of_getElem? (i := 18) (by decide +kernel))) rfl
theorem ts_19 : Cond.selects (⟨"HousePlans$Floor", "wallThatHelps", "(I)I"⟩ : MethodName).cls (⟨"HousePlans$Floor", "wallThatHelps", "(I)I"⟩ : MethodName) (⟨"HousePlans$Floor", "wallThatHelps", "(I)I"⟩ : MethodName) ∈ am_TG := am_inTG (List.mem_append_left _ (List.mem_of_getElem? (i := 19) (by decide +kernel))) rfl
theorem ts_20 : Cond.selects (⟨"HousePlans$Floor", "leadsOut", "(II)Z"⟩ : MethodName).cls (⟨"HousePlans$Floor", "leadsOut", "(II)Z"⟩ : MethodName) (⟨"HousePlans$Floor", "leadsOut", "(II)Z"⟩ : MethodName) ∈ am_TG := am_inTG (List.mem_append_left _ (List.mem_of_getElem? (i := 20) (by decide +kernel))) rfl
theorem ts_21 : Cond.selects (⟨"HousePlans$Floor", "everyRoomHasWayOut", "()Z"⟩ : MethodName).cls (⟨"HousePlans$Floor", "everyRoomHasWayOut", "()Z"⟩ : MethodName) (⟨"HousePlans$Floor", "everyRoomHasWayOut", "()Z"⟩ : MethodName) ∈ am_TG := am_inTG (List.mem_append_left _ (List.mem_of_getElem? (i := 21) (by decide +kernel))) rfl
theorem ts_22 : Cond.selects (⟨"HousePlans$Permit", "isValid", "()Z"⟩ : MethodName).cls (⟨"HousePlans$Permit", "isValid", "()Z"⟩ : MethodName) (⟨"HousePlans$Permit", "isValid", "()Z"⟩ : MethodName) ∈ am_TG := am_inTG (List.mem_append_left _ (List.mem_of_getElem? (i := 22) (by decide +kernel))) rfl
theorem ts_23 : Cond.selects (⟨"HousePlans", "highestPermit", "(LHousePlans$Drawing;)I"⟩ : MethodName).cls (⟨"HousePlans", "highestPermit", "(LHousePlans$Drawing;)I"⟩ : MethodName) (⟨"HousePlans", "highestPermit", "(LHousePlans$Drawing;)I"⟩ : MethodName) ∈ am_TG := am_inTG (List.mem_append_left _ (List.mem_of_getElem? (i := 23) (by decide +kernel))) rfl
theorem ts_24 : Cond.selects (⟨"HousePlans", "printAt", "(I)LHousePlans$Print;"⟩ : MethodName).cls (⟨"HousePlans", "printAt", "(I)LHousePlans$Print;"⟩ : MethodName) (⟨"HousePlans", "printAt", "(I)LHousePlans$Print;"⟩ : MethodName) ∈ am_TG := am_inTG (List.mem_append_left _ (List.mem_of_getElem? (i := 24) (by decide +kernel))) rfl
theorem ts_25 : Cond.selects (⟨"HousePlansModel", "isDrawing", "(I)Z"⟩ : MethodName).cls (⟨"HousePlansModel", "isDrawing", "(I)Z"⟩ : MethodName) (⟨"HousePlansModel", "isDrawing", "(I)Z"⟩ : MethodName) ∈ am_TG := am_inTG (List.mem_append_left _ (List.mem_of_getElem? (i := 25) (by decide +kernel))) rfl
theorem ts_26 : Cond.selects (⟨"HousePlansModel", "changer", "(I)I"⟩ : MethodName).cls (⟨"HousePlansModel", "changer", "(I)I"⟩ : MethodName) (⟨"HousePlansModel", "changer", "(I)I"⟩ : MethodName) ∈ am_TG := am_inTG (List.mem_append_left _ (List.mem_of_getElem? (i := 26) (by decide +kernel))) rfl
theorem ts_27 : Cond.selects (⟨"HousePlansModel", "over", "(I)I"⟩ : MethodName).cls (⟨"HousePlansModel", "over", "(I)I"⟩ : MethodName) (⟨"HousePlansModel", "over", "(I)I"⟩ : MethodName) ∈ am_TG := am_inTG (List.mem_append_left _ (List.mem_of_getElem? (i := 27) (by decide +kernel))) rfl
theorem ts_28 : Cond.selects (⟨"HousePlansModel", "finds", "()V"⟩ : MethodName).cls (⟨"HousePlansModel", "finds", "()V"⟩ : MethodName) (⟨"HousePlansModel", "finds", "()V"⟩ : MethodName) ∈ am_TG := am_inTG (List.mem_append_left _ (List.mem_of_getElem? (i := 28) (by decide +kernel))) rfl
theorem ts_29 : Cond.selects (⟨"HousePlansModel", "found", "(II)I"⟩ : MethodName).cls (⟨"HousePlansModel", "found", "(II)I"⟩ : MethodName) (⟨"HousePlansModel", "found", "(II)I"⟩ : MethodName) ∈ am_TG := am_inTG (List.mem_append_left _ (List.mem_of_getElem? (i := 29) (by decide +kernel))) rfl
theorem ts_30 : Cond.selects (⟨"HousePlansModel", "asks", "(II)Z"⟩ : MethodName).cls (⟨"HousePlansModel", "asks", "(II)Z"⟩ : MethodName) (⟨"HousePlansModel", "asks", "(II)Z"⟩ : MethodName) ∈ am_TG := am_inTG (List.mem_append_left _ (List.mem_of_getElem? (i := 30) (by decide +kernel))) rfl
theorem ts_31 : Cond.selects (⟨"HousePlansModel", "looks", "(I)V"⟩ : MethodName).cls (⟨"HousePlansModel", "looks", "(I)V"⟩ : MethodName) (⟨"HousePlansModel", "looks", "(I)V"⟩ : MethodName) ∈ am_TG := am_inTG (List.mem_append_left _ (List.mem_of_getElem? (i := 31) (by decide +kernel))) rfl
theorem ts_32 : Cond.selects (⟨"HousePlansModel", "isJoined", "(III)Z"⟩ : MethodName).cls (⟨"HousePlansModel", "isJoined", "(III)Z"⟩ : MethodName) (⟨"HousePlansModel", "isJoined", "(III)Z"⟩ : MethodName) ∈ am_TG := am_inTG (List.mem_append_left _ (List.mem_of_getElem? (i := 32) (by decide +kernel))) rfl
theorem ts_33 : Cond.selects (⟨"HousePlansModel", "stands", "(I)Z"⟩ : MethodName).cls (⟨"HousePlansModel", "stands", "(I)Z"⟩ : MethodName) (⟨"HousePlansModel", "stands", "(I)Z"⟩ : MethodName) ∈ am_TG := am_inTG (List.mem_append_left _ (List.mem_of_getElem? (i := 33) (by decide +kernel))) rfl
theorem ts_34 : Cond.selects (⟨"HousePlansModel", "isPrint", "(I)Z"⟩ : MethodName).cls (⟨"HousePlansModel", "isPrint", "(I)Z"⟩ : MethodName) (⟨"HousePlansModel", "isPrint", "(I)Z"⟩ : MethodName) ∈ am_TG := am_inTG (List.mem_append_left _ (List.mem_of_getElem? (i := 34) (by decide +kernel))) rfl
theorem ts_35 : Cond.selects (⟨"HousePlansModel", "isOld", "(I)Z"⟩ : MethodName).cls (⟨"HousePlansModel", "isOld", "(I)Z"⟩ : MethodName) (⟨"HousePlansModel", "isOld", "(I)Z"⟩ : MethodName) ∈ am_TG := am_inTG (List.mem_append_left _ (List.mem_of_getElem? (i := 35) (by decide +kernel))) rfl
end
section
/-! ===== rows with a computed value by an equation ===== -/
theorem am_iaddE {Z : am_Z} {own : String} {cc : ByteArray} {n L mc ms : Nat} (hC : am_OK Z own cc n L mc ms) {kc ks pc : Nat} {ls st : List Value} {h : am_H} {x y z : Int32} (hd : decode cc pc = .ok (.iadd, 1)) (hz : x + y = z) (k : am_W Z kc ks (pc + 1) ls (.int z :: st) h) : am_W Z kc ks pc ls (.int y :: .int x :: st) h := am_iadd hC hd (by rw [hz]; exact k)
theorem am_isubE {Z : am_Z} {own : String} {cc : ByteArray} {n L mc ms : Nat} (hC : am_OK Z own cc n L mc ms) {kc ks pc : Nat} {ls st : List Value} {h : am_H} {x y z : Int32} (hd : decode cc pc = .ok (.isub, 1)) (hz : x - y = z) (k : am_W Z kc ks (pc + 1) ls (.int z :: st) h) : am_W Z kc ks pc ls (.int y :: .int x :: st) h := am_isub hC hd (by rw [hz]; exact k)
theorem am_imulE {Z : am_Z} {own : String} {cc : ByteArray} {n L mc ms : Nat} (hC : am_OK Z own cc n L mc ms) {kc ks pc : Nat} {ls st : List Value} {h : am_H} {x y z : Int32} (hd : decode cc pc = .ok (.imul, 1)) (hz : x * y = z) (k : am_W Z kc ks (pc + 1) ls (.int z :: st) h) : am_W Z kc ks pc ls (.int y :: .int x :: st) h := am_imul hC hd (by rw [hz]; exact k)
theorem am_iandE {Z : am_Z} {own : String} {cc : ByteArray} {n L mc ms : Nat} (hC : am_OK Z own cc n L mc ms) {kc ks pc : Nat} {ls st : List Value} {h : am_H} {x y z : Int32} (hd : decode cc pc = .ok (.iand, 1)) (hz : x &&& y = z) (k : am_W Z kc ks (pc + 1) ls (.int z :: st) h) : am_W Z kc ks pc ls (.int y :: .int x :: st) h := am_iand hC hd (by rw [hz]; exact k)
theorem am_iorE {Z : am_Z} {own : String} {cc : ByteArray} {n L mc ms : Nat} (hC : am_OK Z own cc n L mc ms) {kc ks pc : Nat} {ls st : List Value} {h : am_H} {x y z : Int32} (hd : decode cc pc = .ok (.ior, 1)) (hz : x ||| y = z) (k : am_W Z kc ks (pc + 1) ls (.int z :: st) h) : am_W Z kc ks pc ls (.int y :: .int x :: st) h := am_ior hC hd (by rw [hz]; exact k)
theorem am_ixorE {Z : am_Z} {own : String} {cc : ByteArray} {n L mc ms : Nat} (hC : am_OK Z own cc n L mc ms) {kc ks pc : Nat} {ls st : List Value} {h : am_H} {x y z : Int32} (hd : decode cc pc = .ok (.ixor, 1)) (hz : x ^^^ y = z) (k : am_W Z kc ks (pc + 1) ls (.int z :: st) h) : am_W Z kc ks pc ls (.int y :: .int x :: st) h := am_ixor hC hd (by rw [hz]; exact k)
theorem am_ishlE {Z : am_Z} {own : String} {cc : ByteArray} {n L mc ms : Nat} (hC : am_OK Z own cc n L mc ms) {kc ks pc : Nat} {ls st : List Value} {h : am_H} {x y z : Int32} (hd : decode cc pc = .ok (.ishl, 1)) (hz : x <<< (y &&& 31) = z) (k : am_W Z kc ks (pc + 1) ls (.int z :: st) h) : am_W Z kc ks pc ls (.int y :: .int x :: st) h := am_ishl hC hd (by rw [hz]; exact k)
theorem am_ishrE {Z : am_Z} {own : String} {cc : ByteArray} {n L mc ms : Nat} (hC : am_OK Z own cc n L mc ms) {kc ks pc : Nat} {ls st : List Value} {h : am_H} {x y z : Int32} (hd : decode cc pc = .ok (.ishr, 1)) (hz : x >>> (y &&& 31) = z) (k : am_W Z kc ks (pc + 1) ls (.int z :: st) h) : am_W Z kc ks pc ls (.int y :: .int x :: st) h := am_ishr hC hd (by rw [hz]; exact k)
theorem am_idivE {Z : am_Z} {own : String} {cc : ByteArray} {n L mc ms : Nat} (hC : am_OK Z own cc n L mc ms) {kc ks pc : Nat} {ls st : List Value} {h : am_H} {x y z : Int32} (hd : decode cc pc = .ok (.idiv, 1)) (hy : ¬ y = 0) (hz : x / y = z) (k : am_W Z kc ks (pc + 1) ls (.int z :: st) h) : am_W Z kc ks pc ls (.int y :: .int x :: st) h := am_idiv hC hd hy (by rw [hz]; exact k)
theorem am_iremE {Z : am_Z} {own : String} {cc : ByteArray} {n L mc ms : Nat} (hC : am_OK Z own cc n L mc ms) {kc ks pc : Nat} {ls st : List Value} {h : am_H} {x y z : Int32} (hd : decode cc pc = .ok (.irem, 1)) (hy : ¬ y = 0) (hz : x - x / y * y = z) (k : am_W Z kc ks (pc + 1) ls (.int z :: st) h) : am_W Z kc ks pc ls (.int y :: .int x :: st) h := am_irem hC hd hy (by rw [hz]; exact k)
theorem am_ialdE {Z : am_Z} {own : String} {cc : ByteArray} {n L mc ms : Nat} (hC : am_OK Z own cc n L mc ms) {kc ks pc : Nat} {ls st : List Value} {h : am_H} {r j N : Nat} {i v : Int32} (hkr : hk_ h r = 9) (hnr : hn_ h r = N) (hi : i = nI j) (hj : j < N) (hN : N < 2 ^ 31) (hd : decode cc pc = .ok (.iaload, 1)) (hv : hi_ h r j = v) (k : am_W Z kc ks (pc + 1) ls (.int v :: st) h) : am_W Z kc ks pc ls (.int i :: .ref r :: st) h := am_iald hC hkr hnr hi hj hN hd (by rw [hv]; exact k)
theorem am_zaldE {Z : am_Z} {own : String} {cc : ByteArray} {n L mc ms : Nat} (hC : am_OK Z own cc n L mc ms) {kc ks pc : Nat} {ls st : List Value} {h : am_H} {r j N : Nat} {i v : Int32} (hkr : hk_ h r = 10) (hnr : hn_ h r = N) (hi : i = nI j) (hj : j < N) (hN : N < 2 ^ 31) (hd : decode cc pc = .ok (.baload, 1)) (hv : hi_ h r j = v) (k : am_W Z kc ks (pc + 1) ls (.int v :: st) h) : am_W Z kc ks pc ls (.int i :: .ref r :: st) h := am_zald hC hkr hnr hi hj hN hd (by rw [hv]; exact k)
theorem am_aaldE {Z : am_Z} {own : String} {cc : ByteArray} {n L mc ms : Nat} (hC : am_OK Z own cc n L mc ms) {kc ks pc : Nat} {ls st : List Value} {h : am_H} {r j N kk : Nat} {i : Int32} {v : Value} (hkk : kk = 11 ∨ kk = 12) (hkr : hk_ h r = kk) (hnr : hn_ h r = N) (hi : i = nI j) (hj : j < N) (hN : N < 2 ^ 31) (hd : decode cc pc = .ok (.aaload, 1)) (hv : Value.ref (hr_ h r j) = v) (k : am_W Z kc ks (pc + 1) ls (v :: st) h) : am_W Z kc ks pc ls (.int i :: .ref r :: st) h := am_aald hC hkk hkr hnr hi hj hN hd (by rw [hv]; exact k)
theorem am_rfe {a b : Nat} (h : a = b) : Value.ref a = Value.ref b := by rw [h]
theorem am_tr {Z : am_Z} {own : String} {cc : ByteArray} {n L mc ms : Nat} (hC : am_OK Z own cc n L mc ms) : Z.2.2.1.stackTraces = false := hC.2.2.2.2.1
theorem mf_X5_init : am_mI yX5_init cX5_init 1 0 := ⟨rfl, tw_26, tw_1, tw_27, ⟨by decide +kernel, by decide +kernel, by decide +kernel⟩⟩
theorem mf_X5_begin : am_mV yX5_begin cX5_begin 2 (some .int) 0 := ⟨tw_164, tw_165, tw_1, tw_166, ⟨by decide +kernel, by decide +kernel, by decide +kernel⟩⟩
theorem mf_X5_canChange : am_mV yX5_canChange cX5_canChange 2 (some .int) 1 := ⟨tw_547, tw_548, tw_1, tw_549, ⟨by decide +kernel, by decide +kernel, by decide +kernel⟩⟩
theorem mf_X5_doorThatHelps : am_mV yX5_doorThatHelps cX5_doorThatHelps 4 (some .int) 2 := ⟨tw_504, tw_505, tw_1, tw_506, ⟨by decide +kernel, by decide +kernel, by decide +kernel⟩⟩
theorem mf_X5_doorsOut : am_mV yX5_doorsOut cX5_doorsOut 4 (some .int) 2 := ⟨tw_497, tw_498, tw_1, tw_499, ⟨by decide +kernel, by decide +kernel, by decide +kernel⟩⟩
theorem mf_X5_drawingAt : am_mV yX5_drawingAt cX5_drawingAt 2 (some (.object "HousePlans$Drawing")) 1 := ⟨tw_335, ts_8, tw_1, tw_336, ⟨by decide +kernel, by decide +kernel, by decide +kernel⟩⟩
theorem mf_X5_drawings : am_mV yX5_drawings cX5_drawings 1 (some .int) 0 := ⟨tw_109, tw_110, tw_1, tw_111, ⟨by decide +kernel, by decide +kernel, by decide +kernel⟩⟩
theorem mf_X5_firstCell : am_mS yX5_firstCell cX5_firstCell 1 (some .int) 1 := ⟨tw_447, tw_1, tw_448, ⟨by decide +kernel, by decide +kernel, by decide +kernel⟩⟩
theorem mf_X5_grant : am_mV yX5_grant cX5_grant 4 (some .int) 1 := ⟨tw_554, tw_555, tw_1, tw_556, ⟨by decide +kernel, by decide +kernel, by decide +kernel⟩⟩
theorem mf_X5_hasExit : am_mV yX5_hasExit cX5_hasExit 4 (some .boolean) 2 := ⟨tw_423, tw_424, tw_1, tw_425, ⟨by decide +kernel, by decide +kernel, by decide +kernel⟩⟩
theorem mf_X5_highestPermit : am_mV yX5_highestPermit cX5_highestPermit 4 (some .int) 1 := ⟨tw_603, ts_23, tw_1, tw_604, ⟨by decide +kernel, by decide +kernel, by decide +kernel⟩⟩
theorem mf_X5_holds : am_mV yX5_holds cX5_holds 2 (some .boolean) 1 := ⟨tw_584, tw_585, tw_1, tw_586, ⟨by decide +kernel, by decide +kernel, by decide +kernel⟩⟩
theorem mf_X5_isGood : am_mV yX5_isGood cX5_isGood 3 (some .boolean) 1 := ⟨tw_639, tw_640, tw_1, tw_641, ⟨by decide +kernel, by decide +kernel, by decide +kernel⟩⟩
theorem mf_X5_lend : am_mV yX5_lend cX5_lend 6 (some .int) 3 := ⟨tw_539, tw_540, tw_1, tw_541, ⟨by decide +kernel, by decide +kernel, by decide +kernel⟩⟩
theorem mf_X5_lock : am_mV yX5_lock cX5_lock 4 none 2 := ⟨tw_519, tw_520, tw_1, tw_521, ⟨by decide +kernel, by decide +kernel, by decide +kernel⟩⟩
theorem mf_X5_needCell : am_mS yX5_needCell cX5_needCell 1 none 1 := ⟨tw_393, tw_1, tw_394, ⟨by decide +kernel, by decide +kernel, by decide +kernel⟩⟩
theorem mf_X5_needChanger : am_mS yX5_needChanger cX5_needChanger 2 none 2 := ⟨tw_378, tw_1, tw_379, ⟨by decide +kernel, by decide +kernel, by decide +kernel⟩⟩
theorem mf_X5_needLocker : am_mS yX5_needLocker cX5_needLocker 2 none 2 := ⟨tw_531, tw_1, tw_532, ⟨by decide +kernel, by decide +kernel, by decide +kernel⟩⟩
theorem mf_X5_needPerson : am_mS yX5_needPerson cX5_needPerson 1 none 1 := ⟨tw_354, tw_1, tw_355, ⟨by decide +kernel, by decide +kernel, by decide +kernel⟩⟩
theorem mf_X5_needSide : am_mS yX5_needSide cX5_needSide 1 none 1 := ⟨tw_373, tw_1, tw_374, ⟨by decide +kernel, by decide +kernel, by decide +kernel⟩⟩
theorem mf_X5_old : am_mV yX5_old cX5_old 3 (some .int) 0 := ⟨tw_117, tw_118, tw_1, tw_119, ⟨by decide +kernel, by decide +kernel, by decide +kernel⟩⟩
theorem mf_X5_permitOf : am_mV yX5_permitOf cX5_permitOf 2 (some .int) 1 := ⟨tw_627, tw_628, tw_1, tw_629, ⟨by decide +kernel, by decide +kernel, by decide +kernel⟩⟩
theorem mf_X5_print : am_mV yX5_print cX5_print 4 (some .int) 1 := ⟨tw_597, tw_598, tw_1, tw_599, ⟨by decide +kernel, by decide +kernel, by decide +kernel⟩⟩
theorem mf_X5_printAt : am_mV yX5_printAt cX5_printAt 2 (some (.object "HousePlans$Print")) 1 := ⟨tw_632, ts_24, tw_1, tw_633, ⟨by decide +kernel, by decide +kernel, by decide +kernel⟩⟩
theorem mf_X5_refer : am_mV yX5_refer cX5_refer 8 (some .boolean) 4 := ⟨tw_400, tw_401, tw_1, tw_402, ⟨by decide +kernel, by decide +kernel, by decide +kernel⟩⟩
theorem mf_X5_room : am_mV yX5_room cX5_room 4 (some .int) 2 := ⟨tw_479, tw_480, tw_1, tw_481, ⟨by decide +kernel, by decide +kernel, by decide +kernel⟩⟩
theorem mf_X5_rooms : am_mV yX5_rooms cX5_rooms 2 (some .int) 1 := ⟨tw_431, tw_432, tw_1, tw_433, ⟨by decide +kernel, by decide +kernel, by decide +kernel⟩⟩
theorem mf_X5_secondCell : am_mS yX5_secondCell cX5_secondCell 1 (some .int) 1 := ⟨tw_450, tw_1, tw_451, ⟨by decide +kernel, by decide +kernel, by decide +kernel⟩⟩
theorem mf_X5_setExit : am_mV yX5_setExit cX5_setExit 7 (some .boolean) 4 := ⟨tw_389, tw_390, tw_1, tw_391, ⟨by decide +kernel, by decide +kernel, by decide +kernel⟩⟩
theorem mf_X5_side : am_mV yX5_side cX5_side 4 (some .int) 2 := ⟨tw_415, tw_416, tw_1, tw_417, ⟨by decide +kernel, by decide +kernel, by decide +kernel⟩⟩
theorem mf_X5_size : am_mV yX5_size cX5_size 4 (some .int) 2 := ⟨tw_486, tw_487, tw_1, tw_488, ⟨by decide +kernel, by decide +kernel, by decide +kernel⟩⟩
theorem mf_X5_tell : am_mV yX5_tell cX5_tell 7 (some .int) 4 := ⟨tw_330, tw_331, tw_1, tw_332, ⟨by decide +kernel, by decide +kernel, by decide +kernel⟩⟩
theorem mf_X5_unlock : am_mV yX5_unlock cX5_unlock 4 none 2 := ⟨tw_527, tw_528, tw_1, tw_529, ⟨by decide +kernel, by decide +kernel, by decide +kernel⟩⟩
theorem mf_X0_init : am_mI yX0_init cX0_init 1 0 := ⟨rfl, tw_237, tw_12, tw_238, ⟨by decide +kernel, by decide +kernel, by decide +kernel⟩⟩
theorem mf_X0_changer : am_mV yX0_changer cX0_changer 1 (some .int) 0 := ⟨tw_382, ts_9, tw_12, tw_383, ⟨by decide +kernel, by decide +kernel, by decide +kernel⟩⟩
theorem mf_X0_exitIn : am_mS yX0_exitIn cX0_exitIn 7 (some .boolean) 3 := ⟨tw_157, tw_12, tw_158, ⟨by decide +kernel, by decide +kernel, by decide +kernel⟩⟩
theorem mf_X0_exitNow : am_mV yX0_exitNow cX0_exitNow 2 (some .boolean) 1 := ⟨tw_154, ts_3, tw_12, tw_155, ⟨by decide +kernel, by decide +kernel, by decide +kernel⟩⟩
theorem mf_X0_leads : am_mS yX0_leads cX0_leads 7 (some .boolean) 3 := ⟨tw_408, tw_12, tw_409, ⟨by decide +kernel, by decide +kernel, by decide +kernel⟩⟩
theorem mf_X0_leadsTo : am_mV yX0_leadsTo cX0_leadsTo 2 (some .boolean) 1 := ⟨tw_405, ts_10, tw_12, tw_406, ⟨by decide +kernel, by decide +kernel, by decide +kernel⟩⟩
theorem mf_X0_sideIn : am_mS yX0_sideIn cX0_sideIn 8 (some .int) 3 := ⟨tw_150, tw_12, tw_151, ⟨by decide +kernel, by decide +kernel, by decide +kernel⟩⟩
theorem mf_X0_sideNow : am_mV yX0_sideNow cX0_sideNow 2 (some .int) 1 := ⟨tw_146, ts_2, tw_12, tw_148, ⟨by decide +kernel, by decide +kernel, by decide +kernel⟩⟩
theorem mf_X1_init : am_mI yX1_init cX1_init 1 0 := ⟨rfl, tw_60, tw_5, tw_61, ⟨by decide +kernel, by decide +kernel, by decide +kernel⟩⟩
theorem mf_X1_countCells : am_mV yX1_countCells cX1_countCells 4 (some .int) 1 := ⟨tw_491, ts_18, tw_5, tw_492, ⟨by decide +kernel, by decide +kernel, by decide +kernel⟩⟩
theorem mf_X1_countRooms : am_mV yX1_countRooms cX1_countRooms 3 (some .int) 0 := ⟨tw_473, ts_17, tw_5, tw_474, ⟨by decide +kernel, by decide +kernel, by decide +kernel⟩⟩
theorem mf_X1_everyRoomHasWayOut : am_mV yX1_everyRoomHasWayOut cX1_everyRoomHasWayOut 2 (some .boolean) 0 := ⟨tw_560, ts_21, tw_5, tw_561, ⟨by decide +kernel, by decide +kernel, by decide +kernel⟩⟩
theorem mf_X1_findRooms : am_mV yX1_findRooms cX1_findRooms 2 none 0 := ⟨tw_444, ts_13, tw_5, tw_445, ⟨by decide +kernel, by decide +kernel, by decide +kernel⟩⟩
theorem mf_X1_findWaysOut : am_mV yX1_findWaysOut cX1_findWaysOut 2 none 0 := ⟨tw_461, ts_15, tw_5, tw_462, ⟨by decide +kernel, by decide +kernel, by decide +kernel⟩⟩
theorem mf_X1_goThrough : am_mS yX1_goThrough cX1_goThrough 4 (some .boolean) 4 := ⟨tw_469, tw_5, tw_470, ⟨by decide +kernel, by decide +kernel, by decide +kernel⟩⟩
theorem mf_X1_goThroughDoors : am_mV yX1_goThroughDoors cX1_goThroughDoors 7 none 1 := ⟨tw_466, ts_16, tw_5, tw_467, ⟨by decide +kernel, by decide +kernel, by decide +kernel⟩⟩
theorem mf_X1_join : am_mV yX1_join cX1_join 6 none 2 := ⟨tw_455, ts_14, tw_5, tw_456, ⟨by decide +kernel, by decide +kernel, by decide +kernel⟩⟩
theorem mf_X1_leadsOut : am_mV yX1_leadsOut cX1_leadsOut 3 (some .boolean) 2 := ⟨tw_513, ts_20, tw_5, tw_514, ⟨by decide +kernel, by decide +kernel, by decide +kernel⟩⟩
theorem mf_X1_lookAt : am_mV yX1_lookAt cX1_lookAt 2 none 1 := ⟨tw_436, ts_11, tw_5, tw_437, ⟨by decide +kernel, by decide +kernel, by decide +kernel⟩⟩
theorem mf_X1_wallThatHelps : am_mV yX1_wallThatHelps cX1_wallThatHelps 5 (some .int) 1 := ⟨tw_509, ts_19, tw_5, tw_510, ⟨by decide +kernel, by decide +kernel, by decide +kernel⟩⟩
theorem mf_X2_init : am_mI yX2_init cX2_init 2 1 := ⟨rfl, tw_566, tw_21, tw_567, ⟨by decide +kernel, by decide +kernel, by decide +kernel⟩⟩
theorem mf_X2_isValid : am_mV yX2_isValid cX2_isValid 1 (some .boolean) 0 := ⟨tw_590, ts_22, tw_21, tw_591, ⟨by decide +kernel, by decide +kernel, by decide +kernel⟩⟩
theorem mf_X3_init : am_mI yX3_init cX3_init 3 2 := ⟨rfl, tw_606, tw_22, tw_607, ⟨by decide +kernel, by decide +kernel, by decide +kernel⟩⟩
theorem mf_X3_isOld : am_mV yX3_isOld cX3_isOld 1 (some .boolean) 0 := ⟨tw_137, ts_0, tw_22, tw_139, ⟨by decide +kernel, by decide +kernel, by decide +kernel⟩⟩
theorem mf_X4_init : am_mI yX4_init cX4_init 1 0 := ⟨rfl, tw_66, tw_6, tw_67, ⟨by decide +kernel, by decide +kernel, by decide +kernel⟩⟩
theorem mf_X4_isThatOf : am_mV yX4_isThatOf cX4_isThatOf 3 (some .boolean) 1 := ⟨tw_142, ts_1, tw_6, tw_143, ⟨by decide +kernel, by decide +kernel, by decide +kernel⟩⟩
theorem mf_X4_takeFrom : am_mV yX4_takeFrom cX4_takeFrom 3 none 1 := ⟨tw_440, ts_12, tw_6, tw_441, ⟨by decide +kernel, by decide +kernel, by decide +kernel⟩⟩
theorem mf_L_begin : am_mW yL_begin cL_begin 3 (some .int) [((0 : Nat), (8 : Nat), (11 : Nat), (13 : Nat))] 2 := ⟨tw_160, tw_0, tw_161, ⟨by decide +kernel, by decide +kernel, by decide +kernel⟩⟩
theorem mf_L_canChange : am_mW yL_canChange cL_canChange 4 (some .int) [((0 : Nat), (9 : Nat), (12 : Nat), (19 : Nat))] 3 := ⟨tw_544, tw_0, tw_545, ⟨by decide +kernel, by decide +kernel, by decide +kernel⟩⟩
theorem mf_L_doorThatHelps : am_mW yL_doorThatHelps cL_doorThatHelps 5 (some .int) [((0 : Nat), (10 : Nat), (13 : Nat), (19 : Nat)), ((0 : Nat), (10 : Nat), (17 : Nat), (21 : Nat))] 4 := ⟨tw_501, tw_0, tw_502, ⟨by decide +kernel, by decide +kernel, by decide +kernel⟩⟩
theorem mf_L_doorsOut : am_mW yL_doorsOut cL_doorsOut 5 (some .int) [((0 : Nat), (10 : Nat), (13 : Nat), (19 : Nat)), ((0 : Nat), (10 : Nat), (17 : Nat), (21 : Nat))] 4 := ⟨tw_494, tw_0, tw_495, ⟨by decide +kernel, by decide +kernel, by decide +kernel⟩⟩
theorem mf_L_grant : am_mW yL_grant cL_grant 4 (some .int) [((0 : Nat), (9 : Nat), (12 : Nat), (19 : Nat)), ((0 : Nat), (9 : Nat), (15 : Nat), (13 : Nat))] 3 := ⟨tw_551, tw_0, tw_552, ⟨by decide +kernel, by decide +kernel, by decide +kernel⟩⟩
theorem mf_L_hasExit : am_mW yL_hasExit cL_hasExit 5 (some .int) [((0 : Nat), (17 : Nat), (20 : Nat), (19 : Nat)), ((0 : Nat), (17 : Nat), (24 : Nat), (21 : Nat))] 4 := ⟨tw_420, tw_0, tw_421, ⟨by decide +kernel, by decide +kernel, by decide +kernel⟩⟩
theorem mf_L_holds : am_mW yL_holds cL_holds 4 (some .int) [((0 : Nat), (16 : Nat), (19 : Nat), (19 : Nat))] 3 := ⟨tw_581, tw_0, tw_582, ⟨by decide +kernel, by decide +kernel, by decide +kernel⟩⟩
theorem mf_L_isGood : am_mW yL_isGood cL_isGood 4 (some .int) [((0 : Nat), (16 : Nat), (19 : Nat), (19 : Nat))] 3 := ⟨tw_636, tw_0, tw_637, ⟨by decide +kernel, by decide +kernel, by decide +kernel⟩⟩
theorem mf_L_lend : am_mW yL_lend cL_lend 6 (some .int) [((0 : Nat), (12 : Nat), (15 : Nat), (19 : Nat)), ((0 : Nat), (12 : Nat), (19 : Nat), (21 : Nat)), ((0 : Nat), (12 : Nat), (23 : Nat), (13 : Nat))] 5 := ⟨tw_536, tw_0, tw_537, ⟨by decide +kernel, by decide +kernel, by decide +kernel⟩⟩
theorem mf_L_lock : am_mW yL_lock cL_lock 4 (some .int) [((0 : Nat), (6 : Nat), (9 : Nat), (19 : Nat)), ((0 : Nat), (6 : Nat), (12 : Nat), (21 : Nat)), ((0 : Nat), (6 : Nat), (15 : Nat), (13 : Nat))] 3 := ⟨tw_516, tw_0, tw_517, ⟨by decide +kernel, by decide +kernel, by decide +kernel⟩⟩
theorem mf_L_permitOf : am_mW yL_permitOf cL_permitOf 4 (some .int) [((0 : Nat), (9 : Nat), (12 : Nat), (19 : Nat))] 3 := ⟨tw_624, tw_0, tw_625, ⟨by decide +kernel, by decide +kernel, by decide +kernel⟩⟩
theorem mf_L_print : am_mW yL_print cL_print 4 (some .int) [((0 : Nat), (9 : Nat), (12 : Nat), (19 : Nat)), ((0 : Nat), (9 : Nat), (15 : Nat), (13 : Nat))] 3 := ⟨tw_594, tw_0, tw_595, ⟨by decide +kernel, by decide +kernel, by decide +kernel⟩⟩
theorem mf_L_refer : am_mW yL_refer cL_refer 7 (some .int) [((0 : Nat), (21 : Nat), (24 : Nat), (19 : Nat)), ((0 : Nat), (21 : Nat), (28 : Nat), (21 : Nat)), ((0 : Nat), (21 : Nat), (32 : Nat), (13 : Nat))] 6 := ⟨tw_397, tw_0, tw_398, ⟨by decide +kernel, by decide +kernel, by decide +kernel⟩⟩
theorem mf_L_room : am_mW yL_room cL_room 5 (some .int) [((0 : Nat), (10 : Nat), (13 : Nat), (19 : Nat)), ((0 : Nat), (10 : Nat), (17 : Nat), (21 : Nat))] 4 := ⟨tw_476, tw_0, tw_477, ⟨by decide +kernel, by decide +kernel, by decide +kernel⟩⟩
theorem mf_L_rooms : am_mW yL_rooms cL_rooms 4 (some .int) [((0 : Nat), (9 : Nat), (12 : Nat), (19 : Nat))] 3 := ⟨tw_428, tw_0, tw_429, ⟨by decide +kernel, by decide +kernel, by decide +kernel⟩⟩
theorem mf_L_setExit : am_mW yL_setExit cL_setExit 7 (some .int) [((0 : Nat), (21 : Nat), (24 : Nat), (19 : Nat)), ((0 : Nat), (21 : Nat), (28 : Nat), (21 : Nat)), ((0 : Nat), (21 : Nat), (32 : Nat), (13 : Nat))] 6 := ⟨tw_386, tw_0, tw_387, ⟨by decide +kernel, by decide +kernel, by decide +kernel⟩⟩
theorem mf_L_side : am_mW yL_side cL_side 5 (some .int) [((0 : Nat), (10 : Nat), (13 : Nat), (19 : Nat)), ((0 : Nat), (10 : Nat), (17 : Nat), (21 : Nat))] 4 := ⟨tw_412, tw_0, tw_413, ⟨by decide +kernel, by decide +kernel, by decide +kernel⟩⟩
theorem mf_L_size : am_mW yL_size cL_size 5 (some .int) [((0 : Nat), (10 : Nat), (13 : Nat), (19 : Nat)), ((0 : Nat), (10 : Nat), (17 : Nat), (21 : Nat))] 4 := ⟨tw_483, tw_0, tw_484, ⟨by decide +kernel, by decide +kernel, by decide +kernel⟩⟩
theorem mf_L_tell : am_mW yL_tell cL_tell 7 (some .int) [((0 : Nat), (14 : Nat), (17 : Nat), (19 : Nat)), ((0 : Nat), (14 : Nat), (21 : Nat), (21 : Nat)), ((0 : Nat), (14 : Nat), (25 : Nat), (13 : Nat))] 6 := ⟨tw_325, tw_0, tw_326, ⟨by decide +kernel, by decide +kernel, by decide +kernel⟩⟩
theorem mf_L_unlock : am_mW yL_unlock cL_unlock 4 (some .int) [((0 : Nat), (6 : Nat), (9 : Nat), (19 : Nat)), ((0 : Nat), (6 : Nat), (12 : Nat), (21 : Nat)), ((0 : Nat), (6 : Nat), (15 : Nat), (13 : Nat))] 3 := ⟨tw_524, tw_0, tw_525, ⟨by decide +kernel, by decide +kernel, by decide +kernel⟩⟩
theorem mf_X6_init : am_mI yX6_init cX6_init 1 0 := ⟨rfl, tw_645, tw_7, tw_646, ⟨by decide +kernel, by decide +kernel, by decide +kernel⟩⟩
theorem mf_X6_asks : am_mV yX6_asks cX6_asks 3 (some .boolean) 2 := ⟨tw_772, ts_30, tw_7, tw_773, ⟨by decide +kernel, by decide +kernel, by decide +kernel⟩⟩
theorem mf_X6_begin : am_mV yX6_begin cX6_begin 2 (some .int) 0 := ⟨tw_714, tw_715, tw_7, tw_716, ⟨by decide +kernel, by decide +kernel, by decide +kernel⟩⟩
theorem mf_X6_canChange : am_mV yX6_canChange cX6_canChange 2 (some .int) 1 := ⟨tw_821, tw_822, tw_7, tw_823, ⟨by decide +kernel, by decide +kernel, by decide +kernel⟩⟩
theorem mf_X6_changer : am_mV yX6_changer cX6_changer 2 (some .int) 1 := ⟨tw_733, ts_26, tw_7, tw_734, ⟨by decide +kernel, by decide +kernel, by decide +kernel⟩⟩
theorem mf_X6_doorThatHelps : am_mV yX6_doorThatHelps cX6_doorThatHelps 8 (some .int) 2 := ⟨tw_801, tw_802, tw_7, tw_803, ⟨by decide +kernel, by decide +kernel, by decide +kernel⟩⟩
theorem mf_X6_doorsOut : am_mV yX6_doorsOut cX6_doorsOut 4 (some .int) 2 := ⟨tw_797, tw_798, tw_7, tw_799, ⟨by decide +kernel, by decide +kernel, by decide +kernel⟩⟩
theorem mf_X6_drawings : am_mV yX6_drawings cX6_drawings 1 (some .int) 0 := ⟨tw_751, tw_752, tw_7, tw_753, ⟨by decide +kernel, by decide +kernel, by decide +kernel⟩⟩
theorem mf_X6_finds : am_mV yX6_finds cX6_finds 4 none 0 := ⟨tw_760, ts_28, tw_7, tw_761, ⟨by decide +kernel, by decide +kernel, by decide +kernel⟩⟩
theorem mf_X6_found : am_mV yX6_found cX6_found 5 (some .int) 2 := ⟨tw_764, ts_29, tw_7, tw_765, ⟨by decide +kernel, by decide +kernel, by decide +kernel⟩⟩
theorem mf_X6_grant : am_mV yX6_grant cX6_grant 4 (some .int) 1 := ⟨tw_825, tw_826, tw_7, tw_827, ⟨by decide +kernel, by decide +kernel, by decide +kernel⟩⟩
theorem mf_X6_hasExit : am_mV yX6_hasExit cX6_hasExit 3 (some .boolean) 2 := ⟨tw_767, tw_768, tw_7, tw_769, ⟨by decide +kernel, by decide +kernel, by decide +kernel⟩⟩
theorem mf_X6_high : am_mS yX6_high cX6_high 1 (some .int) 1 := ⟨tw_782, tw_7, tw_783, ⟨by decide +kernel, by decide +kernel, by decide +kernel⟩⟩
theorem mf_X6_holds : am_mV yX6_holds cX6_holds 2 (some .boolean) 1 := ⟨tw_829, tw_830, tw_7, tw_831, ⟨by decide +kernel, by decide +kernel, by decide +kernel⟩⟩
theorem mf_X6_isCell : am_mS yX6_isCell cX6_isCell 1 (some .boolean) 1 := ⟨tw_740, tw_7, tw_741, ⟨by decide +kernel, by decide +kernel, by decide +kernel⟩⟩
theorem mf_X6_isDrawing : am_mV yX6_isDrawing cX6_isDrawing 2 (some .boolean) 1 := ⟨tw_729, ts_25, tw_7, tw_730, ⟨by decide +kernel, by decide +kernel, by decide +kernel⟩⟩
theorem mf_X6_isGood : am_mV yX6_isGood cX6_isGood 2 (some .boolean) 1 := ⟨tw_849, tw_850, tw_7, tw_851, ⟨by decide +kernel, by decide +kernel, by decide +kernel⟩⟩
theorem mf_X6_isIn : am_mS yX6_isIn cX6_isIn 3 (some .boolean) 3 := ⟨tw_725, tw_7, tw_726, ⟨by decide +kernel, by decide +kernel, by decide +kernel⟩⟩
theorem mf_X6_isJoined : am_mV yX6_isJoined cX6_isJoined 8 (some .boolean) 3 := ⟨tw_806, ts_32, tw_7, tw_807, ⟨by decide +kernel, by decide +kernel, by decide +kernel⟩⟩
theorem mf_X6_isOld : am_mV yX6_isOld cX6_isOld 5 (some .boolean) 1 := ⟨tw_854, ts_35, tw_7, tw_855, ⟨by decide +kernel, by decide +kernel, by decide +kernel⟩⟩
theorem mf_X6_isPerson : am_mS yX6_isPerson cX6_isPerson 1 (some .boolean) 1 := ⟨tw_722, tw_7, tw_723, ⟨by decide +kernel, by decide +kernel, by decide +kernel⟩⟩
theorem mf_X6_isPrint : am_mV yX6_isPrint cX6_isPrint 2 (some .boolean) 1 := ⟨tw_846, ts_34, tw_7, tw_847, ⟨by decide +kernel, by decide +kernel, by decide +kernel⟩⟩
theorem mf_X6_lend : am_mV yX6_lend cX6_lend 6 (some .int) 3 := ⟨tw_817, tw_818, tw_7, tw_819, ⟨by decide +kernel, by decide +kernel, by decide +kernel⟩⟩
theorem mf_X6_lock : am_mV yX6_lock cX6_lock 3 none 2 := ⟨tw_809, tw_810, tw_7, tw_811, ⟨by decide +kernel, by decide +kernel, by decide +kernel⟩⟩
theorem mf_X6_looks : am_mV yX6_looks cX6_looks 6 none 1 := ⟨tw_776, ts_31, tw_7, tw_777, ⟨by decide +kernel, by decide +kernel, by decide +kernel⟩⟩
theorem mf_X6_low : am_mS yX6_low cX6_low 1 (some .int) 1 := ⟨tw_779, tw_7, tw_780, ⟨by decide +kernel, by decide +kernel, by decide +kernel⟩⟩
theorem mf_X6_old : am_mV yX6_old cX6_old 3 (some .int) 0 := ⟨tw_857, tw_858, tw_7, tw_859, ⟨by decide +kernel, by decide +kernel, by decide +kernel⟩⟩
theorem mf_X6_over : am_mV yX6_over cX6_over 5 (some .int) 1 := ⟨tw_748, ts_27, tw_7, tw_749, ⟨by decide +kernel, by decide +kernel, by decide +kernel⟩⟩
theorem mf_X6_permitOf : am_mV yX6_permitOf cX6_permitOf 2 (some .int) 1 := ⟨tw_841, tw_842, tw_7, tw_843, ⟨by decide +kernel, by decide +kernel, by decide +kernel⟩⟩
theorem mf_X6_print : am_mV yX6_print cX6_print 3 (some .int) 1 := ⟨tw_837, tw_838, tw_7, tw_839, ⟨by decide +kernel, by decide +kernel, by decide +kernel⟩⟩
theorem mf_X6_refer : am_mV yX6_refer cX6_refer 7 (some .boolean) 4 := ⟨tw_743, tw_744, tw_7, tw_745, ⟨by decide +kernel, by decide +kernel, by decide +kernel⟩⟩
theorem mf_X6_room : am_mV yX6_room cX6_room 3 (some .int) 2 := ⟨tw_789, tw_790, tw_7, tw_791, ⟨by decide +kernel, by decide +kernel, by decide +kernel⟩⟩
theorem mf_X6_rooms : am_mV yX6_rooms cX6_rooms 5 (some .int) 1 := ⟨tw_785, tw_786, tw_7, tw_787, ⟨by decide +kernel, by decide +kernel, by decide +kernel⟩⟩
theorem mf_X6_setExit : am_mV yX6_setExit cX6_setExit 7 (some .boolean) 4 := ⟨tw_736, tw_737, tw_7, tw_738, ⟨by decide +kernel, by decide +kernel, by decide +kernel⟩⟩
theorem mf_X6_side : am_mV yX6_side cX6_side 3 (some .int) 2 := ⟨tw_755, tw_756, tw_7, tw_757, ⟨by decide +kernel, by decide +kernel, by decide +kernel⟩⟩
theorem mf_X6_size : am_mV yX6_size cX6_size 6 (some .int) 2 := ⟨tw_793, tw_794, tw_7, tw_795, ⟨by decide +kernel, by decide +kernel, by decide +kernel⟩⟩
theorem mf_X6_stands : am_mV yX6_stands cX6_stands 5 (some .boolean) 1 := ⟨tw_834, ts_33, tw_7, tw_835, ⟨by decide +kernel, by decide +kernel, by decide +kernel⟩⟩
theorem mf_X6_tell : am_mV yX6_tell cX6_tell 7 (some .int) 4 := ⟨tw_718, tw_719, tw_7, tw_720, ⟨by decide +kernel, by decide +kernel, by decide +kernel⟩⟩
theorem mf_X6_thrown : am_mV yX6_thrown cX6_thrown 1 (some .int) 0 := ⟨tw_710, tw_711, tw_7, tw_712, ⟨by decide +kernel, by decide +kernel, by decide +kernel⟩⟩
theorem mf_X6_unlock : am_mV yX6_unlock cX6_unlock 3 none 2 := ⟨tw_813, tw_814, tw_7, tw_815, ⟨by decide +kernel, by decide +kernel, by decide +kernel⟩⟩
theorem mf_Jxa1e45_init_da8c8 : am_mI yJxa1e45_init_da8c8 cJxa1e45_init_da8c8 1 0 := ⟨rfl, tw_40, tw_2, tw_41, ⟨by decide +kernel, by decide +kernel, by decide +kernel⟩⟩
theorem mf_Jxc12de_init_da8c8 : am_mI yJxc12de_init_da8c8 cJxc12de_init_da8c8 1 0 := ⟨rfl, tw_37, tw_3, tw_38, ⟨by decide +kernel, by decide +kernel, by decide +kernel⟩⟩
theorem mf_Jx4a65c_init_da8c8 : am_mI yJx4a65c_init_da8c8 cJx4a65c_init_da8c8 1 0 := ⟨rfl, tw_34, tw_4, tw_35, ⟨by decide +kernel, by decide +kernel, by decide +kernel⟩⟩
theorem mf_Jx4a65c_add_9ea2d : am_mV yJx4a65c_add_9ea2d cJx4a65c_add_9ea2d 2 (some .boolean) 1 := ⟨tw_267, tw_268, tw_4, tw_269, ⟨by decide +kernel, by decide +kernel, by decide +kernel⟩⟩
theorem mf_Jx4a65c_add_72be8 : am_mV yJx4a65c_add_72be8 cJx4a65c_add_72be8 4 none 3 := ⟨tw_272, ts_5, tw_4, tw_273, ⟨by decide +kernel, by decide +kernel, by decide +kernel⟩⟩
theorem mf_Jx4a65c_elementData_915e3 : am_mV yJx4a65c_elementData_915e3 cJx4a65c_elementData_915e3 2 (some (.object "java/lang/Object")) 1 := ⟨tw_131, tw_132, tw_4, tw_133, ⟨by decide +kernel, by decide +kernel, by decide +kernel⟩⟩
theorem mf_Jx4a65c_get_915e3 : am_mV yJx4a65c_get_915e3 cJx4a65c_get_915e3 2 (some (.object "java/lang/Object")) 1 := ⟨tw_121, tw_122, tw_4, tw_123, ⟨by decide +kernel, by decide +kernel, by decide +kernel⟩⟩
theorem mf_Jx4a65c_grow_d5877 : am_mV yJx4a65c_grow_d5877 cJx4a65c_grow_d5877 1 (some (.array (.object "java/lang/Object"))) 0 := ⟨tw_276, ts_6, tw_4, tw_277, ⟨by decide +kernel, by decide +kernel, by decide +kernel⟩⟩
theorem mf_Jx4a65c_grow_92f84 : am_mV yJx4a65c_grow_92f84 cJx4a65c_grow_92f84 4 (some (.array (.object "java/lang/Object"))) 1 := ⟨tw_280, ts_7, tw_4, tw_281, ⟨by decide +kernel, by decide +kernel, by decide +kernel⟩⟩
theorem mf_Jx4a65c_size_8abf5 : am_mV yJx4a65c_size_8abf5 cJx4a65c_size_8abf5 1 (some .int) 0 := ⟨tw_113, tw_114, tw_4, tw_115, ⟨by decide +kernel, by decide +kernel, by decide +kernel⟩⟩
theorem mf_J7_copyOf_1904c : am_mS yJ7_copyOf_1904c cJ7_copyOf_1904c 2 (some (.array (.object "java/lang/Object"))) 2 := ⟨tw_293, tw_13, tw_294, ⟨by decide +kernel, by decide +kernel, by decide +kernel⟩⟩
theorem mf_J7_copyOf_6403c : am_mS yJ7_copyOf_6403c cJ7_copyOf_6403c 4 (some (.array (.object "java/lang/Object"))) 3 := ⟨tw_311, tw_13, tw_312, ⟨by decide +kernel, by decide +kernel, by decide +kernel⟩⟩
theorem mf_J7_fill_53178 : am_mS yJ7_fill_53178 cJ7_fill_53178 4 none 2 := ⟨tw_243, tw_13, tw_244, ⟨by decide +kernel, by decide +kernel, by decide +kernel⟩⟩
theorem mf_J15_checkIndex_7cf53 : am_mS yJ15_checkIndex_7cf53 cJ15_checkIndex_7cf53 2 (some .int) 2 := ⟨tw_125, tw_18, tw_126, ⟨by decide +kernel, by decide +kernel, by decide +kernel⟩⟩
theorem mf_J8_hugeLength_7cf53 : am_mS yJ8_hugeLength_7cf53 cJ8_hugeLength_7cf53 3 (some .int) 2 := ⟨tw_290, tw_14, tw_291, ⟨by decide +kernel, by decide +kernel, by decide +kernel⟩⟩
theorem mf_J8_newLength_cabcc : am_mS yJ8_newLength_cabcc cJ8_newLength_cabcc 4 (some .int) 3 := ⟨tw_283, tw_14, tw_284, ⟨by decide +kernel, by decide +kernel, by decide +kernel⟩⟩
theorem mf_J3_checkIndex_8e157 : am_mS yJ3_checkIndex_8e157 cJ3_checkIndex_8e157 3 (some .int) 3 := ⟨tw_128, tw_19, tw_129, ⟨by decide +kernel, by decide +kernel, by decide +kernel⟩⟩
theorem xw_RX5_37 : ∀ w ∈ vx_atS "HousePlans" 37 "java/lang/IllegalStateException" ["java/lang/RuntimeException", "java/lang/Exception"], (w ∈ am_TG ∨ w ∈ am_bw) ∧ vx_ot w = true := by decide +kernel
theorem xw_RX5_62 : ∀ w ∈ vx_atS "HousePlans" 62 "java/lang/IllegalArgumentException" ["java/lang/RuntimeException", "java/lang/Exception"], (w ∈ am_TG ∨ w ∈ am_bw) ∧ vx_ot w = true := by decide +kernel
theorem xw_RX5_150 : ∀ w ∈ vx_atS "HousePlans" 150 "java/lang/IndexOutOfBoundsException" ["java/lang/RuntimeException", "java/lang/Exception"], (w ∈ am_TG ∨ w ∈ am_bw) ∧ vx_ot w = true := by decide +kernel
end
section
/-! ===== small methods ===== -/
def fc_ (s : Nat) : Nat := if s < 20 then 5 * (s / 4) + s % 4 else s - 20
def sc_ (s : Nat) : Nat := fc_ s + if s < 20 then 1 else 5
set_option maxRecDepth 100000 in
set_option maxHeartbeats 4000000 in
theorem c_X5_firstCell (G : am_G) (l : Launch) (htr : l.stackTraces = false) (h : am_H) (s : Nat) (hs : s < 40) : am_Met G l yX5_firstCell (.code yX5_firstCell cX5_firstCell 1 (some .int)) 1 0 0 [.int (nI s)] h (fun v h' => v = some (.int (nI (fc_ s))) ∧ h' = h) (am_no) := by
  refine am_intro rfl htr rfl (Nat.le_of_ble_eq_true rfl) (fun Z hC hR hI => ?_)
  change am_W Z 0 0 0 [.int (nI s)] [] h
  refine am_iload_n hC dX5_firstCell_0 rfl ?_
  refine am_bipush (v := nI 20) hC dX5_firstCell_1 (by decide) ?_
  refine am_icmp_ge (tgt := 16) hC dX5_firstCell_3 (by decide) (fun c_3 => ?_) (fun c_3 => ?_)
  · replace c_3 : 20 ≤ s := (nI_leI (a := 20) (b := s) (by omega) (by omega)).mp c_3
    refine am_iload_n hC dX5_firstCell_16 rfl ?_
    refine am_bipush (v := nI 20) hC dX5_firstCell_17 (by decide) ?_
    refine am_isubE (z := nI (s - 20)) hC dX5_firstCell_19 (pk_sub (by omega)) ?_
    refine am_iret hC hR rfl (by decide) (by decide) dX5_firstCell_20 ?_
    exact ⟨by unfold fc_; rw [if_neg (by omega)], rfl⟩
  · replace c_3 : ¬ 20 ≤ s := fun q9 => c_3 ((nI_leI (a := 20) (b := s) (by omega) (by omega)).mpr q9)
    refine am_iconst (v := nI 5) hC dX5_firstCell_6 (by decide) ?_
    refine am_iload_n hC dX5_firstCell_7 rfl ?_
    refine am_iconst (v := nI 4) hC dX5_firstCell_8 (by decide) ?_
    refine am_idivE (z := nI (s / 4)) hC dX5_firstCell_9 (by decide) (pk_div (by omega) (by omega) (by omega)) ?_
    refine am_imulE (z := nI (5 * (s / 4))) hC dX5_firstCell_10 (pk_mul (5) (s / 4)) ?_
    refine am_iload_n hC dX5_firstCell_11 rfl ?_
    refine am_iconst (v := nI 4) hC dX5_firstCell_12 (by decide) ?_
    refine am_iremE (z := nI (s % 4)) hC dX5_firstCell_13 (by decide) (pk_rem (by omega) (by omega) (by omega)) ?_
    refine am_iaddE (z := nI (5 * (s / 4) + s % 4)) hC dX5_firstCell_14 (nI_add (5 * (s / 4)) (s % 4)) ?_
    refine am_iret hC hR rfl (by decide) (by decide) dX5_firstCell_15 ?_
    exact ⟨by unfold fc_; rw [if_pos (by omega)], rfl⟩
set_option maxRecDepth 100000 in
set_option maxHeartbeats 4000000 in
theorem c_X6_low (G : am_G) (l : Launch) (htr : l.stackTraces = false) (h : am_H) (s : Nat) (hs : s < 40) : am_Met G l yX6_low (.code yX6_low cX6_low 1 (some .int)) 1 0 0 [.int (nI s)] h (fun v h' => v = some (.int (nI (fc_ s))) ∧ h' = h) (am_no) := by
  refine am_intro rfl htr rfl (Nat.le_of_ble_eq_true rfl) (fun Z hC hR hI => ?_)
  change am_W Z 0 0 0 [.int (nI s)] [] h
  refine am_iload_n hC dX6_low_0 rfl ?_
  refine am_bipush (v := nI 20) hC dX6_low_1 (by decide) ?_
  refine am_icmp_ge (tgt := 18) hC dX6_low_3 (by decide) (fun c_3 => ?_) (fun c_3 => ?_)
  · replace c_3 : 20 ≤ s := (nI_leI (a := 20) (b := s) (by omega) (by omega)).mp c_3
    refine am_iload_n hC dX6_low_18 rfl ?_
    refine am_bipush (v := nI 20) hC dX6_low_19 (by decide) ?_
    refine am_isubE (z := nI (s - 20)) hC dX6_low_21 (pk_sub (by omega)) ?_
    refine am_iret hC hR rfl (by decide) (by decide) dX6_low_22 ?_
    refine ⟨?_, rfl⟩
    unfold fc_
    split
    · first | omega | (rw [Nat.mul_comm])
    · first | omega | rfl
  · replace c_3 : ¬ 20 ≤ s := fun q9 => c_3 ((nI_leI (a := 20) (b := s) (by omega) (by omega)).mpr q9)
    refine am_iload_n hC dX6_low_6 rfl ?_
    refine am_iconst (v := nI 4) hC dX6_low_7 (by decide) ?_
    refine am_idivE (z := nI (s / 4)) hC dX6_low_8 (by decide) (pk_div (by omega) (by omega) (by omega)) ?_
    refine am_iconst (v := nI 5) hC dX6_low_9 (by decide) ?_
    refine am_imulE (z := nI ((s / 4) * 5)) hC dX6_low_10 (pk_mul (s / 4) (5)) ?_
    refine am_iload_n hC dX6_low_11 rfl ?_
    refine am_iconst (v := nI 4) hC dX6_low_12 (by decide) ?_
    refine am_iremE (z := nI (s % 4)) hC dX6_low_13 (by decide) (pk_rem (by omega) (by omega) (by omega)) ?_
    refine am_iaddE (z := nI ((s / 4) * 5 + s % 4)) hC dX6_low_14 (nI_add ((s / 4) * 5) (s % 4)) ?_
    refine am_goto (tgt := 22) hC dX6_low_15 (by decide) ?_
    refine am_iret hC hR rfl (by decide) (by decide) dX6_low_22 ?_
    refine ⟨?_, rfl⟩
    unfold fc_
    split
    · first | omega | (rw [Nat.mul_comm])
    · first | omega | rfl
set_option maxRecDepth 100000 in
set_option maxHeartbeats 4000000 in
theorem c_X5_secondCell (G : am_G) (l : Launch) (htr : l.stackTraces = false) (h : am_H) (s : Nat) (hs : s < 40) : am_Met G l yX5_secondCell (.code yX5_secondCell cX5_secondCell 1 (some .int)) 2 0 0 [.int (nI s)] h (fun v h' => v = some (.int (nI (sc_ s))) ∧ h' = h) (am_no) := by
  refine am_intro rfl htr rfl (Nat.le_of_ble_eq_true rfl) (fun Z hC hR hI => ?_)
  change am_W Z 0 0 0 [.int (nI s)] [] h
  refine am_iload_n hC dX5_secondCell_0 rfl ?_
  refine am_callS hC [.int (nI s)] mf_X5_firstCell tw_452 (c_X5_firstCell _ _ (am_tr hC) _ s hs) rfl ⟨rfl, Nat.le_of_ble_eq_true rfl⟩ ⟨by decide, by decide⟩ (by decide) (by decide) dX5_secondCell_1 rfl (fun _ _ q _ => False.elim q) (fun v h' hp hle => ?_)
  obtain ⟨rfl, rfl⟩ := hp
  refine am_iload_n hC dX5_secondCell_4 rfl ?_
  refine am_bipush (v := nI 20) hC dX5_secondCell_5 (by decide) ?_
  refine am_icmp_ge (tgt := 14) hC dX5_secondCell_7 (by decide) (fun c_7 => ?_) (fun c_7 => ?_)
  · replace c_7 : 20 ≤ s := (nI_leI (a := 20) (b := s) (by omega) (by omega)).mp c_7
    refine am_iconst (v := nI 5) hC dX5_secondCell_14 (by decide) ?_
    refine am_iaddE (z := nI (fc_ s + 5)) hC dX5_secondCell_15 (nI_add (fc_ s) (5)) ?_
    refine am_iret hC hR rfl (by decide) (by decide) dX5_secondCell_16 ?_
    refine ⟨?_, rfl⟩
    unfold sc_
    first | rw [if_pos (by omega)] | rw [if_neg (by omega)]
  · replace c_7 : ¬ 20 ≤ s := fun q9 => c_7 ((nI_leI (a := 20) (b := s) (by omega) (by omega)).mpr q9)
    refine am_iconst (v := nI 1) hC dX5_secondCell_10 (by decide) ?_
    refine am_goto (tgt := 15) hC dX5_secondCell_11 (by decide) ?_
    refine am_iaddE (z := nI (fc_ s + 1)) hC dX5_secondCell_15 (nI_add (fc_ s) (1)) ?_
    refine am_iret hC hR rfl (by decide) (by decide) dX5_secondCell_16 ?_
    refine ⟨?_, rfl⟩
    unfold sc_
    first | rw [if_pos (by omega)] | rw [if_neg (by omega)]
set_option maxRecDepth 100000 in
set_option maxHeartbeats 4000000 in
theorem c_X6_high (G : am_G) (l : Launch) (htr : l.stackTraces = false) (h : am_H) (s : Nat) (hs : s < 40) : am_Met G l yX6_high (.code yX6_high cX6_high 1 (some .int)) 2 0 0 [.int (nI s)] h (fun v h' => v = some (.int (nI (sc_ s))) ∧ h' = h) (am_no) := by
  refine am_intro rfl htr rfl (Nat.le_of_ble_eq_true rfl) (fun Z hC hR hI => ?_)
  change am_W Z 0 0 0 [.int (nI s)] [] h
  refine am_iload_n hC dX6_high_0 rfl ?_
  refine am_bipush (v := nI 20) hC dX6_high_1 (by decide) ?_
  refine am_icmp_ge (tgt := 15) hC dX6_high_3 (by decide) (fun c_3 => ?_) (fun c_3 => ?_)
  · replace c_3 : 20 ≤ s := (nI_leI (a := 20) (b := s) (by omega) (by omega)).mp c_3
    refine am_iload_n hC dX6_high_15 rfl ?_
    refine am_bipush (v := nI 15) hC dX6_high_16 (by decide) ?_
    refine am_isubE (z := nI (s - 15)) hC dX6_high_18 (pk_sub (by omega)) ?_
    refine am_iret hC hR rfl (by decide) (by decide) dX6_high_19 ?_
    refine ⟨?_, rfl⟩
    unfold sc_
    first | rw [if_pos (by omega)] | (unfold fc_; rw [if_neg (by omega), if_neg (by omega)]; congr 3; omega)
  · replace c_3 : ¬ 20 ≤ s := fun q9 => c_3 ((nI_leI (a := 20) (b := s) (by omega) (by omega)).mpr q9)
    refine am_iload_n hC dX6_high_6 rfl ?_
    refine am_callS hC [.int (nI s)] mf_X6_low tw_778 (c_X6_low _ _ (am_tr hC) _ s hs) rfl ⟨rfl, Nat.le_of_ble_eq_true rfl⟩ ⟨by decide, by decide⟩ (by decide) (by decide) dX6_high_7 rfl (fun _ _ q _ => False.elim q) (fun v h' hp hle => ?_)
    obtain ⟨rfl, rfl⟩ := hp
    refine am_iconst (v := nI 1) hC dX6_high_10 (by decide) ?_
    refine am_iaddE (z := nI (fc_ s + 1)) hC dX6_high_11 (nI_add (fc_ s) (1)) ?_
    refine am_goto (tgt := 19) hC dX6_high_12 (by decide) ?_
    refine am_iret hC hR rfl (by decide) (by decide) dX6_high_19 ?_
    refine ⟨?_, rfl⟩
    unfold sc_
    first | rw [if_pos (by omega)] | (unfold fc_; rw [if_neg (by omega), if_neg (by omega)]; congr 3; omega)
set_option maxRecDepth 100000 in
set_option maxHeartbeats 4000000 in
theorem c_X5_needPerson (G : am_G) (l : Launch) (htr : l.stackTraces = false) (h : am_H) (p : Int32) : am_Met G l yX5_needPerson (.code yX5_needPerson cX5_needPerson 1 none) 7 1 6 [.int (p)] h (fun v h' => v = none ∧ h' = h ∧ ∃ j, j < 6 ∧ p = nI j) (fun X h' => X = "java/lang/IllegalArgumentException" ∧ h' = h ∧ ¬ (∃ j, j < 6 ∧ p = nI j)) := by
  refine am_intro rfl htr rfl (Nat.le_of_ble_eq_true rfl) (fun Z hC hR hI => ?_)
  change am_W Z 0 0 0 [.int (p)] [] h
  refine am_iload_n hC dX5_needPerson_0 rfl ?_
  refine am_if_lt (tgt := 10) hC dX5_needPerson_1 (by decide) (fun c_1 => ?_) (fun c_1 => ?_)
  · refine am_throw hC hR (X := "java/lang/IllegalArgumentException") (text := "no such person") (by decide +kernel) tw_356 tw_20 tw_365 xw_RX5_62 ⟨rfl, Nat.le_of_ble_eq_true rfl⟩ (by decide) (by decide) (by decide) dX5_needPerson_10 dX5_needPerson_13 dX5_needPerson_14 dX5_needPerson_16 dX5_needPerson_19 ?_
    exact ⟨rfl, rfl, fun ⟨j, hj, e⟩ => by
      subst e
      first
        | exact nI_pos (by omega) c_1
        | exact c_7 (nI_lt hj (by omega))⟩
  · refine am_iload_n hC dX5_needPerson_4 rfl ?_
    refine am_bipush (v := nI 6) hC dX5_needPerson_5 (by decide) ?_
    refine am_icmp_lt (tgt := 20) hC dX5_needPerson_7 (by decide) (fun c_7 => ?_) (fun c_7 => ?_)
    · refine am_vret hC hR (by decide) (by decide) dX5_needPerson_20 ?_
      obtain ⟨j, hj, e⟩ := nI_of c_1
      refine ⟨rfl, rfl, j, ?_, e⟩
      rw [e] at c_7
      exact (nI_ltI hj (by omega)).mp c_7
    · refine am_throw hC hR (X := "java/lang/IllegalArgumentException") (text := "no such person") (by decide +kernel) tw_356 tw_20 tw_365 xw_RX5_62 ⟨rfl, Nat.le_of_ble_eq_true rfl⟩ (by decide) (by decide) (by decide) dX5_needPerson_10 dX5_needPerson_13 dX5_needPerson_14 dX5_needPerson_16 dX5_needPerson_19 ?_
      exact ⟨rfl, rfl, fun ⟨j, hj, e⟩ => by
        subst e
        first
          | exact nI_pos (by omega) c_1
          | exact c_7 (nI_lt hj (by omega))⟩
set_option maxRecDepth 100000 in
set_option maxHeartbeats 4000000 in
theorem c_X5_needSide (G : am_G) (l : Launch) (htr : l.stackTraces = false) (h : am_H) (p : Int32) : am_Met G l yX5_needSide (.code yX5_needSide cX5_needSide 1 none) 7 1 6 [.int (p)] h (fun v h' => v = none ∧ h' = h ∧ ∃ j, j < 40 ∧ p = nI j) (fun X h' => X = "java/lang/IllegalArgumentException" ∧ h' = h ∧ ¬ (∃ j, j < 40 ∧ p = nI j)) := by
  refine am_intro rfl htr rfl (Nat.le_of_ble_eq_true rfl) (fun Z hC hR hI => ?_)
  change am_W Z 0 0 0 [.int (p)] [] h
  refine am_iload_n hC dX5_needSide_0 rfl ?_
  refine am_if_lt (tgt := 10) hC dX5_needSide_1 (by decide) (fun c_1 => ?_) (fun c_1 => ?_)
  · refine am_throw hC hR (X := "java/lang/IllegalArgumentException") (text := "no such side") (by decide +kernel) tw_356 tw_20 tw_375 xw_RX5_62 ⟨rfl, Nat.le_of_ble_eq_true rfl⟩ (by decide) (by decide) (by decide) dX5_needSide_10 dX5_needSide_13 dX5_needSide_14 dX5_needSide_16 dX5_needSide_19 ?_
    exact ⟨rfl, rfl, fun ⟨j, hj, e⟩ => by
      subst e
      first
        | exact nI_pos (by omega) c_1
        | exact c_7 (nI_lt hj (by omega))⟩
  · refine am_iload_n hC dX5_needSide_4 rfl ?_
    refine am_bipush (v := nI 40) hC dX5_needSide_5 (by decide) ?_
    refine am_icmp_lt (tgt := 20) hC dX5_needSide_7 (by decide) (fun c_7 => ?_) (fun c_7 => ?_)
    · refine am_vret hC hR (by decide) (by decide) dX5_needSide_20 ?_
      obtain ⟨j, hj, e⟩ := nI_of c_1
      refine ⟨rfl, rfl, j, ?_, e⟩
      rw [e] at c_7
      exact (nI_ltI hj (by omega)).mp c_7
    · refine am_throw hC hR (X := "java/lang/IllegalArgumentException") (text := "no such side") (by decide +kernel) tw_356 tw_20 tw_375 xw_RX5_62 ⟨rfl, Nat.le_of_ble_eq_true rfl⟩ (by decide) (by decide) (by decide) dX5_needSide_10 dX5_needSide_13 dX5_needSide_14 dX5_needSide_16 dX5_needSide_19 ?_
      exact ⟨rfl, rfl, fun ⟨j, hj, e⟩ => by
        subst e
        first
          | exact nI_pos (by omega) c_1
          | exact c_7 (nI_lt hj (by omega))⟩
set_option maxRecDepth 100000 in
set_option maxHeartbeats 4000000 in
theorem c_X5_needCell (G : am_G) (l : Launch) (htr : l.stackTraces = false) (h : am_H) (p : Int32) : am_Met G l yX5_needCell (.code yX5_needCell cX5_needCell 1 none) 7 1 6 [.int (p)] h (fun v h' => v = none ∧ h' = h ∧ ∃ j, j < 25 ∧ p = nI j) (fun X h' => X = "java/lang/IllegalArgumentException" ∧ h' = h ∧ ¬ (∃ j, j < 25 ∧ p = nI j)) := by
  refine am_intro rfl htr rfl (Nat.le_of_ble_eq_true rfl) (fun Z hC hR hI => ?_)
  change am_W Z 0 0 0 [.int (p)] [] h
  refine am_iload_n hC dX5_needCell_0 rfl ?_
  refine am_if_lt (tgt := 10) hC dX5_needCell_1 (by decide) (fun c_1 => ?_) (fun c_1 => ?_)
  · refine am_throw hC hR (X := "java/lang/IllegalArgumentException") (text := "no such cell") (by decide +kernel) tw_356 tw_20 tw_395 xw_RX5_62 ⟨rfl, Nat.le_of_ble_eq_true rfl⟩ (by decide) (by decide) (by decide) dX5_needCell_10 dX5_needCell_13 dX5_needCell_14 dX5_needCell_16 dX5_needCell_19 ?_
    exact ⟨rfl, rfl, fun ⟨j, hj, e⟩ => by
      subst e
      first
        | exact nI_pos (by omega) c_1
        | exact c_7 (nI_lt hj (by omega))⟩
  · refine am_iload_n hC dX5_needCell_4 rfl ?_
    refine am_bipush (v := nI 25) hC dX5_needCell_5 (by decide) ?_
    refine am_icmp_lt (tgt := 20) hC dX5_needCell_7 (by decide) (fun c_7 => ?_) (fun c_7 => ?_)
    · refine am_vret hC hR (by decide) (by decide) dX5_needCell_20 ?_
      obtain ⟨j, hj, e⟩ := nI_of c_1
      refine ⟨rfl, rfl, j, ?_, e⟩
      rw [e] at c_7
      exact (nI_ltI hj (by omega)).mp c_7
    · refine am_throw hC hR (X := "java/lang/IllegalArgumentException") (text := "no such cell") (by decide +kernel) tw_356 tw_20 tw_395 xw_RX5_62 ⟨rfl, Nat.le_of_ble_eq_true rfl⟩ (by decide) (by decide) (by decide) dX5_needCell_10 dX5_needCell_13 dX5_needCell_14 dX5_needCell_16 dX5_needCell_19 ?_
      exact ⟨rfl, rfl, fun ⟨j, hj, e⟩ => by
        subst e
        first
          | exact nI_pos (by omega) c_1
          | exact c_7 (nI_lt hj (by omega))⟩
set_option maxRecDepth 100000 in
set_option maxHeartbeats 4000000 in
theorem c_X6_isIn (G : am_G) (l : Launch) (htr : l.stackTraces = false) (h : am_H) (x lo hi : Int32) : am_Met G l yX6_isIn (.code yX6_isIn cX6_isIn 3 (some .boolean)) 1 0 0 [.int (x), .int (lo), .int (hi)] h (fun v h' => v = some (.int (if lo ≤ x ∧ x ≤ hi then 1 else 0)) ∧ h' = h) (am_no) := by
  refine am_intro rfl htr rfl (Nat.le_of_ble_eq_true rfl) (fun Z hC hR hI => ?_)
  change am_W Z 0 0 0 [.int (x), .int (lo), .int (hi)] [] h
  refine am_iload_n hC dX6_isIn_0 rfl ?_
  refine am_iload_n hC dX6_isIn_1 rfl ?_
  refine am_icmp_lt (tgt := 14) hC dX6_isIn_2 (by decide) (fun c_2 => ?_) (fun c_2 => ?_)
  · refine am_iconst (v := nI 0) hC dX6_isIn_14 (by decide) ?_
    refine am_iret hC hR rfl (by decide) (by decide) dX6_isIn_15 ?_
    refine ⟨?_, rfl⟩
    congr 2
    first
      | (rw [if_pos ⟨Int32.not_lt.mp c_2, Int32.not_lt.mp c_7⟩]; rfl)
      | (rw [if_neg (fun q => Int32.not_le.mpr c_2 q.1)]; rfl)
      | (rw [if_neg (fun q => Int32.not_le.mpr c_7 q.2)]; rfl)
  · refine am_iload_n hC dX6_isIn_5 rfl ?_
    refine am_iload_n hC dX6_isIn_6 rfl ?_
    refine am_icmp_gt (tgt := 14) hC dX6_isIn_7 (by decide) (fun c_7 => ?_) (fun c_7 => ?_)
    · refine am_iconst (v := nI 0) hC dX6_isIn_14 (by decide) ?_
      refine am_iret hC hR rfl (by decide) (by decide) dX6_isIn_15 ?_
      refine ⟨?_, rfl⟩
      congr 2
      first
        | (rw [if_pos ⟨Int32.not_lt.mp c_2, Int32.not_lt.mp c_7⟩]; rfl)
        | (rw [if_neg (fun q => Int32.not_le.mpr c_2 q.1)]; rfl)
        | (rw [if_neg (fun q => Int32.not_le.mpr c_7 q.2)]; rfl)
    · refine am_iconst (v := nI 1) hC dX6_isIn_10 (by decide) ?_
      refine am_goto (tgt := 15) hC dX6_isIn_11 (by decide) ?_
      refine am_iret hC hR rfl (by decide) (by decide) dX6_isIn_15 ?_
      refine ⟨?_, rfl⟩
      congr 2
      first
        | (rw [if_pos ⟨Int32.not_lt.mp c_2, Int32.not_lt.mp c_7⟩]; rfl)
        | (rw [if_neg (fun q => Int32.not_le.mpr c_2 q.1)]; rfl)
        | (rw [if_neg (fun q => Int32.not_le.mpr c_7 q.2)]; rfl)
end
section
/-! ===== the layout: which role is what ===== -/
def rp_K : List (Nat × Nat × Nat) := [(3, 7, 0), (4, 1, 0), (5, 1, 0), (6, 1, 0), (7, 3, 0), (8, 6, 0), (9, 9, 40), (10, 10, 25), (11, 9, 25), (12, 9, 25), (13, 9, 25)]
def rp_R : List (Nat × Nat × Nat) := [(3, 0, 4), (3, 1, 5), (3, 2, 6), (3, 3, 7), (7, 0, 8), (7, 1, 11), (7, 2, 12), (7, 3, 13), (8, 0, 9), (8, 1, 10)]
def rp_KM : List (Nat × Nat × Nat) := [(14, 8, 0), (15, 9, 240), (16, 9, 6), (17, 9, 6), (18, 9, 6), (19, 9, 6), (20, 9, 240), (21, 9, 6), (22, 9, 25), (23, 9, 25), (25, 9, 20), (26, 9, 800), (27, 9, 20), (29, 9, 30), (30, 9, 1200), (31, 9, 30), (32, 9, 30)]
def rp_RM : List (Nat × Nat × Nat) := [(14, 1, 15), (14, 2, 16), (14, 3, 17), (14, 4, 18), (14, 5, 19), (14, 6, 20), (14, 7, 21), (14, 8, 22), (14, 9, 23), (14, 11, 25), (14, 12, 26), (14, 13, 27), (14, 15, 29), (14, 16, 30), (14, 17, 31), (14, 18, 32)]
/-- the class's own fixed objects; the model's -/
def FC (h : am_H) : Prop := (∀ q ∈ rp_K, hk_ h q.1 = q.2.1 ∧ hn_ h q.1 = q.2.2) ∧ ∀ q ∈ rp_R, hr_ h q.1 q.2.1 = q.2.2
def FM (h : am_H) : Prop := (∀ q ∈ rp_KM, hk_ h q.1 = q.2.1 ∧ hn_ h q.1 = q.2.2) ∧ ∀ q ∈ rp_RM, hr_ h q.1 q.2.1 = q.2.2
theorem kC_3 {h : am_H} (hF : FC h) : hk_ h 3 = 7 := (hF.1 (3, 7, 0) (by decide)).1
theorem kC_4 {h : am_H} (hF : FC h) : hk_ h 4 = 1 := (hF.1 (4, 1, 0) (by decide)).1
theorem kC_5 {h : am_H} (hF : FC h) : hk_ h 5 = 1 := (hF.1 (5, 1, 0) (by decide)).1
theorem kC_6 {h : am_H} (hF : FC h) : hk_ h 6 = 1 := (hF.1 (6, 1, 0) (by decide)).1
theorem kC_7 {h : am_H} (hF : FC h) : hk_ h 7 = 3 := (hF.1 (7, 3, 0) (by decide)).1
theorem kC_8 {h : am_H} (hF : FC h) : hk_ h 8 = 6 := (hF.1 (8, 6, 0) (by decide)).1
theorem kC_9 {h : am_H} (hF : FC h) : hk_ h 9 = 9 := (hF.1 (9, 9, 40) (by decide)).1
theorem nC_9 {h : am_H} (hF : FC h) : hn_ h 9 = 40 := (hF.1 (9, 9, 40) (by decide)).2
theorem kC_10 {h : am_H} (hF : FC h) : hk_ h 10 = 10 := (hF.1 (10, 10, 25) (by decide)).1
theorem nC_10 {h : am_H} (hF : FC h) : hn_ h 10 = 25 := (hF.1 (10, 10, 25) (by decide)).2
theorem kC_11 {h : am_H} (hF : FC h) : hk_ h 11 = 9 := (hF.1 (11, 9, 25) (by decide)).1
theorem nC_11 {h : am_H} (hF : FC h) : hn_ h 11 = 25 := (hF.1 (11, 9, 25) (by decide)).2
theorem kC_12 {h : am_H} (hF : FC h) : hk_ h 12 = 9 := (hF.1 (12, 9, 25) (by decide)).1
theorem nC_12 {h : am_H} (hF : FC h) : hn_ h 12 = 25 := (hF.1 (12, 9, 25) (by decide)).2
theorem kC_13 {h : am_H} (hF : FC h) : hk_ h 13 = 9 := (hF.1 (13, 9, 25) (by decide)).1
theorem nC_13 {h : am_H} (hF : FC h) : hn_ h 13 = 25 := (hF.1 (13, 9, 25) (by decide)).2
theorem rC_3_0 {h : am_H} (hF : FC h) : hr_ h 3 0 = 4 := hF.2 (3, 0, 4) (by decide)
theorem rC_3_1 {h : am_H} (hF : FC h) : hr_ h 3 1 = 5 := hF.2 (3, 1, 5) (by decide)
theorem rC_3_2 {h : am_H} (hF : FC h) : hr_ h 3 2 = 6 := hF.2 (3, 2, 6) (by decide)
theorem rC_3_3 {h : am_H} (hF : FC h) : hr_ h 3 3 = 7 := hF.2 (3, 3, 7) (by decide)
theorem rC_7_0 {h : am_H} (hF : FC h) : hr_ h 7 0 = 8 := hF.2 (7, 0, 8) (by decide)
theorem rC_7_1 {h : am_H} (hF : FC h) : hr_ h 7 1 = 11 := hF.2 (7, 1, 11) (by decide)
theorem rC_7_2 {h : am_H} (hF : FC h) : hr_ h 7 2 = 12 := hF.2 (7, 2, 12) (by decide)
theorem rC_7_3 {h : am_H} (hF : FC h) : hr_ h 7 3 = 13 := hF.2 (7, 3, 13) (by decide)
theorem rC_8_0 {h : am_H} (hF : FC h) : hr_ h 8 0 = 9 := hF.2 (8, 0, 9) (by decide)
theorem rC_8_1 {h : am_H} (hF : FC h) : hr_ h 8 1 = 10 := hF.2 (8, 1, 10) (by decide)
theorem kM_14 {h : am_H} (hM : FM h) : hk_ h 14 = 8 := (hM.1 (14, 8, 0) (by decide)).1
theorem kM_15 {h : am_H} (hM : FM h) : hk_ h 15 = 9 := (hM.1 (15, 9, 240) (by decide)).1
theorem nM_15 {h : am_H} (hM : FM h) : hn_ h 15 = 240 := (hM.1 (15, 9, 240) (by decide)).2
theorem kM_16 {h : am_H} (hM : FM h) : hk_ h 16 = 9 := (hM.1 (16, 9, 6) (by decide)).1
theorem nM_16 {h : am_H} (hM : FM h) : hn_ h 16 = 6 := (hM.1 (16, 9, 6) (by decide)).2
theorem kM_17 {h : am_H} (hM : FM h) : hk_ h 17 = 9 := (hM.1 (17, 9, 6) (by decide)).1
theorem nM_17 {h : am_H} (hM : FM h) : hn_ h 17 = 6 := (hM.1 (17, 9, 6) (by decide)).2
theorem kM_18 {h : am_H} (hM : FM h) : hk_ h 18 = 9 := (hM.1 (18, 9, 6) (by decide)).1
theorem nM_18 {h : am_H} (hM : FM h) : hn_ h 18 = 6 := (hM.1 (18, 9, 6) (by decide)).2
theorem kM_19 {h : am_H} (hM : FM h) : hk_ h 19 = 9 := (hM.1 (19, 9, 6) (by decide)).1
theorem nM_19 {h : am_H} (hM : FM h) : hn_ h 19 = 6 := (hM.1 (19, 9, 6) (by decide)).2
theorem kM_20 {h : am_H} (hM : FM h) : hk_ h 20 = 9 := (hM.1 (20, 9, 240) (by decide)).1
theorem nM_20 {h : am_H} (hM : FM h) : hn_ h 20 = 240 := (hM.1 (20, 9, 240) (by decide)).2
theorem kM_21 {h : am_H} (hM : FM h) : hk_ h 21 = 9 := (hM.1 (21, 9, 6) (by decide)).1
theorem nM_21 {h : am_H} (hM : FM h) : hn_ h 21 = 6 := (hM.1 (21, 9, 6) (by decide)).2
theorem kM_22 {h : am_H} (hM : FM h) : hk_ h 22 = 9 := (hM.1 (22, 9, 25) (by decide)).1
theorem nM_22 {h : am_H} (hM : FM h) : hn_ h 22 = 25 := (hM.1 (22, 9, 25) (by decide)).2
theorem kM_23 {h : am_H} (hM : FM h) : hk_ h 23 = 9 := (hM.1 (23, 9, 25) (by decide)).1
theorem nM_23 {h : am_H} (hM : FM h) : hn_ h 23 = 25 := (hM.1 (23, 9, 25) (by decide)).2
theorem kM_25 {h : am_H} (hM : FM h) : hk_ h 25 = 9 := (hM.1 (25, 9, 20) (by decide)).1
theorem nM_25 {h : am_H} (hM : FM h) : hn_ h 25 = 20 := (hM.1 (25, 9, 20) (by decide)).2
theorem kM_26 {h : am_H} (hM : FM h) : hk_ h 26 = 9 := (hM.1 (26, 9, 800) (by decide)).1
theorem nM_26 {h : am_H} (hM : FM h) : hn_ h 26 = 800 := (hM.1 (26, 9, 800) (by decide)).2
theorem kM_27 {h : am_H} (hM : FM h) : hk_ h 27 = 9 := (hM.1 (27, 9, 20) (by decide)).1
theorem nM_27 {h : am_H} (hM : FM h) : hn_ h 27 = 20 := (hM.1 (27, 9, 20) (by decide)).2
theorem kM_29 {h : am_H} (hM : FM h) : hk_ h 29 = 9 := (hM.1 (29, 9, 30) (by decide)).1
theorem nM_29 {h : am_H} (hM : FM h) : hn_ h 29 = 30 := (hM.1 (29, 9, 30) (by decide)).2
theorem kM_30 {h : am_H} (hM : FM h) : hk_ h 30 = 9 := (hM.1 (30, 9, 1200) (by decide)).1
theorem nM_30 {h : am_H} (hM : FM h) : hn_ h 30 = 1200 := (hM.1 (30, 9, 1200) (by decide)).2
theorem kM_31 {h : am_H} (hM : FM h) : hk_ h 31 = 9 := (hM.1 (31, 9, 30) (by decide)).1
theorem nM_31 {h : am_H} (hM : FM h) : hn_ h 31 = 30 := (hM.1 (31, 9, 30) (by decide)).2
theorem kM_32 {h : am_H} (hM : FM h) : hk_ h 32 = 9 := (hM.1 (32, 9, 30) (by decide)).1
theorem nM_32 {h : am_H} (hM : FM h) : hn_ h 32 = 30 := (hM.1 (32, 9, 30) (by decide)).2
theorem rM_1 {h : am_H} (hM : FM h) : hr_ h 14 1 = 15 := hM.2 (14, 1, 15) (by decide)
theorem rM_2 {h : am_H} (hM : FM h) : hr_ h 14 2 = 16 := hM.2 (14, 2, 16) (by decide)
theorem rM_3 {h : am_H} (hM : FM h) : hr_ h 14 3 = 17 := hM.2 (14, 3, 17) (by decide)
theorem rM_4 {h : am_H} (hM : FM h) : hr_ h 14 4 = 18 := hM.2 (14, 4, 18) (by decide)
theorem rM_5 {h : am_H} (hM : FM h) : hr_ h 14 5 = 19 := hM.2 (14, 5, 19) (by decide)
theorem rM_6 {h : am_H} (hM : FM h) : hr_ h 14 6 = 20 := hM.2 (14, 6, 20) (by decide)
theorem rM_7 {h : am_H} (hM : FM h) : hr_ h 14 7 = 21 := hM.2 (14, 7, 21) (by decide)
theorem rM_8 {h : am_H} (hM : FM h) : hr_ h 14 8 = 22 := hM.2 (14, 8, 22) (by decide)
theorem rM_9 {h : am_H} (hM : FM h) : hr_ h 14 9 = 23 := hM.2 (14, 9, 23) (by decide)
theorem rM_11 {h : am_H} (hM : FM h) : hr_ h 14 11 = 25 := hM.2 (14, 11, 25) (by decide)
theorem rM_12 {h : am_H} (hM : FM h) : hr_ h 14 12 = 26 := hM.2 (14, 12, 26) (by decide)
theorem rM_13 {h : am_H} (hM : FM h) : hr_ h 14 13 = 27 := hM.2 (14, 13, 27) (by decide)
theorem rM_15 {h : am_H} (hM : FM h) : hr_ h 14 15 = 29 := hM.2 (14, 15, 29) (by decide)
theorem rM_16 {h : am_H} (hM : FM h) : hr_ h 14 16 = 30 := hM.2 (14, 16, 30) (by decide)
theorem rM_17 {h : am_H} (hM : FM h) : hr_ h 14 17 = 31 := hM.2 (14, 17, 31) (by decide)
theorem rM_18 {h : am_H} (hM : FM h) : hr_ h 14 18 = 32 := hM.2 (14, 18, 32) (by decide)
/-- drawing i among n: its object, what it tells, its exits, its references -/
def rp_D (h : am_H) (n i : Nat) : Prop :=
  (hk_ h (100 + 4 * i) = 2 ∧ hk_ h (101 + 4 * i) = 9 ∧ hn_ h (101 + 4 * i) = 40 ∧ hk_ h (102 + 4 * i) = 10 ∧ hn_ h (102 + 4 * i) = 25 ∧ hk_ h (103 + 4 * i) = 11 ∧ hn_ h (103 + 4 * i) = 6) ∧
  (hr_ h (100 + 4 * i) 0 = 101 + 4 * i ∧ hr_ h (100 + 4 * i) 1 = 102 + 4 * i ∧ hr_ h (100 + 4 * i) 2 = 103 + 4 * i) ∧
  ∀ k, k < 6 → hr_ h (103 + 4 * i) k = 0 ∨ (k < n ∧ hr_ h (103 + 4 * i) k = 100 + 4 * k)
def DL (h : am_H) (n : Nat) : Prop := ∀ i, i < n → rp_D h n i
theorem dk0 {h : am_H} {n i : Nat} (hD : DL h n) (hi : i < n) : hk_ h (100 + 4 * i) = 2 := (hD i hi).1.1
theorem dk1 {h : am_H} {n i : Nat} (hD : DL h n) (hi : i < n) : hk_ h (101 + 4 * i) = 9 := (hD i hi).1.2.1
theorem dn1 {h : am_H} {n i : Nat} (hD : DL h n) (hi : i < n) : hn_ h (101 + 4 * i) = 40 := (hD i hi).1.2.2.1
theorem dk2 {h : am_H} {n i : Nat} (hD : DL h n) (hi : i < n) : hk_ h (102 + 4 * i) = 10 := (hD i hi).1.2.2.2.1
theorem dn2 {h : am_H} {n i : Nat} (hD : DL h n) (hi : i < n) : hn_ h (102 + 4 * i) = 25 := (hD i hi).1.2.2.2.2.1
theorem dk3 {h : am_H} {n i : Nat} (hD : DL h n) (hi : i < n) : hk_ h (103 + 4 * i) = 11 := (hD i hi).1.2.2.2.2.2.1
theorem dn3 {h : am_H} {n i : Nat} (hD : DL h n) (hi : i < n) : hn_ h (103 + 4 * i) = 6 := (hD i hi).1.2.2.2.2.2.2
theorem dr0 {h : am_H} {n i : Nat} (hD : DL h n) (hi : i < n) : hr_ h (100 + 4 * i) 0 = 101 + 4 * i := (hD i hi).2.1.1
theorem dr1 {h : am_H} {n i : Nat} (hD : DL h n) (hi : i < n) : hr_ h (100 + 4 * i) 1 = 102 + 4 * i := (hD i hi).2.1.2.1
theorem dr2 {h : am_H} {n i : Nat} (hD : DL h n) (hi : i < n) : hr_ h (100 + 4 * i) 2 = 103 + 4 * i := (hD i hi).2.1.2.2
theorem dro {h : am_H} {n i : Nat} (hD : DL h n) (hi : i < n) {k : Nat} (hk : k < 6) : hr_ h (103 + 4 * i) k = 0 ∨ (k < n ∧ hr_ h (103 + 4 * i) k = 100 + 4 * k) := (hD i hi).2.2 k hk
/-- outside S nothing has changed -/
def am_eq (S : Nat → Prop) (h h' : am_H) : Prop := ∀ r, ¬ S r → hk_ h' r = hk_ h r ∧ hn_ h' r = hn_ h r ∧ (∀ k, hi_ h' r k = hi_ h r k) ∧ (∀ k, hr_ h' r k = hr_ h r k) ∧ ∀ k, hl_ h' r k = hl_ h r k
theorem am_eq_rf (S : Nat → Prop) (h : am_H) : am_eq S h h := fun _ _ => ⟨rfl, rfl, fun _ => rfl, fun _ => rfl, fun _ => rfl⟩
theorem am_eq_tr {S : Nat → Prop} {a b c : am_H} (h1 : am_eq S a b) (h2 : am_eq S b c) : am_eq S a c := fun r hr => by
  obtain ⟨a1, a2, a3, a4, a5⟩ := h1 r hr
  obtain ⟨b1, b2, b3, b4, b5⟩ := h2 r hr
  exact ⟨b1.trans a1, b2.trans a2, fun k => (b3 k).trans (a3 k), fun k => (b4 k).trans (a4 k), fun k => (b5 k).trans (a5 k)⟩
theorem am_eq_mono {S S' : Nat → Prop} {h h' : am_H} (hs : ∀ r, S r → S' r) (e : am_eq S h h') : am_eq S' h h' := fun r hr => e r (fun q => hr (hs r q))
theorem am_eq_sI {S : Nat → Prop} {h : am_H} {r k : Nat} {x : Int32} (hr : S r) : am_eq S h (am_sI h r k x) := fun a ha => ⟨rfl, rfl, fun b => by rw [hi_sI, if_neg (fun q => ha (by rw [q.1]; exact hr))], fun _ => rfl, fun _ => rfl⟩
theorem am_eq_sR {S : Nat → Prop} {h : am_H} {r k : Nat} {x : Nat} (hr : S r) : am_eq S h (am_sR h r k x) := fun a ha => ⟨rfl, rfl, fun _ => rfl, fun b => by rw [hr_sR, if_neg (fun q => ha (by rw [q.1]; exact hr))], fun _ => rfl⟩
theorem am_le_sI (h : am_H) (r k : Nat) (x : Int32) : am_le h (am_sI h r k x) := fun _ _ => ⟨rfl, rfl⟩
theorem am_le_sR (h : am_H) (r k : Nat) (x : Nat) : am_le h (am_sR h r k x) := fun _ _ => ⟨rfl, rfl⟩
/-- the floor's own rows -/
def SF (r : Nat) : Prop := 9 ≤ r ∧ r ≤ 13
theorem FC_eq {h h' : am_H} {S : Nat → Prop} (hS : ∀ r, S r → r ≤ 2 ∨ 9 ≤ r) (e : am_eq S h h') (hle : am_le h h') (hF : FC h) : FC h' := by
  refine ⟨fun q hq => ?_, fun q hq => ?_⟩
  · obtain ⟨e1, e2⟩ := hF.1 q hq
    have hl : hk_ h q.1 ≠ 0 := by
      rw [e1]
      exact (by decide : ∀ q ∈ rp_K, q.2.1 ≠ 0) q hq
    rw [(hle q.1 hl).1, (hle q.1 hl).2]
    exact ⟨e1, e2⟩
  · have hn : ¬ S q.1 := fun z => by
      have h1 := hS _ z
      have h2 := (by decide : ∀ q ∈ rp_R, 2 < q.1 ∧ q.1 < 9) q hq
      omega
    rw [(e q.1 hn).2.2.2.1]
    exact hF.2 q hq
theorem FM_eq {h h' : am_H} {S : Nat → Prop} (hS : ¬ S 14) (e : am_eq S h h') (hle : am_le h h') (hM : FM h) : FM h' := by
  refine ⟨fun q hq => ?_, fun q hq => ?_⟩
  · obtain ⟨e1, e2⟩ := hM.1 q hq
    have hl : hk_ h q.1 ≠ 0 := by
      rw [e1]
      exact (by decide : ∀ q ∈ rp_KM, q.2.1 ≠ 0) q hq
    rw [(hle q.1 hl).1, (hle q.1 hl).2]
    exact ⟨e1, e2⟩
  · have hq14 : q.1 = 14 := (by decide : ∀ q ∈ rp_RM, q.1 = 14) q hq
    have e2 := hM.2 q hq
    rw [hq14] at e2 ⊢
    rw [(e 14 hS).2.2.2.1]
    exact e2
theorem DL_eq {h h' : am_H} {S : Nat → Prop} {n : Nat} (hn : n ≤ 6) (hS : ∀ r, S r → r < 100 ∨ 124 ≤ r) (e : am_eq S h h') (hD : DL h n) : DL h' n := by
  intro i hi
  have q0 := e (100 + 4 * i) (fun z => by have := hS _ z; omega)
  have q1 := e (101 + 4 * i) (fun z => by have := hS _ z; omega)
  have q2 := e (102 + 4 * i) (fun z => by have := hS _ z; omega)
  have q3 := e (103 + 4 * i) (fun z => by have := hS _ z; omega)
  obtain ⟨⟨a1, a2, a3, a4, a5, a6, a7⟩, ⟨b1, b2, b3⟩, c1⟩ := hD i hi
  refine ⟨⟨q0.1.trans a1, q1.1.trans a2, q1.2.1.trans a3, q2.1.trans a4, q2.2.1.trans a5, q3.1.trans a6, q3.2.1.trans a7⟩, ⟨(q0.2.2.2.1 _).trans b1, (q0.2.2.2.1 _).trans b2, (q0.2.2.2.1 _).trans b3⟩, fun k hk => ?_⟩
  rw [q3.2.2.2.1 k]
  exact c1 k hk
end
section
/-! ===== what a drawing is over its references: the class's recursion ===== -/
/-- the first of g i, g (i + 1), .., m of them, that isn't -1 -/
def fst6 (g : Nat → Int32) : Nat → Nat → Int32
  | _, 0 => -1
  | i, m + 1 => if g i = -1 then fst6 g (i + 1) m else g i
theorem fst6_skip {g : Nat → Int32} {i m : Nat} (h : g i = -1) : fst6 g i (m + 1) = fst6 g (i + 1) m := if_pos h
theorem fst6_hit {g : Nat → Int32} {i m : Nat} (h : ¬ g i = -1) : fst6 g i (m + 1) = g i := if_neg h
/-- what side s is in drawing d, over at most f references: t: what is told; r: who refers to whom -/
def sdF (t : Nat → Nat → Int32) (r : Nat → Nat → Bool) : Nat → Nat → Nat → Int32
  | 0, d, s => t d s
  | f + 1, d, s => if t d s = -1 then fst6 (fun k => if r d k = true then sdF t r f k s else -1) 0 6 else t d s
def any6 (g : Nat → Bool) : Nat → Nat → Bool
  | _, 0 => false
  | i, m + 1 => g i || any6 g (i + 1) m
/-- whether cell c has an exit in drawing d, over at most f references -/
def exF (x : Nat → Nat → Bool) (r : Nat → Nat → Bool) : Nat → Nat → Nat → Bool
  | 0, d, c => x d c
  | f + 1, d, c => x d c || any6 (fun k => r d k && exF x r f k c) 0 6
/-- whether drawing d leads to e, over at most f references -/
def ldF (r : Nat → Nat → Bool) : Nat → Nat → Nat → Bool
  | 0, d, e => decide (d = e)
  | f + 1, d, e => decide (d = e) || any6 (fun k => r d k && ldF r f k e) 0 6
/-- what the class's drawings hold -/
def tC (h : am_H) (d s : Nat) : Int32 := hi_ h (101 + 4 * d) s
def xC (h : am_H) (d c : Nat) : Bool := decide (hi_ h (102 + 4 * d) c ≠ 0)
def rC (h : am_H) (d k : Nat) : Bool := decide (hr_ h (103 + 4 * d) k ≠ 0)
def b2i (b : Bool) : Int32 := if b = true then 1 else 0
/-- exits are 0 or 1 -/
def XB (h : am_H) (n : Nat) : Prop := ∀ d, d < n → ∀ c, c < 25 → hi_ h (102 + 4 * d) c = b2i (xC h d c)
set_option maxRecDepth 100000 in
set_option maxHeartbeats 4000000 in
theorem c_X0_sideIn (G : am_G) (l : Launch) (htr : l.stackTraces = false) (h : am_H) (n : Nat) (hD : DL h n) (hn6 : n ≤ 6) (s : Nat) (hs : s < 40) : ∀ (f q d : Nat), f + q = 6 → d < n → am_Met G l yX0_sideIn (.code yX0_sideIn cX0_sideIn 8 (some .int)) (1 + f) 0 0 [.ref (100 + 4 * d), .int (nI s), .int (nI q)] h (fun v h' => v = some (.int (sdF (tC h) (rC h) f d s)) ∧ h' = h) am_no := by
  intro f
  induction f generalizing G l with
  | zero =>
    intro q d hfq hd
    refine am_intro rfl htr rfl (Nat.le_of_ble_eq_true rfl) (fun Z hC hR hI => ?_)
    change am_W Z 0 0 0 [.ref (100 + 4 * d), .int (nI s), .int (nI q), .null, .null, .null, .null, .null] [] h
    refine am_aload_n hC dX0_sideIn_0 rfl ?_
    refine am_get (v := .ref (101 + 4 * d)) hC (ci := 1) (N := 5) (j := 0) rfl (dk0 hD hd) (by decide) tw_245 (Or.inl rfl) dX0_sideIn_1 (am_rfe (dr0 hD hd)) ?_
    refine am_iload_n hC dX0_sideIn_4 rfl ?_
    refine am_ialdE (v := tC h d s) hC (j := s) (N := 40) (dk1 hD hd) (dn1 hD hd) rfl (by omega) (by decide) dX0_sideIn_5 rfl ?_
    refine am_iconst (v := -1) hC dX0_sideIn_6 (by decide) ?_
    refine am_icmp_ne (tgt := 16) hC dX0_sideIn_7 (by decide) (fun c_7 => ?_) (fun c_7 => ?_)
    · refine am_aload_n hC dX0_sideIn_16 rfl ?_
      refine am_get (v := .ref (101 + 4 * d)) hC (ci := 1) (N := 5) (j := 0) rfl (dk0 hD hd) (by decide) tw_245 (Or.inl rfl) dX0_sideIn_17 (am_rfe (dr0 hD hd)) ?_
      refine am_iload_n hC dX0_sideIn_20 rfl ?_
      refine am_ialdE (v := tC h d s) hC (j := s) (N := 40) (dk1 hD hd) (dn1 hD hd) rfl (by omega) (by decide) dX0_sideIn_21 rfl ?_
      refine am_iret hC hR rfl (by decide) (by decide) dX0_sideIn_22 ?_
      exact ⟨rfl, rfl⟩
    · refine am_iload_n hC dX0_sideIn_10 rfl ?_
      refine am_bipush (v := nI 6) hC dX0_sideIn_11 (by decide) ?_
      refine am_icmp_lt (tgt := 23) hC dX0_sideIn_13 (by decide) (fun c_13 => absurd c_13 (nI_nlt (by omega) (by omega))) (fun c_13 => ?_)
      refine am_aload_n hC dX0_sideIn_16 rfl ?_
      refine am_get (v := .ref (101 + 4 * d)) hC (ci := 1) (N := 5) (j := 0) rfl (dk0 hD hd) (by decide) tw_245 (Or.inl rfl) dX0_sideIn_17 (am_rfe (dr0 hD hd)) ?_
      refine am_iload_n hC dX0_sideIn_20 rfl ?_
      refine am_ialdE (v := tC h d s) hC (j := s) (N := 40) (dk1 hD hd) (dn1 hD hd) rfl (by omega) (by decide) dX0_sideIn_21 rfl ?_
      refine am_iret hC hR rfl (by decide) (by decide) dX0_sideIn_22 ?_
      exact ⟨rfl, rfl⟩
  | succ f ih =>
    intro q d hfq hd
    refine am_intro rfl htr rfl (Nat.le_of_ble_eq_true rfl) (fun Z hC hR hI => ?_)
    change am_W Z 0 0 0 [.ref (100 + 4 * d), .int (nI s), .int (nI q), .null, .null, .null, .null, .null] [] h
    have ih' : ∀ i, i < n → am_Met Z.1 Z.2.2.1 yX0_sideIn (.code yX0_sideIn cX0_sideIn 8 (some .int)) (1 + f) 0 0 [.ref (100 + 4 * i), .int (nI s), .int (nI (q + 1))] h (fun v h' => v = some (.int (sdF (tC h) (rC h) f i s)) ∧ h' = h) am_no := fun i hi => ih _ _ (am_tr hC) (q + 1) i (by omega) hi
    have loop : ∀ (m i : Nat), i + m = 6 → sdF (tC h) (rC h) (f + 1) d s = fst6 (fun k => if rC h d k = true then sdF (tC h) (rC h) f k s else -1) i m → am_W Z 0 0 35 [.ref (100 + 4 * d), .int (nI s), .int (nI q), .ref (103 + 4 * d), .int (nI 6), .int (nI i), .null, .null] [] h := by
      intro m
      induction m with
      | zero =>
        intro i him hq
        obtain rfl : i = 6 := by omega
        refine am_iload hC dX0_sideIn_35 rfl ?_
        refine am_iload hC dX0_sideIn_37 rfl ?_
        refine am_icmp_ge (tgt := 83) hC dX0_sideIn_39 (by decide) (fun c_39 => ?_) (fun c_39 => absurd (nI_le (by omega) (by omega)) c_39)
        refine am_iconst (v := -1) hC dX0_sideIn_83 (by decide) ?_
        refine am_iret hC hR rfl (by decide) (by decide) dX0_sideIn_84 ?_
        exact ⟨by rw [hq]; rfl, rfl⟩
      | succ m ihm =>
        intro i him hq
        refine am_iload hC dX0_sideIn_35 rfl ?_
        refine am_iload hC dX0_sideIn_37 rfl ?_
        refine am_icmp_ge (tgt := 83) hC dX0_sideIn_39 (by decide) (fun c_39 => absurd c_39 (nI_ge (by omega) (by omega))) (fun c_39 => ?_)
        refine am_aload_n hC dX0_sideIn_42 rfl ?_
        refine am_iload hC dX0_sideIn_43 rfl ?_
        refine am_aaldE (v := .ref (hr_ h (103 + 4 * d) i)) hC (j := i) (N := 6) (by decide) (dk3 hD hd) (dn3 hD hd) rfl (by omega) (by decide) dX0_sideIn_45 rfl ?_
        refine am_astore hC dX0_sideIn_46 (by decide) ?_
        change am_W _ _ _ _ [.ref (100 + 4 * d), .int (nI s), .int (nI q), .ref (103 + 4 * d), .int (nI 6), .int (nI i), .ref (hr_ h (103 + 4 * d) i), .null] _ _
        refine am_aload hC dX0_sideIn_48 rfl ?_
        refine am_ifnonnull (tgt := 57) hC dX0_sideIn_50 (by decide) (fun c_50 => ?_) (fun c_50 => ?_)
        · obtain ⟨hin, e2⟩ := (dro hD hd (by omega : i < 6)).resolve_left c_50
          rw [e2]
          refine am_aload hC dX0_sideIn_57 rfl ?_
          refine am_iload_n hC dX0_sideIn_59 rfl ?_
          refine am_iload_n hC dX0_sideIn_60 rfl ?_
          refine am_iconst (v := nI 1) hC dX0_sideIn_61 (by decide) ?_
          refine am_iaddE (z := nI (q + 1)) hC dX0_sideIn_62 (nI_add (q) (1)) ?_
          refine am_callS hC [.ref (100 + 4 * i), .int (nI s), .int (nI (q + 1))] mf_X0_sideIn tw_149 (ih' i hin) rfl ⟨rfl, Nat.le_of_ble_eq_true rfl⟩ ⟨by omega, by decide⟩ (by decide) (by decide) dX0_sideIn_63 rfl (fun _ _ q _ => False.elim q) (fun v h' hp hle => ?_)
          obtain ⟨rfl, rfl⟩ := hp
          refine am_istore hC dX0_sideIn_66 (by decide) ?_
          change am_W _ _ _ _ [.ref (100 + 4 * d), .int (nI s), .int (nI q), .ref (103 + 4 * d), .int (nI 6), .int (nI i), .ref (100 + 4 * i), .int (sdF (tC h') (rC h') f i s)] _ _
          refine am_iload hC dX0_sideIn_68 rfl ?_
          refine am_iconst (v := -1) hC dX0_sideIn_70 (by decide) ?_
          refine am_icmp_eq (tgt := 77) hC dX0_sideIn_71 (by decide) (fun c_71 => ?_) (fun c_71 => ?_)
          · have hq1 := hq.trans (fst6_skip (show (if rC h' d i = true then sdF (tC h') (rC h') f i s else -1) = -1 from (if_pos (decide_eq_true c_50)).trans c_71))
            refine am_iinc (v := nI (i + 1)) hC dX0_sideIn_77 rfl (nI_1 (i)) (by decide) ?_
            change am_W _ _ _ _ [.ref (100 + 4 * d), .int (nI s), .int (nI q), .ref (103 + 4 * d), .int (nI 6), .int (nI (i + 1)), .ref (100 + 4 * i), .int (sdF (tC h') (rC h') f i s)] _ _
            refine am_goto (tgt := 35) hC dX0_sideIn_80 (by decide) ?_
            exact am_fgt (ls' := [.ref (100 + 4 * d), .int (nI s), .int (nI q), .ref (103 + 4 * d), .int (nI 6), .int (nI (i + 1)), .null, .null]) ⟨Or.inl rfl, ⟨Or.inl rfl, ⟨Or.inl rfl, ⟨Or.inl rfl, ⟨Or.inl rfl, ⟨Or.inl rfl, ⟨Or.inr rfl, ⟨Or.inr rfl, trivial⟩⟩⟩⟩⟩⟩⟩⟩ (ihm (i + 1) (by omega) hq1)
          · refine am_iload hC dX0_sideIn_74 rfl ?_
            refine am_iret hC hR rfl (by decide) (by decide) dX0_sideIn_76 ?_
            have hg : (if rC h' d i = true then sdF (tC h') (rC h') f i s else -1) = sdF (tC h') (rC h') f i s := if_pos (decide_eq_true c_50)
            refine ⟨?_, rfl⟩
            rw [hq, fst6_hit (by show ¬ (if rC h' d i = true then sdF (tC h') (rC h') f i s else -1) = -1; rw [hg]; exact c_71)]
            exact congrArg (fun z => some (Value.int z)) hg.symm
        · refine am_iconst (v := -1) hC dX0_sideIn_53 (by decide) ?_
          refine am_goto (tgt := 66) hC dX0_sideIn_54 (by decide) ?_
          refine am_istore hC dX0_sideIn_66 (by decide) ?_
          change am_W _ _ _ _ [.ref (100 + 4 * d), .int (nI s), .int (nI q), .ref (103 + 4 * d), .int (nI 6), .int (nI i), .ref (hr_ h (103 + 4 * d) i), .int (-1)] _ _
          refine am_iload hC dX0_sideIn_68 rfl ?_
          refine am_iconst (v := -1) hC dX0_sideIn_70 (by decide) ?_
          refine am_icmp_eq (tgt := 77) hC dX0_sideIn_71 (by decide) (fun c_71 => ?_) (fun c_71 => absurd rfl c_71)
          have hq1 := hq.trans (fst6_skip (show (if rC h d i = true then sdF (tC h) (rC h) f i s else -1) = -1 from if_neg (fun z => (of_decide_eq_true z) c_50)))
          refine am_iinc (v := nI (i + 1)) hC dX0_sideIn_77 rfl (nI_1 (i)) (by decide) ?_
          change am_W _ _ _ _ [.ref (100 + 4 * d), .int (nI s), .int (nI q), .ref (103 + 4 * d), .int (nI 6), .int (nI (i + 1)), .ref (hr_ h (103 + 4 * d) i), .int (-1)] _ _
          refine am_goto (tgt := 35) hC dX0_sideIn_80 (by decide) ?_
          exact am_fgt (ls' := [.ref (100 + 4 * d), .int (nI s), .int (nI q), .ref (103 + 4 * d), .int (nI 6), .int (nI (i + 1)), .null, .null]) ⟨Or.inl rfl, ⟨Or.inl rfl, ⟨Or.inl rfl, ⟨Or.inl rfl, ⟨Or.inl rfl, ⟨Or.inl rfl, ⟨Or.inr rfl, ⟨Or.inr rfl, trivial⟩⟩⟩⟩⟩⟩⟩⟩ (ihm (i + 1) (by omega) hq1)
    refine am_aload_n hC dX0_sideIn_0 rfl ?_
    refine am_get (v := .ref (101 + 4 * d)) hC (ci := 1) (N := 5) (j := 0) rfl (dk0 hD hd) (by decide) tw_245 (Or.inl rfl) dX0_sideIn_1 (am_rfe (dr0 hD hd)) ?_
    refine am_iload_n hC dX0_sideIn_4 rfl ?_
    refine am_ialdE (v := tC h d s) hC (j := s) (N := 40) (dk1 hD hd) (dn1 hD hd) rfl (by omega) (by decide) dX0_sideIn_5 rfl ?_
    refine am_iconst (v := -1) hC dX0_sideIn_6 (by decide) ?_
    refine am_icmp_ne (tgt := 16) hC dX0_sideIn_7 (by decide) (fun c_7 => ?_) (fun c_7 => ?_)
    · refine am_aload_n hC dX0_sideIn_16 rfl ?_
      refine am_get (v := .ref (101 + 4 * d)) hC (ci := 1) (N := 5) (j := 0) rfl (dk0 hD hd) (by decide) tw_245 (Or.inl rfl) dX0_sideIn_17 (am_rfe (dr0 hD hd)) ?_
      refine am_iload_n hC dX0_sideIn_20 rfl ?_
      refine am_ialdE (v := tC h d s) hC (j := s) (N := 40) (dk1 hD hd) (dn1 hD hd) rfl (by omega) (by decide) dX0_sideIn_21 rfl ?_
      refine am_iret hC hR rfl (by decide) (by decide) dX0_sideIn_22 ?_
      refine ⟨?_, rfl⟩
      unfold sdF
      rw [if_neg c_7]
    · refine am_iload_n hC dX0_sideIn_10 rfl ?_
      refine am_bipush (v := nI 6) hC dX0_sideIn_11 (by decide) ?_
      refine am_icmp_lt (tgt := 23) hC dX0_sideIn_13 (by decide) (fun c_13 => ?_) (fun c_13 => absurd (nI_lt (by omega) (by omega)) c_13)
      refine am_aload_n hC dX0_sideIn_23 rfl ?_
      refine am_get (v := .ref (103 + 4 * d)) hC (ci := 1) (N := 5) (j := 2) rfl (dk0 hD hd) (by decide) tw_249 (Or.inl rfl) dX0_sideIn_24 (am_rfe (dr2 hD hd)) ?_
      refine am_astore_n hC dX0_sideIn_27 (by decide) ?_
      change am_W _ _ _ _ [.ref (100 + 4 * d), .int (nI s), .int (nI q), .ref (103 + 4 * d), .null, .null, .null, .null] _ _
      refine am_aload_n hC dX0_sideIn_28 rfl ?_
      refine am_alen hC (by decide) (dk3 hD hd) (dn3 hD hd) dX0_sideIn_29 ?_
      refine am_istore hC dX0_sideIn_30 (by decide) ?_
      change am_W _ _ _ _ [.ref (100 + 4 * d), .int (nI s), .int (nI q), .ref (103 + 4 * d), .int (nI 6), .null, .null, .null] _ _
      refine am_iconst (v := nI 0) hC dX0_sideIn_32 (by decide) ?_
      refine am_istore hC dX0_sideIn_33 (by decide) ?_
      change am_W _ _ _ _ [.ref (100 + 4 * d), .int (nI s), .int (nI q), .ref (103 + 4 * d), .int (nI 6), .int (nI 0), .null, .null] _ _
      have hq0 : sdF (tC h) (rC h) (f + 1) d s = fst6 (fun k => if rC h d k = true then sdF (tC h) (rC h) f k s else -1) 0 6 := by
        show (if _ then _ else _) = _
        rw [if_pos c_7]
      exact am_fgt (ls' := [.ref (100 + 4 * d), .int (nI s), .int (nI q), .ref (103 + 4 * d), .int (nI 6), .int (nI 0), .null, .null]) ⟨Or.inl rfl, ⟨Or.inl rfl, ⟨Or.inl rfl, ⟨Or.inl rfl, ⟨Or.inl rfl, ⟨Or.inl rfl, ⟨Or.inr rfl, ⟨Or.inr rfl, trivial⟩⟩⟩⟩⟩⟩⟩⟩ (loop 6 0 rfl hq0)
end
