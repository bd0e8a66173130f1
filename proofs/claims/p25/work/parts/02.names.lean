/-! ===== BEGIN printed: names, fields, word lists, decode rows ===== -/
def RX0 : String := "HousePlans$Drawing"
def TX0 : u_T := fun k => match k with
  | 0 => ("HousePlans$Drawing", "told", "[I", true)
  | 1 => ("HousePlans$Drawing", "toldExits", "[Z", true)
  | 2 => ("HousePlans$Drawing", "others", "[LHousePlans$Drawing;", true)
  | 3 => ("HousePlans$Drawing", "locker", "I", false)
  | _ => ("HousePlans$Drawing", "borrower", "I", false)
def tyX0 : Nat → FieldType := fun k => match k with
  | 0 => .array .int
  | 1 => .array .boolean
  | 2 => .array (.object "HousePlans$Drawing")
  | 3 => .int
  | _ => .int
theorem nmX0 : ∀ a, a < 5 → ∀ b, b < 5 → a ≠ b → (TX0 a).2.1 ≠ (TX0 b).2.1 := by decide +kernel
theorem tyX0_ok : ∀ k, k < 5 → parseFieldDescriptor (TX0 k).2.2.1 = some (tyX0 k) := by decide +kernel
abbrev cX0_init : ByteArray := prog_2_method_1_code
def yX0_init : MethodName := ⟨RX0, "<init>", "()V"⟩
abbrev cX0_changer : ByteArray := prog_2_method_2_code
def yX0_changer : MethodName := ⟨RX0, "changer", "()I"⟩
abbrev cX0_sideNow : ByteArray := prog_2_method_3_code
def yX0_sideNow : MethodName := ⟨RX0, "sideNow", "(I)I"⟩
abbrev cX0_exitNow : ByteArray := prog_2_method_4_code
def yX0_exitNow : MethodName := ⟨RX0, "exitNow", "(I)Z"⟩
abbrev cX0_leadsTo : ByteArray := prog_2_method_5_code
def yX0_leadsTo : MethodName := ⟨RX0, "leadsTo", "(LHousePlans$Drawing;)Z"⟩
abbrev cX0_sideIn : ByteArray := prog_2_method_6_code
def yX0_sideIn : MethodName := ⟨RX0, "sideIn", "(LHousePlans$Drawing;II)I"⟩
abbrev cX0_exitIn : ByteArray := prog_2_method_7_code
def yX0_exitIn : MethodName := ⟨RX0, "exitIn", "(LHousePlans$Drawing;II)Z"⟩
abbrev cX0_leads : ByteArray := prog_2_method_8_code
def yX0_leads : MethodName := ⟨RX0, "leads", "(LHousePlans$Drawing;LHousePlans$Drawing;I)Z"⟩
def RX1 : String := "HousePlans$Floor"
def TX1 : u_T := fun k => match k with
  | 0 => ("HousePlans$Floor", "state", "LHousePlans$State;", true)
  | 1 => ("HousePlans$Floor", "roomOf", "[I", true)
  | 2 => ("HousePlans$Floor", "doorsOutOf", "[I", true)
  | _ => ("HousePlans$Floor", "doorsFrom", "[I", true)
def tyX1 : Nat → FieldType := fun k => match k with
  | 0 => .object "HousePlans$State"
  | 1 => .array .int
  | 2 => .array .int
  | _ => .array .int
theorem nmX1 : ∀ a, a < 4 → ∀ b, b < 4 → a ≠ b → (TX1 a).2.1 ≠ (TX1 b).2.1 := by decide +kernel
theorem tyX1_ok : ∀ k, k < 4 → parseFieldDescriptor (TX1 k).2.2.1 = some (tyX1 k) := by decide +kernel
abbrev cX1_init : ByteArray := prog_3_method_1_code
def yX1_init : MethodName := ⟨RX1, "<init>", "()V"⟩
abbrev cX1_lookAt : ByteArray := prog_3_method_2_code
def yX1_lookAt : MethodName := ⟨RX1, "lookAt", "(LHousePlans$Drawing;)V"⟩
abbrev cX1_findRooms : ByteArray := prog_3_method_3_code
def yX1_findRooms : MethodName := ⟨RX1, "findRooms", "()V"⟩
abbrev cX1_join : ByteArray := prog_3_method_4_code
def yX1_join : MethodName := ⟨RX1, "join", "(II)V"⟩
abbrev cX1_findWaysOut : ByteArray := prog_3_method_5_code
def yX1_findWaysOut : MethodName := ⟨RX1, "findWaysOut", "()V"⟩
abbrev cX1_goThroughDoors : ByteArray := prog_3_method_6_code
def yX1_goThroughDoors : MethodName := ⟨RX1, "goThroughDoors", "([I)V"⟩
abbrev cX1_goThrough : ByteArray := prog_3_method_7_code
def yX1_goThrough : MethodName := ⟨RX1, "goThrough", "([IIII)Z"⟩
abbrev cX1_countRooms : ByteArray := prog_3_method_8_code
def yX1_countRooms : MethodName := ⟨RX1, "countRooms", "()I"⟩
abbrev cX1_countCells : ByteArray := prog_3_method_9_code
def yX1_countCells : MethodName := ⟨RX1, "countCells", "(I)I"⟩
abbrev cX1_everyRoomHasWayOut : ByteArray := prog_3_method_10_code
def yX1_everyRoomHasWayOut : MethodName := ⟨RX1, "everyRoomHasWayOut", "()Z"⟩
abbrev cX1_wallThatHelps : ByteArray := prog_3_method_11_code
def yX1_wallThatHelps : MethodName := ⟨RX1, "wallThatHelps", "(I)I"⟩
abbrev cX1_leadsOut : ByteArray := prog_3_method_12_code
def yX1_leadsOut : MethodName := ⟨RX1, "leadsOut", "(II)Z"⟩
def RX2 : String := "HousePlans$Permit"
def TX2 : u_T := fun k => match k with
  | 0 => ("HousePlans$Permit", "drawing", "LHousePlans$Drawing;", true)
  | _ => ("HousePlans$Permit", "kept", "LHousePlans$State;", true)
def tyX2 : Nat → FieldType := fun k => match k with
  | 0 => .object "HousePlans$Drawing"
  | _ => .object "HousePlans$State"
theorem nmX2 : ∀ a, a < 2 → ∀ b, b < 2 → a ≠ b → (TX2 a).2.1 ≠ (TX2 b).2.1 := by decide +kernel
theorem tyX2_ok : ∀ k, k < 2 → parseFieldDescriptor (TX2 k).2.2.1 = some (tyX2 k) := by decide +kernel
abbrev cX2_init : ByteArray := prog_4_method_1_code
def yX2_init : MethodName := ⟨RX2, "<init>", "(LHousePlans$Drawing;)V"⟩
abbrev cX2_isValid : ByteArray := prog_4_method_2_code
def yX2_isValid : MethodName := ⟨RX2, "isValid", "()Z"⟩
def RX3 : String := "HousePlans$Print"
def TX3 : u_T := fun k => match k with
  | 0 => ("HousePlans$Print", "drawing", "LHousePlans$Drawing;", true)
  | 1 => ("HousePlans$Print", "kept", "LHousePlans$State;", true)
  | _ => ("HousePlans$Print", "permit", "I", true)
def tyX3 : Nat → FieldType := fun k => match k with
  | 0 => .object "HousePlans$Drawing"
  | 1 => .object "HousePlans$State"
  | _ => .int
theorem nmX3 : ∀ a, a < 3 → ∀ b, b < 3 → a ≠ b → (TX3 a).2.1 ≠ (TX3 b).2.1 := by decide +kernel
theorem tyX3_ok : ∀ k, k < 3 → parseFieldDescriptor (TX3 k).2.2.1 = some (tyX3 k) := by decide +kernel
abbrev cX3_init : ByteArray := prog_5_method_1_code
def yX3_init : MethodName := ⟨RX3, "<init>", "(LHousePlans$Drawing;I)V"⟩
abbrev cX3_isOld : ByteArray := prog_5_method_2_code
def yX3_isOld : MethodName := ⟨RX3, "isOld", "()Z"⟩
def RX4 : String := "HousePlans$State"
def TX4 : u_T := fun k => match k with
  | 0 => ("HousePlans$State", "sides", "[I", true)
  | _ => ("HousePlans$State", "exits", "[Z", true)
def tyX4 : Nat → FieldType := fun k => match k with
  | 0 => .array .int
  | _ => .array .boolean
theorem nmX4 : ∀ a, a < 2 → ∀ b, b < 2 → a ≠ b → (TX4 a).2.1 ≠ (TX4 b).2.1 := by decide +kernel
theorem tyX4_ok : ∀ k, k < 2 → parseFieldDescriptor (TX4 k).2.2.1 = some (tyX4 k) := by decide +kernel
abbrev cX4_init : ByteArray := prog_6_method_1_code
def yX4_init : MethodName := ⟨RX4, "<init>", "()V"⟩
abbrev cX4_takeFrom : ByteArray := prog_6_method_2_code
def yX4_takeFrom : MethodName := ⟨RX4, "takeFrom", "(LHousePlans$Drawing;)V"⟩
abbrev cX4_isThatOf : ByteArray := prog_6_method_3_code
def yX4_isThatOf : MethodName := ⟨RX4, "isThatOf", "(LHousePlans$Drawing;)Z"⟩
def RX5 : String := "HousePlans"
def TX5 : u_T := fun k => match k with
  | 0 => ("HousePlans", "drawingList", "Ljava/util/ArrayList;", true)
  | 1 => ("HousePlans", "permitList", "Ljava/util/ArrayList;", true)
  | 2 => ("HousePlans", "printList", "Ljava/util/ArrayList;", true)
  | _ => ("HousePlans", "floor", "LHousePlans$Floor;", true)
def tyX5 : Nat → FieldType := fun k => match k with
  | 0 => .object "java/util/ArrayList"
  | 1 => .object "java/util/ArrayList"
  | 2 => .object "java/util/ArrayList"
  | _ => .object "HousePlans$Floor"
theorem nmX5 : ∀ a, a < 4 → ∀ b, b < 4 → a ≠ b → (TX5 a).2.1 ≠ (TX5 b).2.1 := by decide +kernel
theorem tyX5_ok : ∀ k, k < 4 → parseFieldDescriptor (TX5 k).2.2.1 = some (tyX5 k) := by decide +kernel
abbrev cX5_init : ByteArray := prog_1_method_1_code
def yX5_init : MethodName := ⟨RX5, "<init>", "()V"⟩
abbrev cX5_begin : ByteArray := prog_1_method_2_code
def yX5_begin : MethodName := ⟨RX5, "begin", "()I"⟩
abbrev cX5_tell : ByteArray := prog_1_method_3_code
def yX5_tell : MethodName := ⟨RX5, "tell", "(IIII)I"⟩
abbrev cX5_setExit : ByteArray := prog_1_method_4_code
def yX5_setExit : MethodName := ⟨RX5, "setExit", "(IIIZ)Z"⟩
abbrev cX5_refer : ByteArray := prog_1_method_5_code
def yX5_refer : MethodName := ⟨RX5, "refer", "(IIIZ)Z"⟩
abbrev cX5_drawings : ByteArray := prog_1_method_6_code
def yX5_drawings : MethodName := ⟨RX5, "drawings", "()I"⟩
abbrev cX5_side : ByteArray := prog_1_method_7_code
def yX5_side : MethodName := ⟨RX5, "side", "(II)I"⟩
abbrev cX5_hasExit : ByteArray := prog_1_method_8_code
def yX5_hasExit : MethodName := ⟨RX5, "hasExit", "(II)Z"⟩
abbrev cX5_rooms : ByteArray := prog_1_method_9_code
def yX5_rooms : MethodName := ⟨RX5, "rooms", "(I)I"⟩
abbrev cX5_room : ByteArray := prog_1_method_10_code
def yX5_room : MethodName := ⟨RX5, "room", "(II)I"⟩
abbrev cX5_size : ByteArray := prog_1_method_11_code
def yX5_size : MethodName := ⟨RX5, "size", "(II)I"⟩
abbrev cX5_doorsOut : ByteArray := prog_1_method_12_code
def yX5_doorsOut : MethodName := ⟨RX5, "doorsOut", "(II)I"⟩
abbrev cX5_doorThatHelps : ByteArray := prog_1_method_13_code
def yX5_doorThatHelps : MethodName := ⟨RX5, "doorThatHelps", "(II)I"⟩
abbrev cX5_lock : ByteArray := prog_1_method_14_code
def yX5_lock : MethodName := ⟨RX5, "lock", "(II)V"⟩
abbrev cX5_unlock : ByteArray := prog_1_method_15_code
def yX5_unlock : MethodName := ⟨RX5, "unlock", "(II)V"⟩
abbrev cX5_lend : ByteArray := prog_1_method_16_code
def yX5_lend : MethodName := ⟨RX5, "lend", "(III)I"⟩
abbrev cX5_canChange : ByteArray := prog_1_method_17_code
def yX5_canChange : MethodName := ⟨RX5, "canChange", "(I)I"⟩
abbrev cX5_grant : ByteArray := prog_1_method_18_code
def yX5_grant : MethodName := ⟨RX5, "grant", "(I)I"⟩
abbrev cX5_holds : ByteArray := prog_1_method_19_code
def yX5_holds : MethodName := ⟨RX5, "holds", "(I)Z"⟩
abbrev cX5_print : ByteArray := prog_1_method_20_code
def yX5_print : MethodName := ⟨RX5, "print", "(I)I"⟩
abbrev cX5_permitOf : ByteArray := prog_1_method_21_code
def yX5_permitOf : MethodName := ⟨RX5, "permitOf", "(I)I"⟩
abbrev cX5_isGood : ByteArray := prog_1_method_22_code
def yX5_isGood : MethodName := ⟨RX5, "isGood", "(I)Z"⟩
abbrev cX5_old : ByteArray := prog_1_method_23_code
def yX5_old : MethodName := ⟨RX5, "old", "()I"⟩
abbrev cX5_drawingAt : ByteArray := prog_1_method_24_code
def yX5_drawingAt : MethodName := ⟨RX5, "drawingAt", "(I)LHousePlans$Drawing;"⟩
abbrev cX5_printAt : ByteArray := prog_1_method_25_code
def yX5_printAt : MethodName := ⟨RX5, "printAt", "(I)LHousePlans$Print;"⟩
abbrev cX5_highestPermit : ByteArray := prog_1_method_26_code
def yX5_highestPermit : MethodName := ⟨RX5, "highestPermit", "(LHousePlans$Drawing;)I"⟩
abbrev cX5_needPerson : ByteArray := prog_1_method_27_code
def yX5_needPerson : MethodName := ⟨RX5, "needPerson", "(I)V"⟩
abbrev cX5_needSide : ByteArray := prog_1_method_28_code
def yX5_needSide : MethodName := ⟨RX5, "needSide", "(I)V"⟩
abbrev cX5_needCell : ByteArray := prog_1_method_29_code
def yX5_needCell : MethodName := ⟨RX5, "needCell", "(I)V"⟩
abbrev cX5_needChanger : ByteArray := prog_1_method_30_code
def yX5_needChanger : MethodName := ⟨RX5, "needChanger", "(LHousePlans$Drawing;I)V"⟩
abbrev cX5_needLocker : ByteArray := prog_1_method_31_code
def yX5_needLocker : MethodName := ⟨RX5, "needLocker", "(LHousePlans$Drawing;I)V"⟩
abbrev cX5_firstCell : ByteArray := prog_1_method_32_code
def yX5_firstCell : MethodName := ⟨RX5, "firstCell", "(I)I"⟩
abbrev cX5_secondCell : ByteArray := prog_1_method_33_code
def yX5_secondCell : MethodName := ⟨RX5, "secondCell", "(I)I"⟩
def RX6 : String := "HousePlansModel"
def TX6 : u_T := fun k => match k with
  | _ => ("", "", "", false)
def tyX6 : Nat → FieldType := fun k => match k with
  | _ => .int
theorem nmX6 : ∀ a, a < 0 → ∀ b, b < 0 → a ≠ b → (TX6 a).2.1 ≠ (TX6 b).2.1 := by decide +kernel
theorem tyX6_ok : ∀ k, k < 0 → parseFieldDescriptor (TX6 k).2.2.1 = some (tyX6 k) := by decide +kernel
def RJx145de : String := "java/io/Serializable"
def TJx145de : u_T := fun k => match k with
  | _ => ("", "", "", false)
def tyJx145de : Nat → FieldType := fun k => match k with
  | _ => .int
theorem nmJx145de : ∀ a, a < 0 → ∀ b, b < 0 → a ≠ b → (TJx145de a).2.1 ≠ (TJx145de b).2.1 := by decide +kernel
theorem tyJx145de_ok : ∀ k, k < 0 → parseFieldDescriptor (TJx145de k).2.2.1 = some (tyJx145de k) := by decide +kernel
def RJx8e188 : String := "java/lang/Cloneable"
def TJx8e188 : u_T := fun k => match k with
  | _ => ("", "", "", false)
def tyJx8e188 : Nat → FieldType := fun k => match k with
  | _ => .int
theorem nmJx8e188 : ∀ a, a < 0 → ∀ b, b < 0 → a ≠ b → (TJx8e188 a).2.1 ≠ (TJx8e188 b).2.1 := by decide +kernel
theorem tyJx8e188_ok : ∀ k, k < 0 → parseFieldDescriptor (TJx8e188 k).2.2.1 = some (tyJx8e188 k) := by decide +kernel
def RJxab1ab : String := "java/lang/Iterable"
def TJxab1ab : u_T := fun k => match k with
  | _ => ("", "", "", false)
def tyJxab1ab : Nat → FieldType := fun k => match k with
  | _ => .int
theorem nmJxab1ab : ∀ a, a < 0 → ∀ b, b < 0 → a ≠ b → (TJxab1ab a).2.1 ≠ (TJxab1ab b).2.1 := by decide +kernel
theorem tyJxab1ab_ok : ∀ k, k < 0 → parseFieldDescriptor (TJxab1ab k).2.2.1 = some (tyJxab1ab k) := by decide +kernel
def RJ9 : String := "java/lang/Math"
def TJ9 : u_T := fun k => match k with
  | _ => ("", "", "", false)
def tyJ9 : Nat → FieldType := fun k => match k with
  | _ => .int
theorem nmJ9 : ∀ a, a < 0 → ∀ b, b < 0 → a ≠ b → (TJ9 a).2.1 ≠ (TJ9 b).2.1 := by decide +kernel
theorem tyJ9_ok : ∀ k, k < 0 → parseFieldDescriptor (TJ9 k).2.2.1 = some (tyJ9 k) := by decide +kernel
abbrev cJ9_max_7cf53 : ByteArray := prog_16_method_65_code
def yJ9_max_7cf53 : MethodName := ⟨RJ9, "max", "(II)I"⟩
abbrev cJ9_min_7cf53 : ByteArray := prog_16_method_69_code
def yJ9_min_7cf53 : MethodName := ⟨RJ9, "min", "(II)I"⟩
def RJ0 : String := "java/lang/String"
def TJ0 : u_T := fun k => match k with
  | _ => ("", "", "", false)
def tyJ0 : Nat → FieldType := fun k => match k with
  | _ => .int
theorem nmJ0 : ∀ a, a < 0 → ∀ b, b < 0 → a ≠ b → (TJ0 a).2.1 ≠ (TJ0 b).2.1 := by decide +kernel
theorem tyJ0_ok : ∀ k, k < 0 → parseFieldDescriptor (TJ0 k).2.2.1 = some (tyJ0 k) := by decide +kernel
def RJ10 : String := "java/lang/System"
def TJ10 : u_T := fun k => match k with
  | _ => ("", "", "", false)
def tyJ10 : Nat → FieldType := fun k => match k with
  | _ => .int
theorem nmJ10 : ∀ a, a < 0 → ∀ b, b < 0 → a ≠ b → (TJ10 a).2.1 ≠ (TJ10 b).2.1 := by decide +kernel
theorem tyJ10_ok : ∀ k, k < 0 → parseFieldDescriptor (TJ10 k).2.2.1 = some (tyJ10 k) := by decide +kernel
def RJxa1e45 : String := "java/util/AbstractCollection"
def TJxa1e45 : u_T := fun k => match k with
  | _ => ("", "", "", false)
def tyJxa1e45 : Nat → FieldType := fun k => match k with
  | _ => .int
theorem nmJxa1e45 : ∀ a, a < 0 → ∀ b, b < 0 → a ≠ b → (TJxa1e45 a).2.1 ≠ (TJxa1e45 b).2.1 := by decide +kernel
theorem tyJxa1e45_ok : ∀ k, k < 0 → parseFieldDescriptor (TJxa1e45 k).2.2.1 = some (tyJxa1e45 k) := by decide +kernel
abbrev cJxa1e45_init_da8c8 : ByteArray := prog_21_method_1_code
def yJxa1e45_init_da8c8 : MethodName := ⟨RJxa1e45, "<init>", "()V"⟩
def RJxc12de : String := "java/util/AbstractList"
def TJxc12de : u_T := fun k => match k with
  | _ => ("", "", "", false)
def tyJxc12de : Nat → FieldType := fun k => match k with
  | _ => .int
theorem nmJxc12de : ∀ a, a < 0 → ∀ b, b < 0 → a ≠ b → (TJxc12de a).2.1 ≠ (TJxc12de b).2.1 := by decide +kernel
theorem tyJxc12de_ok : ∀ k, k < 0 → parseFieldDescriptor (TJxc12de k).2.2.1 = some (tyJxc12de k) := by decide +kernel
abbrev cJxc12de_init_da8c8 : ByteArray := prog_22_method_1_code
def yJxc12de_init_da8c8 : MethodName := ⟨RJxc12de, "<init>", "()V"⟩
def RJx4a65c : String := "java/util/ArrayList"
def TJx4a65c : u_T := fun k => match k with
  | 0 => ("java/util/AbstractList", "modCount", "I", false)
  | 1 => ("java/util/ArrayList", "elementData", "[Ljava/lang/Object;", false)
  | _ => ("java/util/ArrayList", "size", "I", false)
def tyJx4a65c : Nat → FieldType := fun k => match k with
  | 0 => .int
  | 1 => .array (.object "java/lang/Object")
  | _ => .int
theorem nmJx4a65c : ∀ a, a < 3 → ∀ b, b < 3 → a ≠ b → (TJx4a65c a).2.1 ≠ (TJx4a65c b).2.1 := by decide +kernel
theorem tyJx4a65c_ok : ∀ k, k < 3 → parseFieldDescriptor (TJx4a65c k).2.2.1 = some (tyJx4a65c k) := by decide +kernel
abbrev cJx4a65c_init_da8c8 : ByteArray := prog_23_method_2_code
def yJx4a65c_init_da8c8 : MethodName := ⟨RJx4a65c, "<init>", "()V"⟩
abbrev cJx4a65c_grow_92f84 : ByteArray := prog_23_method_6_code
def yJx4a65c_grow_92f84 : MethodName := ⟨RJx4a65c, "grow", "(I)[Ljava/lang/Object;"⟩
abbrev cJx4a65c_grow_d5877 : ByteArray := prog_23_method_7_code
def yJx4a65c_grow_d5877 : MethodName := ⟨RJx4a65c, "grow", "()[Ljava/lang/Object;"⟩
abbrev cJx4a65c_size_8abf5 : ByteArray := prog_23_method_8_code
def yJx4a65c_size_8abf5 : MethodName := ⟨RJx4a65c, "size", "()I"⟩
abbrev cJx4a65c_elementData_915e3 : ByteArray := prog_23_method_18_code
def yJx4a65c_elementData_915e3 : MethodName := ⟨RJx4a65c, "elementData", "(I)Ljava/lang/Object;"⟩
abbrev cJx4a65c_get_915e3 : ByteArray := prog_23_method_20_code
def yJx4a65c_get_915e3 : MethodName := ⟨RJx4a65c, "get", "(I)Ljava/lang/Object;"⟩
abbrev cJx4a65c_add_72be8 : ByteArray := prog_23_method_24_code
def yJx4a65c_add_72be8 : MethodName := ⟨RJx4a65c, "add", "(Ljava/lang/Object;[Ljava/lang/Object;I)V"⟩
abbrev cJx4a65c_add_9ea2d : ByteArray := prog_23_method_25_code
def yJx4a65c_add_9ea2d : MethodName := ⟨RJx4a65c, "add", "(Ljava/lang/Object;)Z"⟩
def RJ7 : String := "java/util/Arrays"
def TJ7 : u_T := fun k => match k with
  | _ => ("", "", "", false)
def tyJ7 : Nat → FieldType := fun k => match k with
  | _ => .int
theorem nmJ7 : ∀ a, a < 0 → ∀ b, b < 0 → a ≠ b → (TJ7 a).2.1 ≠ (TJ7 b).2.1 := by decide +kernel
theorem tyJ7_ok : ∀ k, k < 0 → parseFieldDescriptor (TJ7 k).2.2.1 = some (tyJ7 k) := by decide +kernel
abbrev cJ7_fill_53178 : ByteArray := prog_24_method_103_code
def yJ7_fill_53178 : MethodName := ⟨RJ7, "fill", "([II)V"⟩
abbrev cJ7_copyOf_1904c : ByteArray := prog_24_method_119_code
def yJ7_copyOf_1904c : MethodName := ⟨RJ7, "copyOf", "([Ljava/lang/Object;I)[Ljava/lang/Object;"⟩
abbrev cJ7_copyOf_6403c : ByteArray := prog_24_method_120_code
def yJ7_copyOf_6403c : MethodName := ⟨RJ7, "copyOf", "([Ljava/lang/Object;ILjava/lang/Class;)[Ljava/lang/Object;"⟩
def RJx5ef63 : String := "java/util/Collection"
def TJx5ef63 : u_T := fun k => match k with
  | _ => ("", "", "", false)
def tyJx5ef63 : Nat → FieldType := fun k => match k with
  | _ => .int
theorem nmJx5ef63 : ∀ a, a < 0 → ∀ b, b < 0 → a ≠ b → (TJx5ef63 a).2.1 ≠ (TJx5ef63 b).2.1 := by decide +kernel
theorem tyJx5ef63_ok : ∀ k, k < 0 → parseFieldDescriptor (TJx5ef63 k).2.2.1 = some (tyJx5ef63 k) := by decide +kernel
def RJxbd725 : String := "java/util/List"
def TJxbd725 : u_T := fun k => match k with
  | _ => ("", "", "", false)
def tyJxbd725 : Nat → FieldType := fun k => match k with
  | _ => .int
theorem nmJxbd725 : ∀ a, a < 0 → ∀ b, b < 0 → a ≠ b → (TJxbd725 a).2.1 ≠ (TJxbd725 b).2.1 := by decide +kernel
theorem tyJxbd725_ok : ∀ k, k < 0 → parseFieldDescriptor (TJxbd725 k).2.2.1 = some (tyJxbd725 k) := by decide +kernel
def RJ15 : String := "java/util/Objects"
def TJ15 : u_T := fun k => match k with
  | _ => ("", "", "", false)
def tyJ15 : Nat → FieldType := fun k => match k with
  | _ => .int
theorem nmJ15 : ∀ a, a < 0 → ∀ b, b < 0 → a ≠ b → (TJ15 a).2.1 ≠ (TJ15 b).2.1 := by decide +kernel
theorem tyJ15_ok : ∀ k, k < 0 → parseFieldDescriptor (TJ15 k).2.2.1 = some (tyJ15 k) := by decide +kernel
abbrev cJ15_checkIndex_7cf53 : ByteArray := prog_27_method_17_code
def yJ15_checkIndex_7cf53 : MethodName := ⟨RJ15, "checkIndex", "(II)I"⟩
def RJxf0a74 : String := "java/util/RandomAccess"
def TJxf0a74 : u_T := fun k => match k with
  | _ => ("", "", "", false)
def tyJxf0a74 : Nat → FieldType := fun k => match k with
  | _ => .int
theorem nmJxf0a74 : ∀ a, a < 0 → ∀ b, b < 0 → a ≠ b → (TJxf0a74 a).2.1 ≠ (TJxf0a74 b).2.1 := by decide +kernel
theorem tyJxf0a74_ok : ∀ k, k < 0 → parseFieldDescriptor (TJxf0a74 k).2.2.1 = some (tyJxf0a74 k) := by decide +kernel
def RJxa66e6 : String := "java/util/SequencedCollection"
def TJxa66e6 : u_T := fun k => match k with
  | _ => ("", "", "", false)
def tyJxa66e6 : Nat → FieldType := fun k => match k with
  | _ => .int
theorem nmJxa66e6 : ∀ a, a < 0 → ∀ b, b < 0 → a ≠ b → (TJxa66e6 a).2.1 ≠ (TJxa66e6 b).2.1 := by decide +kernel
theorem tyJxa66e6_ok : ∀ k, k < 0 → parseFieldDescriptor (TJxa66e6 k).2.2.1 = some (tyJxa66e6 k) := by decide +kernel
def RJ8 : String := "jdk/internal/util/ArraysSupport"
def TJ8 : u_T := fun k => match k with
  | _ => ("", "", "", false)
def tyJ8 : Nat → FieldType := fun k => match k with
  | _ => .int
theorem nmJ8 : ∀ a, a < 0 → ∀ b, b < 0 → a ≠ b → (TJ8 a).2.1 ≠ (TJ8 b).2.1 := by decide +kernel
theorem tyJ8_ok : ∀ k, k < 0 → parseFieldDescriptor (TJ8 k).2.2.1 = some (tyJ8 k) := by decide +kernel
abbrev cJ8_newLength_cabcc : ByteArray := prog_30_method_27_code
def yJ8_newLength_cabcc : MethodName := ⟨RJ8, "newLength", "(III)I"⟩
abbrev cJ8_hugeLength_7cf53 : ByteArray := prog_30_method_28_code
def yJ8_hugeLength_7cf53 : MethodName := ⟨RJ8, "hugeLength", "(II)I"⟩
def RJ3 : String := "jdk/internal/util/Preconditions"
def TJ3 : u_T := fun k => match k with
  | _ => ("", "", "", false)
def tyJ3 : Nat → FieldType := fun k => match k with
  | _ => .int
theorem nmJ3 : ∀ a, a < 0 → ∀ b, b < 0 → a ≠ b → (TJ3 a).2.1 ≠ (TJ3 b).2.1 := by decide +kernel
theorem tyJ3_ok : ∀ k, k < 0 → parseFieldDescriptor (TJ3 k).2.2.1 = some (tyJ3 k) := by decide +kernel
abbrev cJ3_checkIndex_8e157 : ByteArray := prog_31_method_11_code
def yJ3_checkIndex_8e157 : MethodName := ⟨RJ3, "checkIndex", "(IILjava/util/function/BiFunction;)I"⟩
def RL : String := "HousePlansLaw"
abbrev cL_lock : ByteArray := method_2_code
def yL_lock : MethodName := ⟨RL, "lock", "(LHousePlans;II)I"⟩
abbrev cL_unlock : ByteArray := method_3_code
def yL_unlock : MethodName := ⟨RL, "unlock", "(LHousePlans;II)I"⟩
abbrev cL_act : ByteArray := method_4_code
def yL_act : MethodName := ⟨RL, "act", "(LHousePlans;IIIII)I"⟩
abbrev cL_refuses : ByteArray := method_5_code
def yL_refuses : MethodName := ⟨RL, "refuses", "(LHousePlans;II)Z"⟩
abbrev cL_cell : ByteArray := method_6_code
def yL_cell : MethodName := ⟨RL, "cell", "(LHousePlans;IIIIII)Z"⟩
abbrev cL_floor : ByteArray := method_7_code
def yL_floor : MethodName := ⟨RL, "floor", "()Z"⟩
abbrev cL_rows : ByteArray := method_8_code
def yL_rows : MethodName := ⟨RL, "rows", "()Z"⟩
abbrev cL_hands : ByteArray := method_9_code
def yL_hands : MethodName := ⟨RL, "hands", "()Z"⟩
abbrev cL_law : ByteArray := code
def yL_law : MethodName := ⟨RL, "law", "([I)Z"⟩
abbrev vwCl : List vw_C := [(RJx4a65c, TJx4a65c, 3), (RX0, TX0, 5), (RX1, TX1, 4), (RX2, TX2, 2), (RX3, TX3, 3), (RX4, TX4, 2), (RX5, TX5, 4)]
