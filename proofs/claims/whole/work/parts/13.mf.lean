/-! ===== rows with a computed value by an equation ===== -/
theorem am_iaddE {Z : am_Z} {own : String} {cc : ByteArray} {n L mc ms : Nat} (hC : am_OK Z own cc n L mc ms) {kc ks pc : Nat} {ls st : List Value} {h : am_H} {x y z : Int32} (hd : decode cc pc = .ok (.iadd, 1)) (hz : x + y = z) (k : am_W Z kc ks (pc + 1) ls (.int z :: st) h) : am_W Z kc ks pc ls (.int y :: .int x :: st) h := am_iadd hC hd (by rw [hz]; exact k)
theorem am_isubE {Z : am_Z} {own : String} {cc : ByteArray} {n L mc ms : Nat} (hC : am_OK Z own cc n L mc ms) {kc ks pc : Nat} {ls st : List Value} {h : am_H} {x y z : Int32} (hd : decode cc pc = .ok (.isub, 1)) (hz : x - y = z) (k : am_W Z kc ks (pc + 1) ls (.int z :: st) h) : am_W Z kc ks pc ls (.int y :: .int x :: st) h := am_isub hC hd (by rw [hz]; exact k)
theorem am_imulE {Z : am_Z} {own : String} {cc : ByteArray} {n L mc ms : Nat} (hC : am_OK Z own cc n L mc ms) {kc ks pc : Nat} {ls st : List Value} {h : am_H} {x y z : Int32} (hd : decode cc pc = .ok (.imul, 1)) (hz : x * y = z) (k : am_W Z kc ks (pc + 1) ls (.int z :: st) h) : am_W Z kc ks pc ls (.int y :: .int x :: st) h := am_imul hC hd (by rw [hz]; exact k)
theorem am_iandE {Z : am_Z} {own : String} {cc : ByteArray} {n L mc ms : Nat} (hC : am_OK Z own cc n L mc ms) {kc ks pc : Nat} {ls st : List Value} {h : am_H} {x y z : Int32} (hd : decode cc pc = .ok (.iand, 1)) (hz : x &&& y = z) (k : am_W Z kc ks (pc + 1) ls (.int z :: st) h) : am_W Z kc ks pc ls (.int y :: .int x :: st) h := am_iand hC hd (by rw [hz]; exact k)
theorem am_iorE {Z : am_Z} {own : String} {cc : ByteArray} {n L mc ms : Nat} (hC : am_OK Z own cc n L mc ms) {kc ks pc : Nat} {ls st : List Value} {h : am_H} {x y z : Int32} (hd : decode cc pc = .ok (.ior, 1)) (hz : x ||| y = z) (k : am_W Z kc ks (pc + 1) ls (.int z :: st) h) : am_W Z kc ks pc ls (.int y :: .int x :: st) h := am_ior hC hd (by rw [hz]; exact k)
theorem am_ixorE {Z : am_Z} {own : String} {cc : ByteArray} {n L mc ms : Nat} (hC : am_OK Z own cc n L mc ms) {kc ks pc : Nat} {ls st : List Value} {h : am_H} {x y z : Int32} (hd : decode cc pc = .ok (.ixor, 1)) (hz : x ^^^ y = z) (k : am_W Z kc ks (pc + 1) ls (.int z :: st) h) : am_W Z kc ks pc ls (.int y :: .int x :: st) h := am_ixor hC hd (by rw [hz]; exact k)
theorem am_ishlE {Z : am_Z} {own : String} {cc : ByteArray} {n L mc ms : Nat} (hC : am_OK Z own cc n L mc ms) {kc ks pc : Nat} {ls st : List Value} {h : am_H} {x y z : Int32} (hd : decode cc pc = .ok (.ishl, 1)) (hz : x <<< (y &&& 31) = z) (k : am_W Z kc ks (pc + 1) ls (.int z :: st) h) : am_W Z kc ks pc ls (.int y :: .int x :: st) h := am_ishl hC hd (by rw [hz]; exact k)
theorem am_ishrE {Z : am_Z} {own : String} {cc : ByteArray} {n L mc ms : Nat} (hC : am_OK Z own cc n L mc ms) {kc ks pc : Nat} {ls st : List Value} {h : am_H} {x y z : Int32} (hd : decode cc pc = .ok (.ishr, 1)) (hz : x >>> (y &&& 31) = z) (k : am_W Z kc ks (pc + 1) ls (.int z :: st) h) : am_W Z kc ks pc ls (.int y :: .int x :: st) h := am_ishr hC hd (by rw [hz]; exact k)
theorem am_idivE {Z : am_Z} {own : String} {cc : ByteArray} {n L mc ms : Nat} (hC : am_OK Z own cc n L mc ms) {kc ks pc : Nat} {ls st : List Value} {h : am_H} {x y z : Int32} (hd : decode cc pc = .ok (.idiv, 1)) (hy : ¬ y = 0) (hz : x / y = z) (k : am_W Z kc ks (pc + 1) ls (.int z :: st) h) : am_W Z kc ks pc ls (.int y :: .int x :: st) h := am_idiv hC hd hy (by rw [hz]; exact k)
theorem am_iremE {Z : am_Z} {own : String} {cc : ByteArray} {n L mc ms : Nat} (hC : am_OK Z own cc n L mc ms) {kc ks pc : Nat} {ls st : List Value} {h : am_H} {x y z : Int32} (hd : decode cc pc = .ok (.irem, 1)) (hy : ¬ y = 0) (hz : x - x / y * y = z) (k : am_W Z kc ks (pc + 1) ls (.int z :: st) h) : am_W Z kc ks pc ls (.int y :: .int x :: st) h := am_irem hC hd hy (by rw [hz]; exact k)
theorem am_ialdE {Z : am_Z} {own : String} {cc : ByteArray} {n L mc ms : Nat} (hC : am_OK Z own cc n L mc ms) {kc ks pc : Nat} {ls st : List Value} {h : am_H} {r j N : Nat} {i v : Int32} (hkr : hk_ h r = 9) (hnr : hn_ h r = N) (hi : i = nI j) (hj : j < N) (hN : N < 2 ^ 31) (hd : decode cc pc = .ok (.iaload, 1)) (hv : hi_ h r j = v) (k : am_W Z kc ks (pc + 1) ls (.int v :: st) h) : am_W Z kc ks pc ls (.int i :: .ref r :: st) h := am_iald hC hkr hnr hi hj hN hd (by rw [hv]; exact k)
theorem am_zaldE {Z : am_Z} {own : String} {cc : ByteArray} {n L mc ms : Nat} (hC : am_OK Z own cc n L mc ms) {kc ks pc : Nat} {ls st : List Value} {h : am_H} {r j N : Nat} {i v : Int32} (hkr : hk_ h r = 10) (hnr : hn_ h r = N) (hi : i = nI j) (hj : j < N) (hN : N < 2 ^ 31) (hd : decode cc pc = .ok (.baload, 1)) (hv : hi_ h r j = v) (k : am_W Z kc ks (pc + 1) ls (.int v :: st) h) : am_W Z kc ks pc ls (.int i :: .ref r :: st) h := am_zald hC hkr hnr hi hj hN hd (by rw [hv]; exact k)
theorem am_aaldE {Z : am_Z} {own : String} {cc : ByteArray} {n L mc ms : Nat} (hC : am_OK Z own cc n L mc ms) {kc ks pc : Nat} {ls st : List Value} {h : am_H} {r j N kk : Nat} {i : Int32} {v : Value} (hkk : kk = 11 ∨ kk = 12) (hkr : hk_ h r = kk) (hnr : hn_ h r = N) (hi : i = nI j) (hj : j < N) (hN : N < 2 ^ 31) (hd : decode cc pc = .ok (.aaload, 1)) (hv : Value.ref (hr_ h r j) = v) (k : am_W Z kc ks (pc + 1) ls (v :: st) h) : am_W Z kc ks pc ls (.int i :: .ref r :: st) h := am_aald hC hkk hkr hnr hi hj hN hd (by rw [hv]; exact k)
theorem am_rfe {a b : Nat} (h : a = b) : Value.ref a = Value.ref b := by rw [h]
theorem am_tr {Z : am_Z} {own : String} {cc : ByteArray} {n L mc ms : Nat} (hC : am_OK Z own cc n L mc ms) : Z.2.2.1.stackTraces = false := hC.2.2.2.2.1
theorem mf_X5_init : am_mI yX5_init cX5_init 1 0 := ⟨rfl, tw_26, tw_1, tw_27, ⟨by decide +kernel, by decide +kernel, by decide +kernel⟩⟩
theorem mf_X5_begin : am_mV yX5_begin cX5_begin 2 (some .int) 0 := ⟨tw_164, tw_165, tw_1, tw_166, ⟨by decide +kernel, by decide +kernel, by decide +kernel⟩⟩
theorem mf_X5_canChange : am_mV yX5_canChange cX5_canChange 2 (some .int) 1 := ⟨tw_547, tw_548, tw_1, tw_549, ⟨by decide +kernel, by decide +kernel, by decide +kernel⟩⟩
theorem mf_X5_doorThatHelps : am_mV yX5_doorThatHelps cX5_doorThatHelps 4 (some .int) 2 := ⟨tw_504, tw_505, tw_1, tw_506, ⟨by decide +kernel, by decide +kernel, by decide +kernel⟩⟩
theorem mf_X5_doorsOut : am_mV yX5_doorsOut cX5_doorsOut 4 (some .int) 2 := ⟨tw_497, tw_498, tw_1, tw_499, ⟨by decide +kernel, by decide +kernel, by decide +kernel⟩⟩
theorem mf_X5_drawingAt : am_mV yX5_drawingAt cX5_drawingAt 2 (some (.object "HousePlans$Drawing")) 1 := ⟨tw_335, ts_8, tw_1, tw_336, ⟨by decide +kernel, by decide +kernel, by decide +kernel⟩⟩
theorem mf_X5_drawings : am_mV yX5_drawings cX5_drawings 1 (some .int) 0 := ⟨tw_109, tw_110, tw_1, tw_111, ⟨by decide +kernel, by decide +kernel, by decide +kernel⟩⟩
theorem mf_X5_firstCell : am_mS yX5_firstCell cX5_firstCell 1 (some .int) 1 := ⟨tw_447, tw_1, tw_448, ⟨by decide +kernel, by decide +kernel, by decide +kernel⟩⟩
theorem mf_X5_grant : am_mV yX5_grant cX5_grant 4 (some .int) 1 := ⟨tw_554, tw_555, tw_1, tw_556, ⟨by decide +kernel, by decide +kernel, by decide +kernel⟩⟩
theorem mf_X5_hasExit : am_mV yX5_hasExit cX5_hasExit 4 (some .boolean) 2 := ⟨tw_423, tw_424, tw_1, tw_425, ⟨by decide +kernel, by decide +kernel, by decide +kernel⟩⟩
theorem mf_X5_highestPermit : am_mV yX5_highestPermit cX5_highestPermit 4 (some .int) 1 := ⟨tw_603, ts_23, tw_1, tw_604, ⟨by decide +kernel, by decide +kernel, by decide +kernel⟩⟩
theorem mf_X5_holds : am_mV yX5_holds cX5_holds 2 (some .boolean) 1 := ⟨tw_584, tw_585, tw_1, tw_586, ⟨by decide +kernel, by decide +kernel, by decide +kernel⟩⟩
theorem mf_X5_isGood : am_mV yX5_isGood cX5_isGood 3 (some .boolean) 1 := ⟨tw_639, tw_640, tw_1, tw_641, ⟨by decide +kernel, by decide +kernel, by decide +kernel⟩⟩
theorem mf_X5_lend : am_mV yX5_lend cX5_lend 6 (some .int) 3 := ⟨tw_539, tw_540, tw_1, tw_541, ⟨by decide +kernel, by decide +kernel, by decide +kernel⟩⟩
theorem mf_X5_lock : am_mV yX5_lock cX5_lock 4 none 2 := ⟨tw_519, tw_520, tw_1, tw_521, ⟨by decide +kernel, by decide +kernel, by decide +kernel⟩⟩
theorem mf_X5_needCell : am_mS yX5_needCell cX5_needCell 1 none 1 := ⟨tw_393, tw_1, tw_394, ⟨by decide +kernel, by decide +kernel, by decide +kernel⟩⟩
theorem mf_X5_needChanger : am_mS yX5_needChanger cX5_needChanger 2 none 2 := ⟨tw_378, tw_1, tw_379, ⟨by decide +kernel, by decide +kernel, by decide +kernel⟩⟩
theorem mf_X5_needLocker : am_mS yX5_needLocker cX5_needLocker 2 none 2 := ⟨tw_531, tw_1, tw_532, ⟨by decide +kernel, by decide +kernel, by decide +kernel⟩⟩
theorem mf_X5_needPerson : am_mS yX5_needPerson cX5_needPerson 1 none 1 := ⟨tw_354, tw_1, tw_355, ⟨by decide +kernel, by decide +kernel, by decide +kernel⟩⟩
theorem mf_X5_needSide : am_mS yX5_needSide cX5_needSide 1 none 1 := ⟨tw_373, tw_1, tw_374, ⟨by decide +kernel, by decide +kernel, by decide +kernel⟩⟩
theorem mf_X5_old : am_mV yX5_old cX5_old 3 (some .int) 0 := ⟨tw_117, tw_118, tw_1, tw_119, ⟨by decide +kernel, by decide +kernel, by decide +kernel⟩⟩
theorem mf_X5_permitOf : am_mV yX5_permitOf cX5_permitOf 2 (some .int) 1 := ⟨tw_627, tw_628, tw_1, tw_629, ⟨by decide +kernel, by decide +kernel, by decide +kernel⟩⟩
theorem mf_X5_print : am_mV yX5_print cX5_print 4 (some .int) 1 := ⟨tw_597, tw_598, tw_1, tw_599, ⟨by decide +kernel, by decide +kernel, by decide +kernel⟩⟩
theorem mf_X5_printAt : am_mV yX5_printAt cX5_printAt 2 (some (.object "HousePlans$Print")) 1 := ⟨tw_632, ts_24, tw_1, tw_633, ⟨by decide +kernel, by decide +kernel, by decide +kernel⟩⟩
theorem mf_X5_refer : am_mV yX5_refer cX5_refer 8 (some .boolean) 4 := ⟨tw_400, tw_401, tw_1, tw_402, ⟨by decide +kernel, by decide +kernel, by decide +kernel⟩⟩
theorem mf_X5_room : am_mV yX5_room cX5_room 4 (some .int) 2 := ⟨tw_479, tw_480, tw_1, tw_481, ⟨by decide +kernel, by decide +kernel, by decide +kernel⟩⟩
theorem mf_X5_rooms : am_mV yX5_rooms cX5_rooms 2 (some .int) 1 := ⟨tw_431, tw_432, tw_1, tw_433, ⟨by decide +kernel, by decide +kernel, by decide +kernel⟩⟩
theorem mf_X5_secondCell : am_mS yX5_secondCell cX5_secondCell 1 (some .int) 1 := ⟨tw_450, tw_1, tw_451, ⟨by decide +kernel, by decide +kernel, by decide +kernel⟩⟩
theorem mf_X5_setExit : am_mV yX5_setExit cX5_setExit 7 (some .boolean) 4 := ⟨tw_389, tw_390, tw_1, tw_391, ⟨by decide +kernel, by decide +kernel, by decide +kernel⟩⟩
theorem mf_X5_side : am_mV yX5_side cX5_side 4 (some .int) 2 := ⟨tw_415, tw_416, tw_1, tw_417, ⟨by decide +kernel, by decide +kernel, by decide +kernel⟩⟩
theorem mf_X5_size : am_mV yX5_size cX5_size 4 (some .int) 2 := ⟨tw_486, tw_487, tw_1, tw_488, ⟨by decide +kernel, by decide +kernel, by decide +kernel⟩⟩
theorem mf_X5_tell : am_mV yX5_tell cX5_tell 7 (some .int) 4 := ⟨tw_330, tw_331, tw_1, tw_332, ⟨by decide +kernel, by decide +kernel, by decide +kernel⟩⟩
theorem mf_X5_unlock : am_mV yX5_unlock cX5_unlock 4 none 2 := ⟨tw_527, tw_528, tw_1, tw_529, ⟨by decide +kernel, by decide +kernel, by decide +kernel⟩⟩
theorem mf_X0_init : am_mI yX0_init cX0_init 1 0 := ⟨rfl, tw_237, tw_12, tw_238, ⟨by decide +kernel, by decide +kernel, by decide +kernel⟩⟩
theorem mf_X0_changer : am_mV yX0_changer cX0_changer 1 (some .int) 0 := ⟨tw_382, ts_9, tw_12, tw_383, ⟨by decide +kernel, by decide +kernel, by decide +kernel⟩⟩
theorem mf_X0_exitIn : am_mS yX0_exitIn cX0_exitIn 7 (some .boolean) 3 := ⟨tw_157, tw_12, tw_158, ⟨by decide +kernel, by decide +kernel, by decide +kernel⟩⟩
theorem mf_X0_exitNow : am_mV yX0_exitNow cX0_exitNow 2 (some .boolean) 1 := ⟨tw_154, ts_3, tw_12, tw_155, ⟨by decide +kernel, by decide +kernel, by decide +kernel⟩⟩
theorem mf_X0_leads : am_mS yX0_leads cX0_leads 7 (some .boolean) 3 := ⟨tw_408, tw_12, tw_409, ⟨by decide +kernel, by decide +kernel, by decide +kernel⟩⟩
theorem mf_X0_leadsTo : am_mV yX0_leadsTo cX0_leadsTo 2 (some .boolean) 1 := ⟨tw_405, ts_10, tw_12, tw_406, ⟨by decide +kernel, by decide +kernel, by decide +kernel⟩⟩
theorem mf_X0_sideIn : am_mS yX0_sideIn cX0_sideIn 8 (some .int) 3 := ⟨tw_150, tw_12, tw_151, ⟨by decide +kernel, by decide +kernel, by decide +kernel⟩⟩
theorem mf_X0_sideNow : am_mV yX0_sideNow cX0_sideNow 2 (some .int) 1 := ⟨tw_146, ts_2, tw_12, tw_148, ⟨by decide +kernel, by decide +kernel, by decide +kernel⟩⟩
theorem mf_X1_init : am_mI yX1_init cX1_init 1 0 := ⟨rfl, tw_60, tw_5, tw_61, ⟨by decide +kernel, by decide +kernel, by decide +kernel⟩⟩
theorem mf_X1_countCells : am_mV yX1_countCells cX1_countCells 4 (some .int) 1 := ⟨tw_491, ts_18, tw_5, tw_492, ⟨by decide +kernel, by decide +kernel, by decide +kernel⟩⟩
theorem mf_X1_countRooms : am_mV yX1_countRooms cX1_countRooms 3 (some .int) 0 := ⟨tw_473, ts_17, tw_5, tw_474, ⟨by decide +kernel, by decide +kernel, by decide +kernel⟩⟩
theorem mf_X1_everyRoomHasWayOut : am_mV yX1_everyRoomHasWayOut cX1_everyRoomHasWayOut 2 (some .boolean) 0 := ⟨tw_560, ts_21, tw_5, tw_561, ⟨by decide +kernel, by decide +kernel, by decide +kernel⟩⟩
theorem mf_X1_findRooms : am_mV yX1_findRooms cX1_findRooms 2 none 0 := ⟨tw_444, ts_13, tw_5, tw_445, ⟨by decide +kernel, by decide +kernel, by decide +kernel⟩⟩
theorem mf_X1_findWaysOut : am_mV yX1_findWaysOut cX1_findWaysOut 2 none 0 := ⟨tw_461, ts_15, tw_5, tw_462, ⟨by decide +kernel, by decide +kernel, by decide +kernel⟩⟩
theorem mf_X1_goThrough : am_mS yX1_goThrough cX1_goThrough 4 (some .boolean) 4 := ⟨tw_469, tw_5, tw_470, ⟨by decide +kernel, by decide +kernel, by decide +kernel⟩⟩
theorem mf_X1_goThroughDoors : am_mV yX1_goThroughDoors cX1_goThroughDoors 7 none 1 := ⟨tw_466, ts_16, tw_5, tw_467, ⟨by decide +kernel, by decide +kernel, by decide +kernel⟩⟩
theorem mf_X1_join : am_mV yX1_join cX1_join 6 none 2 := ⟨tw_455, ts_14, tw_5, tw_456, ⟨by decide +kernel, by decide +kernel, by decide +kernel⟩⟩
theorem mf_X1_leadsOut : am_mV yX1_leadsOut cX1_leadsOut 3 (some .boolean) 2 := ⟨tw_513, ts_20, tw_5, tw_514, ⟨by decide +kernel, by decide +kernel, by decide +kernel⟩⟩
theorem mf_X1_lookAt : am_mV yX1_lookAt cX1_lookAt 2 none 1 := ⟨tw_436, ts_11, tw_5, tw_437, ⟨by decide +kernel, by decide +kernel, by decide +kernel⟩⟩
theorem mf_X1_wallThatHelps : am_mV yX1_wallThatHelps cX1_wallThatHelps 5 (some .int) 1 := ⟨tw_509, ts_19, tw_5, tw_510, ⟨by decide +kernel, by decide +kernel, by decide +kernel⟩⟩
theorem mf_X2_init : am_mI yX2_init cX2_init 2 1 := ⟨rfl, tw_566, tw_21, tw_567, ⟨by decide +kernel, by decide +kernel, by decide +kernel⟩⟩
theorem mf_X2_isValid : am_mV yX2_isValid cX2_isValid 1 (some .boolean) 0 := ⟨tw_590, ts_22, tw_21, tw_591, ⟨by decide +kernel, by decide +kernel, by decide +kernel⟩⟩
theorem mf_X3_init : am_mI yX3_init cX3_init 3 2 := ⟨rfl, tw_606, tw_22, tw_607, ⟨by decide +kernel, by decide +kernel, by decide +kernel⟩⟩
theorem mf_X3_isOld : am_mV yX3_isOld cX3_isOld 1 (some .boolean) 0 := ⟨tw_137, ts_0, tw_22, tw_139, ⟨by decide +kernel, by decide +kernel, by decide +kernel⟩⟩
theorem mf_X4_init : am_mI yX4_init cX4_init 1 0 := ⟨rfl, tw_66, tw_6, tw_67, ⟨by decide +kernel, by decide +kernel, by decide +kernel⟩⟩
theorem mf_X4_isThatOf : am_mV yX4_isThatOf cX4_isThatOf 3 (some .boolean) 1 := ⟨tw_142, ts_1, tw_6, tw_143, ⟨by decide +kernel, by decide +kernel, by decide +kernel⟩⟩
theorem mf_X4_takeFrom : am_mV yX4_takeFrom cX4_takeFrom 3 none 1 := ⟨tw_440, ts_12, tw_6, tw_441, ⟨by decide +kernel, by decide +kernel, by decide +kernel⟩⟩
theorem mf_L_begin : am_mW yL_begin cL_begin 3 (some .int) [((0 : Nat), (8 : Nat), (11 : Nat), (13 : Nat))] 2 := ⟨tw_160, tw_0, tw_161, ⟨by decide +kernel, by decide +kernel, by decide +kernel⟩⟩
theorem mf_L_canChange : am_mW yL_canChange cL_canChange 4 (some .int) [((0 : Nat), (9 : Nat), (12 : Nat), (19 : Nat))] 3 := ⟨tw_544, tw_0, tw_545, ⟨by decide +kernel, by decide +kernel, by decide +kernel⟩⟩
theorem mf_L_doorThatHelps : am_mW yL_doorThatHelps cL_doorThatHelps 5 (some .int) [((0 : Nat), (10 : Nat), (13 : Nat), (19 : Nat)), ((0 : Nat), (10 : Nat), (17 : Nat), (21 : Nat))] 4 := ⟨tw_501, tw_0, tw_502, ⟨by decide +kernel, by decide +kernel, by decide +kernel⟩⟩
theorem mf_L_doorsOut : am_mW yL_doorsOut cL_doorsOut 5 (some .int) [((0 : Nat), (10 : Nat), (13 : Nat), (19 : Nat)), ((0 : Nat), (10 : Nat), (17 : Nat), (21 : Nat))] 4 := ⟨tw_494, tw_0, tw_495, ⟨by decide +kernel, by decide +kernel, by decide +kernel⟩⟩
theorem mf_L_grant : am_mW yL_grant cL_grant 4 (some .int) [((0 : Nat), (9 : Nat), (12 : Nat), (19 : Nat)), ((0 : Nat), (9 : Nat), (15 : Nat), (13 : Nat))] 3 := ⟨tw_551, tw_0, tw_552, ⟨by decide +kernel, by decide +kernel, by decide +kernel⟩⟩
theorem mf_L_hasExit : am_mW yL_hasExit cL_hasExit 5 (some .int) [((0 : Nat), (17 : Nat), (20 : Nat), (19 : Nat)), ((0 : Nat), (17 : Nat), (24 : Nat), (21 : Nat))] 4 := ⟨tw_420, tw_0, tw_421, ⟨by decide +kernel, by decide +kernel, by decide +kernel⟩⟩
theorem mf_L_holds : am_mW yL_holds cL_holds 4 (some .int) [((0 : Nat), (16 : Nat), (19 : Nat), (19 : Nat))] 3 := ⟨tw_581, tw_0, tw_582, ⟨by decide +kernel, by decide +kernel, by decide +kernel⟩⟩
theorem mf_L_isGood : am_mW yL_isGood cL_isGood 4 (some .int) [((0 : Nat), (16 : Nat), (19 : Nat), (19 : Nat))] 3 := ⟨tw_636, tw_0, tw_637, ⟨by decide +kernel, by decide +kernel, by decide +kernel⟩⟩
theorem mf_L_lend : am_mW yL_lend cL_lend 6 (some .int) [((0 : Nat), (12 : Nat), (15 : Nat), (19 : Nat)), ((0 : Nat), (12 : Nat), (19 : Nat), (21 : Nat)), ((0 : Nat), (12 : Nat), (23 : Nat), (13 : Nat))] 5 := ⟨tw_536, tw_0, tw_537, ⟨by decide +kernel, by decide +kernel, by decide +kernel⟩⟩
theorem mf_L_lock : am_mW yL_lock cL_lock 4 (some .int) [((0 : Nat), (6 : Nat), (9 : Nat), (19 : Nat)), ((0 : Nat), (6 : Nat), (12 : Nat), (21 : Nat)), ((0 : Nat), (6 : Nat), (15 : Nat), (13 : Nat))] 3 := ⟨tw_516, tw_0, tw_517, ⟨by decide +kernel, by decide +kernel, by decide +kernel⟩⟩
theorem mf_L_permitOf : am_mW yL_permitOf cL_permitOf 4 (some .int) [((0 : Nat), (9 : Nat), (12 : Nat), (19 : Nat))] 3 := ⟨tw_624, tw_0, tw_625, ⟨by decide +kernel, by decide +kernel, by decide +kernel⟩⟩
theorem mf_L_print : am_mW yL_print cL_print 4 (some .int) [((0 : Nat), (9 : Nat), (12 : Nat), (19 : Nat)), ((0 : Nat), (9 : Nat), (15 : Nat), (13 : Nat))] 3 := ⟨tw_594, tw_0, tw_595, ⟨by decide +kernel, by decide +kernel, by decide +kernel⟩⟩
theorem mf_L_refer : am_mW yL_refer cL_refer 7 (some .int) [((0 : Nat), (21 : Nat), (24 : Nat), (19 : Nat)), ((0 : Nat), (21 : Nat), (28 : Nat), (21 : Nat)), ((0 : Nat), (21 : Nat), (32 : Nat), (13 : Nat))] 6 := ⟨tw_397, tw_0, tw_398, ⟨by decide +kernel, by decide +kernel, by decide +kernel⟩⟩
theorem mf_L_room : am_mW yL_room cL_room 5 (some .int) [((0 : Nat), (10 : Nat), (13 : Nat), (19 : Nat)), ((0 : Nat), (10 : Nat), (17 : Nat), (21 : Nat))] 4 := ⟨tw_476, tw_0, tw_477, ⟨by decide +kernel, by decide +kernel, by decide +kernel⟩⟩
theorem mf_L_rooms : am_mW yL_rooms cL_rooms 4 (some .int) [((0 : Nat), (9 : Nat), (12 : Nat), (19 : Nat))] 3 := ⟨tw_428, tw_0, tw_429, ⟨by decide +kernel, by decide +kernel, by decide +kernel⟩⟩
theorem mf_L_setExit : am_mW yL_setExit cL_setExit 7 (some .int) [((0 : Nat), (21 : Nat), (24 : Nat), (19 : Nat)), ((0 : Nat), (21 : Nat), (28 : Nat), (21 : Nat)), ((0 : Nat), (21 : Nat), (32 : Nat), (13 : Nat))] 6 := ⟨tw_386, tw_0, tw_387, ⟨by decide +kernel, by decide +kernel, by decide +kernel⟩⟩
theorem mf_L_side : am_mW yL_side cL_side 5 (some .int) [((0 : Nat), (10 : Nat), (13 : Nat), (19 : Nat)), ((0 : Nat), (10 : Nat), (17 : Nat), (21 : Nat))] 4 := ⟨tw_412, tw_0, tw_413, ⟨by decide +kernel, by decide +kernel, by decide +kernel⟩⟩
theorem mf_L_size : am_mW yL_size cL_size 5 (some .int) [((0 : Nat), (10 : Nat), (13 : Nat), (19 : Nat)), ((0 : Nat), (10 : Nat), (17 : Nat), (21 : Nat))] 4 := ⟨tw_483, tw_0, tw_484, ⟨by decide +kernel, by decide +kernel, by decide +kernel⟩⟩
theorem mf_L_tell : am_mW yL_tell cL_tell 7 (some .int) [((0 : Nat), (14 : Nat), (17 : Nat), (19 : Nat)), ((0 : Nat), (14 : Nat), (21 : Nat), (21 : Nat)), ((0 : Nat), (14 : Nat), (25 : Nat), (13 : Nat))] 6 := ⟨tw_325, tw_0, tw_326, ⟨by decide +kernel, by decide +kernel, by decide +kernel⟩⟩
theorem mf_L_unlock : am_mW yL_unlock cL_unlock 4 (some .int) [((0 : Nat), (6 : Nat), (9 : Nat), (19 : Nat)), ((0 : Nat), (6 : Nat), (12 : Nat), (21 : Nat)), ((0 : Nat), (6 : Nat), (15 : Nat), (13 : Nat))] 3 := ⟨tw_524, tw_0, tw_525, ⟨by decide +kernel, by decide +kernel, by decide +kernel⟩⟩
theorem mf_X6_init : am_mI yX6_init cX6_init 1 0 := ⟨rfl, tw_645, tw_7, tw_646, ⟨by decide +kernel, by decide +kernel, by decide +kernel⟩⟩
theorem mf_X6_asks : am_mV yX6_asks cX6_asks 3 (some .boolean) 2 := ⟨tw_772, ts_30, tw_7, tw_773, ⟨by decide +kernel, by decide +kernel, by decide +kernel⟩⟩
theorem mf_X6_begin : am_mV yX6_begin cX6_begin 2 (some .int) 0 := ⟨tw_714, tw_715, tw_7, tw_716, ⟨by decide +kernel, by decide +kernel, by decide +kernel⟩⟩
theorem mf_X6_canChange : am_mV yX6_canChange cX6_canChange 2 (some .int) 1 := ⟨tw_821, tw_822, tw_7, tw_823, ⟨by decide +kernel, by decide +kernel, by decide +kernel⟩⟩
theorem mf_X6_changer : am_mV yX6_changer cX6_changer 2 (some .int) 1 := ⟨tw_733, ts_26, tw_7, tw_734, ⟨by decide +kernel, by decide +kernel, by decide +kernel⟩⟩
theorem mf_X6_doorThatHelps : am_mV yX6_doorThatHelps cX6_doorThatHelps 8 (some .int) 2 := ⟨tw_801, tw_802, tw_7, tw_803, ⟨by decide +kernel, by decide +kernel, by decide +kernel⟩⟩
theorem mf_X6_doorsOut : am_mV yX6_doorsOut cX6_doorsOut 4 (some .int) 2 := ⟨tw_797, tw_798, tw_7, tw_799, ⟨by decide +kernel, by decide +kernel, by decide +kernel⟩⟩
theorem mf_X6_drawings : am_mV yX6_drawings cX6_drawings 1 (some .int) 0 := ⟨tw_751, tw_752, tw_7, tw_753, ⟨by decide +kernel, by decide +kernel, by decide +kernel⟩⟩
theorem mf_X6_finds : am_mV yX6_finds cX6_finds 4 none 0 := ⟨tw_760, ts_28, tw_7, tw_761, ⟨by decide +kernel, by decide +kernel, by decide +kernel⟩⟩
theorem mf_X6_found : am_mV yX6_found cX6_found 5 (some .int) 2 := ⟨tw_764, ts_29, tw_7, tw_765, ⟨by decide +kernel, by decide +kernel, by decide +kernel⟩⟩
theorem mf_X6_grant : am_mV yX6_grant cX6_grant 4 (some .int) 1 := ⟨tw_825, tw_826, tw_7, tw_827, ⟨by decide +kernel, by decide +kernel, by decide +kernel⟩⟩
theorem mf_X6_hasExit : am_mV yX6_hasExit cX6_hasExit 3 (some .boolean) 2 := ⟨tw_767, tw_768, tw_7, tw_769, ⟨by decide +kernel, by decide +kernel, by decide +kernel⟩⟩
theorem mf_X6_high : am_mS yX6_high cX6_high 1 (some .int) 1 := ⟨tw_782, tw_7, tw_783, ⟨by decide +kernel, by decide +kernel, by decide +kernel⟩⟩
theorem mf_X6_holds : am_mV yX6_holds cX6_holds 2 (some .boolean) 1 := ⟨tw_829, tw_830, tw_7, tw_831, ⟨by decide +kernel, by decide +kernel, by decide +kernel⟩⟩
theorem mf_X6_isCell : am_mS yX6_isCell cX6_isCell 1 (some .boolean) 1 := ⟨tw_740, tw_7, tw_741, ⟨by decide +kernel, by decide +kernel, by decide +kernel⟩⟩
theorem mf_X6_isDrawing : am_mV yX6_isDrawing cX6_isDrawing 2 (some .boolean) 1 := ⟨tw_729, ts_25, tw_7, tw_730, ⟨by decide +kernel, by decide +kernel, by decide +kernel⟩⟩
theorem mf_X6_isGood : am_mV yX6_isGood cX6_isGood 2 (some .boolean) 1 := ⟨tw_849, tw_850, tw_7, tw_851, ⟨by decide +kernel, by decide +kernel, by decide +kernel⟩⟩
theorem mf_X6_isIn : am_mS yX6_isIn cX6_isIn 3 (some .boolean) 3 := ⟨tw_725, tw_7, tw_726, ⟨by decide +kernel, by decide +kernel, by decide +kernel⟩⟩
theorem mf_X6_isJoined : am_mV yX6_isJoined cX6_isJoined 8 (some .boolean) 3 := ⟨tw_806, ts_32, tw_7, tw_807, ⟨by decide +kernel, by decide +kernel, by decide +kernel⟩⟩
theorem mf_X6_isOld : am_mV yX6_isOld cX6_isOld 5 (some .boolean) 1 := ⟨tw_854, ts_35, tw_7, tw_855, ⟨by decide +kernel, by decide +kernel, by decide +kernel⟩⟩
theorem mf_X6_isPerson : am_mS yX6_isPerson cX6_isPerson 1 (some .boolean) 1 := ⟨tw_722, tw_7, tw_723, ⟨by decide +kernel, by decide +kernel, by decide +kernel⟩⟩
theorem mf_X6_isPrint : am_mV yX6_isPrint cX6_isPrint 2 (some .boolean) 1 := ⟨tw_846, ts_34, tw_7, tw_847, ⟨by decide +kernel, by decide +kernel, by decide +kernel⟩⟩
theorem mf_X6_lend : am_mV yX6_lend cX6_lend 6 (some .int) 3 := ⟨tw_817, tw_818, tw_7, tw_819, ⟨by decide +kernel, by decide +kernel, by decide +kernel⟩⟩
theorem mf_X6_lock : am_mV yX6_lock cX6_lock 3 none 2 := ⟨tw_809, tw_810, tw_7, tw_811, ⟨by decide +kernel, by decide +kernel, by decide +kernel⟩⟩
theorem mf_X6_looks : am_mV yX6_looks cX6_looks 6 none 1 := ⟨tw_776, ts_31, tw_7, tw_777, ⟨by decide +kernel, by decide +kernel, by decide +kernel⟩⟩
theorem mf_X6_low : am_mS yX6_low cX6_low 1 (some .int) 1 := ⟨tw_779, tw_7, tw_780, ⟨by decide +kernel, by decide +kernel, by decide +kernel⟩⟩
theorem mf_X6_old : am_mV yX6_old cX6_old 3 (some .int) 0 := ⟨tw_857, tw_858, tw_7, tw_859, ⟨by decide +kernel, by decide +kernel, by decide +kernel⟩⟩
theorem mf_X6_over : am_mV yX6_over cX6_over 5 (some .int) 1 := ⟨tw_748, ts_27, tw_7, tw_749, ⟨by decide +kernel, by decide +kernel, by decide +kernel⟩⟩
theorem mf_X6_permitOf : am_mV yX6_permitOf cX6_permitOf 2 (some .int) 1 := ⟨tw_841, tw_842, tw_7, tw_843, ⟨by decide +kernel, by decide +kernel, by decide +kernel⟩⟩
theorem mf_X6_print : am_mV yX6_print cX6_print 3 (some .int) 1 := ⟨tw_837, tw_838, tw_7, tw_839, ⟨by decide +kernel, by decide +kernel, by decide +kernel⟩⟩
theorem mf_X6_refer : am_mV yX6_refer cX6_refer 7 (some .boolean) 4 := ⟨tw_743, tw_744, tw_7, tw_745, ⟨by decide +kernel, by decide +kernel, by decide +kernel⟩⟩
theorem mf_X6_room : am_mV yX6_room cX6_room 3 (some .int) 2 := ⟨tw_789, tw_790, tw_7, tw_791, ⟨by decide +kernel, by decide +kernel, by decide +kernel⟩⟩
theorem mf_X6_rooms : am_mV yX6_rooms cX6_rooms 5 (some .int) 1 := ⟨tw_785, tw_786, tw_7, tw_787, ⟨by decide +kernel, by decide +kernel, by decide +kernel⟩⟩
theorem mf_X6_setExit : am_mV yX6_setExit cX6_setExit 7 (some .boolean) 4 := ⟨tw_736, tw_737, tw_7, tw_738, ⟨by decide +kernel, by decide +kernel, by decide +kernel⟩⟩
theorem mf_X6_side : am_mV yX6_side cX6_side 3 (some .int) 2 := ⟨tw_755, tw_756, tw_7, tw_757, ⟨by decide +kernel, by decide +kernel, by decide +kernel⟩⟩
theorem mf_X6_size : am_mV yX6_size cX6_size 6 (some .int) 2 := ⟨tw_793, tw_794, tw_7, tw_795, ⟨by decide +kernel, by decide +kernel, by decide +kernel⟩⟩
theorem mf_X6_stands : am_mV yX6_stands cX6_stands 5 (some .boolean) 1 := ⟨tw_834, ts_33, tw_7, tw_835, ⟨by decide +kernel, by decide +kernel, by decide +kernel⟩⟩
theorem mf_X6_tell : am_mV yX6_tell cX6_tell 7 (some .int) 4 := ⟨tw_718, tw_719, tw_7, tw_720, ⟨by decide +kernel, by decide +kernel, by decide +kernel⟩⟩
theorem mf_X6_thrown : am_mV yX6_thrown cX6_thrown 1 (some .int) 0 := ⟨tw_710, tw_711, tw_7, tw_712, ⟨by decide +kernel, by decide +kernel, by decide +kernel⟩⟩
theorem mf_X6_unlock : am_mV yX6_unlock cX6_unlock 3 none 2 := ⟨tw_813, tw_814, tw_7, tw_815, ⟨by decide +kernel, by decide +kernel, by decide +kernel⟩⟩
theorem mf_Jxa1e45_init_da8c8 : am_mI yJxa1e45_init_da8c8 cJxa1e45_init_da8c8 1 0 := ⟨rfl, tw_40, tw_2, tw_41, ⟨by decide +kernel, by decide +kernel, by decide +kernel⟩⟩
theorem mf_Jxc12de_init_da8c8 : am_mI yJxc12de_init_da8c8 cJxc12de_init_da8c8 1 0 := ⟨rfl, tw_37, tw_3, tw_38, ⟨by decide +kernel, by decide +kernel, by decide +kernel⟩⟩
theorem mf_Jx4a65c_init_da8c8 : am_mI yJx4a65c_init_da8c8 cJx4a65c_init_da8c8 1 0 := ⟨rfl, tw_34, tw_4, tw_35, ⟨by decide +kernel, by decide +kernel, by decide +kernel⟩⟩
theorem mf_Jx4a65c_add_9ea2d : am_mV yJx4a65c_add_9ea2d cJx4a65c_add_9ea2d 2 (some .boolean) 1 := ⟨tw_267, tw_268, tw_4, tw_269, ⟨by decide +kernel, by decide +kernel, by decide +kernel⟩⟩
theorem mf_Jx4a65c_add_72be8 : am_mV yJx4a65c_add_72be8 cJx4a65c_add_72be8 4 none 3 := ⟨tw_272, ts_5, tw_4, tw_273, ⟨by decide +kernel, by decide +kernel, by decide +kernel⟩⟩
theorem mf_Jx4a65c_elementData_915e3 : am_mV yJx4a65c_elementData_915e3 cJx4a65c_elementData_915e3 2 (some (.object "java/lang/Object")) 1 := ⟨tw_131, tw_132, tw_4, tw_133, ⟨by decide +kernel, by decide +kernel, by decide +kernel⟩⟩
theorem mf_Jx4a65c_get_915e3 : am_mV yJx4a65c_get_915e3 cJx4a65c_get_915e3 2 (some (.object "java/lang/Object")) 1 := ⟨tw_121, tw_122, tw_4, tw_123, ⟨by decide +kernel, by decide +kernel, by decide +kernel⟩⟩
theorem mf_Jx4a65c_grow_d5877 : am_mV yJx4a65c_grow_d5877 cJx4a65c_grow_d5877 1 (some (.array (.object "java/lang/Object"))) 0 := ⟨tw_276, ts_6, tw_4, tw_277, ⟨by decide +kernel, by decide +kernel, by decide +kernel⟩⟩
theorem mf_Jx4a65c_grow_92f84 : am_mV yJx4a65c_grow_92f84 cJx4a65c_grow_92f84 4 (some (.array (.object "java/lang/Object"))) 1 := ⟨tw_280, ts_7, tw_4, tw_281, ⟨by decide +kernel, by decide +kernel, by decide +kernel⟩⟩
theorem mf_Jx4a65c_size_8abf5 : am_mV yJx4a65c_size_8abf5 cJx4a65c_size_8abf5 1 (some .int) 0 := ⟨tw_113, tw_114, tw_4, tw_115, ⟨by decide +kernel, by decide +kernel, by decide +kernel⟩⟩
theorem mf_J7_copyOf_1904c : am_mS yJ7_copyOf_1904c cJ7_copyOf_1904c 2 (some (.array (.object "java/lang/Object"))) 2 := ⟨tw_293, tw_13, tw_294, ⟨by decide +kernel, by decide +kernel, by decide +kernel⟩⟩
theorem mf_J7_copyOf_6403c : am_mS yJ7_copyOf_6403c cJ7_copyOf_6403c 4 (some (.array (.object "java/lang/Object"))) 3 := ⟨tw_311, tw_13, tw_312, ⟨by decide +kernel, by decide +kernel, by decide +kernel⟩⟩
theorem mf_J7_fill_53178 : am_mS yJ7_fill_53178 cJ7_fill_53178 4 none 2 := ⟨tw_243, tw_13, tw_244, ⟨by decide +kernel, by decide +kernel, by decide +kernel⟩⟩
theorem mf_J15_checkIndex_7cf53 : am_mS yJ15_checkIndex_7cf53 cJ15_checkIndex_7cf53 2 (some .int) 2 := ⟨tw_125, tw_18, tw_126, ⟨by decide +kernel, by decide +kernel, by decide +kernel⟩⟩
theorem mf_J8_hugeLength_7cf53 : am_mS yJ8_hugeLength_7cf53 cJ8_hugeLength_7cf53 3 (some .int) 2 := ⟨tw_290, tw_14, tw_291, ⟨by decide +kernel, by decide +kernel, by decide +kernel⟩⟩
theorem mf_J8_newLength_cabcc : am_mS yJ8_newLength_cabcc cJ8_newLength_cabcc 4 (some .int) 3 := ⟨tw_283, tw_14, tw_284, ⟨by decide +kernel, by decide +kernel, by decide +kernel⟩⟩
theorem mf_J3_checkIndex_8e157 : am_mS yJ3_checkIndex_8e157 cJ3_checkIndex_8e157 3 (some .int) 3 := ⟨tw_128, tw_19, tw_129, ⟨by decide +kernel, by decide +kernel, by decide +kernel⟩⟩
theorem xw_RX5_37 : ∀ w ∈ vx_atS "HousePlans" 37 "java/lang/IllegalStateException" ["java/lang/RuntimeException", "java/lang/Exception"], (w ∈ am_TG ∨ w ∈ am_bw) ∧ vx_ot w = true := by decide +kernel
theorem xw_RX5_62 : ∀ w ∈ vx_atS "HousePlans" 62 "java/lang/IllegalArgumentException" ["java/lang/RuntimeException", "java/lang/Exception"], (w ∈ am_TG ∨ w ∈ am_bw) ∧ vx_ot w = true := by decide +kernel
theorem xw_RX5_150 : ∀ w ∈ vx_atS "HousePlans" 150 "java/lang/IndexOutOfBoundsException" ["java/lang/RuntimeException", "java/lang/Exception"], (w ∈ am_TG ∨ w ∈ am_bw) ∧ vx_ot w = true := by decide +kernel
