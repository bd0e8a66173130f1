/-! ===== rows with a computed value by an equation ===== -/
theorem am_iaddE {Z : am_Z} {own : String} {cc : ByteArray} {n L mc ms : Nat} (hC : am_OK Z own cc n L mc ms) {kc ks pc : Nat} {ls st : List Value} {h : am_H} {x y z : Int32} (hd : decode cc pc = .ok (.iadd, 1)) (hz : x + y = z) (k : am_W Z kc ks (pc + 1) ls (.int z :: st) h) : am_W Z kc ks pc ls (.int y :: .int x :: st) h := am_iadd hC hd (by rw [hz]; exact k)
theorem am_isubE {Z : am_Z} {own : String} {cc : ByteArray} {n L mc ms : Nat} (hC : am_OK Z own cc n L mc ms) {kc ks pc : Nat} {ls st : List Value} {h : am_H} {x y z : Int32} (hd : decode cc pc = .ok (.isub, 1)) (hz : x - y = z) (k : am_W Z kc ks (pc + 1) ls (.int z :: st) h) : am_W Z kc ks pc ls (.int y :: .int x :: st) h := am_isub hC hd (by rw [hz]; exact k)
theorem am_imulE {Z : am_Z} {own : String} {cc : ByteArray} {n L mc ms : Nat} (hC : am_OK Z own cc n L mc ms) {kc ks pc : Nat} {ls st : List Value} {h : am_H} {x y z : Int32} (hd : decode cc pc = .ok (.imul, 1)) (hz : x * y = z) (k : am_W Z kc ks (pc + 1) ls (.int z :: st) h) : am_W Z kc ks pc ls (.int y :: .int x :: st) h := am_imul hC hd (by rw [hz]; exact k)
theorem am_iandE {Z : am_Z} {own : String} {cc : ByteArray} {n L mc ms : Nat} (hC : am_OK Z own cc n L mc ms) {kc ks pc : Nat} {ls st : List Value} {h : am_H} {x y z : Int32} (hd : decode cc pc = .ok (.iand, 1)) (hz : x &&& y = z) (k : am_W Z kc ks (pc + 1) ls (.int z :: st) h) : am_W Z kc ks pc ls (.int y :: .int x :: st) h := am_iand hC hd (by rw [hz]; exact k)
theorem am_iorE {Z : am_Z} {own : String} {cc : ByteArray} {n L mc ms : Nat} (hC : am_OK Z own cc n L mc ms) {kc ks pc : Nat} {ls st : List Value} {h : am_H} {x y z : Int32} (hd : decode cc pc = .ok (.ior, 1)) (hz : x ||| y = z) (k : am_W Z kc ks (pc + 1) ls (.int z :: st) h) : am_W Z kc ks pc ls (.int y :: .int x :: st) h := am_ior hC hd (by rw [hz]; exact k)
theorem am_ixorE {Z : am_Z} {own : String} {cc : ByteArray} {n L mc ms : Nat} (hC : am_OK Z own cc n L mc ms) {kc ks pc : Nat} {ls st : List Value} {h : am_H} {x y z : Int32} (hd : decode cc pc = .ok (.ixor, 1)) (hz : x ^^^ y = z) (k : am_W Z kc ks (pc + 1) ls (.int z :: st) h) : am_W Z kc ks pc ls (.int y :: .int x :: st) h := am_ixor hC hd (by rw [hz]; exact k)
theorem am_ishlE {Z : am_Z} {own : String} {cc : ByteArray} {n L mc ms : Nat} (hC : am_OK Z own cc n L mc ms) {kc ks pc : Nat} {ls st : List Value} {h : am_H} {x y z : Int32} (hd : decode cc pc = .ok (.ishl, 1)) (hz : x <<< (y &&& 31) = z) (k : am_W Z kc ks (pc + 1) ls (.int z :: st) h) : am_W Z kc ks pc ls (.int y :: .int x :: st) h := am_ishl hC hd (by rw [hz]; exact k)
theorem am_ishrE {Z : am_Z} {own : String} {cc : ByteArray} {n L mc ms : Nat} (hC : am_OK Z own cc n L mc ms) {kc ks pc : Nat} {ls st : List Value} {h : am_H} {x y z : Int32} (hd : decode cc pc = .ok (.ishr, 1)) (hz : x >>> (y &&& 31) = z) (k : am_W Z kc ks (pc + 1) ls (.int z :: st) h) : am_W Z kc ks pc ls (.int y :: .int x :: st) h := am_ishr hC hd (by rw [hz]; exact k)
theorem am_idivE {Z : am_Z} {own : String} {cc : ByteArray} {n L mc ms : Nat} (hC : am_OK Z own cc n L mc ms) {kc ks pc : Nat} {ls st : List Value} {h : am_H} {x y z : Int32} (hd : decode cc pc = .ok (.idiv, 1)) (hy : ¬ y = 0) (hz : x / y = z) (k : am_W Z kc ks (pc + 1) ls (.int z :: st) h) : am_W Z kc ks pc ls (.int y :: .int x :: st) h := am_idiv hC hd hy (by rw [hz]; exact k)
theorem am_iremE {Z : am_Z} {own : String} {cc : ByteArray} {n L mc ms : Nat} (hC : am_OK Z own cc n L mc ms) {kc ks pc : Nat} {ls st : List Value} {h : am_H} {x y z : Int32} (hd : decode cc pc = .ok (.irem, 1)) (hy : ¬ y = 0) (hz : x - x / y * y = z) (k : am_W Z kc ks (pc + 1) ls (.int z :: st) h) : am_W Z kc ks pc ls (.int y :: .int x :: st) h := am_irem hC hd hy (by rw [hz]; exact k)
theorem am_ialdE {Z : am_Z} {own : String} {cc : ByteArray} {n L mc ms : Nat} (hC : am_OK Z own cc n L mc ms) {kc ks pc : Nat} {ls st : List Value} {h : am_H} {r j N : Nat} {i v : Int32} (hkr : hk_ h r = 9) (hnr : hn_ h r = N) (hi : i = nI j) (hj : j < N) (hN : N < 2 ^ 31) (hd : decode cc pc = .ok (.iaload, 1)) (hv : hi_ h r j = v) (k : am_W Z kc ks (pc + 1) ls (.int v :: st) h) : am_W Z kc ks pc ls (.int i :: .ref r :: st) h := am_iald hC hkr hnr hi hj hN hd (by rw [hv]; exact k)
theorem am_zaldE {Z : am_Z} {own : String} {cc : ByteArray} {n L mc ms : Nat} (hC : am_OK Z own cc n L mc ms) {kc ks pc : Nat} {ls st : List Value} {h : am_H} {r j N : Nat} {i v : Int32} (hkr : hk_ h r = 10) (hnr : hn_ h r = N) (hi : i = nI j) (hj : j < N) (hN : N < 2 ^ 31) (hd : decode cc pc = .ok (.baload, 1)) (hv : hi_ h r j = v) (k : am_W Z kc ks (pc + 1) ls (.int v :: st) h) : am_W Z kc ks pc ls (.int i :: .ref r :: st) h := am_zald hC hkr hnr hi hj hN hd (by rw [hv]; exact k)
theorem am_aaldE {Z : am_Z} {own : String} {cc : ByteArray} {n L mc ms : Nat} (hC : am_OK Z own cc n L mc ms) {kc ks pc : Nat} {ls st : List Value} {h : am_H} {r j N kk : Nat} {i : Int32} {v : Value} (hkk : kk = 11 ∨ kk = 12) (hkr : hk_ h r = kk) (hnr : hn_ h r = N) (hi : i = nI j) (hj : j < N) (hN : N < 2 ^ 31) (hd : decode cc pc = .ok (.aaload, 1)) (hv : Value.ref (hr_ h r j) = v) (k : am_W Z kc ks (pc + 1) ls (v :: st) h) : am_W Z kc ks pc ls (.int i :: .ref r :: st) h := am_aald hC hkk hkr hnr hi hj hN hd (by rw [hv]; exact k)
theorem am_rfe {a b : Nat} (h : a = b) : Value.ref a = Value.ref b := by rw [h]
theorem am_tr {Z : am_Z} {own : String} {cc : ByteArray} {n L mc ms : Nat} (hC : am_OK Z own cc n L mc ms) : Z.2.2.1.stackTraces = false := hC.2.2.2.2.1
theorem mf_X5_init : am_mI yX5_init cX5_init 1 0 := ⟨rfl, tw_25, tw_1, tw_26, ⟨by decide +kernel, by decide +kernel, by decide +kernel⟩⟩
theorem mf_X5_begin : am_mV yX5_begin cX5_begin 2 (some .int) 0 := ⟨tw_108, tw_109, tw_1, tw_110, ⟨by decide +kernel, by decide +kernel, by decide +kernel⟩⟩
theorem mf_X5_canChange : am_mV yX5_canChange cX5_canChange 2 (some .int) 1 := ⟨tw_493, tw_494, tw_1, tw_495, ⟨by decide +kernel, by decide +kernel, by decide +kernel⟩⟩
theorem mf_X5_doorThatHelps : am_mV yX5_doorThatHelps cX5_doorThatHelps 4 (some .int) 2 := ⟨tw_472, tw_473, tw_1, tw_474, ⟨by decide +kernel, by decide +kernel, by decide +kernel⟩⟩
theorem mf_X5_doorsOut : am_mV yX5_doorsOut cX5_doorsOut 4 (some .int) 2 := ⟨tw_423, tw_424, tw_1, tw_425, ⟨by decide +kernel, by decide +kernel, by decide +kernel⟩⟩
theorem mf_X5_drawingAt : am_mV yX5_drawingAt cX5_drawingAt 2 (some (.object "HousePlans$Drawing")) 1 := ⟨tw_278, ts_4, tw_1, tw_279, ⟨by decide +kernel, by decide +kernel, by decide +kernel⟩⟩
theorem mf_X5_drawings : am_mV yX5_drawings cX5_drawings 1 (some .int) 0 := ⟨tw_577, tw_578, tw_1, tw_579, ⟨by decide +kernel, by decide +kernel, by decide +kernel⟩⟩
theorem mf_X5_firstCell : am_mS yX5_firstCell cX5_firstCell 1 (some .int) 1 := ⟨tw_386, tw_1, tw_387, ⟨by decide +kernel, by decide +kernel, by decide +kernel⟩⟩
theorem mf_X5_grant : am_mV yX5_grant cX5_grant 4 (some .int) 1 := ⟨tw_497, tw_498, tw_1, tw_499, ⟨by decide +kernel, by decide +kernel, by decide +kernel⟩⟩
theorem mf_X5_hasExit : am_mV yX5_hasExit cX5_hasExit 4 (some .boolean) 2 := ⟨tw_463, tw_464, tw_1, tw_465, ⟨by decide +kernel, by decide +kernel, by decide +kernel⟩⟩
theorem mf_X5_highestPermit : am_mV yX5_highestPermit cX5_highestPermit 4 (some .int) 1 := ⟨tw_544, ts_23, tw_1, tw_545, ⟨by decide +kernel, by decide +kernel, by decide +kernel⟩⟩
theorem mf_X5_holds : am_mV yX5_holds cX5_holds 2 (some .boolean) 1 := ⟨tw_524, tw_525, tw_1, tw_526, ⟨by decide +kernel, by decide +kernel, by decide +kernel⟩⟩
theorem mf_X5_isGood : am_mV yX5_isGood cX5_isGood 3 (some .boolean) 1 := ⟨tw_565, tw_566, tw_1, tw_567, ⟨by decide +kernel, by decide +kernel, by decide +kernel⟩⟩
theorem mf_X5_lend : am_mV yX5_lend cX5_lend 6 (some .int) 3 := ⟨tw_484, tw_485, tw_1, tw_486, ⟨by decide +kernel, by decide +kernel, by decide +kernel⟩⟩
theorem mf_X5_lock : am_mV yX5_lock cX5_lock 4 none 2 := ⟨tw_443, tw_444, tw_1, tw_445, ⟨by decide +kernel, by decide +kernel, by decide +kernel⟩⟩
theorem mf_X5_needCell : am_mS yX5_needCell cX5_needCell 1 none 1 := ⟨tw_347, tw_1, tw_348, ⟨by decide +kernel, by decide +kernel, by decide +kernel⟩⟩
theorem mf_X5_needChanger : am_mS yX5_needChanger cX5_needChanger 2 none 2 := ⟨tw_335, tw_1, tw_336, ⟨by decide +kernel, by decide +kernel, by decide +kernel⟩⟩
theorem mf_X5_needLocker : am_mS yX5_needLocker cX5_needLocker 2 none 2 := ⟨tw_489, tw_1, tw_490, ⟨by decide +kernel, by decide +kernel, by decide +kernel⟩⟩
theorem mf_X5_needPerson : am_mS yX5_needPerson cX5_needPerson 1 none 1 := ⟨tw_311, tw_1, tw_312, ⟨by decide +kernel, by decide +kernel, by decide +kernel⟩⟩
theorem mf_X5_needSide : am_mS yX5_needSide cX5_needSide 1 none 1 := ⟨tw_330, tw_1, tw_331, ⟨by decide +kernel, by decide +kernel, by decide +kernel⟩⟩
theorem mf_X5_old : am_mV yX5_old cX5_old 3 (some .int) 0 := ⟨tw_581, tw_582, tw_1, tw_583, ⟨by decide +kernel, by decide +kernel, by decide +kernel⟩⟩
theorem mf_X5_permitOf : am_mV yX5_permitOf cX5_permitOf 2 (some .int) 1 := ⟨tw_427, tw_428, tw_1, tw_429, ⟨by decide +kernel, by decide +kernel, by decide +kernel⟩⟩
theorem mf_X5_print : am_mV yX5_print cX5_print 4 (some .int) 1 := ⟨tw_537, tw_538, tw_1, tw_539, ⟨by decide +kernel, by decide +kernel, by decide +kernel⟩⟩
theorem mf_X5_printAt : am_mV yX5_printAt cX5_printAt 2 (some (.object "HousePlans$Print")) 1 := ⟨tw_432, ts_16, tw_1, tw_433, ⟨by decide +kernel, by decide +kernel, by decide +kernel⟩⟩
theorem mf_X5_refer : am_mV yX5_refer cX5_refer 8 (some .boolean) 4 := ⟨tw_451, tw_452, tw_1, tw_453, ⟨by decide +kernel, by decide +kernel, by decide +kernel⟩⟩
theorem mf_X5_room : am_mV yX5_room cX5_room 4 (some .int) 2 := ⟨tw_468, tw_469, tw_1, tw_470, ⟨by decide +kernel, by decide +kernel, by decide +kernel⟩⟩
theorem mf_X5_rooms : am_mV yX5_rooms cX5_rooms 2 (some .int) 1 := ⟨tw_362, tw_363, tw_1, tw_364, ⟨by decide +kernel, by decide +kernel, by decide +kernel⟩⟩
theorem mf_X5_secondCell : am_mS yX5_secondCell cX5_secondCell 1 (some .int) 1 := ⟨tw_389, tw_1, tw_390, ⟨by decide +kernel, by decide +kernel, by decide +kernel⟩⟩
theorem mf_X5_setExit : am_mV yX5_setExit cX5_setExit 7 (some .boolean) 4 := ⟨tw_343, tw_344, tw_1, tw_345, ⟨by decide +kernel, by decide +kernel, by decide +kernel⟩⟩
theorem mf_X5_side : am_mV yX5_side cX5_side 4 (some .int) 2 := ⟨tw_351, tw_352, tw_1, tw_353, ⟨by decide +kernel, by decide +kernel, by decide +kernel⟩⟩
theorem mf_X5_size : am_mV yX5_size cX5_size 4 (some .int) 2 := ⟨tw_415, tw_416, tw_1, tw_417, ⟨by decide +kernel, by decide +kernel, by decide +kernel⟩⟩
theorem mf_X5_tell : am_mV yX5_tell cX5_tell 7 (some .int) 4 := ⟨tw_273, tw_274, tw_1, tw_275, ⟨by decide +kernel, by decide +kernel, by decide +kernel⟩⟩
theorem mf_X5_unlock : am_mV yX5_unlock cX5_unlock 4 none 2 := ⟨tw_589, tw_590, tw_1, tw_591, ⟨by decide +kernel, by decide +kernel, by decide +kernel⟩⟩
theorem mf_X0_init : am_mI yX0_init cX0_init 1 0 := ⟨rfl, tw_186, tw_9, tw_187, ⟨by decide +kernel, by decide +kernel, by decide +kernel⟩⟩
theorem mf_X0_changer : am_mV yX0_changer cX0_changer 1 (some .int) 0 := ⟨tw_339, ts_5, tw_9, tw_340, ⟨by decide +kernel, by decide +kernel, by decide +kernel⟩⟩
theorem mf_X0_exitIn : am_mS yX0_exitIn cX0_exitIn 7 (some .boolean) 3 := ⟨tw_379, tw_9, tw_380, ⟨by decide +kernel, by decide +kernel, by decide +kernel⟩⟩
theorem mf_X0_exitNow : am_mV yX0_exitNow cX0_exitNow 2 (some .boolean) 1 := ⟨tw_376, ts_9, tw_9, tw_377, ⟨by decide +kernel, by decide +kernel, by decide +kernel⟩⟩
theorem mf_X0_leads : am_mS yX0_leads cX0_leads 7 (some .boolean) 3 := ⟨tw_459, tw_9, tw_460, ⟨by decide +kernel, by decide +kernel, by decide +kernel⟩⟩
theorem mf_X0_leadsTo : am_mV yX0_leadsTo cX0_leadsTo 2 (some .boolean) 1 := ⟨tw_456, ts_17, tw_9, tw_457, ⟨by decide +kernel, by decide +kernel, by decide +kernel⟩⟩
theorem mf_X0_sideIn : am_mS yX0_sideIn cX0_sideIn 8 (some .int) 3 := ⟨tw_359, tw_9, tw_360, ⟨by decide +kernel, by decide +kernel, by decide +kernel⟩⟩
theorem mf_X0_sideNow : am_mV yX0_sideNow cX0_sideNow 2 (some .int) 1 := ⟨tw_356, ts_6, tw_9, tw_357, ⟨by decide +kernel, by decide +kernel, by decide +kernel⟩⟩
theorem mf_X1_init : am_mI yX1_init cX1_init 1 0 := ⟨rfl, tw_59, tw_5, tw_60, ⟨by decide +kernel, by decide +kernel, by decide +kernel⟩⟩
theorem mf_X1_countCells : am_mV yX1_countCells cX1_countCells 4 (some .int) 1 := ⟨tw_420, ts_15, tw_5, tw_421, ⟨by decide +kernel, by decide +kernel, by decide +kernel⟩⟩
theorem mf_X1_countRooms : am_mV yX1_countRooms cX1_countRooms 3 (some .int) 0 := ⟨tw_412, ts_14, tw_5, tw_413, ⟨by decide +kernel, by decide +kernel, by decide +kernel⟩⟩
theorem mf_X1_everyRoomHasWayOut : am_mV yX1_everyRoomHasWayOut cX1_everyRoomHasWayOut 2 (some .boolean) 0 := ⟨tw_503, ts_20, tw_5, tw_504, ⟨by decide +kernel, by decide +kernel, by decide +kernel⟩⟩
theorem mf_X1_findRooms : am_mV yX1_findRooms cX1_findRooms 2 none 0 := ⟨tw_383, ts_10, tw_5, tw_384, ⟨by decide +kernel, by decide +kernel, by decide +kernel⟩⟩
theorem mf_X1_findWaysOut : am_mV yX1_findWaysOut cX1_findWaysOut 2 none 0 := ⟨tw_400, ts_12, tw_5, tw_401, ⟨by decide +kernel, by decide +kernel, by decide +kernel⟩⟩
theorem mf_X1_goThrough : am_mS yX1_goThrough cX1_goThrough 4 (some .boolean) 4 := ⟨tw_408, tw_5, tw_409, ⟨by decide +kernel, by decide +kernel, by decide +kernel⟩⟩
theorem mf_X1_goThroughDoors : am_mV yX1_goThroughDoors cX1_goThroughDoors 7 none 1 := ⟨tw_405, ts_13, tw_5, tw_406, ⟨by decide +kernel, by decide +kernel, by decide +kernel⟩⟩
theorem mf_X1_join : am_mV yX1_join cX1_join 6 none 2 := ⟨tw_394, ts_11, tw_5, tw_395, ⟨by decide +kernel, by decide +kernel, by decide +kernel⟩⟩
theorem mf_X1_leadsOut : am_mV yX1_leadsOut cX1_leadsOut 3 (some .boolean) 2 := ⟨tw_481, ts_19, tw_5, tw_482, ⟨by decide +kernel, by decide +kernel, by decide +kernel⟩⟩
theorem mf_X1_lookAt : am_mV yX1_lookAt cX1_lookAt 2 none 1 := ⟨tw_367, ts_7, tw_5, tw_368, ⟨by decide +kernel, by decide +kernel, by decide +kernel⟩⟩
theorem mf_X1_wallThatHelps : am_mV yX1_wallThatHelps cX1_wallThatHelps 5 (some .int) 1 := ⟨tw_477, ts_18, tw_5, tw_478, ⟨by decide +kernel, by decide +kernel, by decide +kernel⟩⟩
theorem mf_X2_init : am_mI yX2_init cX2_init 2 1 := ⟨rfl, tw_509, tw_20, tw_510, ⟨by decide +kernel, by decide +kernel, by decide +kernel⟩⟩
theorem mf_X2_isValid : am_mV yX2_isValid cX2_isValid 1 (some .boolean) 0 := ⟨tw_530, ts_21, tw_20, tw_531, ⟨by decide +kernel, by decide +kernel, by decide +kernel⟩⟩
theorem mf_X3_init : am_mI yX3_init cX3_init 3 2 := ⟨rfl, tw_547, tw_21, tw_548, ⟨by decide +kernel, by decide +kernel, by decide +kernel⟩⟩
theorem mf_X3_isOld : am_mV yX3_isOld cX3_isOld 1 (some .boolean) 0 := ⟨tw_570, ts_24, tw_21, tw_571, ⟨by decide +kernel, by decide +kernel, by decide +kernel⟩⟩
theorem mf_X4_init : am_mI yX4_init cX4_init 1 0 := ⟨rfl, tw_65, tw_6, tw_66, ⟨by decide +kernel, by decide +kernel, by decide +kernel⟩⟩
theorem mf_X4_isThatOf : am_mV yX4_isThatOf cX4_isThatOf 3 (some .boolean) 1 := ⟨tw_534, ts_22, tw_6, tw_535, ⟨by decide +kernel, by decide +kernel, by decide +kernel⟩⟩
theorem mf_X4_takeFrom : am_mV yX4_takeFrom cX4_takeFrom 3 none 1 := ⟨tw_371, ts_8, tw_6, tw_372, ⟨by decide +kernel, by decide +kernel, by decide +kernel⟩⟩
theorem mf_L_act : am_mW yL_act cL_act 7 (some .int) [((0 : Nat), (317 : Nat), (318 : Nat), (13 : Nat)), ((0 : Nat), (317 : Nat), (323 : Nat), (15 : Nat)), ((0 : Nat), (317 : Nat), (328 : Nat), (17 : Nat))] 6 := ⟨tw_448, tw_0, tw_449, ⟨by decide +kernel, by decide +kernel, by decide +kernel⟩⟩
theorem mf_L_cell : am_mS yL_cell cL_cell 7 (some .boolean) 7 := ⟨tw_597, tw_0, tw_598, ⟨by decide +kernel, by decide +kernel, by decide +kernel⟩⟩
theorem mf_L_floor : am_mS yL_floor cL_floor 3 (some .boolean) 0 := ⟨tw_594, tw_0, tw_595, ⟨by decide +kernel, by decide +kernel, by decide +kernel⟩⟩
theorem mf_L_hands : am_mS yL_hands cL_hands 3 (some .boolean) 0 := ⟨tw_603, tw_0, tw_604, ⟨by decide +kernel, by decide +kernel, by decide +kernel⟩⟩
theorem mf_L_lock : am_mW yL_lock cL_lock 4 (some .int) [((0 : Nat), (7 : Nat), (8 : Nat), (13 : Nat)), ((0 : Nat), (7 : Nat), (12 : Nat), (15 : Nat)), ((0 : Nat), (7 : Nat), (16 : Nat), (17 : Nat))] 3 := ⟨tw_437, tw_0, tw_438, ⟨by decide +kernel, by decide +kernel, by decide +kernel⟩⟩
theorem mf_L_refuses : am_mS yL_refuses cL_refuses 16 (some .boolean) 3 := ⟨tw_574, tw_0, tw_575, ⟨by decide +kernel, by decide +kernel, by decide +kernel⟩⟩
theorem mf_L_rows : am_mS yL_rows cL_rows 2 (some .boolean) 0 := ⟨tw_600, tw_0, tw_601, ⟨by decide +kernel, by decide +kernel, by decide +kernel⟩⟩
theorem mf_L_unlock : am_mW yL_unlock cL_unlock 4 (some .int) [((0 : Nat), (7 : Nat), (8 : Nat), (13 : Nat)), ((0 : Nat), (7 : Nat), (12 : Nat), (15 : Nat)), ((0 : Nat), (7 : Nat), (16 : Nat), (17 : Nat))] 3 := ⟨tw_586, tw_0, tw_587, ⟨by decide +kernel, by decide +kernel, by decide +kernel⟩⟩
theorem mf_Jxa1e45_init_da8c8 : am_mI yJxa1e45_init_da8c8 cJxa1e45_init_da8c8 1 0 := ⟨rfl, tw_39, tw_2, tw_40, ⟨by decide +kernel, by decide +kernel, by decide +kernel⟩⟩
theorem mf_Jxc12de_init_da8c8 : am_mI yJxc12de_init_da8c8 cJxc12de_init_da8c8 1 0 := ⟨rfl, tw_36, tw_3, tw_37, ⟨by decide +kernel, by decide +kernel, by decide +kernel⟩⟩
theorem mf_Jx4a65c_init_da8c8 : am_mI yJx4a65c_init_da8c8 cJx4a65c_init_da8c8 1 0 := ⟨rfl, tw_33, tw_4, tw_34, ⟨by decide +kernel, by decide +kernel, by decide +kernel⟩⟩
theorem mf_Jx4a65c_add_9ea2d : am_mV yJx4a65c_add_9ea2d cJx4a65c_add_9ea2d 2 (some .boolean) 1 := ⟨tw_216, tw_217, tw_4, tw_218, ⟨by decide +kernel, by decide +kernel, by decide +kernel⟩⟩
theorem mf_Jx4a65c_add_72be8 : am_mV yJx4a65c_add_72be8 cJx4a65c_add_72be8 4 none 3 := ⟨tw_221, ts_1, tw_4, tw_222, ⟨by decide +kernel, by decide +kernel, by decide +kernel⟩⟩
theorem mf_Jx4a65c_elementData_915e3 : am_mV yJx4a65c_elementData_915e3 cJx4a65c_elementData_915e3 2 (some (.object "java/lang/Object")) 1 := ⟨tw_307, tw_308, tw_4, tw_309, ⟨by decide +kernel, by decide +kernel, by decide +kernel⟩⟩
theorem mf_Jx4a65c_get_915e3 : am_mV yJx4a65c_get_915e3 cJx4a65c_get_915e3 2 (some (.object "java/lang/Object")) 1 := ⟨tw_297, tw_298, tw_4, tw_299, ⟨by decide +kernel, by decide +kernel, by decide +kernel⟩⟩
theorem mf_Jx4a65c_grow_d5877 : am_mV yJx4a65c_grow_d5877 cJx4a65c_grow_d5877 1 (some (.array (.object "java/lang/Object"))) 0 := ⟨tw_225, ts_2, tw_4, tw_226, ⟨by decide +kernel, by decide +kernel, by decide +kernel⟩⟩
theorem mf_Jx4a65c_grow_92f84 : am_mV yJx4a65c_grow_92f84 cJx4a65c_grow_92f84 4 (some (.array (.object "java/lang/Object"))) 1 := ⟨tw_229, ts_3, tw_4, tw_230, ⟨by decide +kernel, by decide +kernel, by decide +kernel⟩⟩
theorem mf_Jx4a65c_size_8abf5 : am_mV yJx4a65c_size_8abf5 cJx4a65c_size_8abf5 1 (some .int) 0 := ⟨tw_112, tw_113, tw_4, tw_114, ⟨by decide +kernel, by decide +kernel, by decide +kernel⟩⟩
theorem mf_J7_copyOf_1904c : am_mS yJ7_copyOf_1904c cJ7_copyOf_1904c 2 (some (.array (.object "java/lang/Object"))) 2 := ⟨tw_242, tw_14, tw_243, ⟨by decide +kernel, by decide +kernel, by decide +kernel⟩⟩
theorem mf_J7_copyOf_6403c : am_mS yJ7_copyOf_6403c cJ7_copyOf_6403c 4 (some (.array (.object "java/lang/Object"))) 3 := ⟨tw_259, tw_14, tw_260, ⟨by decide +kernel, by decide +kernel, by decide +kernel⟩⟩
theorem mf_J7_fill_53178 : am_mS yJ7_fill_53178 cJ7_fill_53178 4 none 2 := ⟨tw_192, tw_14, tw_193, ⟨by decide +kernel, by decide +kernel, by decide +kernel⟩⟩
theorem mf_J15_checkIndex_7cf53 : am_mS yJ15_checkIndex_7cf53 cJ15_checkIndex_7cf53 2 (some .int) 2 := ⟨tw_301, tw_7, tw_302, ⟨by decide +kernel, by decide +kernel, by decide +kernel⟩⟩
theorem mf_J8_hugeLength_7cf53 : am_mS yJ8_hugeLength_7cf53 cJ8_hugeLength_7cf53 3 (some .int) 2 := ⟨tw_239, tw_15, tw_240, ⟨by decide +kernel, by decide +kernel, by decide +kernel⟩⟩
theorem mf_J8_newLength_cabcc : am_mS yJ8_newLength_cabcc cJ8_newLength_cabcc 4 (some .int) 3 := ⟨tw_232, tw_15, tw_233, ⟨by decide +kernel, by decide +kernel, by decide +kernel⟩⟩
theorem mf_J3_checkIndex_8e157 : am_mS yJ3_checkIndex_8e157 cJ3_checkIndex_8e157 3 (some .int) 3 := ⟨tw_304, tw_8, tw_305, ⟨by decide +kernel, by decide +kernel, by decide +kernel⟩⟩
theorem xw_RX5_37 : ∀ w ∈ vx_atS "HousePlans" 37 "java/lang/IllegalStateException" ["java/lang/RuntimeException", "java/lang/Exception"], (w ∈ am_TG ∨ w ∈ am_bw) ∧ vx_ot w = true := by decide +kernel
theorem xw_RX5_62 : ∀ w ∈ vx_atS "HousePlans" 62 "java/lang/IllegalArgumentException" ["java/lang/RuntimeException", "java/lang/Exception"], (w ∈ am_TG ∨ w ∈ am_bw) ∧ vx_ot w = true := by decide +kernel
theorem xw_RX5_150 : ∀ w ∈ vx_atS "HousePlans" 150 "java/lang/IndexOutOfBoundsException" ["java/lang/RuntimeException", "java/lang/Exception"], (w ∈ am_TG ∨ w ∈ am_bw) ∧ vx_ot w = true := by decide +kernel
