theorem dX5_tell_37 : decode cX5_tell 37 = .ok (.aload 5, 2) := by decide +kernel
theorem dX5_tell_39 : decode cX5_tell 39 = .ok (.iload_n 2, 1) := by decide +kernel
theorem dX5_tell_40 : decode cX5_tell 40 = .ok (.invokestatic 63, 3) := by decide +kernel
theorem dX5_tell_43 : decode cX5_tell 43 = .ok (.aload 5, 2) := by decide +kernel
theorem dX5_tell_45 : decode cX5_tell 45 = .ok (.getfield 67, 3) := by decide +kernel
theorem dX5_tell_48 : decode cX5_tell 48 = .ok (.iload_n 3, 1) := by decide +kernel
theorem dX5_tell_49 : decode cX5_tell 49 = .ok (.iaload, 1) := by decide +kernel
theorem dX5_tell_50 : decode cX5_tell 50 = .ok (.istore 6, 2) := by decide +kernel
theorem dX5_tell_52 : decode cX5_tell 52 = .ok (.aload 5, 2) := by decide +kernel
theorem dX5_tell_54 : decode cX5_tell 54 = .ok (.getfield 67, 3) := by decide +kernel
theorem dX5_tell_57 : decode cX5_tell 57 = .ok (.iload_n 3, 1) := by decide +kernel
theorem dX5_tell_58 : decode cX5_tell 58 = .ok (.iload 4, 2) := by decide +kernel
theorem dX5_tell_60 : decode cX5_tell 60 = .ok (.iastore, 1) := by decide +kernel
theorem dX5_tell_61 : decode cX5_tell 61 = .ok (.iload 6, 2) := by decide +kernel
theorem dX5_tell_63 : decode cX5_tell 63 = .ok (.ireturn, 1) := by decide +kernel
theorem dX5_setExit_0 : decode cX5_setExit 0 = .ok (.aload_n 0, 1) := by decide +kernel
theorem dX5_setExit_1 : decode cX5_setExit 1 = .ok (.iload_n 1, 1) := by decide +kernel
theorem dX5_setExit_2 : decode cX5_setExit 2 = .ok (.invokevirtual 47, 3) := by decide +kernel
theorem dX5_setExit_5 : decode cX5_setExit 5 = .ok (.astore 5, 2) := by decide +kernel
theorem dX5_setExit_7 : decode cX5_setExit 7 = .ok (.iload_n 2, 1) := by decide +kernel
theorem dX5_setExit_8 : decode cX5_setExit 8 = .ok (.invokestatic 51, 3) := by decide +kernel
theorem dX5_setExit_11 : decode cX5_setExit 11 = .ok (.iload_n 3, 1) := by decide +kernel
theorem dX5_setExit_12 : decode cX5_setExit 12 = .ok (.invokestatic 71, 3) := by decide +kernel
theorem dX5_setExit_15 : decode cX5_setExit 15 = .ok (.aload 5, 2) := by decide +kernel
theorem dX5_setExit_17 : decode cX5_setExit 17 = .ok (.iload_n 2, 1) := by decide +kernel
theorem dX5_setExit_18 : decode cX5_setExit 18 = .ok (.invokestatic 63, 3) := by decide +kernel
theorem dX5_setExit_21 : decode cX5_setExit 21 = .ok (.aload 5, 2) := by decide +kernel
theorem dX5_setExit_23 : decode cX5_setExit 23 = .ok (.getfield 74, 3) := by decide +kernel
theorem dX5_setExit_26 : decode cX5_setExit 26 = .ok (.iload_n 3, 1) := by decide +kernel
theorem dX5_setExit_27 : decode cX5_setExit 27 = .ok (.baload, 1) := by decide +kernel
theorem dX5_setExit_28 : decode cX5_setExit 28 = .ok (.istore 6, 2) := by decide +kernel
theorem dX5_setExit_30 : decode cX5_setExit 30 = .ok (.aload 5, 2) := by decide +kernel
theorem dX5_setExit_32 : decode cX5_setExit 32 = .ok (.getfield 74, 3) := by decide +kernel
theorem dX5_setExit_35 : decode cX5_setExit 35 = .ok (.iload_n 3, 1) := by decide +kernel
theorem dX5_setExit_36 : decode cX5_setExit 36 = .ok (.iload 4, 2) := by decide +kernel
theorem dX5_setExit_38 : decode cX5_setExit 38 = .ok (.bastore, 1) := by decide +kernel
theorem dX5_setExit_39 : decode cX5_setExit 39 = .ok (.iload 6, 2) := by decide +kernel
theorem dX5_setExit_41 : decode cX5_setExit 41 = .ok (.ireturn, 1) := by decide +kernel
theorem dX5_refer_0 : decode cX5_refer 0 = .ok (.aload_n 0, 1) := by decide +kernel
theorem dX5_refer_1 : decode cX5_refer 1 = .ok (.iload_n 1, 1) := by decide +kernel
theorem dX5_refer_2 : decode cX5_refer 2 = .ok (.invokevirtual 47, 3) := by decide +kernel
theorem dX5_refer_5 : decode cX5_refer 5 = .ok (.astore 5, 2) := by decide +kernel
theorem dX5_refer_7 : decode cX5_refer 7 = .ok (.aload_n 0, 1) := by decide +kernel
theorem dX5_refer_8 : decode cX5_refer 8 = .ok (.iload_n 3, 1) := by decide +kernel
theorem dX5_refer_9 : decode cX5_refer 9 = .ok (.invokevirtual 47, 3) := by decide +kernel
theorem dX5_refer_12 : decode cX5_refer 12 = .ok (.astore 6, 2) := by decide +kernel
theorem dX5_refer_14 : decode cX5_refer 14 = .ok (.iload_n 2, 1) := by decide +kernel
theorem dX5_refer_15 : decode cX5_refer 15 = .ok (.invokestatic 51, 3) := by decide +kernel
theorem dX5_refer_18 : decode cX5_refer 18 = .ok (.aload 5, 2) := by decide +kernel
theorem dX5_refer_20 : decode cX5_refer 20 = .ok (.iload_n 2, 1) := by decide +kernel
theorem dX5_refer_21 : decode cX5_refer 21 = .ok (.invokestatic 63, 3) := by decide +kernel
theorem dX5_refer_24 : decode cX5_refer 24 = .ok (.iload 4, 2) := by decide +kernel
theorem dX5_refer_26 : decode cX5_refer 26 = .ok (.ifCond .eq 23, 3) := by decide +kernel
theorem dX5_refer_29 : decode cX5_refer 29 = .ok (.aload 6, 2) := by decide +kernel
theorem dX5_refer_31 : decode cX5_refer 31 = .ok (.aload 5, 2) := by decide +kernel
theorem dX5_refer_33 : decode cX5_refer 33 = .ok (.invokevirtual 78, 3) := by decide +kernel
theorem dX5_refer_36 : decode cX5_refer 36 = .ok (.ifCond .eq 13, 3) := by decide +kernel
theorem dX5_refer_39 : decode cX5_refer 39 = .ok (.new 33, 3) := by decide +kernel
theorem dX5_refer_42 : decode cX5_refer 42 = .ok (.dup, 1) := by decide +kernel
theorem dX5_refer_43 : decode cX5_refer 43 = .ok (.ldc 82, 2) := by decide +kernel
theorem dX5_refer_45 : decode cX5_refer 45 = .ok (.invokespecial 37, 3) := by decide +kernel
theorem dX5_refer_48 : decode cX5_refer 48 = .ok (.athrow, 1) := by decide +kernel
theorem dX5_refer_49 : decode cX5_refer 49 = .ok (.aload 5, 2) := by decide +kernel
theorem dX5_refer_51 : decode cX5_refer 51 = .ok (.getfield 84, 3) := by decide +kernel
theorem dX5_refer_54 : decode cX5_refer 54 = .ok (.iload_n 3, 1) := by decide +kernel
theorem dX5_refer_55 : decode cX5_refer 55 = .ok (.aaload, 1) := by decide +kernel
theorem dX5_refer_56 : decode cX5_refer 56 = .ok (.ifnull 7, 3) := by decide +kernel
theorem dX5_refer_59 : decode cX5_refer 59 = .ok (.iconst 1, 1) := by decide +kernel
theorem dX5_refer_60 : decode cX5_refer 60 = .ok (.goto 4, 3) := by decide +kernel
theorem dX5_refer_63 : decode cX5_refer 63 = .ok (.iconst 0, 1) := by decide +kernel
theorem dX5_refer_64 : decode cX5_refer 64 = .ok (.istore 7, 2) := by decide +kernel
theorem dX5_refer_66 : decode cX5_refer 66 = .ok (.aload 5, 2) := by decide +kernel
theorem dX5_refer_68 : decode cX5_refer 68 = .ok (.getfield 84, 3) := by decide +kernel
theorem dX5_refer_71 : decode cX5_refer 71 = .ok (.iload_n 3, 1) := by decide +kernel
theorem dX5_refer_72 : decode cX5_refer 72 = .ok (.iload 4, 2) := by decide +kernel
theorem dX5_refer_74 : decode cX5_refer 74 = .ok (.ifCond .eq 8, 3) := by decide +kernel
theorem dX5_refer_77 : decode cX5_refer 77 = .ok (.aload 6, 2) := by decide +kernel
theorem dX5_refer_79 : decode cX5_refer 79 = .ok (.goto 4, 3) := by decide +kernel
theorem dX5_refer_82 : decode cX5_refer 82 = .ok (.aconst_null, 1) := by decide +kernel
theorem dX5_refer_83 : decode cX5_refer 83 = .ok (.aastore, 1) := by decide +kernel
theorem dX5_refer_84 : decode cX5_refer 84 = .ok (.iload 7, 2) := by decide +kernel
theorem dX5_refer_86 : decode cX5_refer 86 = .ok (.ireturn, 1) := by decide +kernel
theorem dX5_drawings_0 : decode cX5_drawings 0 = .ok (.aload_n 0, 1) := by decide +kernel
theorem dX5_drawings_1 : decode cX5_drawings 1 = .ok (.getfield 10, 3) := by decide +kernel
theorem dX5_drawings_4 : decode cX5_drawings 4 = .ok (.invokevirtual 29, 3) := by decide +kernel
theorem dX5_drawings_7 : decode cX5_drawings 7 = .ok (.ireturn, 1) := by decide +kernel
theorem dX5_side_0 : decode cX5_side 0 = .ok (.aload_n 0, 1) := by decide +kernel
theorem dX5_side_1 : decode cX5_side 1 = .ok (.iload_n 1, 1) := by decide +kernel
theorem dX5_side_2 : decode cX5_side 2 = .ok (.invokevirtual 47, 3) := by decide +kernel
theorem dX5_side_5 : decode cX5_side 5 = .ok (.astore_n 3, 1) := by decide +kernel
theorem dX5_side_6 : decode cX5_side 6 = .ok (.iload_n 2, 1) := by decide +kernel
theorem dX5_side_7 : decode cX5_side 7 = .ok (.invokestatic 55, 3) := by decide +kernel
theorem dX5_side_10 : decode cX5_side 10 = .ok (.aload_n 3, 1) := by decide +kernel
theorem dX5_side_11 : decode cX5_side 11 = .ok (.iload_n 2, 1) := by decide +kernel
theorem dX5_side_12 : decode cX5_side 12 = .ok (.invokevirtual 88, 3) := by decide +kernel
theorem dX5_side_15 : decode cX5_side 15 = .ok (.ireturn, 1) := by decide +kernel
theorem dX5_hasExit_0 : decode cX5_hasExit 0 = .ok (.aload_n 0, 1) := by decide +kernel
theorem dX5_hasExit_1 : decode cX5_hasExit 1 = .ok (.iload_n 1, 1) := by decide +kernel
theorem dX5_hasExit_2 : decode cX5_hasExit 2 = .ok (.invokevirtual 47, 3) := by decide +kernel
theorem dX5_hasExit_5 : decode cX5_hasExit 5 = .ok (.astore_n 3, 1) := by decide +kernel
theorem dX5_hasExit_6 : decode cX5_hasExit 6 = .ok (.iload_n 2, 1) := by decide +kernel
theorem dX5_hasExit_7 : decode cX5_hasExit 7 = .ok (.invokestatic 71, 3) := by decide +kernel
theorem dX5_hasExit_10 : decode cX5_hasExit 10 = .ok (.aload_n 3, 1) := by decide +kernel
theorem dX5_hasExit_11 : decode cX5_hasExit 11 = .ok (.iload_n 2, 1) := by decide +kernel
theorem dX5_hasExit_12 : decode cX5_hasExit 12 = .ok (.invokevirtual 92, 3) := by decide +kernel
theorem dX5_hasExit_15 : decode cX5_hasExit 15 = .ok (.ireturn, 1) := by decide +kernel
theorem dX5_rooms_0 : decode cX5_rooms 0 = .ok (.aload_n 0, 1) := by decide +kernel
theorem dX5_rooms_1 : decode cX5_rooms 1 = .ok (.getfield 25, 3) := by decide +kernel
theorem dX5_rooms_4 : decode cX5_rooms 4 = .ok (.aload_n 0, 1) := by decide +kernel
theorem dX5_rooms_5 : decode cX5_rooms 5 = .ok (.iload_n 1, 1) := by decide +kernel
theorem dX5_rooms_6 : decode cX5_rooms 6 = .ok (.invokevirtual 47, 3) := by decide +kernel
theorem dX5_rooms_9 : decode cX5_rooms 9 = .ok (.invokevirtual 96, 3) := by decide +kernel
theorem dX5_rooms_12 : decode cX5_rooms 12 = .ok (.aload_n 0, 1) := by decide +kernel
theorem dX5_rooms_13 : decode cX5_rooms 13 = .ok (.getfield 25, 3) := by decide +kernel
theorem dX5_rooms_16 : decode cX5_rooms 16 = .ok (.invokevirtual 100, 3) := by decide +kernel
theorem dX5_rooms_19 : decode cX5_rooms 19 = .ok (.ireturn, 1) := by decide +kernel
theorem dX5_room_0 : decode cX5_room 0 = .ok (.aload_n 0, 1) := by decide +kernel
theorem dX5_room_1 : decode cX5_room 1 = .ok (.iload_n 1, 1) := by decide +kernel
theorem dX5_room_2 : decode cX5_room 2 = .ok (.invokevirtual 47, 3) := by decide +kernel
theorem dX5_room_5 : decode cX5_room 5 = .ok (.astore_n 3, 1) := by decide +kernel
theorem dX5_room_6 : decode cX5_room 6 = .ok (.iload_n 2, 1) := by decide +kernel
theorem dX5_room_7 : decode cX5_room 7 = .ok (.invokestatic 71, 3) := by decide +kernel
theorem dX5_room_10 : decode cX5_room 10 = .ok (.aload_n 0, 1) := by decide +kernel
theorem dX5_room_11 : decode cX5_room 11 = .ok (.getfield 25, 3) := by decide +kernel
theorem dX5_room_14 : decode cX5_room 14 = .ok (.aload_n 3, 1) := by decide +kernel
theorem dX5_room_15 : decode cX5_room 15 = .ok (.invokevirtual 96, 3) := by decide +kernel
theorem dX5_room_18 : decode cX5_room 18 = .ok (.aload_n 0, 1) := by decide +kernel
theorem dX5_room_19 : decode cX5_room 19 = .ok (.getfield 25, 3) := by decide +kernel
theorem dX5_room_22 : decode cX5_room 22 = .ok (.getfield 103, 3) := by decide +kernel
theorem dX5_room_25 : decode cX5_room 25 = .ok (.iload_n 2, 1) := by decide +kernel
theorem dX5_room_26 : decode cX5_room 26 = .ok (.iaload, 1) := by decide +kernel
theorem dX5_room_27 : decode cX5_room 27 = .ok (.ireturn, 1) := by decide +kernel
theorem dX5_size_0 : decode cX5_size 0 = .ok (.aload_n 0, 1) := by decide +kernel
theorem dX5_size_1 : decode cX5_size 1 = .ok (.iload_n 1, 1) := by decide +kernel
theorem dX5_size_2 : decode cX5_size 2 = .ok (.invokevirtual 47, 3) := by decide +kernel
theorem dX5_size_5 : decode cX5_size 5 = .ok (.astore_n 3, 1) := by decide +kernel
theorem dX5_size_6 : decode cX5_size 6 = .ok (.iload_n 2, 1) := by decide +kernel
theorem dX5_size_7 : decode cX5_size 7 = .ok (.invokestatic 71, 3) := by decide +kernel
theorem dX5_size_10 : decode cX5_size 10 = .ok (.aload_n 0, 1) := by decide +kernel
theorem dX5_size_11 : decode cX5_size 11 = .ok (.getfield 25, 3) := by decide +kernel
theorem dX5_size_14 : decode cX5_size 14 = .ok (.aload_n 3, 1) := by decide +kernel
theorem dX5_size_15 : decode cX5_size 15 = .ok (.invokevirtual 96, 3) := by decide +kernel
theorem dX5_size_18 : decode cX5_size 18 = .ok (.aload_n 0, 1) := by decide +kernel
theorem dX5_size_19 : decode cX5_size 19 = .ok (.getfield 25, 3) := by decide +kernel
theorem dX5_size_22 : decode cX5_size 22 = .ok (.aload_n 0, 1) := by decide +kernel
theorem dX5_size_23 : decode cX5_size 23 = .ok (.getfield 25, 3) := by decide +kernel
theorem dX5_size_26 : decode cX5_size 26 = .ok (.getfield 103, 3) := by decide +kernel
theorem dX5_size_29 : decode cX5_size 29 = .ok (.iload_n 2, 1) := by decide +kernel
theorem dX5_size_30 : decode cX5_size 30 = .ok (.iaload, 1) := by decide +kernel
theorem dX5_size_31 : decode cX5_size 31 = .ok (.invokevirtual 106, 3) := by decide +kernel
theorem dX5_size_34 : decode cX5_size 34 = .ok (.ireturn, 1) := by decide +kernel
theorem dX5_doorsOut_0 : decode cX5_doorsOut 0 = .ok (.aload_n 0, 1) := by decide +kernel
theorem dX5_doorsOut_1 : decode cX5_doorsOut 1 = .ok (.iload_n 1, 1) := by decide +kernel
theorem dX5_doorsOut_2 : decode cX5_doorsOut 2 = .ok (.invokevirtual 47, 3) := by decide +kernel
theorem dX5_doorsOut_5 : decode cX5_doorsOut 5 = .ok (.astore_n 3, 1) := by decide +kernel
theorem dX5_doorsOut_6 : decode cX5_doorsOut 6 = .ok (.iload_n 2, 1) := by decide +kernel
theorem dX5_doorsOut_7 : decode cX5_doorsOut 7 = .ok (.invokestatic 71, 3) := by decide +kernel
theorem dX5_doorsOut_10 : decode cX5_doorsOut 10 = .ok (.aload_n 0, 1) := by decide +kernel
theorem dX5_doorsOut_11 : decode cX5_doorsOut 11 = .ok (.getfield 25, 3) := by decide +kernel
theorem dX5_doorsOut_14 : decode cX5_doorsOut 14 = .ok (.aload_n 3, 1) := by decide +kernel
theorem dX5_doorsOut_15 : decode cX5_doorsOut 15 = .ok (.invokevirtual 96, 3) := by decide +kernel
theorem dX5_doorsOut_18 : decode cX5_doorsOut 18 = .ok (.aload_n 0, 1) := by decide +kernel
theorem dX5_doorsOut_19 : decode cX5_doorsOut 19 = .ok (.getfield 25, 3) := by decide +kernel
theorem dX5_doorsOut_22 : decode cX5_doorsOut 22 = .ok (.getfield 109, 3) := by decide +kernel
theorem dX5_doorsOut_25 : decode cX5_doorsOut 25 = .ok (.aload_n 0, 1) := by decide +kernel
theorem dX5_doorsOut_26 : decode cX5_doorsOut 26 = .ok (.getfield 25, 3) := by decide +kernel
theorem dX5_doorsOut_29 : decode cX5_doorsOut 29 = .ok (.getfield 103, 3) := by decide +kernel
theorem dX5_doorsOut_32 : decode cX5_doorsOut 32 = .ok (.iload_n 2, 1) := by decide +kernel
theorem dX5_doorsOut_33 : decode cX5_doorsOut 33 = .ok (.iaload, 1) := by decide +kernel
theorem dX5_doorsOut_34 : decode cX5_doorsOut 34 = .ok (.iaload, 1) := by decide +kernel
theorem dX5_doorsOut_35 : decode cX5_doorsOut 35 = .ok (.ireturn, 1) := by decide +kernel
theorem dX5_doorThatHelps_0 : decode cX5_doorThatHelps 0 = .ok (.aload_n 0, 1) := by decide +kernel
theorem dX5_doorThatHelps_1 : decode cX5_doorThatHelps 1 = .ok (.iload_n 1, 1) := by decide +kernel
theorem dX5_doorThatHelps_2 : decode cX5_doorThatHelps 2 = .ok (.invokevirtual 47, 3) := by decide +kernel
theorem dX5_doorThatHelps_5 : decode cX5_doorThatHelps 5 = .ok (.astore_n 3, 1) := by decide +kernel
theorem dX5_doorThatHelps_6 : decode cX5_doorThatHelps 6 = .ok (.iload_n 2, 1) := by decide +kernel
theorem dX5_doorThatHelps_7 : decode cX5_doorThatHelps 7 = .ok (.invokestatic 71, 3) := by decide +kernel
theorem dX5_doorThatHelps_10 : decode cX5_doorThatHelps 10 = .ok (.aload_n 0, 1) := by decide +kernel
theorem dX5_doorThatHelps_11 : decode cX5_doorThatHelps 11 = .ok (.getfield 25, 3) := by decide +kernel
theorem dX5_doorThatHelps_14 : decode cX5_doorThatHelps 14 = .ok (.aload_n 3, 1) := by decide +kernel
theorem dX5_doorThatHelps_15 : decode cX5_doorThatHelps 15 = .ok (.invokevirtual 96, 3) := by decide +kernel
theorem dX5_doorThatHelps_18 : decode cX5_doorThatHelps 18 = .ok (.aload_n 0, 1) := by decide +kernel
theorem dX5_doorThatHelps_19 : decode cX5_doorThatHelps 19 = .ok (.getfield 25, 3) := by decide +kernel
theorem dX5_doorThatHelps_22 : decode cX5_doorThatHelps 22 = .ok (.aload_n 0, 1) := by decide +kernel
theorem dX5_doorThatHelps_23 : decode cX5_doorThatHelps 23 = .ok (.getfield 25, 3) := by decide +kernel
theorem dX5_doorThatHelps_26 : decode cX5_doorThatHelps 26 = .ok (.getfield 103, 3) := by decide +kernel
theorem dX5_doorThatHelps_29 : decode cX5_doorThatHelps 29 = .ok (.iload_n 2, 1) := by decide +kernel
theorem dX5_doorThatHelps_30 : decode cX5_doorThatHelps 30 = .ok (.iaload, 1) := by decide +kernel
theorem dX5_doorThatHelps_31 : decode cX5_doorThatHelps 31 = .ok (.invokevirtual 112, 3) := by decide +kernel
theorem dX5_doorThatHelps_34 : decode cX5_doorThatHelps 34 = .ok (.ireturn, 1) := by decide +kernel
theorem dX5_lock_0 : decode cX5_lock 0 = .ok (.aload_n 0, 1) := by decide +kernel
theorem dX5_lock_1 : decode cX5_lock 1 = .ok (.iload_n 1, 1) := by decide +kernel
theorem dX5_lock_2 : decode cX5_lock 2 = .ok (.invokevirtual 47, 3) := by decide +kernel
theorem dX5_lock_5 : decode cX5_lock 5 = .ok (.astore_n 3, 1) := by decide +kernel
theorem dX5_lock_6 : decode cX5_lock 6 = .ok (.iload_n 2, 1) := by decide +kernel
theorem dX5_lock_7 : decode cX5_lock 7 = .ok (.invokestatic 51, 3) := by decide +kernel
theorem dX5_lock_10 : decode cX5_lock 10 = .ok (.aload_n 3, 1) := by decide +kernel
theorem dX5_lock_11 : decode cX5_lock 11 = .ok (.getfield 115, 3) := by decide +kernel
theorem dX5_lock_14 : decode cX5_lock 14 = .ok (.iconst (-1), 1) := by decide +kernel
theorem dX5_lock_15 : decode cX5_lock 15 = .ok (.if_icmp .eq 13, 3) := by decide +kernel
theorem dX5_lock_18 : decode cX5_lock 18 = .ok (.new 33, 3) := by decide +kernel
theorem dX5_lock_21 : decode cX5_lock 21 = .ok (.dup, 1) := by decide +kernel
theorem dX5_lock_22 : decode cX5_lock 22 = .ok (.ldc 119, 2) := by decide +kernel
theorem dX5_lock_24 : decode cX5_lock 24 = .ok (.invokespecial 37, 3) := by decide +kernel
theorem dX5_lock_27 : decode cX5_lock 27 = .ok (.athrow, 1) := by decide +kernel
theorem dX5_lock_28 : decode cX5_lock 28 = .ok (.aload_n 3, 1) := by decide +kernel
theorem dX5_lock_29 : decode cX5_lock 29 = .ok (.iload_n 2, 1) := by decide +kernel
theorem dX5_lock_30 : decode cX5_lock 30 = .ok (.putfield 115, 3) := by decide +kernel
theorem dX5_lock_33 : decode cX5_lock 33 = .ok (.return_, 1) := by decide +kernel
theorem dX5_unlock_0 : decode cX5_unlock 0 = .ok (.aload_n 0, 1) := by decide +kernel
theorem dX5_unlock_1 : decode cX5_unlock 1 = .ok (.iload_n 1, 1) := by decide +kernel
theorem dX5_unlock_2 : decode cX5_unlock 2 = .ok (.invokevirtual 47, 3) := by decide +kernel
theorem dX5_unlock_5 : decode cX5_unlock 5 = .ok (.astore_n 3, 1) := by decide +kernel
theorem dX5_unlock_6 : decode cX5_unlock 6 = .ok (.iload_n 2, 1) := by decide +kernel
theorem dX5_unlock_7 : decode cX5_unlock 7 = .ok (.invokestatic 51, 3) := by decide +kernel
theorem dX5_unlock_10 : decode cX5_unlock 10 = .ok (.aload_n 3, 1) := by decide +kernel
theorem dX5_unlock_11 : decode cX5_unlock 11 = .ok (.iload_n 2, 1) := by decide +kernel
theorem dX5_unlock_12 : decode cX5_unlock 12 = .ok (.invokestatic 121, 3) := by decide +kernel
theorem dX5_unlock_15 : decode cX5_unlock 15 = .ok (.aload_n 3, 1) := by decide +kernel
theorem dX5_unlock_16 : decode cX5_unlock 16 = .ok (.getfield 124, 3) := by decide +kernel
theorem dX5_unlock_19 : decode cX5_unlock 19 = .ok (.iconst (-1), 1) := by decide +kernel
theorem dX5_unlock_20 : decode cX5_unlock 20 = .ok (.if_icmp .eq 13, 3) := by decide +kernel
theorem dX5_unlock_23 : decode cX5_unlock 23 = .ok (.new 33, 3) := by decide +kernel
theorem dX5_unlock_26 : decode cX5_unlock 26 = .ok (.dup, 1) := by decide +kernel
theorem dX5_unlock_27 : decode cX5_unlock 27 = .ok (.ldc 127, 2) := by decide +kernel
theorem dX5_unlock_29 : decode cX5_unlock 29 = .ok (.invokespecial 37, 3) := by decide +kernel
theorem dX5_unlock_32 : decode cX5_unlock 32 = .ok (.athrow, 1) := by decide +kernel
theorem dX5_unlock_33 : decode cX5_unlock 33 = .ok (.aload_n 3, 1) := by decide +kernel
theorem dX5_unlock_34 : decode cX5_unlock 34 = .ok (.iconst (-1), 1) := by decide +kernel
theorem dX5_unlock_35 : decode cX5_unlock 35 = .ok (.putfield 115, 3) := by decide +kernel
theorem dX5_unlock_38 : decode cX5_unlock 38 = .ok (.return_, 1) := by decide +kernel
theorem dX5_lend_0 : decode cX5_lend 0 = .ok (.aload_n 0, 1) := by decide +kernel
theorem dX5_lend_1 : decode cX5_lend 1 = .ok (.iload_n 1, 1) := by decide +kernel
theorem dX5_lend_2 : decode cX5_lend 2 = .ok (.invokevirtual 47, 3) := by decide +kernel
theorem dX5_lend_5 : decode cX5_lend 5 = .ok (.astore 4, 2) := by decide +kernel
theorem dX5_lend_7 : decode cX5_lend 7 = .ok (.iload_n 2, 1) := by decide +kernel
theorem dX5_lend_8 : decode cX5_lend 8 = .ok (.invokestatic 51, 3) := by decide +kernel
theorem dX5_lend_11 : decode cX5_lend 11 = .ok (.iload_n 3, 1) := by decide +kernel
theorem dX5_lend_12 : decode cX5_lend 12 = .ok (.iconst (-1), 1) := by decide +kernel
theorem dX5_lend_13 : decode cX5_lend 13 = .ok (.if_icmp .eq 7, 3) := by decide +kernel
theorem dX5_lend_16 : decode cX5_lend 16 = .ok (.iload_n 3, 1) := by decide +kernel
theorem dX5_lend_17 : decode cX5_lend 17 = .ok (.invokestatic 51, 3) := by decide +kernel
theorem dX5_lend_20 : decode cX5_lend 20 = .ok (.iload_n 2, 1) := by decide +kernel
theorem dX5_lend_21 : decode cX5_lend 21 = .ok (.iload_n 3, 1) := by decide +kernel
theorem dX5_lend_22 : decode cX5_lend 22 = .ok (.if_icmp .ne 13, 3) := by decide +kernel
theorem dX5_lend_25 : decode cX5_lend 25 = .ok (.new 58, 3) := by decide +kernel
theorem dX5_lend_28 : decode cX5_lend 28 = .ok (.dup, 1) := by decide +kernel
theorem dX5_lend_29 : decode cX5_lend 29 = .ok (.ldc 129, 2) := by decide +kernel
theorem dX5_lend_31 : decode cX5_lend 31 = .ok (.invokespecial 62, 3) := by decide +kernel
theorem dX5_lend_34 : decode cX5_lend 34 = .ok (.athrow, 1) := by decide +kernel
theorem dX5_lend_35 : decode cX5_lend 35 = .ok (.aload 4, 2) := by decide +kernel
theorem dX5_lend_37 : decode cX5_lend 37 = .ok (.iload_n 2, 1) := by decide +kernel
theorem dX5_lend_38 : decode cX5_lend 38 = .ok (.invokestatic 121, 3) := by decide +kernel
theorem dX5_lend_41 : decode cX5_lend 41 = .ok (.aload 4, 2) := by decide +kernel
theorem dX5_lend_43 : decode cX5_lend 43 = .ok (.getfield 124, 3) := by decide +kernel
theorem dX5_lend_46 : decode cX5_lend 46 = .ok (.istore 5, 2) := by decide +kernel
theorem dX5_lend_48 : decode cX5_lend 48 = .ok (.aload 4, 2) := by decide +kernel
theorem dX5_lend_50 : decode cX5_lend 50 = .ok (.iload_n 3, 1) := by decide +kernel
theorem dX5_lend_51 : decode cX5_lend 51 = .ok (.putfield 124, 3) := by decide +kernel
theorem dX5_lend_54 : decode cX5_lend 54 = .ok (.iload 5, 2) := by decide +kernel
theorem dX5_lend_56 : decode cX5_lend 56 = .ok (.ireturn, 1) := by decide +kernel
theorem dX5_canChange_0 : decode cX5_canChange 0 = .ok (.aload_n 0, 1) := by decide +kernel
theorem dX5_canChange_1 : decode cX5_canChange 1 = .ok (.iload_n 1, 1) := by decide +kernel
theorem dX5_canChange_2 : decode cX5_canChange 2 = .ok (.invokevirtual 47, 3) := by decide +kernel
theorem dX5_canChange_5 : decode cX5_canChange 5 = .ok (.invokevirtual 131, 3) := by decide +kernel
theorem dX5_canChange_8 : decode cX5_canChange 8 = .ok (.ireturn, 1) := by decide +kernel
theorem dX5_grant_0 : decode cX5_grant 0 = .ok (.aload_n 0, 1) := by decide +kernel
theorem dX5_grant_1 : decode cX5_grant 1 = .ok (.iload_n 1, 1) := by decide +kernel
theorem dX5_grant_2 : decode cX5_grant 2 = .ok (.invokevirtual 47, 3) := by decide +kernel
theorem dX5_grant_5 : decode cX5_grant 5 = .ok (.astore_n 2, 1) := by decide +kernel
theorem dX5_grant_6 : decode cX5_grant 6 = .ok (.aload_n 0, 1) := by decide +kernel
theorem dX5_grant_7 : decode cX5_grant 7 = .ok (.getfield 16, 3) := by decide +kernel
theorem dX5_grant_10 : decode cX5_grant 10 = .ok (.invokevirtual 29, 3) := by decide +kernel
theorem dX5_grant_13 : decode cX5_grant 13 = .ok (.istore_n 3, 1) := by decide +kernel
theorem dX5_grant_14 : decode cX5_grant 14 = .ok (.iload_n 3, 1) := by decide +kernel
theorem dX5_grant_15 : decode cX5_grant 15 = .ok (.bipush 20, 2) := by decide +kernel
theorem dX5_grant_17 : decode cX5_grant 17 = .ok (.if_icmp .lt 13, 3) := by decide +kernel
theorem dX5_grant_20 : decode cX5_grant 20 = .ok (.new 33, 3) := by decide +kernel
theorem dX5_grant_23 : decode cX5_grant 23 = .ok (.dup, 1) := by decide +kernel
theorem dX5_grant_24 : decode cX5_grant 24 = .ok (.ldc 134, 2) := by decide +kernel
theorem dX5_grant_26 : decode cX5_grant 26 = .ok (.invokespecial 37, 3) := by decide +kernel
theorem dX5_grant_29 : decode cX5_grant 29 = .ok (.athrow, 1) := by decide +kernel
theorem dX5_grant_30 : decode cX5_grant 30 = .ok (.aload_n 0, 1) := by decide +kernel
theorem dX5_grant_31 : decode cX5_grant 31 = .ok (.getfield 25, 3) := by decide +kernel
theorem dX5_grant_34 : decode cX5_grant 34 = .ok (.aload_n 2, 1) := by decide +kernel
theorem dX5_grant_35 : decode cX5_grant 35 = .ok (.invokevirtual 96, 3) := by decide +kernel
theorem dX5_grant_38 : decode cX5_grant 38 = .ok (.aload_n 0, 1) := by decide +kernel
theorem dX5_grant_39 : decode cX5_grant 39 = .ok (.getfield 25, 3) := by decide +kernel
theorem dX5_grant_42 : decode cX5_grant 42 = .ok (.invokevirtual 136, 3) := by decide +kernel
theorem dX5_grant_45 : decode cX5_grant 45 = .ok (.ifCond .ne 13, 3) := by decide +kernel
theorem dX5_grant_48 : decode cX5_grant 48 = .ok (.new 33, 3) := by decide +kernel
theorem dX5_grant_51 : decode cX5_grant 51 = .ok (.dup, 1) := by decide +kernel
theorem dX5_grant_52 : decode cX5_grant 52 = .ok (.ldc 140, 2) := by decide +kernel
theorem dX5_grant_54 : decode cX5_grant 54 = .ok (.invokespecial 37, 3) := by decide +kernel
theorem dX5_grant_57 : decode cX5_grant 57 = .ok (.athrow, 1) := by decide +kernel
theorem dX5_grant_58 : decode cX5_grant 58 = .ok (.aload_n 0, 1) := by decide +kernel
theorem dX5_grant_59 : decode cX5_grant 59 = .ok (.getfield 16, 3) := by decide +kernel
theorem dX5_grant_62 : decode cX5_grant 62 = .ok (.new 142, 3) := by decide +kernel
theorem dX5_grant_65 : decode cX5_grant 65 = .ok (.dup, 1) := by decide +kernel
theorem dX5_grant_66 : decode cX5_grant 66 = .ok (.aload_n 2, 1) := by decide +kernel
theorem dX5_grant_67 : decode cX5_grant 67 = .ok (.invokespecial 144, 3) := by decide +kernel
theorem dX5_grant_70 : decode cX5_grant 70 = .ok (.invokevirtual 43, 3) := by decide +kernel
theorem dX5_grant_73 : decode cX5_grant 73 = .ok (.pop, 1) := by decide +kernel
theorem dX5_grant_74 : decode cX5_grant 74 = .ok (.iload_n 3, 1) := by decide +kernel
theorem dX5_grant_75 : decode cX5_grant 75 = .ok (.ireturn, 1) := by decide +kernel
theorem dX5_holds_0 : decode cX5_holds 0 = .ok (.iload_n 1, 1) := by decide +kernel
theorem dX5_holds_1 : decode cX5_holds 1 = .ok (.ifCond .lt 14, 3) := by decide +kernel
theorem dX5_holds_4 : decode cX5_holds 4 = .ok (.iload_n 1, 1) := by decide +kernel
theorem dX5_holds_5 : decode cX5_holds 5 = .ok (.aload_n 0, 1) := by decide +kernel
theorem dX5_holds_6 : decode cX5_holds 6 = .ok (.getfield 16, 3) := by decide +kernel
theorem dX5_holds_9 : decode cX5_holds 9 = .ok (.invokevirtual 29, 3) := by decide +kernel
theorem dX5_holds_12 : decode cX5_holds 12 = .ok (.if_icmp .lt 13, 3) := by decide +kernel
theorem dX5_holds_15 : decode cX5_holds 15 = .ok (.new 146, 3) := by decide +kernel
theorem dX5_holds_18 : decode cX5_holds 18 = .ok (.dup, 1) := by decide +kernel
theorem dX5_holds_19 : decode cX5_holds 19 = .ok (.ldc 148, 2) := by decide +kernel
theorem dX5_holds_21 : decode cX5_holds 21 = .ok (.invokespecial 150, 3) := by decide +kernel
theorem dX5_holds_24 : decode cX5_holds 24 = .ok (.athrow, 1) := by decide +kernel
theorem dX5_holds_25 : decode cX5_holds 25 = .ok (.aload_n 0, 1) := by decide +kernel
theorem dX5_holds_26 : decode cX5_holds 26 = .ok (.getfield 16, 3) := by decide +kernel
theorem dX5_holds_29 : decode cX5_holds 29 = .ok (.iload_n 1, 1) := by decide +kernel
theorem dX5_holds_30 : decode cX5_holds 30 = .ok (.invokevirtual 151, 3) := by decide +kernel
theorem dX5_holds_33 : decode cX5_holds 33 = .ok (.checkcast 142, 3) := by decide +kernel
theorem dX5_holds_36 : decode cX5_holds 36 = .ok (.invokevirtual 155, 3) := by decide +kernel
theorem dX5_holds_39 : decode cX5_holds 39 = .ok (.ireturn, 1) := by decide +kernel
theorem dX5_print_0 : decode cX5_print 0 = .ok (.aload_n 0, 1) := by decide +kernel
theorem dX5_print_1 : decode cX5_print 1 = .ok (.iload_n 1, 1) := by decide +kernel
theorem dX5_print_2 : decode cX5_print 2 = .ok (.invokevirtual 47, 3) := by decide +kernel
theorem dX5_print_5 : decode cX5_print 5 = .ok (.astore_n 2, 1) := by decide +kernel
theorem dX5_print_6 : decode cX5_print 6 = .ok (.aload_n 0, 1) := by decide +kernel
theorem dX5_print_7 : decode cX5_print 7 = .ok (.getfield 19, 3) := by decide +kernel
theorem dX5_print_10 : decode cX5_print 10 = .ok (.invokevirtual 29, 3) := by decide +kernel
theorem dX5_print_13 : decode cX5_print 13 = .ok (.istore_n 3, 1) := by decide +kernel
theorem dX5_print_14 : decode cX5_print 14 = .ok (.iload_n 3, 1) := by decide +kernel
theorem dX5_print_15 : decode cX5_print 15 = .ok (.bipush 30, 2) := by decide +kernel
theorem dX5_print_17 : decode cX5_print 17 = .ok (.if_icmp .lt 13, 3) := by decide +kernel
theorem dX5_print_20 : decode cX5_print 20 = .ok (.new 33, 3) := by decide +kernel
theorem dX5_print_23 : decode cX5_print 23 = .ok (.dup, 1) := by decide +kernel
theorem dX5_print_24 : decode cX5_print 24 = .ok (.ldc 158, 2) := by decide +kernel
theorem dX5_print_26 : decode cX5_print 26 = .ok (.invokespecial 37, 3) := by decide +kernel
theorem dX5_print_29 : decode cX5_print 29 = .ok (.athrow, 1) := by decide +kernel
theorem dX5_print_30 : decode cX5_print 30 = .ok (.aload_n 0, 1) := by decide +kernel
theorem dX5_print_31 : decode cX5_print 31 = .ok (.getfield 19, 3) := by decide +kernel
theorem dX5_print_34 : decode cX5_print 34 = .ok (.new 160, 3) := by decide +kernel
theorem dX5_print_37 : decode cX5_print 37 = .ok (.dup, 1) := by decide +kernel
theorem dX5_print_38 : decode cX5_print 38 = .ok (.aload_n 2, 1) := by decide +kernel
theorem dX5_print_39 : decode cX5_print 39 = .ok (.aload_n 0, 1) := by decide +kernel
theorem dX5_print_40 : decode cX5_print 40 = .ok (.aload_n 2, 1) := by decide +kernel
theorem dX5_print_41 : decode cX5_print 41 = .ok (.invokevirtual 162, 3) := by decide +kernel
theorem dX5_print_44 : decode cX5_print 44 = .ok (.invokespecial 166, 3) := by decide +kernel
theorem dX5_print_47 : decode cX5_print 47 = .ok (.invokevirtual 43, 3) := by decide +kernel
theorem dX5_print_50 : decode cX5_print 50 = .ok (.pop, 1) := by decide +kernel
theorem dX5_print_51 : decode cX5_print 51 = .ok (.iload_n 3, 1) := by decide +kernel
theorem dX5_print_52 : decode cX5_print 52 = .ok (.ireturn, 1) := by decide +kernel
theorem dX5_permitOf_0 : decode cX5_permitOf 0 = .ok (.aload_n 0, 1) := by decide +kernel
theorem dX5_permitOf_1 : decode cX5_permitOf 1 = .ok (.iload_n 1, 1) := by decide +kernel
theorem dX5_permitOf_2 : decode cX5_permitOf 2 = .ok (.invokevirtual 168, 3) := by decide +kernel
theorem dX5_permitOf_5 : decode cX5_permitOf 5 = .ok (.getfield 172, 3) := by decide +kernel
theorem dX5_permitOf_8 : decode cX5_permitOf 8 = .ok (.ireturn, 1) := by decide +kernel
theorem dX5_isGood_0 : decode cX5_isGood 0 = .ok (.aload_n 0, 1) := by decide +kernel
theorem dX5_isGood_1 : decode cX5_isGood 1 = .ok (.iload_n 1, 1) := by decide +kernel
theorem dX5_isGood_2 : decode cX5_isGood 2 = .ok (.invokevirtual 168, 3) := by decide +kernel
theorem dX5_isGood_5 : decode cX5_isGood 5 = .ok (.astore_n 2, 1) := by decide +kernel
theorem dX5_isGood_6 : decode cX5_isGood 6 = .ok (.aload_n 2, 1) := by decide +kernel
theorem dX5_isGood_7 : decode cX5_isGood 7 = .ok (.getfield 172, 3) := by decide +kernel
theorem dX5_isGood_10 : decode cX5_isGood 10 = .ok (.iconst (-1), 1) := by decide +kernel
theorem dX5_isGood_11 : decode cX5_isGood 11 = .ok (.if_icmp .eq 14, 3) := by decide +kernel
theorem dX5_isGood_14 : decode cX5_isGood 14 = .ok (.aload_n 2, 1) := by decide +kernel
theorem dX5_isGood_15 : decode cX5_isGood 15 = .ok (.invokevirtual 175, 3) := by decide +kernel
theorem dX5_isGood_18 : decode cX5_isGood 18 = .ok (.ifCond .ne 7, 3) := by decide +kernel
theorem dX5_isGood_21 : decode cX5_isGood 21 = .ok (.iconst 1, 1) := by decide +kernel
theorem dX5_isGood_22 : decode cX5_isGood 22 = .ok (.goto 4, 3) := by decide +kernel
theorem dX5_isGood_25 : decode cX5_isGood 25 = .ok (.iconst 0, 1) := by decide +kernel
theorem dX5_isGood_26 : decode cX5_isGood 26 = .ok (.ireturn, 1) := by decide +kernel
theorem dX5_old_0 : decode cX5_old 0 = .ok (.iconst 0, 1) := by decide +kernel
theorem dX5_old_1 : decode cX5_old 1 = .ok (.istore_n 1, 1) := by decide +kernel
theorem dX5_old_2 : decode cX5_old 2 = .ok (.iconst 0, 1) := by decide +kernel
theorem dX5_old_3 : decode cX5_old 3 = .ok (.istore_n 2, 1) := by decide +kernel
theorem dX5_old_4 : decode cX5_old 4 = .ok (.iload_n 2, 1) := by decide +kernel
theorem dX5_old_5 : decode cX5_old 5 = .ok (.aload_n 0, 1) := by decide +kernel
theorem dX5_old_6 : decode cX5_old 6 = .ok (.getfield 19, 3) := by decide +kernel
theorem dX5_old_9 : decode cX5_old 9 = .ok (.invokevirtual 29, 3) := by decide +kernel
theorem dX5_old_12 : decode cX5_old 12 = .ok (.if_icmp .ge 29, 3) := by decide +kernel
theorem dX5_old_15 : decode cX5_old 15 = .ok (.aload_n 0, 1) := by decide +kernel
theorem dX5_old_16 : decode cX5_old 16 = .ok (.getfield 19, 3) := by decide +kernel
theorem dX5_old_19 : decode cX5_old 19 = .ok (.iload_n 2, 1) := by decide +kernel
theorem dX5_old_20 : decode cX5_old 20 = .ok (.invokevirtual 151, 3) := by decide +kernel
theorem dX5_old_23 : decode cX5_old 23 = .ok (.checkcast 160, 3) := by decide +kernel
theorem dX5_old_26 : decode cX5_old 26 = .ok (.invokevirtual 175, 3) := by decide +kernel
theorem dX5_old_29 : decode cX5_old 29 = .ok (.ifCond .eq 6, 3) := by decide +kernel
theorem dX5_old_32 : decode cX5_old 32 = .ok (.iinc 1 1, 3) := by decide +kernel
theorem dX5_old_35 : decode cX5_old 35 = .ok (.iinc 2 1, 3) := by decide +kernel
theorem dX5_old_38 : decode cX5_old 38 = .ok (.goto (-34), 3) := by decide +kernel
theorem dX5_old_41 : decode cX5_old 41 = .ok (.iload_n 1, 1) := by decide +kernel
theorem dX5_old_42 : decode cX5_old 42 = .ok (.ireturn, 1) := by decide +kernel
theorem dX5_drawingAt_0 : decode cX5_drawingAt 0 = .ok (.iload_n 1, 1) := by decide +kernel
theorem dX5_drawingAt_1 : decode cX5_drawingAt 1 = .ok (.ifCond .lt 14, 3) := by decide +kernel
theorem dX5_drawingAt_4 : decode cX5_drawingAt 4 = .ok (.iload_n 1, 1) := by decide +kernel
theorem dX5_drawingAt_5 : decode cX5_drawingAt 5 = .ok (.aload_n 0, 1) := by decide +kernel
theorem dX5_drawingAt_6 : decode cX5_drawingAt 6 = .ok (.getfield 10, 3) := by decide +kernel
theorem dX5_drawingAt_9 : decode cX5_drawingAt 9 = .ok (.invokevirtual 29, 3) := by decide +kernel
theorem dX5_drawingAt_12 : decode cX5_drawingAt 12 = .ok (.if_icmp .lt 13, 3) := by decide +kernel
theorem dX5_drawingAt_15 : decode cX5_drawingAt 15 = .ok (.new 146, 3) := by decide +kernel
theorem dX5_drawingAt_18 : decode cX5_drawingAt 18 = .ok (.dup, 1) := by decide +kernel
theorem dX5_drawingAt_19 : decode cX5_drawingAt 19 = .ok (.ldc 178, 2) := by decide +kernel
theorem dX5_drawingAt_21 : decode cX5_drawingAt 21 = .ok (.invokespecial 150, 3) := by decide +kernel
theorem dX5_drawingAt_24 : decode cX5_drawingAt 24 = .ok (.athrow, 1) := by decide +kernel
theorem dX5_drawingAt_25 : decode cX5_drawingAt 25 = .ok (.aload_n 0, 1) := by decide +kernel
theorem dX5_drawingAt_26 : decode cX5_drawingAt 26 = .ok (.getfield 10, 3) := by decide +kernel
theorem dX5_drawingAt_29 : decode cX5_drawingAt 29 = .ok (.iload_n 1, 1) := by decide +kernel
theorem dX5_drawingAt_30 : decode cX5_drawingAt 30 = .ok (.invokevirtual 151, 3) := by decide +kernel
theorem dX5_drawingAt_33 : decode cX5_drawingAt 33 = .ok (.checkcast 40, 3) := by decide +kernel
theorem dX5_drawingAt_36 : decode cX5_drawingAt 36 = .ok (.areturn, 1) := by decide +kernel
theorem dX5_printAt_0 : decode cX5_printAt 0 = .ok (.iload_n 1, 1) := by decide +kernel
theorem dX5_printAt_1 : decode cX5_printAt 1 = .ok (.ifCond .lt 14, 3) := by decide +kernel
theorem dX5_printAt_4 : decode cX5_printAt 4 = .ok (.iload_n 1, 1) := by decide +kernel
theorem dX5_printAt_5 : decode cX5_printAt 5 = .ok (.aload_n 0, 1) := by decide +kernel
theorem dX5_printAt_6 : decode cX5_printAt 6 = .ok (.getfield 19, 3) := by decide +kernel
theorem dX5_printAt_9 : decode cX5_printAt 9 = .ok (.invokevirtual 29, 3) := by decide +kernel
theorem dX5_printAt_12 : decode cX5_printAt 12 = .ok (.if_icmp .lt 13, 3) := by decide +kernel
theorem dX5_printAt_15 : decode cX5_printAt 15 = .ok (.new 146, 3) := by decide +kernel
theorem dX5_printAt_18 : decode cX5_printAt 18 = .ok (.dup, 1) := by decide +kernel
theorem dX5_printAt_19 : decode cX5_printAt 19 = .ok (.ldc 180, 2) := by decide +kernel
theorem dX5_printAt_21 : decode cX5_printAt 21 = .ok (.invokespecial 150, 3) := by decide +kernel
theorem dX5_printAt_24 : decode cX5_printAt 24 = .ok (.athrow, 1) := by decide +kernel
theorem dX5_printAt_25 : decode cX5_printAt 25 = .ok (.aload_n 0, 1) := by decide +kernel
theorem dX5_printAt_26 : decode cX5_printAt 26 = .ok (.getfield 19, 3) := by decide +kernel
theorem dX5_printAt_29 : decode cX5_printAt 29 = .ok (.iload_n 1, 1) := by decide +kernel
theorem dX5_printAt_30 : decode cX5_printAt 30 = .ok (.invokevirtual 151, 3) := by decide +kernel
theorem dX5_printAt_33 : decode cX5_printAt 33 = .ok (.checkcast 160, 3) := by decide +kernel
theorem dX5_printAt_36 : decode cX5_printAt 36 = .ok (.areturn, 1) := by decide +kernel
theorem dX5_highestPermit_0 : decode cX5_highestPermit 0 = .ok (.aload_n 0, 1) := by decide +kernel
theorem dX5_highestPermit_1 : decode cX5_highestPermit 1 = .ok (.getfield 16, 3) := by decide +kernel
theorem dX5_highestPermit_4 : decode cX5_highestPermit 4 = .ok (.invokevirtual 29, 3) := by decide +kernel
theorem dX5_highestPermit_7 : decode cX5_highestPermit 7 = .ok (.iconst 1, 1) := by decide +kernel
theorem dX5_highestPermit_8 : decode cX5_highestPermit 8 = .ok (.isub, 1) := by decide +kernel
theorem dX5_highestPermit_9 : decode cX5_highestPermit 9 = .ok (.istore_n 2, 1) := by decide +kernel
theorem dX5_highestPermit_10 : decode cX5_highestPermit 10 = .ok (.iload_n 2, 1) := by decide +kernel
theorem dX5_highestPermit_11 : decode cX5_highestPermit 11 = .ok (.ifCond .lt 38, 3) := by decide +kernel
theorem dX5_highestPermit_14 : decode cX5_highestPermit 14 = .ok (.aload_n 0, 1) := by decide +kernel
theorem dX5_highestPermit_15 : decode cX5_highestPermit 15 = .ok (.getfield 16, 3) := by decide +kernel
theorem dX5_highestPermit_18 : decode cX5_highestPermit 18 = .ok (.iload_n 2, 1) := by decide +kernel
theorem dX5_highestPermit_19 : decode cX5_highestPermit 19 = .ok (.invokevirtual 151, 3) := by decide +kernel
theorem dX5_highestPermit_22 : decode cX5_highestPermit 22 = .ok (.checkcast 142, 3) := by decide +kernel
theorem dX5_highestPermit_25 : decode cX5_highestPermit 25 = .ok (.astore_n 3, 1) := by decide +kernel
theorem dX5_highestPermit_26 : decode cX5_highestPermit 26 = .ok (.aload_n 3, 1) := by decide +kernel
theorem dX5_highestPermit_27 : decode cX5_highestPermit 27 = .ok (.getfield 182, 3) := by decide +kernel
theorem dX5_highestPermit_30 : decode cX5_highestPermit 30 = .ok (.aload_n 1, 1) := by decide +kernel
theorem dX5_highestPermit_31 : decode cX5_highestPermit 31 = .ok (.if_acmp .ne 12, 3) := by decide +kernel
theorem dX5_highestPermit_34 : decode cX5_highestPermit 34 = .ok (.aload_n 3, 1) := by decide +kernel
theorem dX5_highestPermit_35 : decode cX5_highestPermit 35 = .ok (.invokevirtual 155, 3) := by decide +kernel
theorem dX5_highestPermit_38 : decode cX5_highestPermit 38 = .ok (.ifCond .eq 5, 3) := by decide +kernel
theorem dX5_highestPermit_41 : decode cX5_highestPermit 41 = .ok (.iload_n 2, 1) := by decide +kernel
theorem dX5_highestPermit_42 : decode cX5_highestPermit 42 = .ok (.ireturn, 1) := by decide +kernel
theorem dX5_highestPermit_43 : decode cX5_highestPermit 43 = .ok (.iinc 2 (-1), 3) := by decide +kernel
theorem dX5_highestPermit_46 : decode cX5_highestPermit 46 = .ok (.goto (-36), 3) := by decide +kernel
theorem dX5_highestPermit_49 : decode cX5_highestPermit 49 = .ok (.iconst (-1), 1) := by decide +kernel
theorem dX5_highestPermit_50 : decode cX5_highestPermit 50 = .ok (.ireturn, 1) := by decide +kernel
theorem dX5_needPerson_0 : decode cX5_needPerson 0 = .ok (.iload_n 0, 1) := by decide +kernel
theorem dX5_needPerson_1 : decode cX5_needPerson 1 = .ok (.ifCond .lt 9, 3) := by decide +kernel
theorem dX5_needPerson_4 : decode cX5_needPerson 4 = .ok (.iload_n 0, 1) := by decide +kernel
theorem dX5_needPerson_5 : decode cX5_needPerson 5 = .ok (.bipush 6, 2) := by decide +kernel
theorem dX5_needPerson_7 : decode cX5_needPerson 7 = .ok (.if_icmp .lt 13, 3) := by decide +kernel
theorem dX5_needPerson_10 : decode cX5_needPerson 10 = .ok (.new 58, 3) := by decide +kernel
theorem dX5_needPerson_13 : decode cX5_needPerson 13 = .ok (.dup, 1) := by decide +kernel
theorem dX5_needPerson_14 : decode cX5_needPerson 14 = .ok (.ldc 186, 2) := by decide +kernel
theorem dX5_needPerson_16 : decode cX5_needPerson 16 = .ok (.invokespecial 62, 3) := by decide +kernel
theorem dX5_needPerson_19 : decode cX5_needPerson 19 = .ok (.athrow, 1) := by decide +kernel
theorem dX5_needPerson_20 : decode cX5_needPerson 20 = .ok (.return_, 1) := by decide +kernel
theorem dX5_needSide_0 : decode cX5_needSide 0 = .ok (.iload_n 0, 1) := by decide +kernel
theorem dX5_needSide_1 : decode cX5_needSide 1 = .ok (.ifCond .lt 9, 3) := by decide +kernel
theorem dX5_needSide_4 : decode cX5_needSide 4 = .ok (.iload_n 0, 1) := by decide +kernel
theorem dX5_needSide_5 : decode cX5_needSide 5 = .ok (.bipush 40, 2) := by decide +kernel
theorem dX5_needSide_7 : decode cX5_needSide 7 = .ok (.if_icmp .lt 13, 3) := by decide +kernel
theorem dX5_needSide_10 : decode cX5_needSide 10 = .ok (.new 58, 3) := by decide +kernel
theorem dX5_needSide_13 : decode cX5_needSide 13 = .ok (.dup, 1) := by decide +kernel
theorem dX5_needSide_14 : decode cX5_needSide 14 = .ok (.ldc 188, 2) := by decide +kernel
theorem dX5_needSide_16 : decode cX5_needSide 16 = .ok (.invokespecial 62, 3) := by decide +kernel
theorem dX5_needSide_19 : decode cX5_needSide 19 = .ok (.athrow, 1) := by decide +kernel
theorem dX5_needSide_20 : decode cX5_needSide 20 = .ok (.return_, 1) := by decide +kernel
theorem dX5_needCell_0 : decode cX5_needCell 0 = .ok (.iload_n 0, 1) := by decide +kernel
theorem dX5_needCell_1 : decode cX5_needCell 1 = .ok (.ifCond .lt 9, 3) := by decide +kernel
theorem dX5_needCell_4 : decode cX5_needCell 4 = .ok (.iload_n 0, 1) := by decide +kernel
theorem dX5_needCell_5 : decode cX5_needCell 5 = .ok (.bipush 25, 2) := by decide +kernel
theorem dX5_needCell_7 : decode cX5_needCell 7 = .ok (.if_icmp .lt 13, 3) := by decide +kernel
theorem dX5_needCell_10 : decode cX5_needCell 10 = .ok (.new 58, 3) := by decide +kernel
theorem dX5_needCell_13 : decode cX5_needCell 13 = .ok (.dup, 1) := by decide +kernel
theorem dX5_needCell_14 : decode cX5_needCell 14 = .ok (.ldc 190, 2) := by decide +kernel
theorem dX5_needCell_16 : decode cX5_needCell 16 = .ok (.invokespecial 62, 3) := by decide +kernel
theorem dX5_needCell_19 : decode cX5_needCell 19 = .ok (.athrow, 1) := by decide +kernel
theorem dX5_needCell_20 : decode cX5_needCell 20 = .ok (.return_, 1) := by decide +kernel
theorem dX5_needChanger_0 : decode cX5_needChanger 0 = .ok (.aload_n 0, 1) := by decide +kernel
theorem dX5_needChanger_1 : decode cX5_needChanger 1 = .ok (.invokevirtual 131, 3) := by decide +kernel
theorem dX5_needChanger_4 : decode cX5_needChanger 4 = .ok (.iload_n 1, 1) := by decide +kernel
theorem dX5_needChanger_5 : decode cX5_needChanger 5 = .ok (.if_icmp .eq 13, 3) := by decide +kernel
theorem dX5_needChanger_8 : decode cX5_needChanger 8 = .ok (.new 33, 3) := by decide +kernel
theorem dX5_needChanger_11 : decode cX5_needChanger 11 = .ok (.dup, 1) := by decide +kernel
theorem dX5_needChanger_12 : decode cX5_needChanger 12 = .ok (.ldc 192, 2) := by decide +kernel
theorem dX5_needChanger_14 : decode cX5_needChanger 14 = .ok (.invokespecial 37, 3) := by decide +kernel
theorem dX5_needChanger_17 : decode cX5_needChanger 17 = .ok (.athrow, 1) := by decide +kernel
theorem dX5_needChanger_18 : decode cX5_needChanger 18 = .ok (.return_, 1) := by decide +kernel
theorem dX5_needLocker_0 : decode cX5_needLocker 0 = .ok (.aload_n 0, 1) := by decide +kernel
theorem dX5_needLocker_1 : decode cX5_needLocker 1 = .ok (.getfield 115, 3) := by decide +kernel
theorem dX5_needLocker_4 : decode cX5_needLocker 4 = .ok (.iload_n 1, 1) := by decide +kernel
theorem dX5_needLocker_5 : decode cX5_needLocker 5 = .ok (.if_icmp .eq 13, 3) := by decide +kernel
theorem dX5_needLocker_8 : decode cX5_needLocker 8 = .ok (.new 33, 3) := by decide +kernel
theorem dX5_needLocker_11 : decode cX5_needLocker 11 = .ok (.dup, 1) := by decide +kernel
theorem dX5_needLocker_12 : decode cX5_needLocker 12 = .ok (.ldc 194, 2) := by decide +kernel
theorem dX5_needLocker_14 : decode cX5_needLocker 14 = .ok (.invokespecial 37, 3) := by decide +kernel
theorem dX5_needLocker_17 : decode cX5_needLocker 17 = .ok (.athrow, 1) := by decide +kernel
theorem dX5_needLocker_18 : decode cX5_needLocker 18 = .ok (.return_, 1) := by decide +kernel
theorem dX5_firstCell_0 : decode cX5_firstCell 0 = .ok (.iload_n 0, 1) := by decide +kernel
theorem dX5_firstCell_1 : decode cX5_firstCell 1 = .ok (.bipush 20, 2) := by decide +kernel
theorem dX5_firstCell_3 : decode cX5_firstCell 3 = .ok (.if_icmp .ge 13, 3) := by decide +kernel
theorem dX5_firstCell_6 : decode cX5_firstCell 6 = .ok (.iconst 5, 1) := by decide +kernel
theorem dX5_firstCell_7 : decode cX5_firstCell 7 = .ok (.iload_n 0, 1) := by decide +kernel
theorem dX5_firstCell_8 : decode cX5_firstCell 8 = .ok (.iconst 4, 1) := by decide +kernel
theorem dX5_firstCell_9 : decode cX5_firstCell 9 = .ok (.idiv, 1) := by decide +kernel
theorem dX5_firstCell_10 : decode cX5_firstCell 10 = .ok (.imul, 1) := by decide +kernel
theorem dX5_firstCell_11 : decode cX5_firstCell 11 = .ok (.iload_n 0, 1) := by decide +kernel
theorem dX5_firstCell_12 : decode cX5_firstCell 12 = .ok (.iconst 4, 1) := by decide +kernel
theorem dX5_firstCell_13 : decode cX5_firstCell 13 = .ok (.irem, 1) := by decide +kernel
theorem dX5_firstCell_14 : decode cX5_firstCell 14 = .ok (.iadd, 1) := by decide +kernel
theorem dX5_firstCell_15 : decode cX5_firstCell 15 = .ok (.ireturn, 1) := by decide +kernel
theorem dX5_firstCell_16 : decode cX5_firstCell 16 = .ok (.iload_n 0, 1) := by decide +kernel
theorem dX5_firstCell_17 : decode cX5_firstCell 17 = .ok (.bipush 20, 2) := by decide +kernel
theorem dX5_firstCell_19 : decode cX5_firstCell 19 = .ok (.isub, 1) := by decide +kernel
theorem dX5_firstCell_20 : decode cX5_firstCell 20 = .ok (.ireturn, 1) := by decide +kernel
theorem dX5_secondCell_0 : decode cX5_secondCell 0 = .ok (.iload_n 0, 1) := by decide +kernel
theorem dX5_secondCell_1 : decode cX5_secondCell 1 = .ok (.invokestatic 196, 3) := by decide +kernel
theorem dX5_secondCell_4 : decode cX5_secondCell 4 = .ok (.iload_n 0, 1) := by decide +kernel
theorem dX5_secondCell_5 : decode cX5_secondCell 5 = .ok (.bipush 20, 2) := by decide +kernel
theorem dX5_secondCell_7 : decode cX5_secondCell 7 = .ok (.if_icmp .ge 7, 3) := by decide +kernel
theorem dX5_secondCell_10 : decode cX5_secondCell 10 = .ok (.iconst 1, 1) := by decide +kernel
theorem dX5_secondCell_11 : decode cX5_secondCell 11 = .ok (.goto 4, 3) := by decide +kernel
theorem dX5_secondCell_14 : decode cX5_secondCell 14 = .ok (.iconst 5, 1) := by decide +kernel
theorem dX5_secondCell_15 : decode cX5_secondCell 15 = .ok (.iadd, 1) := by decide +kernel
theorem dX5_secondCell_16 : decode cX5_secondCell 16 = .ok (.ireturn, 1) := by decide +kernel
theorem dJ9_max_7cf53_0 : decode cJ9_max_7cf53 0 = .ok (.iload_n 0, 1) := by decide +kernel
theorem dJ9_max_7cf53_1 : decode cJ9_max_7cf53 1 = .ok (.iload_n 1, 1) := by decide +kernel
theorem dJ9_max_7cf53_2 : decode cJ9_max_7cf53 2 = .ok (.if_icmp .lt 7, 3) := by decide +kernel
theorem dJ9_max_7cf53_5 : decode cJ9_max_7cf53 5 = .ok (.iload_n 0, 1) := by decide +kernel
theorem dJ9_max_7cf53_6 : decode cJ9_max_7cf53 6 = .ok (.goto 4, 3) := by decide +kernel
theorem dJ9_max_7cf53_9 : decode cJ9_max_7cf53 9 = .ok (.iload_n 1, 1) := by decide +kernel
theorem dJ9_max_7cf53_10 : decode cJ9_max_7cf53 10 = .ok (.ireturn, 1) := by decide +kernel
theorem dJ9_min_7cf53_0 : decode cJ9_min_7cf53 0 = .ok (.iload_n 0, 1) := by decide +kernel
theorem dJ9_min_7cf53_1 : decode cJ9_min_7cf53 1 = .ok (.iload_n 1, 1) := by decide +kernel
theorem dJ9_min_7cf53_2 : decode cJ9_min_7cf53 2 = .ok (.if_icmp .gt 7, 3) := by decide +kernel
theorem dJ9_min_7cf53_5 : decode cJ9_min_7cf53 5 = .ok (.iload_n 0, 1) := by decide +kernel
theorem dJ9_min_7cf53_6 : decode cJ9_min_7cf53 6 = .ok (.goto 4, 3) := by decide +kernel
theorem dJ9_min_7cf53_9 : decode cJ9_min_7cf53 9 = .ok (.iload_n 1, 1) := by decide +kernel
theorem dJ9_min_7cf53_10 : decode cJ9_min_7cf53 10 = .ok (.ireturn, 1) := by decide +kernel
theorem dJxa1e45_init_da8c8_0 : decode cJxa1e45_init_da8c8 0 = .ok (.aload_n 0, 1) := by decide +kernel
theorem dJxa1e45_init_da8c8_1 : decode cJxa1e45_init_da8c8 1 = .ok (.invokespecial 1, 3) := by decide +kernel
theorem dJxa1e45_init_da8c8_4 : decode cJxa1e45_init_da8c8 4 = .ok (.return_, 1) := by decide +kernel
theorem dJxc12de_init_da8c8_0 : decode cJxc12de_init_da8c8 0 = .ok (.aload_n 0, 1) := by decide +kernel
theorem dJxc12de_init_da8c8_1 : decode cJxc12de_init_da8c8 1 = .ok (.invokespecial 1, 3) := by decide +kernel
theorem dJxc12de_init_da8c8_4 : decode cJxc12de_init_da8c8 4 = .ok (.aload_n 0, 1) := by decide +kernel
theorem dJxc12de_init_da8c8_5 : decode cJxc12de_init_da8c8 5 = .ok (.iconst 0, 1) := by decide +kernel
theorem dJxc12de_init_da8c8_6 : decode cJxc12de_init_da8c8 6 = .ok (.putfield 7, 3) := by decide +kernel
theorem dJxc12de_init_da8c8_9 : decode cJxc12de_init_da8c8 9 = .ok (.return_, 1) := by decide +kernel
theorem dJx4a65c_init_da8c8_0 : decode cJx4a65c_init_da8c8 0 = .ok (.aload_n 0, 1) := by decide +kernel
theorem dJx4a65c_init_da8c8_1 : decode cJx4a65c_init_da8c8 1 = .ok (.invokespecial 1, 3) := by decide +kernel
theorem dJx4a65c_init_da8c8_4 : decode cJx4a65c_init_da8c8 4 = .ok (.aload_n 0, 1) := by decide +kernel
theorem dJx4a65c_init_da8c8_5 : decode cJx4a65c_init_da8c8 5 = .ok (.getstatic 39, 3) := by decide +kernel
theorem dJx4a65c_init_da8c8_8 : decode cJx4a65c_init_da8c8 8 = .ok (.putfield 9, 3) := by decide +kernel
theorem dJx4a65c_init_da8c8_11 : decode cJx4a65c_init_da8c8 11 = .ok (.return_, 1) := by decide +kernel
theorem dJx4a65c_grow_92f84_0 : decode cJx4a65c_grow_92f84 0 = .ok (.aload_n 0, 1) := by decide +kernel
theorem dJx4a65c_grow_92f84_1 : decode cJx4a65c_grow_92f84 1 = .ok (.getfield 9, 3) := by decide +kernel
theorem dJx4a65c_grow_92f84_4 : decode cJx4a65c_grow_92f84 4 = .ok (.arraylength, 1) := by decide +kernel
theorem dJx4a65c_grow_92f84_5 : decode cJx4a65c_grow_92f84 5 = .ok (.istore_n 2, 1) := by decide +kernel
theorem dJx4a65c_grow_92f84_6 : decode cJx4a65c_grow_92f84 6 = .ok (.iload_n 2, 1) := by decide +kernel
theorem dJx4a65c_grow_92f84_7 : decode cJx4a65c_grow_92f84 7 = .ok (.ifCond .gt 13, 3) := by decide +kernel
theorem dJx4a65c_grow_92f84_10 : decode cJx4a65c_grow_92f84 10 = .ok (.aload_n 0, 1) := by decide +kernel
theorem dJx4a65c_grow_92f84_11 : decode cJx4a65c_grow_92f84 11 = .ok (.getfield 9, 3) := by decide +kernel
theorem dJx4a65c_grow_92f84_14 : decode cJx4a65c_grow_92f84 14 = .ok (.getstatic 39, 3) := by decide +kernel
theorem dJx4a65c_grow_92f84_17 : decode cJx4a65c_grow_92f84 17 = .ok (.if_acmp .eq 28, 3) := by decide +kernel
theorem dJx4a65c_grow_92f84_20 : decode cJx4a65c_grow_92f84 20 = .ok (.iload_n 2, 1) := by decide +kernel
theorem dJx4a65c_grow_92f84_21 : decode cJx4a65c_grow_92f84 21 = .ok (.iload_n 1, 1) := by decide +kernel
theorem dJx4a65c_grow_92f84_22 : decode cJx4a65c_grow_92f84 22 = .ok (.iload_n 2, 1) := by decide +kernel
theorem dJx4a65c_grow_92f84_23 : decode cJx4a65c_grow_92f84 23 = .ok (.isub, 1) := by decide +kernel
theorem dJx4a65c_grow_92f84_24 : decode cJx4a65c_grow_92f84 24 = .ok (.iload_n 2, 1) := by decide +kernel
theorem dJx4a65c_grow_92f84_25 : decode cJx4a65c_grow_92f84 25 = .ok (.iconst 1, 1) := by decide +kernel
theorem dJx4a65c_grow_92f84_26 : decode cJx4a65c_grow_92f84 26 = .ok (.ishr, 1) := by decide +kernel
theorem dJx4a65c_grow_92f84_27 : decode cJx4a65c_grow_92f84 27 = .ok (.invokestatic 73, 3) := by decide +kernel
theorem dJx4a65c_grow_92f84_30 : decode cJx4a65c_grow_92f84 30 = .ok (.istore_n 3, 1) := by decide +kernel
theorem dJx4a65c_grow_92f84_31 : decode cJx4a65c_grow_92f84 31 = .ok (.aload_n 0, 1) := by decide +kernel
theorem dJx4a65c_grow_92f84_32 : decode cJx4a65c_grow_92f84 32 = .ok (.aload_n 0, 1) := by decide +kernel
theorem dJx4a65c_grow_92f84_33 : decode cJx4a65c_grow_92f84 33 = .ok (.getfield 9, 3) := by decide +kernel
theorem dJx4a65c_grow_92f84_36 : decode cJx4a65c_grow_92f84 36 = .ok (.iload_n 3, 1) := by decide +kernel
theorem dJx4a65c_grow_92f84_37 : decode cJx4a65c_grow_92f84 37 = .ok (.invokestatic 66, 3) := by decide +kernel
theorem dJx4a65c_grow_92f84_40 : decode cJx4a65c_grow_92f84 40 = .ok (.dup_x1, 1) := by decide +kernel
theorem dJx4a65c_grow_92f84_41 : decode cJx4a65c_grow_92f84 41 = .ok (.putfield 9, 3) := by decide +kernel
theorem dJx4a65c_grow_92f84_44 : decode cJx4a65c_grow_92f84 44 = .ok (.areturn, 1) := by decide +kernel
theorem dJx4a65c_grow_92f84_45 : decode cJx4a65c_grow_92f84 45 = .ok (.aload_n 0, 1) := by decide +kernel
theorem dJx4a65c_grow_92f84_46 : decode cJx4a65c_grow_92f84 46 = .ok (.bipush 10, 2) := by decide +kernel
theorem dJx4a65c_grow_92f84_48 : decode cJx4a65c_grow_92f84 48 = .ok (.iload_n 1, 1) := by decide +kernel
theorem dJx4a65c_grow_92f84_49 : decode cJx4a65c_grow_92f84 49 = .ok (.invokestatic 79, 3) := by decide +kernel
theorem dJx4a65c_grow_92f84_52 : decode cJx4a65c_grow_92f84 52 = .ok (.anewarray 7, 3) := by decide +kernel
theorem dJx4a65c_grow_92f84_55 : decode cJx4a65c_grow_92f84 55 = .ok (.dup_x1, 1) := by decide +kernel
theorem dJx4a65c_grow_92f84_56 : decode cJx4a65c_grow_92f84 56 = .ok (.putfield 9, 3) := by decide +kernel
theorem dJx4a65c_grow_92f84_59 : decode cJx4a65c_grow_92f84 59 = .ok (.areturn, 1) := by decide +kernel
theorem dJx4a65c_grow_d5877_0 : decode cJx4a65c_grow_d5877 0 = .ok (.aload_n 0, 1) := by decide +kernel
theorem dJx4a65c_grow_d5877_1 : decode cJx4a65c_grow_d5877 1 = .ok (.aload_n 0, 1) := by decide +kernel
theorem dJx4a65c_grow_d5877_2 : decode cJx4a65c_grow_d5877 2 = .ok (.getfield 48, 3) := by decide +kernel
theorem dJx4a65c_grow_d5877_5 : decode cJx4a65c_grow_d5877 5 = .ok (.iconst 1, 1) := by decide +kernel
theorem dJx4a65c_grow_d5877_6 : decode cJx4a65c_grow_d5877 6 = .ok (.iadd, 1) := by decide +kernel
theorem dJx4a65c_grow_d5877_7 : decode cJx4a65c_grow_d5877 7 = .ok (.invokevirtual 69, 3) := by decide +kernel
theorem dJx4a65c_grow_d5877_10 : decode cJx4a65c_grow_d5877 10 = .ok (.areturn, 1) := by decide +kernel
theorem dJx4a65c_size_8abf5_0 : decode cJx4a65c_size_8abf5 0 = .ok (.aload_n 0, 1) := by decide +kernel
theorem dJx4a65c_size_8abf5_1 : decode cJx4a65c_size_8abf5 1 = .ok (.getfield 48, 3) := by decide +kernel
theorem dJx4a65c_size_8abf5_4 : decode cJx4a65c_size_8abf5 4 = .ok (.ireturn, 1) := by decide +kernel
theorem dJx4a65c_elementData_915e3_0 : decode cJx4a65c_elementData_915e3 0 = .ok (.aload_n 0, 1) := by decide +kernel
theorem dJx4a65c_elementData_915e3_1 : decode cJx4a65c_elementData_915e3 1 = .ok (.getfield 9, 3) := by decide +kernel
theorem dJx4a65c_elementData_915e3_4 : decode cJx4a65c_elementData_915e3 4 = .ok (.iload_n 1, 1) := by decide +kernel
theorem dJx4a65c_elementData_915e3_5 : decode cJx4a65c_elementData_915e3 5 = .ok (.aaload, 1) := by decide +kernel
theorem dJx4a65c_elementData_915e3_6 : decode cJx4a65c_elementData_915e3 6 = .ok (.areturn, 1) := by decide +kernel
theorem dJx4a65c_get_915e3_0 : decode cJx4a65c_get_915e3 0 = .ok (.iload_n 1, 1) := by decide +kernel
theorem dJx4a65c_get_915e3_1 : decode cJx4a65c_get_915e3 1 = .ok (.aload_n 0, 1) := by decide +kernel
theorem dJx4a65c_get_915e3_2 : decode cJx4a65c_get_915e3 2 = .ok (.getfield 48, 3) := by decide +kernel
theorem dJx4a65c_get_915e3_5 : decode cJx4a65c_get_915e3 5 = .ok (.invokestatic 118, 3) := by decide +kernel
theorem dJx4a65c_get_915e3_8 : decode cJx4a65c_get_915e3 8 = .ok (.pop, 1) := by decide +kernel
theorem dJx4a65c_get_915e3_9 : decode cJx4a65c_get_915e3 9 = .ok (.aload_n 0, 1) := by decide +kernel
theorem dJx4a65c_get_915e3_10 : decode cJx4a65c_get_915e3 10 = .ok (.iload_n 1, 1) := by decide +kernel
theorem dJx4a65c_get_915e3_11 : decode cJx4a65c_get_915e3 11 = .ok (.invokevirtual 123, 3) := by decide +kernel
theorem dJx4a65c_get_915e3_14 : decode cJx4a65c_get_915e3 14 = .ok (.areturn, 1) := by decide +kernel
theorem dJx4a65c_add_72be8_0 : decode cJx4a65c_add_72be8 0 = .ok (.iload_n 3, 1) := by decide +kernel
theorem dJx4a65c_add_72be8_1 : decode cJx4a65c_add_72be8 1 = .ok (.aload_n 2, 1) := by decide +kernel
theorem dJx4a65c_add_72be8_2 : decode cJx4a65c_add_72be8 2 = .ok (.arraylength, 1) := by decide +kernel
theorem dJx4a65c_add_72be8_3 : decode cJx4a65c_add_72be8 3 = .ok (.if_icmp .ne 8, 3) := by decide +kernel
theorem dJx4a65c_add_72be8_6 : decode cJx4a65c_add_72be8 6 = .ok (.aload_n 0, 1) := by decide +kernel
theorem dJx4a65c_add_72be8_7 : decode cJx4a65c_add_72be8 7 = .ok (.invokevirtual 129, 3) := by decide +kernel
theorem dJx4a65c_add_72be8_10 : decode cJx4a65c_add_72be8 10 = .ok (.astore_n 2, 1) := by decide +kernel
theorem dJx4a65c_add_72be8_11 : decode cJx4a65c_add_72be8 11 = .ok (.aload_n 2, 1) := by decide +kernel
theorem dJx4a65c_add_72be8_12 : decode cJx4a65c_add_72be8 12 = .ok (.iload_n 3, 1) := by decide +kernel
theorem dJx4a65c_add_72be8_13 : decode cJx4a65c_add_72be8 13 = .ok (.aload_n 1, 1) := by decide +kernel
theorem dJx4a65c_add_72be8_14 : decode cJx4a65c_add_72be8 14 = .ok (.aastore, 1) := by decide +kernel
theorem dJx4a65c_add_72be8_15 : decode cJx4a65c_add_72be8 15 = .ok (.aload_n 0, 1) := by decide +kernel
theorem dJx4a65c_add_72be8_16 : decode cJx4a65c_add_72be8 16 = .ok (.iload_n 3, 1) := by decide +kernel
theorem dJx4a65c_add_72be8_17 : decode cJx4a65c_add_72be8 17 = .ok (.iconst 1, 1) := by decide +kernel
theorem dJx4a65c_add_72be8_18 : decode cJx4a65c_add_72be8 18 = .ok (.iadd, 1) := by decide +kernel
theorem dJx4a65c_add_72be8_19 : decode cJx4a65c_add_72be8 19 = .ok (.putfield 48, 3) := by decide +kernel
theorem dJx4a65c_add_72be8_22 : decode cJx4a65c_add_72be8 22 = .ok (.return_, 1) := by decide +kernel
theorem dJx4a65c_add_9ea2d_0 : decode cJx4a65c_add_9ea2d 0 = .ok (.aload_n 0, 1) := by decide +kernel
theorem dJx4a65c_add_9ea2d_1 : decode cJx4a65c_add_9ea2d 1 = .ok (.dup, 1) := by decide +kernel
theorem dJx4a65c_add_9ea2d_2 : decode cJx4a65c_add_9ea2d 2 = .ok (.getfield 63, 3) := by decide +kernel
theorem dJx4a65c_add_9ea2d_5 : decode cJx4a65c_add_9ea2d 5 = .ok (.iconst 1, 1) := by decide +kernel
theorem dJx4a65c_add_9ea2d_6 : decode cJx4a65c_add_9ea2d 6 = .ok (.iadd, 1) := by decide +kernel
theorem dJx4a65c_add_9ea2d_7 : decode cJx4a65c_add_9ea2d 7 = .ok (.putfield 63, 3) := by decide +kernel
theorem dJx4a65c_add_9ea2d_10 : decode cJx4a65c_add_9ea2d 10 = .ok (.aload_n 0, 1) := by decide +kernel
theorem dJx4a65c_add_9ea2d_11 : decode cJx4a65c_add_9ea2d 11 = .ok (.aload_n 1, 1) := by decide +kernel
theorem dJx4a65c_add_9ea2d_12 : decode cJx4a65c_add_9ea2d 12 = .ok (.aload_n 0, 1) := by decide +kernel
theorem dJx4a65c_add_9ea2d_13 : decode cJx4a65c_add_9ea2d 13 = .ok (.getfield 9, 3) := by decide +kernel
theorem dJx4a65c_add_9ea2d_16 : decode cJx4a65c_add_9ea2d 16 = .ok (.aload_n 0, 1) := by decide +kernel
theorem dJx4a65c_add_9ea2d_17 : decode cJx4a65c_add_9ea2d 17 = .ok (.getfield 48, 3) := by decide +kernel
theorem dJx4a65c_add_9ea2d_20 : decode cJx4a65c_add_9ea2d 20 = .ok (.invokevirtual 131, 3) := by decide +kernel
theorem dJx4a65c_add_9ea2d_23 : decode cJx4a65c_add_9ea2d 23 = .ok (.iconst 1, 1) := by decide +kernel
theorem dJx4a65c_add_9ea2d_24 : decode cJx4a65c_add_9ea2d 24 = .ok (.ireturn, 1) := by decide +kernel
theorem dJ7_fill_53178_0 : decode cJ7_fill_53178 0 = .ok (.iconst 0, 1) := by decide +kernel
theorem dJ7_fill_53178_1 : decode cJ7_fill_53178 1 = .ok (.istore_n 2, 1) := by decide +kernel
theorem dJ7_fill_53178_2 : decode cJ7_fill_53178 2 = .ok (.aload_n 0, 1) := by decide +kernel
theorem dJ7_fill_53178_3 : decode cJ7_fill_53178 3 = .ok (.arraylength, 1) := by decide +kernel
theorem dJ7_fill_53178_4 : decode cJ7_fill_53178 4 = .ok (.istore_n 3, 1) := by decide +kernel
theorem dJ7_fill_53178_5 : decode cJ7_fill_53178 5 = .ok (.iload_n 2, 1) := by decide +kernel
theorem dJ7_fill_53178_6 : decode cJ7_fill_53178 6 = .ok (.iload_n 3, 1) := by decide +kernel
theorem dJ7_fill_53178_7 : decode cJ7_fill_53178 7 = .ok (.if_icmp .ge 13, 3) := by decide +kernel
theorem dJ7_fill_53178_10 : decode cJ7_fill_53178 10 = .ok (.aload_n 0, 1) := by decide +kernel
theorem dJ7_fill_53178_11 : decode cJ7_fill_53178 11 = .ok (.iload_n 2, 1) := by decide +kernel
theorem dJ7_fill_53178_12 : decode cJ7_fill_53178 12 = .ok (.iload_n 1, 1) := by decide +kernel
theorem dJ7_fill_53178_13 : decode cJ7_fill_53178 13 = .ok (.iastore, 1) := by decide +kernel
theorem dJ7_fill_53178_14 : decode cJ7_fill_53178 14 = .ok (.iinc 2 1, 3) := by decide +kernel
theorem dJ7_fill_53178_17 : decode cJ7_fill_53178 17 = .ok (.goto (-12), 3) := by decide +kernel
theorem dJ7_fill_53178_20 : decode cJ7_fill_53178 20 = .ok (.return_, 1) := by decide +kernel
theorem dJ7_copyOf_1904c_0 : decode cJ7_copyOf_1904c 0 = .ok (.aload_n 0, 1) := by decide +kernel
theorem dJ7_copyOf_1904c_1 : decode cJ7_copyOf_1904c 1 = .ok (.iload_n 1, 1) := by decide +kernel
theorem dJ7_copyOf_1904c_2 : decode cJ7_copyOf_1904c 2 = .ok (.aload_n 0, 1) := by decide +kernel
theorem dJ7_copyOf_1904c_3 : decode cJ7_copyOf_1904c 3 = .ok (.invokevirtual 86, 3) := by decide +kernel
theorem dJ7_copyOf_1904c_6 : decode cJ7_copyOf_1904c 6 = .ok (.invokestatic 300, 3) := by decide +kernel
theorem dJ7_copyOf_1904c_9 : decode cJ7_copyOf_1904c 9 = .ok (.areturn, 1) := by decide +kernel
theorem dJ7_copyOf_6403c_0 : decode cJ7_copyOf_6403c 0 = .ok (.aload_n 2, 1) := by decide +kernel
theorem dJ7_copyOf_6403c_1 : decode cJ7_copyOf_6403c 1 = .ok (.ldc 110, 2) := by decide +kernel
theorem dJ7_copyOf_6403c_3 : decode cJ7_copyOf_6403c 3 = .ok (.if_acmp .ne 10, 3) := by decide +kernel
theorem dJ7_copyOf_6403c_6 : decode cJ7_copyOf_6403c 6 = .ok (.iload_n 1, 1) := by decide +kernel
theorem dJ7_copyOf_6403c_7 : decode cJ7_copyOf_6403c 7 = .ok (.anewarray 2, 3) := by decide +kernel
theorem dJ7_copyOf_6403c_10 : decode cJ7_copyOf_6403c 10 = .ok (.goto 14, 3) := by decide +kernel
theorem dJ7_copyOf_6403c_13 : decode cJ7_copyOf_6403c 13 = .ok (.aload_n 2, 1) := by decide +kernel
theorem dJ7_copyOf_6403c_14 : decode cJ7_copyOf_6403c 14 = .ok (.invokevirtual 90, 3) := by decide +kernel
theorem dJ7_copyOf_6403c_17 : decode cJ7_copyOf_6403c 17 = .ok (.iload_n 1, 1) := by decide +kernel
theorem dJ7_copyOf_6403c_18 : decode cJ7_copyOf_6403c 18 = .ok (.invokestatic 95, 3) := by decide +kernel
theorem dJ7_copyOf_6403c_21 : decode cJ7_copyOf_6403c 21 = .ok (.checkcast 110, 3) := by decide +kernel
theorem dJ7_copyOf_6403c_24 : decode cJ7_copyOf_6403c 24 = .ok (.astore_n 3, 1) := by decide +kernel
theorem dJ7_copyOf_6403c_25 : decode cJ7_copyOf_6403c 25 = .ok (.aload_n 0, 1) := by decide +kernel
theorem dJ7_copyOf_6403c_26 : decode cJ7_copyOf_6403c 26 = .ok (.iconst 0, 1) := by decide +kernel
theorem dJ7_copyOf_6403c_27 : decode cJ7_copyOf_6403c 27 = .ok (.aload_n 3, 1) := by decide +kernel
theorem dJ7_copyOf_6403c_28 : decode cJ7_copyOf_6403c 28 = .ok (.iconst 0, 1) := by decide +kernel
theorem dJ7_copyOf_6403c_29 : decode cJ7_copyOf_6403c 29 = .ok (.aload_n 0, 1) := by decide +kernel
theorem dJ7_copyOf_6403c_30 : decode cJ7_copyOf_6403c 30 = .ok (.arraylength, 1) := by decide +kernel
theorem dJ7_copyOf_6403c_31 : decode cJ7_copyOf_6403c 31 = .ok (.iload_n 1, 1) := by decide +kernel
theorem dJ7_copyOf_6403c_32 : decode cJ7_copyOf_6403c 32 = .ok (.invokestatic 304, 3) := by decide +kernel
theorem dJ7_copyOf_6403c_35 : decode cJ7_copyOf_6403c 35 = .ok (.invokestatic 150, 3) := by decide +kernel
theorem dJ7_copyOf_6403c_38 : decode cJ7_copyOf_6403c 38 = .ok (.aload_n 3, 1) := by decide +kernel
theorem dJ7_copyOf_6403c_39 : decode cJ7_copyOf_6403c 39 = .ok (.areturn, 1) := by decide +kernel
theorem dJ15_checkIndex_7cf53_0 : decode cJ15_checkIndex_7cf53 0 = .ok (.iload_n 0, 1) := by decide +kernel
theorem dJ15_checkIndex_7cf53_1 : decode cJ15_checkIndex_7cf53 1 = .ok (.iload_n 1, 1) := by decide +kernel
theorem dJ15_checkIndex_7cf53_2 : decode cJ15_checkIndex_7cf53 2 = .ok (.aconst_null, 1) := by decide +kernel
theorem dJ15_checkIndex_7cf53_3 : decode cJ15_checkIndex_7cf53 3 = .ok (.invokestatic 105, 3) := by decide +kernel
theorem dJ15_checkIndex_7cf53_6 : decode cJ15_checkIndex_7cf53 6 = .ok (.ireturn, 1) := by decide +kernel
theorem dJ8_newLength_cabcc_0 : decode cJ8_newLength_cabcc 0 = .ok (.iload_n 0, 1) := by decide +kernel
theorem dJ8_newLength_cabcc_1 : decode cJ8_newLength_cabcc 1 = .ok (.iload_n 1, 1) := by decide +kernel
theorem dJ8_newLength_cabcc_2 : decode cJ8_newLength_cabcc 2 = .ok (.iload_n 2, 1) := by decide +kernel
theorem dJ8_newLength_cabcc_3 : decode cJ8_newLength_cabcc 3 = .ok (.invokestatic 194, 3) := by decide +kernel
theorem dJ8_newLength_cabcc_6 : decode cJ8_newLength_cabcc 6 = .ok (.iadd, 1) := by decide +kernel
