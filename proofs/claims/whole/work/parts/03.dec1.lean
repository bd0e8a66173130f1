theorem dX5_doorThatHelps_11 : decode cX5_doorThatHelps 11 = .ok (.getfield 25, 3) := by decide +kernel
theorem dX5_doorThatHelps_14 : decode cX5_doorThatHelps 14 = .ok (.aload_n 3, 1) := by decide +kernel
theorem dX5_doorThatHelps_15 : decode cX5_doorThatHelps 15 = .ok (.invokevirtual 96, 3) := by decide +kernel
theorem dX5_doorThatHelps_18 : decode cX5_doorThatHelps 18 = .ok (.aload_n 0, 1) := by decide +kernel
theorem dX5_doorThatHelps_19 : decode cX5_doorThatHelps 19 = .ok (.getfield 25, 3) := by decide +kernel
theorem dX5_doorThatHelps_22 : decode cX5_doorThatHelps 22 = .ok (.aload_n 0, 1) := by decide +kernel
theorem dX5_doorThatHelps_23 : decode cX5_doorThatHelps 23 = .ok (.getfield 25, 3) := by decide +kernel
theorem dX5_doorThatHelps_26 : decode cX5_doorThatHelps 26 = .ok (.getfield 103, 3) := by decide +kernel
theorem dX5_doorThatHelps_29 : decode cX5_doorThatHelps 29 = .ok (.iload_n 2, 1) := by decide +kernel
theorem dX5_doorThatHelps_30 : decode cX5_doorThatHelps 30 = .ok (.iaload, 1) := by decide +kernel
theorem dX5_doorThatHelps_31 : decode cX5_doorThatHelps 31 = .ok (.invokevirtual 112, 3) := by decide +kernel
theorem dX5_doorThatHelps_34 : decode cX5_doorThatHelps 34 = .ok (.ireturn, 1) := by decide +kernel
theorem dX5_lock_0 : decode cX5_lock 0 = .ok (.aload_n 0, 1) := by decide +kernel
theorem dX5_lock_1 : decode cX5_lock 1 = .ok (.iload_n 1, 1) := by decide +kernel
theorem dX5_lock_2 : decode cX5_lock 2 = .ok (.invokevirtual 47, 3) := by decide +kernel
theorem dX5_lock_5 : decode cX5_lock 5 = .ok (.astore_n 3, 1) := by decide +kernel
theorem dX5_lock_6 : decode cX5_lock 6 = .ok (.iload_n 2, 1) := by decide +kernel
theorem dX5_lock_7 : decode cX5_lock 7 = .ok (.invokestatic 51, 3) := by decide +kernel
theorem dX5_lock_10 : decode cX5_lock 10 = .ok (.aload_n 3, 1) := by decide +kernel
theorem dX5_lock_11 : decode cX5_lock 11 = .ok (.getfield 115, 3) := by decide +kernel
theorem dX5_lock_14 : decode cX5_lock 14 = .ok (.iconst (-1), 1) := by decide +kernel
theorem dX5_lock_15 : decode cX5_lock 15 = .ok (.if_icmp .eq 13, 3) := by decide +kernel
theorem dX5_lock_18 : decode cX5_lock 18 = .ok (.new 33, 3) := by decide +kernel
theorem dX5_lock_21 : decode cX5_lock 21 = .ok (.dup, 1) := by decide +kernel
theorem dX5_lock_22 : decode cX5_lock 22 = .ok (.ldc 119, 2) := by decide +kernel
theorem dX5_lock_24 : decode cX5_lock 24 = .ok (.invokespecial 37, 3) := by decide +kernel
theorem dX5_lock_27 : decode cX5_lock 27 = .ok (.athrow, 1) := by decide +kernel
theorem dX5_lock_28 : decode cX5_lock 28 = .ok (.aload_n 3, 1) := by decide +kernel
theorem dX5_lock_29 : decode cX5_lock 29 = .ok (.iload_n 2, 1) := by decide +kernel
theorem dX5_lock_30 : decode cX5_lock 30 = .ok (.putfield 115, 3) := by decide +kernel
theorem dX5_lock_33 : decode cX5_lock 33 = .ok (.return_, 1) := by decide +kernel
theorem dX5_unlock_0 : decode cX5_unlock 0 = .ok (.aload_n 0, 1) := by decide +kernel
theorem dX5_unlock_1 : decode cX5_unlock 1 = .ok (.iload_n 1, 1) := by decide +kernel
theorem dX5_unlock_2 : decode cX5_unlock 2 = .ok (.invokevirtual 47, 3) := by decide +kernel
theorem dX5_unlock_5 : decode cX5_unlock 5 = .ok (.astore_n 3, 1) := by decide +kernel
theorem dX5_unlock_6 : decode cX5_unlock 6 = .ok (.iload_n 2, 1) := by decide +kernel
theorem dX5_unlock_7 : decode cX5_unlock 7 = .ok (.invokestatic 51, 3) := by decide +kernel
theorem dX5_unlock_10 : decode cX5_unlock 10 = .ok (.aload_n 3, 1) := by decide +kernel
theorem dX5_unlock_11 : decode cX5_unlock 11 = .ok (.iload_n 2, 1) := by decide +kernel
theorem dX5_unlock_12 : decode cX5_unlock 12 = .ok (.invokestatic 121, 3) := by decide +kernel
theorem dX5_unlock_15 : decode cX5_unlock 15 = .ok (.aload_n 3, 1) := by decide +kernel
theorem dX5_unlock_16 : decode cX5_unlock 16 = .ok (.getfield 124, 3) := by decide +kernel
theorem dX5_unlock_19 : decode cX5_unlock 19 = .ok (.iconst (-1), 1) := by decide +kernel
theorem dX5_unlock_20 : decode cX5_unlock 20 = .ok (.if_icmp .eq 13, 3) := by decide +kernel
theorem dX5_unlock_23 : decode cX5_unlock 23 = .ok (.new 33, 3) := by decide +kernel
theorem dX5_unlock_26 : decode cX5_unlock 26 = .ok (.dup, 1) := by decide +kernel
theorem dX5_unlock_27 : decode cX5_unlock 27 = .ok (.ldc 127, 2) := by decide +kernel
theorem dX5_unlock_29 : decode cX5_unlock 29 = .ok (.invokespecial 37, 3) := by decide +kernel
theorem dX5_unlock_32 : decode cX5_unlock 32 = .ok (.athrow, 1) := by decide +kernel
theorem dX5_unlock_33 : decode cX5_unlock 33 = .ok (.aload_n 3, 1) := by decide +kernel
theorem dX5_unlock_34 : decode cX5_unlock 34 = .ok (.iconst (-1), 1) := by decide +kernel
theorem dX5_unlock_35 : decode cX5_unlock 35 = .ok (.putfield 115, 3) := by decide +kernel
theorem dX5_unlock_38 : decode cX5_unlock 38 = .ok (.return_, 1) := by decide +kernel
theorem dX5_lend_0 : decode cX5_lend 0 = .ok (.aload_n 0, 1) := by decide +kernel
theorem dX5_lend_1 : decode cX5_lend 1 = .ok (.iload_n 1, 1) := by decide +kernel
theorem dX5_lend_2 : decode cX5_lend 2 = .ok (.invokevirtual 47, 3) := by decide +kernel
theorem dX5_lend_5 : decode cX5_lend 5 = .ok (.astore 4, 2) := by decide +kernel
theorem dX5_lend_7 : decode cX5_lend 7 = .ok (.iload_n 2, 1) := by decide +kernel
theorem dX5_lend_8 : decode cX5_lend 8 = .ok (.invokestatic 51, 3) := by decide +kernel
theorem dX5_lend_11 : decode cX5_lend 11 = .ok (.iload_n 3, 1) := by decide +kernel
theorem dX5_lend_12 : decode cX5_lend 12 = .ok (.iconst (-1), 1) := by decide +kernel
theorem dX5_lend_13 : decode cX5_lend 13 = .ok (.if_icmp .eq 7, 3) := by decide +kernel
theorem dX5_lend_16 : decode cX5_lend 16 = .ok (.iload_n 3, 1) := by decide +kernel
theorem dX5_lend_17 : decode cX5_lend 17 = .ok (.invokestatic 51, 3) := by decide +kernel
theorem dX5_lend_20 : decode cX5_lend 20 = .ok (.iload_n 2, 1) := by decide +kernel
theorem dX5_lend_21 : decode cX5_lend 21 = .ok (.iload_n 3, 1) := by decide +kernel
theorem dX5_lend_22 : decode cX5_lend 22 = .ok (.if_icmp .ne 13, 3) := by decide +kernel
theorem dX5_lend_25 : decode cX5_lend 25 = .ok (.new 58, 3) := by decide +kernel
theorem dX5_lend_28 : decode cX5_lend 28 = .ok (.dup, 1) := by decide +kernel
theorem dX5_lend_29 : decode cX5_lend 29 = .ok (.ldc 129, 2) := by decide +kernel
theorem dX5_lend_31 : decode cX5_lend 31 = .ok (.invokespecial 62, 3) := by decide +kernel
theorem dX5_lend_34 : decode cX5_lend 34 = .ok (.athrow, 1) := by decide +kernel
theorem dX5_lend_35 : decode cX5_lend 35 = .ok (.aload 4, 2) := by decide +kernel
theorem dX5_lend_37 : decode cX5_lend 37 = .ok (.iload_n 2, 1) := by decide +kernel
theorem dX5_lend_38 : decode cX5_lend 38 = .ok (.invokestatic 121, 3) := by decide +kernel
theorem dX5_lend_41 : decode cX5_lend 41 = .ok (.aload 4, 2) := by decide +kernel
theorem dX5_lend_43 : decode cX5_lend 43 = .ok (.getfield 124, 3) := by decide +kernel
theorem dX5_lend_46 : decode cX5_lend 46 = .ok (.istore 5, 2) := by decide +kernel
theorem dX5_lend_48 : decode cX5_lend 48 = .ok (.aload 4, 2) := by decide +kernel
theorem dX5_lend_50 : decode cX5_lend 50 = .ok (.iload_n 3, 1) := by decide +kernel
theorem dX5_lend_51 : decode cX5_lend 51 = .ok (.putfield 124, 3) := by decide +kernel
theorem dX5_lend_54 : decode cX5_lend 54 = .ok (.iload 5, 2) := by decide +kernel
theorem dX5_lend_56 : decode cX5_lend 56 = .ok (.ireturn, 1) := by decide +kernel
theorem dX5_canChange_0 : decode cX5_canChange 0 = .ok (.aload_n 0, 1) := by decide +kernel
theorem dX5_canChange_1 : decode cX5_canChange 1 = .ok (.iload_n 1, 1) := by decide +kernel
theorem dX5_canChange_2 : decode cX5_canChange 2 = .ok (.invokevirtual 47, 3) := by decide +kernel
theorem dX5_canChange_5 : decode cX5_canChange 5 = .ok (.invokevirtual 131, 3) := by decide +kernel
theorem dX5_canChange_8 : decode cX5_canChange 8 = .ok (.ireturn, 1) := by decide +kernel
theorem dX5_grant_0 : decode cX5_grant 0 = .ok (.aload_n 0, 1) := by decide +kernel
theorem dX5_grant_1 : decode cX5_grant 1 = .ok (.iload_n 1, 1) := by decide +kernel
theorem dX5_grant_2 : decode cX5_grant 2 = .ok (.invokevirtual 47, 3) := by decide +kernel
theorem dX5_grant_5 : decode cX5_grant 5 = .ok (.astore_n 2, 1) := by decide +kernel
theorem dX5_grant_6 : decode cX5_grant 6 = .ok (.aload_n 0, 1) := by decide +kernel
theorem dX5_grant_7 : decode cX5_grant 7 = .ok (.getfield 16, 3) := by decide +kernel
theorem dX5_grant_10 : decode cX5_grant 10 = .ok (.invokevirtual 29, 3) := by decide +kernel
theorem dX5_grant_13 : decode cX5_grant 13 = .ok (.istore_n 3, 1) := by decide +kernel
theorem dX5_grant_14 : decode cX5_grant 14 = .ok (.iload_n 3, 1) := by decide +kernel
theorem dX5_grant_15 : decode cX5_grant 15 = .ok (.bipush 20, 2) := by decide +kernel
theorem dX5_grant_17 : decode cX5_grant 17 = .ok (.if_icmp .lt 13, 3) := by decide +kernel
theorem dX5_grant_20 : decode cX5_grant 20 = .ok (.new 33, 3) := by decide +kernel
theorem dX5_grant_23 : decode cX5_grant 23 = .ok (.dup, 1) := by decide +kernel
theorem dX5_grant_24 : decode cX5_grant 24 = .ok (.ldc 134, 2) := by decide +kernel
theorem dX5_grant_26 : decode cX5_grant 26 = .ok (.invokespecial 37, 3) := by decide +kernel
theorem dX5_grant_29 : decode cX5_grant 29 = .ok (.athrow, 1) := by decide +kernel
theorem dX5_grant_30 : decode cX5_grant 30 = .ok (.aload_n 0, 1) := by decide +kernel
theorem dX5_grant_31 : decode cX5_grant 31 = .ok (.getfield 25, 3) := by decide +kernel
theorem dX5_grant_34 : decode cX5_grant 34 = .ok (.aload_n 2, 1) := by decide +kernel
theorem dX5_grant_35 : decode cX5_grant 35 = .ok (.invokevirtual 96, 3) := by decide +kernel
theorem dX5_grant_38 : decode cX5_grant 38 = .ok (.aload_n 0, 1) := by decide +kernel
theorem dX5_grant_39 : decode cX5_grant 39 = .ok (.getfield 25, 3) := by decide +kernel
theorem dX5_grant_42 : decode cX5_grant 42 = .ok (.invokevirtual 136, 3) := by decide +kernel
theorem dX5_grant_45 : decode cX5_grant 45 = .ok (.ifCond .ne 13, 3) := by decide +kernel
theorem dX5_grant_48 : decode cX5_grant 48 = .ok (.new 33, 3) := by decide +kernel
theorem dX5_grant_51 : decode cX5_grant 51 = .ok (.dup, 1) := by decide +kernel
theorem dX5_grant_52 : decode cX5_grant 52 = .ok (.ldc 140, 2) := by decide +kernel
theorem dX5_grant_54 : decode cX5_grant 54 = .ok (.invokespecial 37, 3) := by decide +kernel
theorem dX5_grant_57 : decode cX5_grant 57 = .ok (.athrow, 1) := by decide +kernel
theorem dX5_grant_58 : decode cX5_grant 58 = .ok (.aload_n 0, 1) := by decide +kernel
theorem dX5_grant_59 : decode cX5_grant 59 = .ok (.getfield 16, 3) := by decide +kernel
theorem dX5_grant_62 : decode cX5_grant 62 = .ok (.new 142, 3) := by decide +kernel
theorem dX5_grant_65 : decode cX5_grant 65 = .ok (.dup, 1) := by decide +kernel
theorem dX5_grant_66 : decode cX5_grant 66 = .ok (.aload_n 2, 1) := by decide +kernel
theorem dX5_grant_67 : decode cX5_grant 67 = .ok (.invokespecial 144, 3) := by decide +kernel
theorem dX5_grant_70 : decode cX5_grant 70 = .ok (.invokevirtual 43, 3) := by decide +kernel
theorem dX5_grant_73 : decode cX5_grant 73 = .ok (.pop, 1) := by decide +kernel
theorem dX5_grant_74 : decode cX5_grant 74 = .ok (.iload_n 3, 1) := by decide +kernel
theorem dX5_grant_75 : decode cX5_grant 75 = .ok (.ireturn, 1) := by decide +kernel
theorem dX5_holds_0 : decode cX5_holds 0 = .ok (.iload_n 1, 1) := by decide +kernel
theorem dX5_holds_1 : decode cX5_holds 1 = .ok (.ifCond .lt 14, 3) := by decide +kernel
theorem dX5_holds_4 : decode cX5_holds 4 = .ok (.iload_n 1, 1) := by decide +kernel
theorem dX5_holds_5 : decode cX5_holds 5 = .ok (.aload_n 0, 1) := by decide +kernel
theorem dX5_holds_6 : decode cX5_holds 6 = .ok (.getfield 16, 3) := by decide +kernel
theorem dX5_holds_9 : decode cX5_holds 9 = .ok (.invokevirtual 29, 3) := by decide +kernel
theorem dX5_holds_12 : decode cX5_holds 12 = .ok (.if_icmp .lt 13, 3) := by decide +kernel
theorem dX5_holds_15 : decode cX5_holds 15 = .ok (.new 146, 3) := by decide +kernel
theorem dX5_holds_18 : decode cX5_holds 18 = .ok (.dup, 1) := by decide +kernel
theorem dX5_holds_19 : decode cX5_holds 19 = .ok (.ldc 148, 2) := by decide +kernel
theorem dX5_holds_21 : decode cX5_holds 21 = .ok (.invokespecial 150, 3) := by decide +kernel
theorem dX5_holds_24 : decode cX5_holds 24 = .ok (.athrow, 1) := by decide +kernel
theorem dX5_holds_25 : decode cX5_holds 25 = .ok (.aload_n 0, 1) := by decide +kernel
theorem dX5_holds_26 : decode cX5_holds 26 = .ok (.getfield 16, 3) := by decide +kernel
theorem dX5_holds_29 : decode cX5_holds 29 = .ok (.iload_n 1, 1) := by decide +kernel
theorem dX5_holds_30 : decode cX5_holds 30 = .ok (.invokevirtual 151, 3) := by decide +kernel
theorem dX5_holds_33 : decode cX5_holds 33 = .ok (.checkcast 142, 3) := by decide +kernel
theorem dX5_holds_36 : decode cX5_holds 36 = .ok (.invokevirtual 155, 3) := by decide +kernel
theorem dX5_holds_39 : decode cX5_holds 39 = .ok (.ireturn, 1) := by decide +kernel
theorem dX5_print_0 : decode cX5_print 0 = .ok (.aload_n 0, 1) := by decide +kernel
theorem dX5_print_1 : decode cX5_print 1 = .ok (.iload_n 1, 1) := by decide +kernel
theorem dX5_print_2 : decode cX5_print 2 = .ok (.invokevirtual 47, 3) := by decide +kernel
theorem dX5_print_5 : decode cX5_print 5 = .ok (.astore_n 2, 1) := by decide +kernel
theorem dX5_print_6 : decode cX5_print 6 = .ok (.aload_n 0, 1) := by decide +kernel
theorem dX5_print_7 : decode cX5_print 7 = .ok (.getfield 19, 3) := by decide +kernel
theorem dX5_print_10 : decode cX5_print 10 = .ok (.invokevirtual 29, 3) := by decide +kernel
theorem dX5_print_13 : decode cX5_print 13 = .ok (.istore_n 3, 1) := by decide +kernel
theorem dX5_print_14 : decode cX5_print 14 = .ok (.iload_n 3, 1) := by decide +kernel
theorem dX5_print_15 : decode cX5_print 15 = .ok (.bipush 30, 2) := by decide +kernel
theorem dX5_print_17 : decode cX5_print 17 = .ok (.if_icmp .lt 13, 3) := by decide +kernel
theorem dX5_print_20 : decode cX5_print 20 = .ok (.new 33, 3) := by decide +kernel
theorem dX5_print_23 : decode cX5_print 23 = .ok (.dup, 1) := by decide +kernel
theorem dX5_print_24 : decode cX5_print 24 = .ok (.ldc 158, 2) := by decide +kernel
theorem dX5_print_26 : decode cX5_print 26 = .ok (.invokespecial 37, 3) := by decide +kernel
theorem dX5_print_29 : decode cX5_print 29 = .ok (.athrow, 1) := by decide +kernel
theorem dX5_print_30 : decode cX5_print 30 = .ok (.aload_n 0, 1) := by decide +kernel
theorem dX5_print_31 : decode cX5_print 31 = .ok (.getfield 19, 3) := by decide +kernel
theorem dX5_print_34 : decode cX5_print 34 = .ok (.new 160, 3) := by decide +kernel
theorem dX5_print_37 : decode cX5_print 37 = .ok (.dup, 1) := by decide +kernel
theorem dX5_print_38 : decode cX5_print 38 = .ok (.aload_n 2, 1) := by decide +kernel
theorem dX5_print_39 : decode cX5_print 39 = .ok (.aload_n 0, 1) := by decide +kernel
theorem dX5_print_40 : decode cX5_print 40 = .ok (.aload_n 2, 1) := by decide +kernel
theorem dX5_print_41 : decode cX5_print 41 = .ok (.invokevirtual 162, 3) := by decide +kernel
theorem dX5_print_44 : decode cX5_print 44 = .ok (.invokespecial 166, 3) := by decide +kernel
theorem dX5_print_47 : decode cX5_print 47 = .ok (.invokevirtual 43, 3) := by decide +kernel
theorem dX5_print_50 : decode cX5_print 50 = .ok (.pop, 1) := by decide +kernel
theorem dX5_print_51 : decode cX5_print 51 = .ok (.iload_n 3, 1) := by decide +kernel
theorem dX5_print_52 : decode cX5_print 52 = .ok (.ireturn, 1) := by decide +kernel
theorem dX5_permitOf_0 : decode cX5_permitOf 0 = .ok (.aload_n 0, 1) := by decide +kernel
theorem dX5_permitOf_1 : decode cX5_permitOf 1 = .ok (.iload_n 1, 1) := by decide +kernel
theorem dX5_permitOf_2 : decode cX5_permitOf 2 = .ok (.invokevirtual 168, 3) := by decide +kernel
theorem dX5_permitOf_5 : decode cX5_permitOf 5 = .ok (.getfield 172, 3) := by decide +kernel
theorem dX5_permitOf_8 : decode cX5_permitOf 8 = .ok (.ireturn, 1) := by decide +kernel
theorem dX5_isGood_0 : decode cX5_isGood 0 = .ok (.aload_n 0, 1) := by decide +kernel
theorem dX5_isGood_1 : decode cX5_isGood 1 = .ok (.iload_n 1, 1) := by decide +kernel
theorem dX5_isGood_2 : decode cX5_isGood 2 = .ok (.invokevirtual 168, 3) := by decide +kernel
theorem dX5_isGood_5 : decode cX5_isGood 5 = .ok (.astore_n 2, 1) := by decide +kernel
theorem dX5_isGood_6 : decode cX5_isGood 6 = .ok (.aload_n 2, 1) := by decide +kernel
theorem dX5_isGood_7 : decode cX5_isGood 7 = .ok (.getfield 172, 3) := by decide +kernel
theorem dX5_isGood_10 : decode cX5_isGood 10 = .ok (.iconst (-1), 1) := by decide +kernel
theorem dX5_isGood_11 : decode cX5_isGood 11 = .ok (.if_icmp .eq 14, 3) := by decide +kernel
theorem dX5_isGood_14 : decode cX5_isGood 14 = .ok (.aload_n 2, 1) := by decide +kernel
theorem dX5_isGood_15 : decode cX5_isGood 15 = .ok (.invokevirtual 175, 3) := by decide +kernel
theorem dX5_isGood_18 : decode cX5_isGood 18 = .ok (.ifCond .ne 7, 3) := by decide +kernel
theorem dX5_isGood_21 : decode cX5_isGood 21 = .ok (.iconst 1, 1) := by decide +kernel
theorem dX5_isGood_22 : decode cX5_isGood 22 = .ok (.goto 4, 3) := by decide +kernel
theorem dX5_isGood_25 : decode cX5_isGood 25 = .ok (.iconst 0, 1) := by decide +kernel
theorem dX5_isGood_26 : decode cX5_isGood 26 = .ok (.ireturn, 1) := by decide +kernel
theorem dX5_old_0 : decode cX5_old 0 = .ok (.iconst 0, 1) := by decide +kernel
theorem dX5_old_1 : decode cX5_old 1 = .ok (.istore_n 1, 1) := by decide +kernel
theorem dX5_old_2 : decode cX5_old 2 = .ok (.iconst 0, 1) := by decide +kernel
theorem dX5_old_3 : decode cX5_old 3 = .ok (.istore_n 2, 1) := by decide +kernel
theorem dX5_old_4 : decode cX5_old 4 = .ok (.iload_n 2, 1) := by decide +kernel
theorem dX5_old_5 : decode cX5_old 5 = .ok (.aload_n 0, 1) := by decide +kernel
theorem dX5_old_6 : decode cX5_old 6 = .ok (.getfield 19, 3) := by decide +kernel
theorem dX5_old_9 : decode cX5_old 9 = .ok (.invokevirtual 29, 3) := by decide +kernel
theorem dX5_old_12 : decode cX5_old 12 = .ok (.if_icmp .ge 29, 3) := by decide +kernel
theorem dX5_old_15 : decode cX5_old 15 = .ok (.aload_n 0, 1) := by decide +kernel
theorem dX5_old_16 : decode cX5_old 16 = .ok (.getfield 19, 3) := by decide +kernel
theorem dX5_old_19 : decode cX5_old 19 = .ok (.iload_n 2, 1) := by decide +kernel
theorem dX5_old_20 : decode cX5_old 20 = .ok (.invokevirtual 151, 3) := by decide +kernel
theorem dX5_old_23 : decode cX5_old 23 = .ok (.checkcast 160, 3) := by decide +kernel
theorem dX5_old_26 : decode cX5_old 26 = .ok (.invokevirtual 175, 3) := by decide +kernel
theorem dX5_old_29 : decode cX5_old 29 = .ok (.ifCond .eq 6, 3) := by decide +kernel
theorem dX5_old_32 : decode cX5_old 32 = .ok (.iinc 1 1, 3) := by decide +kernel
theorem dX5_old_35 : decode cX5_old 35 = .ok (.iinc 2 1, 3) := by decide +kernel
theorem dX5_old_38 : decode cX5_old 38 = .ok (.goto (-34), 3) := by decide +kernel
theorem dX5_old_41 : decode cX5_old 41 = .ok (.iload_n 1, 1) := by decide +kernel
theorem dX5_old_42 : decode cX5_old 42 = .ok (.ireturn, 1) := by decide +kernel
theorem dX5_drawingAt_0 : decode cX5_drawingAt 0 = .ok (.iload_n 1, 1) := by decide +kernel
theorem dX5_drawingAt_1 : decode cX5_drawingAt 1 = .ok (.ifCond .lt 14, 3) := by decide +kernel
theorem dX5_drawingAt_4 : decode cX5_drawingAt 4 = .ok (.iload_n 1, 1) := by decide +kernel
theorem dX5_drawingAt_5 : decode cX5_drawingAt 5 = .ok (.aload_n 0, 1) := by decide +kernel
theorem dX5_drawingAt_6 : decode cX5_drawingAt 6 = .ok (.getfield 10, 3) := by decide +kernel
theorem dX5_drawingAt_9 : decode cX5_drawingAt 9 = .ok (.invokevirtual 29, 3) := by decide +kernel
theorem dX5_drawingAt_12 : decode cX5_drawingAt 12 = .ok (.if_icmp .lt 13, 3) := by decide +kernel
theorem dX5_drawingAt_15 : decode cX5_drawingAt 15 = .ok (.new 146, 3) := by decide +kernel
theorem dX5_drawingAt_18 : decode cX5_drawingAt 18 = .ok (.dup, 1) := by decide +kernel
theorem dX5_drawingAt_19 : decode cX5_drawingAt 19 = .ok (.ldc 178, 2) := by decide +kernel
theorem dX5_drawingAt_21 : decode cX5_drawingAt 21 = .ok (.invokespecial 150, 3) := by decide +kernel
theorem dX5_drawingAt_24 : decode cX5_drawingAt 24 = .ok (.athrow, 1) := by decide +kernel
theorem dX5_drawingAt_25 : decode cX5_drawingAt 25 = .ok (.aload_n 0, 1) := by decide +kernel
theorem dX5_drawingAt_26 : decode cX5_drawingAt 26 = .ok (.getfield 10, 3) := by decide +kernel
theorem dX5_drawingAt_29 : decode cX5_drawingAt 29 = .ok (.iload_n 1, 1) := by decide +kernel
theorem dX5_drawingAt_30 : decode cX5_drawingAt 30 = .ok (.invokevirtual 151, 3) := by decide +kernel
theorem dX5_drawingAt_33 : decode cX5_drawingAt 33 = .ok (.checkcast 40, 3) := by decide +kernel
theorem dX5_drawingAt_36 : decode cX5_drawingAt 36 = .ok (.areturn, 1) := by decide +kernel
theorem dX5_printAt_0 : decode cX5_printAt 0 = .ok (.iload_n 1, 1) := by decide +kernel
theorem dX5_printAt_1 : decode cX5_printAt 1 = .ok (.ifCond .lt 14, 3) := by decide +kernel
theorem dX5_printAt_4 : decode cX5_printAt 4 = .ok (.iload_n 1, 1) := by decide +kernel
theorem dX5_printAt_5 : decode cX5_printAt 5 = .ok (.aload_n 0, 1) := by decide +kernel
theorem dX5_printAt_6 : decode cX5_printAt 6 = .ok (.getfield 19, 3) := by decide +kernel
theorem dX5_printAt_9 : decode cX5_printAt 9 = .ok (.invokevirtual 29, 3) := by decide +kernel
theorem dX5_printAt_12 : decode cX5_printAt 12 = .ok (.if_icmp .lt 13, 3) := by decide +kernel
theorem dX5_printAt_15 : decode cX5_printAt 15 = .ok (.new 146, 3) := by decide +kernel
theorem dX5_printAt_18 : decode cX5_printAt 18 = .ok (.dup, 1) := by decide +kernel
theorem dX5_printAt_19 : decode cX5_printAt 19 = .ok (.ldc 180, 2) := by decide +kernel
theorem dX5_printAt_21 : decode cX5_printAt 21 = .ok (.invokespecial 150, 3) := by decide +kernel
theorem dX5_printAt_24 : decode cX5_printAt 24 = .ok (.athrow, 1) := by decide +kernel
theorem dX5_printAt_25 : decode cX5_printAt 25 = .ok (.aload_n 0, 1) := by decide +kernel
theorem dX5_printAt_26 : decode cX5_printAt 26 = .ok (.getfield 19, 3) := by decide +kernel
theorem dX5_printAt_29 : decode cX5_printAt 29 = .ok (.iload_n 1, 1) := by decide +kernel
theorem dX5_printAt_30 : decode cX5_printAt 30 = .ok (.invokevirtual 151, 3) := by decide +kernel
theorem dX5_printAt_33 : decode cX5_printAt 33 = .ok (.checkcast 160, 3) := by decide +kernel
theorem dX5_printAt_36 : decode cX5_printAt 36 = .ok (.areturn, 1) := by decide +kernel
theorem dX5_highestPermit_0 : decode cX5_highestPermit 0 = .ok (.aload_n 0, 1) := by decide +kernel
theorem dX5_highestPermit_1 : decode cX5_highestPermit 1 = .ok (.getfield 16, 3) := by decide +kernel
theorem dX5_highestPermit_4 : decode cX5_highestPermit 4 = .ok (.invokevirtual 29, 3) := by decide +kernel
theorem dX5_highestPermit_7 : decode cX5_highestPermit 7 = .ok (.iconst 1, 1) := by decide +kernel
theorem dX5_highestPermit_8 : decode cX5_highestPermit 8 = .ok (.isub, 1) := by decide +kernel
theorem dX5_highestPermit_9 : decode cX5_highestPermit 9 = .ok (.istore_n 2, 1) := by decide +kernel
theorem dX5_highestPermit_10 : decode cX5_highestPermit 10 = .ok (.iload_n 2, 1) := by decide +kernel
theorem dX5_highestPermit_11 : decode cX5_highestPermit 11 = .ok (.ifCond .lt 38, 3) := by decide +kernel
theorem dX5_highestPermit_14 : decode cX5_highestPermit 14 = .ok (.aload_n 0, 1) := by decide +kernel
theorem dX5_highestPermit_15 : decode cX5_highestPermit 15 = .ok (.getfield 16, 3) := by decide +kernel
theorem dX5_highestPermit_18 : decode cX5_highestPermit 18 = .ok (.iload_n 2, 1) := by decide +kernel
theorem dX5_highestPermit_19 : decode cX5_highestPermit 19 = .ok (.invokevirtual 151, 3) := by decide +kernel
theorem dX5_highestPermit_22 : decode cX5_highestPermit 22 = .ok (.checkcast 142, 3) := by decide +kernel
theorem dX5_highestPermit_25 : decode cX5_highestPermit 25 = .ok (.astore_n 3, 1) := by decide +kernel
theorem dX5_highestPermit_26 : decode cX5_highestPermit 26 = .ok (.aload_n 3, 1) := by decide +kernel
theorem dX5_highestPermit_27 : decode cX5_highestPermit 27 = .ok (.getfield 182, 3) := by decide +kernel
theorem dX5_highestPermit_30 : decode cX5_highestPermit 30 = .ok (.aload_n 1, 1) := by decide +kernel
theorem dX5_highestPermit_31 : decode cX5_highestPermit 31 = .ok (.if_acmp .ne 12, 3) := by decide +kernel
theorem dX5_highestPermit_34 : decode cX5_highestPermit 34 = .ok (.aload_n 3, 1) := by decide +kernel
theorem dX5_highestPermit_35 : decode cX5_highestPermit 35 = .ok (.invokevirtual 155, 3) := by decide +kernel
theorem dX5_highestPermit_38 : decode cX5_highestPermit 38 = .ok (.ifCond .eq 5, 3) := by decide +kernel
theorem dX5_highestPermit_41 : decode cX5_highestPermit 41 = .ok (.iload_n 2, 1) := by decide +kernel
theorem dX5_highestPermit_42 : decode cX5_highestPermit 42 = .ok (.ireturn, 1) := by decide +kernel
theorem dX5_highestPermit_43 : decode cX5_highestPermit 43 = .ok (.iinc 2 (-1), 3) := by decide +kernel
theorem dX5_highestPermit_46 : decode cX5_highestPermit 46 = .ok (.goto (-36), 3) := by decide +kernel
theorem dX5_highestPermit_49 : decode cX5_highestPermit 49 = .ok (.iconst (-1), 1) := by decide +kernel
theorem dX5_highestPermit_50 : decode cX5_highestPermit 50 = .ok (.ireturn, 1) := by decide +kernel
theorem dX5_needPerson_0 : decode cX5_needPerson 0 = .ok (.iload_n 0, 1) := by decide +kernel
theorem dX5_needPerson_1 : decode cX5_needPerson 1 = .ok (.ifCond .lt 9, 3) := by decide +kernel
theorem dX5_needPerson_4 : decode cX5_needPerson 4 = .ok (.iload_n 0, 1) := by decide +kernel
theorem dX5_needPerson_5 : decode cX5_needPerson 5 = .ok (.bipush 6, 2) := by decide +kernel
theorem dX5_needPerson_7 : decode cX5_needPerson 7 = .ok (.if_icmp .lt 13, 3) := by decide +kernel
theorem dX5_needPerson_10 : decode cX5_needPerson 10 = .ok (.new 58, 3) := by decide +kernel
theorem dX5_needPerson_13 : decode cX5_needPerson 13 = .ok (.dup, 1) := by decide +kernel
theorem dX5_needPerson_14 : decode cX5_needPerson 14 = .ok (.ldc 186, 2) := by decide +kernel
theorem dX5_needPerson_16 : decode cX5_needPerson 16 = .ok (.invokespecial 62, 3) := by decide +kernel
theorem dX5_needPerson_19 : decode cX5_needPerson 19 = .ok (.athrow, 1) := by decide +kernel
theorem dX5_needPerson_20 : decode cX5_needPerson 20 = .ok (.return_, 1) := by decide +kernel
theorem dX5_needSide_0 : decode cX5_needSide 0 = .ok (.iload_n 0, 1) := by decide +kernel
theorem dX5_needSide_1 : decode cX5_needSide 1 = .ok (.ifCond .lt 9, 3) := by decide +kernel
theorem dX5_needSide_4 : decode cX5_needSide 4 = .ok (.iload_n 0, 1) := by decide +kernel
theorem dX5_needSide_5 : decode cX5_needSide 5 = .ok (.bipush 40, 2) := by decide +kernel
theorem dX5_needSide_7 : decode cX5_needSide 7 = .ok (.if_icmp .lt 13, 3) := by decide +kernel
theorem dX5_needSide_10 : decode cX5_needSide 10 = .ok (.new 58, 3) := by decide +kernel
theorem dX5_needSide_13 : decode cX5_needSide 13 = .ok (.dup, 1) := by decide +kernel
theorem dX5_needSide_14 : decode cX5_needSide 14 = .ok (.ldc 188, 2) := by decide +kernel
theorem dX5_needSide_16 : decode cX5_needSide 16 = .ok (.invokespecial 62, 3) := by decide +kernel
theorem dX5_needSide_19 : decode cX5_needSide 19 = .ok (.athrow, 1) := by decide +kernel
theorem dX5_needSide_20 : decode cX5_needSide 20 = .ok (.return_, 1) := by decide +kernel
theorem dX5_needCell_0 : decode cX5_needCell 0 = .ok (.iload_n 0, 1) := by decide +kernel
theorem dX5_needCell_1 : decode cX5_needCell 1 = .ok (.ifCond .lt 9, 3) := by decide +kernel
theorem dX5_needCell_4 : decode cX5_needCell 4 = .ok (.iload_n 0, 1) := by decide +kernel
theorem dX5_needCell_5 : decode cX5_needCell 5 = .ok (.bipush 25, 2) := by decide +kernel
theorem dX5_needCell_7 : decode cX5_needCell 7 = .ok (.if_icmp .lt 13, 3) := by decide +kernel
theorem dX5_needCell_10 : decode cX5_needCell 10 = .ok (.new 58, 3) := by decide +kernel
theorem dX5_needCell_13 : decode cX5_needCell 13 = .ok (.dup, 1) := by decide +kernel
theorem dX5_needCell_14 : decode cX5_needCell 14 = .ok (.ldc 190, 2) := by decide +kernel
theorem dX5_needCell_16 : decode cX5_needCell 16 = .ok (.invokespecial 62, 3) := by decide +kernel
theorem dX5_needCell_19 : decode cX5_needCell 19 = .ok (.athrow, 1) := by decide +kernel
theorem dX5_needCell_20 : decode cX5_needCell 20 = .ok (.return_, 1) := by decide +kernel
theorem dX5_needChanger_0 : decode cX5_needChanger 0 = .ok (.aload_n 0, 1) := by decide +kernel
theorem dX5_needChanger_1 : decode cX5_needChanger 1 = .ok (.invokevirtual 131, 3) := by decide +kernel
theorem dX5_needChanger_4 : decode cX5_needChanger 4 = .ok (.iload_n 1, 1) := by decide +kernel
theorem dX5_needChanger_5 : decode cX5_needChanger 5 = .ok (.if_icmp .eq 13, 3) := by decide +kernel
theorem dX5_needChanger_8 : decode cX5_needChanger 8 = .ok (.new 33, 3) := by decide +kernel
theorem dX5_needChanger_11 : decode cX5_needChanger 11 = .ok (.dup, 1) := by decide +kernel
theorem dX5_needChanger_12 : decode cX5_needChanger 12 = .ok (.ldc 192, 2) := by decide +kernel
theorem dX5_needChanger_14 : decode cX5_needChanger 14 = .ok (.invokespecial 37, 3) := by decide +kernel
theorem dX5_needChanger_17 : decode cX5_needChanger 17 = .ok (.athrow, 1) := by decide +kernel
theorem dX5_needChanger_18 : decode cX5_needChanger 18 = .ok (.return_, 1) := by decide +kernel
theorem dX5_needLocker_0 : decode cX5_needLocker 0 = .ok (.aload_n 0, 1) := by decide +kernel
theorem dX5_needLocker_1 : decode cX5_needLocker 1 = .ok (.getfield 115, 3) := by decide +kernel
theorem dX5_needLocker_4 : decode cX5_needLocker 4 = .ok (.iload_n 1, 1) := by decide +kernel
theorem dX5_needLocker_5 : decode cX5_needLocker 5 = .ok (.if_icmp .eq 13, 3) := by decide +kernel
theorem dX5_needLocker_8 : decode cX5_needLocker 8 = .ok (.new 33, 3) := by decide +kernel
theorem dX5_needLocker_11 : decode cX5_needLocker 11 = .ok (.dup, 1) := by decide +kernel
theorem dX5_needLocker_12 : decode cX5_needLocker 12 = .ok (.ldc 194, 2) := by decide +kernel
theorem dX5_needLocker_14 : decode cX5_needLocker 14 = .ok (.invokespecial 37, 3) := by decide +kernel
theorem dX5_needLocker_17 : decode cX5_needLocker 17 = .ok (.athrow, 1) := by decide +kernel
theorem dX5_needLocker_18 : decode cX5_needLocker 18 = .ok (.return_, 1) := by decide +kernel
theorem dX5_firstCell_0 : decode cX5_firstCell 0 = .ok (.iload_n 0, 1) := by decide +kernel
theorem dX5_firstCell_1 : decode cX5_firstCell 1 = .ok (.bipush 20, 2) := by decide +kernel
theorem dX5_firstCell_3 : decode cX5_firstCell 3 = .ok (.if_icmp .ge 13, 3) := by decide +kernel
theorem dX5_firstCell_6 : decode cX5_firstCell 6 = .ok (.iconst 5, 1) := by decide +kernel
theorem dX5_firstCell_7 : decode cX5_firstCell 7 = .ok (.iload_n 0, 1) := by decide +kernel
theorem dX5_firstCell_8 : decode cX5_firstCell 8 = .ok (.iconst 4, 1) := by decide +kernel
theorem dX5_firstCell_9 : decode cX5_firstCell 9 = .ok (.idiv, 1) := by decide +kernel
theorem dX5_firstCell_10 : decode cX5_firstCell 10 = .ok (.imul, 1) := by decide +kernel
theorem dX5_firstCell_11 : decode cX5_firstCell 11 = .ok (.iload_n 0, 1) := by decide +kernel
theorem dX5_firstCell_12 : decode cX5_firstCell 12 = .ok (.iconst 4, 1) := by decide +kernel
theorem dX5_firstCell_13 : decode cX5_firstCell 13 = .ok (.irem, 1) := by decide +kernel
theorem dX5_firstCell_14 : decode cX5_firstCell 14 = .ok (.iadd, 1) := by decide +kernel
theorem dX5_firstCell_15 : decode cX5_firstCell 15 = .ok (.ireturn, 1) := by decide +kernel
theorem dX5_firstCell_16 : decode cX5_firstCell 16 = .ok (.iload_n 0, 1) := by decide +kernel
theorem dX5_firstCell_17 : decode cX5_firstCell 17 = .ok (.bipush 20, 2) := by decide +kernel
theorem dX5_firstCell_19 : decode cX5_firstCell 19 = .ok (.isub, 1) := by decide +kernel
theorem dX5_firstCell_20 : decode cX5_firstCell 20 = .ok (.ireturn, 1) := by decide +kernel
theorem dX5_secondCell_0 : decode cX5_secondCell 0 = .ok (.iload_n 0, 1) := by decide +kernel
theorem dX5_secondCell_1 : decode cX5_secondCell 1 = .ok (.invokestatic 196, 3) := by decide +kernel
theorem dX5_secondCell_4 : decode cX5_secondCell 4 = .ok (.iload_n 0, 1) := by decide +kernel
theorem dX5_secondCell_5 : decode cX5_secondCell 5 = .ok (.bipush 20, 2) := by decide +kernel
theorem dX5_secondCell_7 : decode cX5_secondCell 7 = .ok (.if_icmp .ge 7, 3) := by decide +kernel
theorem dX5_secondCell_10 : decode cX5_secondCell 10 = .ok (.iconst 1, 1) := by decide +kernel
theorem dX5_secondCell_11 : decode cX5_secondCell 11 = .ok (.goto 4, 3) := by decide +kernel
theorem dX5_secondCell_14 : decode cX5_secondCell 14 = .ok (.iconst 5, 1) := by decide +kernel
theorem dX5_secondCell_15 : decode cX5_secondCell 15 = .ok (.iadd, 1) := by decide +kernel
theorem dX5_secondCell_16 : decode cX5_secondCell 16 = .ok (.ireturn, 1) := by decide +kernel
theorem dX6_init_0 : decode cX6_init 0 = .ok (.aload_n 0, 1) := by decide +kernel
theorem dX6_init_1 : decode cX6_init 1 = .ok (.invokespecial 1, 3) := by decide +kernel
theorem dX6_init_4 : decode cX6_init 4 = .ok (.aload_n 0, 1) := by decide +kernel
theorem dX6_init_5 : decode cX6_init 5 = .ok (.sipush 240, 3) := by decide +kernel
theorem dX6_init_8 : decode cX6_init 8 = .ok (.newarray .int, 2) := by decide +kernel
theorem dX6_init_10 : decode cX6_init 10 = .ok (.putfield 7, 3) := by decide +kernel
theorem dX6_init_13 : decode cX6_init 13 = .ok (.aload_n 0, 1) := by decide +kernel
theorem dX6_init_14 : decode cX6_init 14 = .ok (.bipush 6, 2) := by decide +kernel
theorem dX6_init_16 : decode cX6_init 16 = .ok (.newarray .int, 2) := by decide +kernel
theorem dX6_init_18 : decode cX6_init 18 = .ok (.putfield 13, 3) := by decide +kernel
theorem dX6_init_21 : decode cX6_init 21 = .ok (.aload_n 0, 1) := by decide +kernel
theorem dX6_init_22 : decode cX6_init 22 = .ok (.bipush 6, 2) := by decide +kernel
theorem dX6_init_24 : decode cX6_init 24 = .ok (.newarray .int, 2) := by decide +kernel
theorem dX6_init_26 : decode cX6_init 26 = .ok (.putfield 16, 3) := by decide +kernel
theorem dX6_init_29 : decode cX6_init 29 = .ok (.aload_n 0, 1) := by decide +kernel
theorem dX6_init_30 : decode cX6_init 30 = .ok (.bipush 6, 2) := by decide +kernel
theorem dX6_init_32 : decode cX6_init 32 = .ok (.newarray .int, 2) := by decide +kernel
theorem dX6_init_34 : decode cX6_init 34 = .ok (.putfield 19, 3) := by decide +kernel
theorem dX6_init_37 : decode cX6_init 37 = .ok (.aload_n 0, 1) := by decide +kernel
theorem dX6_init_38 : decode cX6_init 38 = .ok (.bipush 6, 2) := by decide +kernel
theorem dX6_init_40 : decode cX6_init 40 = .ok (.newarray .int, 2) := by decide +kernel
theorem dX6_init_42 : decode cX6_init 42 = .ok (.putfield 22, 3) := by decide +kernel
theorem dX6_init_45 : decode cX6_init 45 = .ok (.aload_n 0, 1) := by decide +kernel
theorem dX6_init_46 : decode cX6_init 46 = .ok (.sipush 240, 3) := by decide +kernel
theorem dX6_init_49 : decode cX6_init 49 = .ok (.newarray .int, 2) := by decide +kernel
theorem dX6_init_51 : decode cX6_init 51 = .ok (.putfield 25, 3) := by decide +kernel
theorem dX6_init_54 : decode cX6_init 54 = .ok (.aload_n 0, 1) := by decide +kernel
theorem dX6_init_55 : decode cX6_init 55 = .ok (.bipush 6, 2) := by decide +kernel
theorem dX6_init_57 : decode cX6_init 57 = .ok (.newarray .int, 2) := by decide +kernel
theorem dX6_init_59 : decode cX6_init 59 = .ok (.putfield 28, 3) := by decide +kernel
theorem dX6_init_62 : decode cX6_init 62 = .ok (.aload_n 0, 1) := by decide +kernel
theorem dX6_init_63 : decode cX6_init 63 = .ok (.bipush 25, 2) := by decide +kernel
theorem dX6_init_65 : decode cX6_init 65 = .ok (.newarray .int, 2) := by decide +kernel
theorem dX6_init_67 : decode cX6_init 67 = .ok (.putfield 31, 3) := by decide +kernel
theorem dX6_init_70 : decode cX6_init 70 = .ok (.aload_n 0, 1) := by decide +kernel
theorem dX6_init_71 : decode cX6_init 71 = .ok (.bipush 25, 2) := by decide +kernel
theorem dX6_init_73 : decode cX6_init 73 = .ok (.newarray .int, 2) := by decide +kernel
theorem dX6_init_75 : decode cX6_init 75 = .ok (.putfield 34, 3) := by decide +kernel
theorem dX6_init_78 : decode cX6_init 78 = .ok (.aload_n 0, 1) := by decide +kernel
theorem dX6_init_79 : decode cX6_init 79 = .ok (.bipush 20, 2) := by decide +kernel
theorem dX6_init_81 : decode cX6_init 81 = .ok (.newarray .int, 2) := by decide +kernel
theorem dX6_init_83 : decode cX6_init 83 = .ok (.putfield 37, 3) := by decide +kernel
theorem dX6_init_86 : decode cX6_init 86 = .ok (.aload_n 0, 1) := by decide +kernel
theorem dX6_init_87 : decode cX6_init 87 = .ok (.sipush 800, 3) := by decide +kernel
theorem dX6_init_90 : decode cX6_init 90 = .ok (.newarray .int, 2) := by decide +kernel
theorem dX6_init_92 : decode cX6_init 92 = .ok (.putfield 40, 3) := by decide +kernel
theorem dX6_init_95 : decode cX6_init 95 = .ok (.aload_n 0, 1) := by decide +kernel
theorem dX6_init_96 : decode cX6_init 96 = .ok (.bipush 20, 2) := by decide +kernel
theorem dX6_init_98 : decode cX6_init 98 = .ok (.newarray .int, 2) := by decide +kernel
theorem dX6_init_100 : decode cX6_init 100 = .ok (.putfield 43, 3) := by decide +kernel
theorem dX6_init_103 : decode cX6_init 103 = .ok (.aload_n 0, 1) := by decide +kernel
theorem dX6_init_104 : decode cX6_init 104 = .ok (.bipush 30, 2) := by decide +kernel
theorem dX6_init_106 : decode cX6_init 106 = .ok (.newarray .int, 2) := by decide +kernel
theorem dX6_init_108 : decode cX6_init 108 = .ok (.putfield 46, 3) := by decide +kernel
theorem dX6_init_111 : decode cX6_init 111 = .ok (.aload_n 0, 1) := by decide +kernel
theorem dX6_init_112 : decode cX6_init 112 = .ok (.sipush 1200, 3) := by decide +kernel
theorem dX6_init_115 : decode cX6_init 115 = .ok (.newarray .int, 2) := by decide +kernel
theorem dX6_init_117 : decode cX6_init 117 = .ok (.putfield 49, 3) := by decide +kernel
theorem dX6_init_120 : decode cX6_init 120 = .ok (.aload_n 0, 1) := by decide +kernel
theorem dX6_init_121 : decode cX6_init 121 = .ok (.bipush 30, 2) := by decide +kernel
theorem dX6_init_123 : decode cX6_init 123 = .ok (.newarray .int, 2) := by decide +kernel
theorem dX6_init_125 : decode cX6_init 125 = .ok (.putfield 52, 3) := by decide +kernel
theorem dX6_init_128 : decode cX6_init 128 = .ok (.aload_n 0, 1) := by decide +kernel
theorem dX6_init_129 : decode cX6_init 129 = .ok (.bipush 30, 2) := by decide +kernel
theorem dX6_init_131 : decode cX6_init 131 = .ok (.newarray .int, 2) := by decide +kernel
theorem dX6_init_133 : decode cX6_init 133 = .ok (.putfield 55, 3) := by decide +kernel
theorem dX6_init_136 : decode cX6_init 136 = .ok (.return_, 1) := by decide +kernel
theorem dX6_thrown_0 : decode cX6_thrown 0 = .ok (.aload_n 0, 1) := by decide +kernel
theorem dX6_thrown_1 : decode cX6_thrown 1 = .ok (.getfield 58, 3) := by decide +kernel
theorem dX6_thrown_4 : decode cX6_thrown 4 = .ok (.ireturn, 1) := by decide +kernel
theorem dX6_isIn_0 : decode cX6_isIn 0 = .ok (.iload_n 0, 1) := by decide +kernel
theorem dX6_isIn_1 : decode cX6_isIn 1 = .ok (.iload_n 1, 1) := by decide +kernel
theorem dX6_isIn_2 : decode cX6_isIn 2 = .ok (.if_icmp .lt 12, 3) := by decide +kernel
theorem dX6_isIn_5 : decode cX6_isIn 5 = .ok (.iload_n 0, 1) := by decide +kernel
theorem dX6_isIn_6 : decode cX6_isIn 6 = .ok (.iload_n 2, 1) := by decide +kernel
theorem dX6_isIn_7 : decode cX6_isIn 7 = .ok (.if_icmp .gt 7, 3) := by decide +kernel
theorem dX6_isIn_10 : decode cX6_isIn 10 = .ok (.iconst 1, 1) := by decide +kernel
theorem dX6_isIn_11 : decode cX6_isIn 11 = .ok (.goto 4, 3) := by decide +kernel
theorem dX6_isIn_14 : decode cX6_isIn 14 = .ok (.iconst 0, 1) := by decide +kernel
theorem dX6_isIn_15 : decode cX6_isIn 15 = .ok (.ireturn, 1) := by decide +kernel
theorem dX6_isDrawing_0 : decode cX6_isDrawing 0 = .ok (.iload_n 1, 1) := by decide +kernel
theorem dX6_isDrawing_1 : decode cX6_isDrawing 1 = .ok (.iconst 0, 1) := by decide +kernel
theorem dX6_isDrawing_2 : decode cX6_isDrawing 2 = .ok (.aload_n 0, 1) := by decide +kernel
theorem dX6_isDrawing_3 : decode cX6_isDrawing 3 = .ok (.getfield 62, 3) := by decide +kernel
theorem dX6_isDrawing_6 : decode cX6_isDrawing 6 = .ok (.iconst 1, 1) := by decide +kernel
theorem dX6_isDrawing_7 : decode cX6_isDrawing 7 = .ok (.isub, 1) := by decide +kernel
theorem dX6_isDrawing_8 : decode cX6_isDrawing 8 = .ok (.invokestatic 65, 3) := by decide +kernel
theorem dX6_isDrawing_11 : decode cX6_isDrawing 11 = .ok (.ireturn, 1) := by decide +kernel
theorem dX6_isPerson_0 : decode cX6_isPerson 0 = .ok (.iload_n 0, 1) := by decide +kernel
theorem dX6_isPerson_1 : decode cX6_isPerson 1 = .ok (.iconst 0, 1) := by decide +kernel
theorem dX6_isPerson_2 : decode cX6_isPerson 2 = .ok (.iconst 5, 1) := by decide +kernel
theorem dX6_isPerson_3 : decode cX6_isPerson 3 = .ok (.invokestatic 65, 3) := by decide +kernel
theorem dX6_isPerson_6 : decode cX6_isPerson 6 = .ok (.ireturn, 1) := by decide +kernel
theorem dX6_changer_0 : decode cX6_changer 0 = .ok (.aload_n 0, 1) := by decide +kernel
theorem dX6_changer_1 : decode cX6_changer 1 = .ok (.getfield 22, 3) := by decide +kernel
theorem dX6_changer_4 : decode cX6_changer 4 = .ok (.iload_n 1, 1) := by decide +kernel
theorem dX6_changer_5 : decode cX6_changer 5 = .ok (.iaload, 1) := by decide +kernel
theorem dX6_changer_6 : decode cX6_changer 6 = .ok (.ifCond .lt 12, 3) := by decide +kernel
theorem dX6_changer_9 : decode cX6_changer 9 = .ok (.aload_n 0, 1) := by decide +kernel
theorem dX6_changer_10 : decode cX6_changer 10 = .ok (.getfield 22, 3) := by decide +kernel
theorem dX6_changer_13 : decode cX6_changer 13 = .ok (.iload_n 1, 1) := by decide +kernel
theorem dX6_changer_14 : decode cX6_changer 14 = .ok (.iaload, 1) := by decide +kernel
theorem dX6_changer_15 : decode cX6_changer 15 = .ok (.goto 9, 3) := by decide +kernel
theorem dX6_changer_18 : decode cX6_changer 18 = .ok (.aload_n 0, 1) := by decide +kernel
theorem dX6_changer_19 : decode cX6_changer 19 = .ok (.getfield 19, 3) := by decide +kernel
theorem dX6_changer_22 : decode cX6_changer 22 = .ok (.iload_n 1, 1) := by decide +kernel
theorem dX6_changer_23 : decode cX6_changer 23 = .ok (.iaload, 1) := by decide +kernel
theorem dX6_changer_24 : decode cX6_changer 24 = .ok (.ireturn, 1) := by decide +kernel
theorem dX6_found_0 : decode cX6_found 0 = .ok (.aload_n 0, 1) := by decide +kernel
theorem dX6_found_1 : decode cX6_found 1 = .ok (.getfield 7, 3) := by decide +kernel
theorem dX6_found_4 : decode cX6_found 4 = .ok (.bipush 40, 2) := by decide +kernel
theorem dX6_found_6 : decode cX6_found 6 = .ok (.iload_n 1, 1) := by decide +kernel
theorem dX6_found_7 : decode cX6_found 7 = .ok (.imul, 1) := by decide +kernel
theorem dX6_found_8 : decode cX6_found 8 = .ok (.iload_n 2, 1) := by decide +kernel
theorem dX6_found_9 : decode cX6_found 9 = .ok (.iadd, 1) := by decide +kernel
theorem dX6_found_10 : decode cX6_found 10 = .ok (.iaload, 1) := by decide +kernel
theorem dX6_found_11 : decode cX6_found 11 = .ok (.istore_n 3, 1) := by decide +kernel
theorem dX6_found_12 : decode cX6_found 12 = .ok (.iconst 0, 1) := by decide +kernel
theorem dX6_found_13 : decode cX6_found 13 = .ok (.istore 4, 2) := by decide +kernel
theorem dX6_found_15 : decode cX6_found 15 = .ok (.iload 4, 2) := by decide +kernel
theorem dX6_found_17 : decode cX6_found 17 = .ok (.aload_n 0, 1) := by decide +kernel
theorem dX6_found_18 : decode cX6_found 18 = .ok (.getfield 62, 3) := by decide +kernel
theorem dX6_found_21 : decode cX6_found 21 = .ok (.if_icmp .ge 45, 3) := by decide +kernel
theorem dX6_found_24 : decode cX6_found 24 = .ok (.iload_n 3, 1) := by decide +kernel
theorem dX6_found_25 : decode cX6_found 25 = .ok (.ifCond .ge 41, 3) := by decide +kernel
theorem dX6_found_28 : decode cX6_found 28 = .ok (.aload_n 0, 1) := by decide +kernel
theorem dX6_found_29 : decode cX6_found 29 = .ok (.getfield 16, 3) := by decide +kernel
theorem dX6_found_32 : decode cX6_found 32 = .ok (.iload_n 1, 1) := by decide +kernel
theorem dX6_found_33 : decode cX6_found 33 = .ok (.iaload, 1) := by decide +kernel
theorem dX6_found_34 : decode cX6_found 34 = .ok (.iload 4, 2) := by decide +kernel
theorem dX6_found_36 : decode cX6_found 36 = .ok (.ishr, 1) := by decide +kernel
theorem dX6_found_37 : decode cX6_found 37 = .ok (.iconst 1, 1) := by decide +kernel
theorem dX6_found_38 : decode cX6_found 38 = .ok (.iand, 1) := by decide +kernel
theorem dX6_found_39 : decode cX6_found 39 = .ok (.iconst 1, 1) := by decide +kernel
theorem dX6_found_40 : decode cX6_found 40 = .ok (.if_icmp .ne 18, 3) := by decide +kernel
theorem dX6_found_43 : decode cX6_found 43 = .ok (.aload_n 0, 1) := by decide +kernel
theorem dX6_found_44 : decode cX6_found 44 = .ok (.getfield 25, 3) := by decide +kernel
theorem dX6_found_47 : decode cX6_found 47 = .ok (.bipush 40, 2) := by decide +kernel
theorem dX6_found_49 : decode cX6_found 49 = .ok (.iload 4, 2) := by decide +kernel
theorem dX6_found_51 : decode cX6_found 51 = .ok (.imul, 1) := by decide +kernel
theorem dX6_found_52 : decode cX6_found 52 = .ok (.iload_n 2, 1) := by decide +kernel
theorem dX6_found_53 : decode cX6_found 53 = .ok (.iadd, 1) := by decide +kernel
theorem dX6_found_54 : decode cX6_found 54 = .ok (.iaload, 1) := by decide +kernel
theorem dX6_found_55 : decode cX6_found 55 = .ok (.goto 4, 3) := by decide +kernel
theorem dX6_found_58 : decode cX6_found 58 = .ok (.iload_n 3, 1) := by decide +kernel
theorem dX6_found_59 : decode cX6_found 59 = .ok (.istore_n 3, 1) := by decide +kernel
theorem dX6_found_60 : decode cX6_found 60 = .ok (.iinc 4 1, 3) := by decide +kernel
theorem dX6_found_63 : decode cX6_found 63 = .ok (.goto (-48), 3) := by decide +kernel
theorem dX6_found_66 : decode cX6_found 66 = .ok (.iload_n 3, 1) := by decide +kernel
theorem dX6_found_67 : decode cX6_found 67 = .ok (.ireturn, 1) := by decide +kernel
theorem dX6_finds_0 : decode cX6_finds 0 = .ok (.iconst 0, 1) := by decide +kernel
theorem dX6_finds_1 : decode cX6_finds 1 = .ok (.istore_n 1, 1) := by decide +kernel
theorem dX6_finds_2 : decode cX6_finds 2 = .ok (.iload_n 1, 1) := by decide +kernel
theorem dX6_finds_3 : decode cX6_finds 3 = .ok (.bipush 6, 2) := by decide +kernel
theorem dX6_finds_5 : decode cX6_finds 5 = .ok (.if_icmp .ge 152, 3) := by decide +kernel
theorem dX6_finds_8 : decode cX6_finds 8 = .ok (.iconst 0, 1) := by decide +kernel
theorem dX6_finds_9 : decode cX6_finds 9 = .ok (.istore_n 2, 1) := by decide +kernel
theorem dX6_finds_10 : decode cX6_finds 10 = .ok (.iload_n 2, 1) := by decide +kernel
theorem dX6_finds_11 : decode cX6_finds 11 = .ok (.aload_n 0, 1) := by decide +kernel
theorem dX6_finds_12 : decode cX6_finds 12 = .ok (.getfield 62, 3) := by decide +kernel
theorem dX6_finds_15 : decode cX6_finds 15 = .ok (.if_icmp .ge 136, 3) := by decide +kernel
theorem dX6_finds_18 : decode cX6_finds 18 = .ok (.iconst 0, 1) := by decide +kernel
theorem dX6_finds_19 : decode cX6_finds 19 = .ok (.istore_n 3, 1) := by decide +kernel
theorem dX6_finds_20 : decode cX6_finds 20 = .ok (.iload_n 3, 1) := by decide +kernel
theorem dX6_finds_21 : decode cX6_finds 21 = .ok (.bipush 40, 2) := by decide +kernel
theorem dX6_finds_23 : decode cX6_finds 23 = .ok (.if_icmp .ge 44, 3) := by decide +kernel
theorem dX6_finds_26 : decode cX6_finds 26 = .ok (.aload_n 0, 1) := by decide +kernel
theorem dX6_finds_27 : decode cX6_finds 27 = .ok (.getfield 25, 3) := by decide +kernel
theorem dX6_finds_30 : decode cX6_finds 30 = .ok (.bipush 40, 2) := by decide +kernel
theorem dX6_finds_32 : decode cX6_finds 32 = .ok (.iload_n 2, 1) := by decide +kernel
theorem dX6_finds_33 : decode cX6_finds 33 = .ok (.imul, 1) := by decide +kernel
theorem dX6_finds_34 : decode cX6_finds 34 = .ok (.iload_n 3, 1) := by decide +kernel
theorem dX6_finds_35 : decode cX6_finds 35 = .ok (.iadd, 1) := by decide +kernel
theorem dX6_finds_36 : decode cX6_finds 36 = .ok (.iload_n 1, 1) := by decide +kernel
theorem dX6_finds_37 : decode cX6_finds 37 = .ok (.ifCond .ne 17, 3) := by decide +kernel
theorem dX6_finds_40 : decode cX6_finds 40 = .ok (.aload_n 0, 1) := by decide +kernel
theorem dX6_finds_41 : decode cX6_finds 41 = .ok (.getfield 7, 3) := by decide +kernel
theorem dX6_finds_44 : decode cX6_finds 44 = .ok (.bipush 40, 2) := by decide +kernel
theorem dX6_finds_46 : decode cX6_finds 46 = .ok (.iload_n 2, 1) := by decide +kernel
theorem dX6_finds_47 : decode cX6_finds 47 = .ok (.imul, 1) := by decide +kernel
theorem dX6_finds_48 : decode cX6_finds 48 = .ok (.iload_n 3, 1) := by decide +kernel
theorem dX6_finds_49 : decode cX6_finds 49 = .ok (.iadd, 1) := by decide +kernel
theorem dX6_finds_50 : decode cX6_finds 50 = .ok (.iaload, 1) := by decide +kernel
theorem dX6_finds_51 : decode cX6_finds 51 = .ok (.goto 9, 3) := by decide +kernel
theorem dX6_finds_54 : decode cX6_finds 54 = .ok (.aload_n 0, 1) := by decide +kernel
theorem dX6_finds_55 : decode cX6_finds 55 = .ok (.iload_n 2, 1) := by decide +kernel
theorem dX6_finds_56 : decode cX6_finds 56 = .ok (.iload_n 3, 1) := by decide +kernel
theorem dX6_finds_57 : decode cX6_finds 57 = .ok (.invokevirtual 69, 3) := by decide +kernel
theorem dX6_finds_60 : decode cX6_finds 60 = .ok (.iastore, 1) := by decide +kernel
theorem dX6_finds_61 : decode cX6_finds 61 = .ok (.iinc 3 1, 3) := by decide +kernel
theorem dX6_finds_64 : decode cX6_finds 64 = .ok (.goto (-44), 3) := by decide +kernel
theorem dX6_finds_67 : decode cX6_finds 67 = .ok (.aload_n 0, 1) := by decide +kernel
theorem dX6_finds_68 : decode cX6_finds 68 = .ok (.getfield 28, 3) := by decide +kernel
theorem dX6_finds_71 : decode cX6_finds 71 = .ok (.iload_n 2, 1) := by decide +kernel
theorem dX6_finds_72 : decode cX6_finds 72 = .ok (.iload_n 1, 1) := by decide +kernel
theorem dX6_finds_73 : decode cX6_finds 73 = .ok (.ifCond .ne 12, 3) := by decide +kernel
theorem dX6_finds_76 : decode cX6_finds 76 = .ok (.aload_n 0, 1) := by decide +kernel
theorem dX6_finds_77 : decode cX6_finds 77 = .ok (.getfield 13, 3) := by decide +kernel
theorem dX6_finds_80 : decode cX6_finds 80 = .ok (.iload_n 2, 1) := by decide +kernel
theorem dX6_finds_81 : decode cX6_finds 81 = .ok (.iaload, 1) := by decide +kernel
theorem dX6_finds_82 : decode cX6_finds 82 = .ok (.goto 9, 3) := by decide +kernel
theorem dX6_finds_85 : decode cX6_finds 85 = .ok (.aload_n 0, 1) := by decide +kernel
theorem dX6_finds_86 : decode cX6_finds 86 = .ok (.getfield 28, 3) := by decide +kernel
theorem dX6_finds_89 : decode cX6_finds 89 = .ok (.iload_n 2, 1) := by decide +kernel
theorem dX6_finds_90 : decode cX6_finds 90 = .ok (.iaload, 1) := by decide +kernel
theorem dX6_finds_91 : decode cX6_finds 91 = .ok (.iastore, 1) := by decide +kernel
theorem dX6_finds_92 : decode cX6_finds 92 = .ok (.iconst 0, 1) := by decide +kernel
theorem dX6_finds_93 : decode cX6_finds 93 = .ok (.istore_n 3, 1) := by decide +kernel
theorem dX6_finds_94 : decode cX6_finds 94 = .ok (.iload_n 3, 1) := by decide +kernel
theorem dX6_finds_95 : decode cX6_finds 95 = .ok (.aload_n 0, 1) := by decide +kernel
theorem dX6_finds_96 : decode cX6_finds 96 = .ok (.getfield 62, 3) := by decide +kernel
theorem dX6_finds_99 : decode cX6_finds 99 = .ok (.if_icmp .ge 46, 3) := by decide +kernel
theorem dX6_finds_102 : decode cX6_finds 102 = .ok (.aload_n 0, 1) := by decide +kernel
theorem dX6_finds_103 : decode cX6_finds 103 = .ok (.getfield 28, 3) := by decide +kernel
theorem dX6_finds_106 : decode cX6_finds 106 = .ok (.iload_n 2, 1) := by decide +kernel
theorem dX6_finds_107 : decode cX6_finds 107 = .ok (.dup2, 1) := by decide +kernel
theorem dX6_finds_108 : decode cX6_finds 108 = .ok (.iaload, 1) := by decide +kernel
theorem dX6_finds_109 : decode cX6_finds 109 = .ok (.iload_n 1, 1) := by decide +kernel
theorem dX6_finds_110 : decode cX6_finds 110 = .ok (.ifCond .le 26, 3) := by decide +kernel
theorem dX6_finds_113 : decode cX6_finds 113 = .ok (.aload_n 0, 1) := by decide +kernel
theorem dX6_finds_114 : decode cX6_finds 114 = .ok (.getfield 16, 3) := by decide +kernel
theorem dX6_finds_117 : decode cX6_finds 117 = .ok (.iload_n 2, 1) := by decide +kernel
theorem dX6_finds_118 : decode cX6_finds 118 = .ok (.iaload, 1) := by decide +kernel
theorem dX6_finds_119 : decode cX6_finds 119 = .ok (.iload_n 3, 1) := by decide +kernel
theorem dX6_finds_120 : decode cX6_finds 120 = .ok (.ishr, 1) := by decide +kernel
theorem dX6_finds_121 : decode cX6_finds 121 = .ok (.iconst 1, 1) := by decide +kernel
theorem dX6_finds_122 : decode cX6_finds 122 = .ok (.iand, 1) := by decide +kernel
theorem dX6_finds_123 : decode cX6_finds 123 = .ok (.iconst 1, 1) := by decide +kernel
theorem dX6_finds_124 : decode cX6_finds 124 = .ok (.if_icmp .ne 12, 3) := by decide +kernel
theorem dX6_finds_127 : decode cX6_finds 127 = .ok (.aload_n 0, 1) := by decide +kernel
theorem dX6_finds_128 : decode cX6_finds 128 = .ok (.getfield 28, 3) := by decide +kernel
theorem dX6_finds_131 : decode cX6_finds 131 = .ok (.iload_n 3, 1) := by decide +kernel
theorem dX6_finds_132 : decode cX6_finds 132 = .ok (.iaload, 1) := by decide +kernel
theorem dX6_finds_133 : decode cX6_finds 133 = .ok (.goto 4, 3) := by decide +kernel
theorem dX6_finds_136 : decode cX6_finds 136 = .ok (.iconst 0, 1) := by decide +kernel
theorem dX6_finds_137 : decode cX6_finds 137 = .ok (.ior, 1) := by decide +kernel
theorem dX6_finds_138 : decode cX6_finds 138 = .ok (.iastore, 1) := by decide +kernel
theorem dX6_finds_139 : decode cX6_finds 139 = .ok (.iinc 3 1, 3) := by decide +kernel
theorem dX6_finds_142 : decode cX6_finds 142 = .ok (.goto (-48), 3) := by decide +kernel
theorem dX6_finds_145 : decode cX6_finds 145 = .ok (.iinc 2 1, 3) := by decide +kernel
theorem dX6_finds_148 : decode cX6_finds 148 = .ok (.goto (-138), 3) := by decide +kernel
theorem dX6_finds_151 : decode cX6_finds 151 = .ok (.iinc 1 1, 3) := by decide +kernel
theorem dX6_finds_154 : decode cX6_finds 154 = .ok (.goto (-152), 3) := by decide +kernel
theorem dX6_finds_157 : decode cX6_finds 157 = .ok (.return_, 1) := by decide +kernel
theorem dX6_low_0 : decode cX6_low 0 = .ok (.iload_n 0, 1) := by decide +kernel
theorem dX6_low_1 : decode cX6_low 1 = .ok (.bipush 20, 2) := by decide +kernel
theorem dX6_low_3 : decode cX6_low 3 = .ok (.if_icmp .ge 15, 3) := by decide +kernel
theorem dX6_low_6 : decode cX6_low 6 = .ok (.iload_n 0, 1) := by decide +kernel
theorem dX6_low_7 : decode cX6_low 7 = .ok (.iconst 4, 1) := by decide +kernel
theorem dX6_low_8 : decode cX6_low 8 = .ok (.idiv, 1) := by decide +kernel
theorem dX6_low_9 : decode cX6_low 9 = .ok (.iconst 5, 1) := by decide +kernel
theorem dX6_low_10 : decode cX6_low 10 = .ok (.imul, 1) := by decide +kernel
theorem dX6_low_11 : decode cX6_low 11 = .ok (.iload_n 0, 1) := by decide +kernel
theorem dX6_low_12 : decode cX6_low 12 = .ok (.iconst 4, 1) := by decide +kernel
theorem dX6_low_13 : decode cX6_low 13 = .ok (.irem, 1) := by decide +kernel
theorem dX6_low_14 : decode cX6_low 14 = .ok (.iadd, 1) := by decide +kernel
theorem dX6_low_15 : decode cX6_low 15 = .ok (.goto 7, 3) := by decide +kernel
theorem dX6_low_18 : decode cX6_low 18 = .ok (.iload_n 0, 1) := by decide +kernel
theorem dX6_low_19 : decode cX6_low 19 = .ok (.bipush 20, 2) := by decide +kernel
theorem dX6_low_21 : decode cX6_low 21 = .ok (.isub, 1) := by decide +kernel
theorem dX6_low_22 : decode cX6_low 22 = .ok (.ireturn, 1) := by decide +kernel
theorem dX6_high_0 : decode cX6_high 0 = .ok (.iload_n 0, 1) := by decide +kernel
theorem dX6_high_1 : decode cX6_high 1 = .ok (.bipush 20, 2) := by decide +kernel
theorem dX6_high_3 : decode cX6_high 3 = .ok (.if_icmp .ge 12, 3) := by decide +kernel
theorem dX6_high_6 : decode cX6_high 6 = .ok (.iload_n 0, 1) := by decide +kernel
theorem dX6_high_7 : decode cX6_high 7 = .ok (.invokestatic 73, 3) := by decide +kernel
theorem dX6_high_10 : decode cX6_high 10 = .ok (.iconst 1, 1) := by decide +kernel
theorem dX6_high_11 : decode cX6_high 11 = .ok (.iadd, 1) := by decide +kernel
theorem dX6_high_12 : decode cX6_high 12 = .ok (.goto 7, 3) := by decide +kernel
theorem dX6_high_15 : decode cX6_high 15 = .ok (.iload_n 0, 1) := by decide +kernel
theorem dX6_high_16 : decode cX6_high 16 = .ok (.bipush 15, 2) := by decide +kernel
theorem dX6_high_18 : decode cX6_high 18 = .ok (.isub, 1) := by decide +kernel
theorem dX6_high_19 : decode cX6_high 19 = .ok (.ireturn, 1) := by decide +kernel
theorem dX6_looks_0 : decode cX6_looks 0 = .ok (.aload_n 0, 1) := by decide +kernel
theorem dX6_looks_1 : decode cX6_looks 1 = .ok (.invokevirtual 77, 3) := by decide +kernel
theorem dX6_looks_4 : decode cX6_looks 4 = .ok (.iconst 0, 1) := by decide +kernel
theorem dX6_looks_5 : decode cX6_looks 5 = .ok (.istore_n 2, 1) := by decide +kernel
theorem dX6_looks_6 : decode cX6_looks 6 = .ok (.iload_n 2, 1) := by decide +kernel
theorem dX6_looks_7 : decode cX6_looks 7 = .ok (.bipush 25, 2) := by decide +kernel
theorem dX6_looks_9 : decode cX6_looks 9 = .ok (.if_icmp .ge 16, 3) := by decide +kernel
theorem dX6_looks_12 : decode cX6_looks 12 = .ok (.aload_n 0, 1) := by decide +kernel
theorem dX6_looks_13 : decode cX6_looks 13 = .ok (.getfield 31, 3) := by decide +kernel
theorem dX6_looks_16 : decode cX6_looks 16 = .ok (.iload_n 2, 1) := by decide +kernel
theorem dX6_looks_17 : decode cX6_looks 17 = .ok (.iload_n 2, 1) := by decide +kernel
theorem dX6_looks_18 : decode cX6_looks 18 = .ok (.iastore, 1) := by decide +kernel
theorem dX6_looks_19 : decode cX6_looks 19 = .ok (.iinc 2 1, 3) := by decide +kernel
theorem dX6_looks_22 : decode cX6_looks 22 = .ok (.goto (-16), 3) := by decide +kernel
theorem dX6_looks_25 : decode cX6_looks 25 = .ok (.iconst 0, 1) := by decide +kernel
theorem dX6_looks_26 : decode cX6_looks 26 = .ok (.istore_n 2, 1) := by decide +kernel
theorem dX6_looks_27 : decode cX6_looks 27 = .ok (.iload_n 2, 1) := by decide +kernel
theorem dX6_looks_28 : decode cX6_looks 28 = .ok (.bipush 25, 2) := by decide +kernel
theorem dX6_looks_30 : decode cX6_looks 30 = .ok (.if_icmp .ge 104, 3) := by decide +kernel
theorem dX6_looks_33 : decode cX6_looks 33 = .ok (.iconst 0, 1) := by decide +kernel
theorem dX6_looks_34 : decode cX6_looks 34 = .ok (.istore_n 3, 1) := by decide +kernel
theorem dX6_looks_35 : decode cX6_looks 35 = .ok (.iload_n 3, 1) := by decide +kernel
theorem dX6_looks_36 : decode cX6_looks 36 = .ok (.bipush 40, 2) := by decide +kernel
theorem dX6_looks_38 : decode cX6_looks 38 = .ok (.if_icmp .ge 90, 3) := by decide +kernel
theorem dX6_looks_41 : decode cX6_looks 41 = .ok (.aload_n 0, 1) := by decide +kernel
theorem dX6_looks_42 : decode cX6_looks 42 = .ok (.getfield 25, 3) := by decide +kernel
theorem dX6_looks_45 : decode cX6_looks 45 = .ok (.bipush 40, 2) := by decide +kernel
theorem dX6_looks_47 : decode cX6_looks 47 = .ok (.iload_n 1, 1) := by decide +kernel
theorem dX6_looks_48 : decode cX6_looks 48 = .ok (.imul, 1) := by decide +kernel
theorem dX6_looks_49 : decode cX6_looks 49 = .ok (.iload_n 3, 1) := by decide +kernel
theorem dX6_looks_50 : decode cX6_looks 50 = .ok (.iadd, 1) := by decide +kernel
theorem dX6_looks_51 : decode cX6_looks 51 = .ok (.iaload, 1) := by decide +kernel
theorem dX6_looks_52 : decode cX6_looks 52 = .ok (.iconst 1, 1) := by decide +kernel
theorem dX6_looks_53 : decode cX6_looks 53 = .ok (.if_icmp .ge 69, 3) := by decide +kernel
theorem dX6_looks_56 : decode cX6_looks 56 = .ok (.aload_n 0, 1) := by decide +kernel
theorem dX6_looks_57 : decode cX6_looks 57 = .ok (.getfield 31, 3) := by decide +kernel
theorem dX6_looks_60 : decode cX6_looks 60 = .ok (.iload_n 3, 1) := by decide +kernel
theorem dX6_looks_61 : decode cX6_looks 61 = .ok (.invokestatic 73, 3) := by decide +kernel
theorem dX6_looks_64 : decode cX6_looks 64 = .ok (.iaload, 1) := by decide +kernel
theorem dX6_looks_65 : decode cX6_looks 65 = .ok (.aload_n 0, 1) := by decide +kernel
theorem dX6_looks_66 : decode cX6_looks 66 = .ok (.getfield 31, 3) := by decide +kernel
theorem dX6_looks_69 : decode cX6_looks 69 = .ok (.iload_n 3, 1) := by decide +kernel
theorem dX6_looks_70 : decode cX6_looks 70 = .ok (.invokestatic 80, 3) := by decide +kernel
theorem dX6_looks_73 : decode cX6_looks 73 = .ok (.iaload, 1) := by decide +kernel
theorem dX6_looks_74 : decode cX6_looks 74 = .ok (.if_icmp .ge 15, 3) := by decide +kernel
theorem dX6_looks_77 : decode cX6_looks 77 = .ok (.aload_n 0, 1) := by decide +kernel
theorem dX6_looks_78 : decode cX6_looks 78 = .ok (.getfield 31, 3) := by decide +kernel
theorem dX6_looks_81 : decode cX6_looks 81 = .ok (.iload_n 3, 1) := by decide +kernel
theorem dX6_looks_82 : decode cX6_looks 82 = .ok (.invokestatic 73, 3) := by decide +kernel
theorem dX6_looks_85 : decode cX6_looks 85 = .ok (.iaload, 1) := by decide +kernel
theorem dX6_looks_86 : decode cX6_looks 86 = .ok (.goto 12, 3) := by decide +kernel
theorem dX6_looks_89 : decode cX6_looks 89 = .ok (.aload_n 0, 1) := by decide +kernel
theorem dX6_looks_90 : decode cX6_looks 90 = .ok (.getfield 31, 3) := by decide +kernel
theorem dX6_looks_93 : decode cX6_looks 93 = .ok (.iload_n 3, 1) := by decide +kernel
theorem dX6_looks_94 : decode cX6_looks 94 = .ok (.invokestatic 80, 3) := by decide +kernel
theorem dX6_looks_97 : decode cX6_looks 97 = .ok (.iaload, 1) := by decide +kernel
theorem dX6_looks_98 : decode cX6_looks 98 = .ok (.istore 4, 2) := by decide +kernel
theorem dX6_looks_100 : decode cX6_looks 100 = .ok (.aload_n 0, 1) := by decide +kernel
theorem dX6_looks_101 : decode cX6_looks 101 = .ok (.getfield 31, 3) := by decide +kernel
theorem dX6_looks_104 : decode cX6_looks 104 = .ok (.iload_n 3, 1) := by decide +kernel
theorem dX6_looks_105 : decode cX6_looks 105 = .ok (.invokestatic 73, 3) := by decide +kernel
theorem dX6_looks_108 : decode cX6_looks 108 = .ok (.iload 4, 2) := by decide +kernel
theorem dX6_looks_110 : decode cX6_looks 110 = .ok (.iastore, 1) := by decide +kernel
theorem dX6_looks_111 : decode cX6_looks 111 = .ok (.aload_n 0, 1) := by decide +kernel
theorem dX6_looks_112 : decode cX6_looks 112 = .ok (.getfield 31, 3) := by decide +kernel
theorem dX6_looks_115 : decode cX6_looks 115 = .ok (.iload_n 3, 1) := by decide +kernel
theorem dX6_looks_116 : decode cX6_looks 116 = .ok (.invokestatic 80, 3) := by decide +kernel
theorem dX6_looks_119 : decode cX6_looks 119 = .ok (.iload 4, 2) := by decide +kernel
theorem dX6_looks_121 : decode cX6_looks 121 = .ok (.iastore, 1) := by decide +kernel
theorem dX6_looks_122 : decode cX6_looks 122 = .ok (.iinc 3 1, 3) := by decide +kernel
theorem dX6_looks_125 : decode cX6_looks 125 = .ok (.goto (-90), 3) := by decide +kernel
theorem dX6_looks_128 : decode cX6_looks 128 = .ok (.iinc 2 1, 3) := by decide +kernel
theorem dX6_looks_131 : decode cX6_looks 131 = .ok (.goto (-104), 3) := by decide +kernel
theorem dX6_looks_134 : decode cX6_looks 134 = .ok (.iconst 0, 1) := by decide +kernel
theorem dX6_looks_135 : decode cX6_looks 135 = .ok (.istore_n 2, 1) := by decide +kernel
theorem dX6_looks_136 : decode cX6_looks 136 = .ok (.iload_n 2, 1) := by decide +kernel
theorem dX6_looks_137 : decode cX6_looks 137 = .ok (.bipush 25, 2) := by decide +kernel
theorem dX6_looks_139 : decode cX6_looks 139 = .ok (.if_icmp .ge 17, 3) := by decide +kernel
theorem dX6_looks_142 : decode cX6_looks 142 = .ok (.aload_n 0, 1) := by decide +kernel
theorem dX6_looks_143 : decode cX6_looks 143 = .ok (.getfield 34, 3) := by decide +kernel
theorem dX6_looks_146 : decode cX6_looks 146 = .ok (.iload_n 2, 1) := by decide +kernel
theorem dX6_looks_147 : decode cX6_looks 147 = .ok (.bipush 99, 2) := by decide +kernel
theorem dX6_looks_149 : decode cX6_looks 149 = .ok (.iastore, 1) := by decide +kernel
theorem dX6_looks_150 : decode cX6_looks 150 = .ok (.iinc 2 1, 3) := by decide +kernel
theorem dX6_looks_153 : decode cX6_looks 153 = .ok (.goto (-17), 3) := by decide +kernel
theorem dX6_looks_156 : decode cX6_looks 156 = .ok (.iconst 0, 1) := by decide +kernel
theorem dX6_looks_157 : decode cX6_looks 157 = .ok (.istore_n 2, 1) := by decide +kernel
theorem dX6_looks_158 : decode cX6_looks 158 = .ok (.iload_n 2, 1) := by decide +kernel
theorem dX6_looks_159 : decode cX6_looks 159 = .ok (.bipush 25, 2) := by decide +kernel
theorem dX6_looks_161 : decode cX6_looks 161 = .ok (.if_icmp .ge 49, 3) := by decide +kernel
theorem dX6_looks_164 : decode cX6_looks 164 = .ok (.aload_n 0, 1) := by decide +kernel
theorem dX6_looks_165 : decode cX6_looks 165 = .ok (.getfield 34, 3) := by decide +kernel
theorem dX6_looks_168 : decode cX6_looks 168 = .ok (.aload_n 0, 1) := by decide +kernel
theorem dX6_looks_169 : decode cX6_looks 169 = .ok (.getfield 31, 3) := by decide +kernel
theorem dX6_looks_172 : decode cX6_looks 172 = .ok (.iload_n 2, 1) := by decide +kernel
theorem dX6_looks_173 : decode cX6_looks 173 = .ok (.iaload, 1) := by decide +kernel
theorem dX6_looks_174 : decode cX6_looks 174 = .ok (.aload_n 0, 1) := by decide +kernel
theorem dX6_looks_175 : decode cX6_looks 175 = .ok (.getfield 28, 3) := by decide +kernel
theorem dX6_looks_178 : decode cX6_looks 178 = .ok (.iload_n 1, 1) := by decide +kernel
theorem dX6_looks_179 : decode cX6_looks 179 = .ok (.iaload, 1) := by decide +kernel
theorem dX6_looks_180 : decode cX6_looks 180 = .ok (.iload_n 2, 1) := by decide +kernel
theorem dX6_looks_181 : decode cX6_looks 181 = .ok (.ishr, 1) := by decide +kernel
theorem dX6_looks_182 : decode cX6_looks 182 = .ok (.iconst 1, 1) := by decide +kernel
theorem dX6_looks_183 : decode cX6_looks 183 = .ok (.iand, 1) := by decide +kernel
theorem dX6_looks_184 : decode cX6_looks 184 = .ok (.iconst 1, 1) := by decide +kernel
theorem dX6_looks_185 : decode cX6_looks 185 = .ok (.if_icmp .ne 7, 3) := by decide +kernel
theorem dX6_looks_188 : decode cX6_looks 188 = .ok (.iconst 0, 1) := by decide +kernel
theorem dX6_looks_189 : decode cX6_looks 189 = .ok (.goto 14, 3) := by decide +kernel
theorem dX6_looks_192 : decode cX6_looks 192 = .ok (.aload_n 0, 1) := by decide +kernel
theorem dX6_looks_193 : decode cX6_looks 193 = .ok (.getfield 34, 3) := by decide +kernel
theorem dX6_looks_196 : decode cX6_looks 196 = .ok (.aload_n 0, 1) := by decide +kernel
theorem dX6_looks_197 : decode cX6_looks 197 = .ok (.getfield 31, 3) := by decide +kernel
theorem dX6_looks_200 : decode cX6_looks 200 = .ok (.iload_n 2, 1) := by decide +kernel
theorem dX6_looks_201 : decode cX6_looks 201 = .ok (.iaload, 1) := by decide +kernel
theorem dX6_looks_202 : decode cX6_looks 202 = .ok (.iaload, 1) := by decide +kernel
theorem dX6_looks_203 : decode cX6_looks 203 = .ok (.iastore, 1) := by decide +kernel
theorem dX6_looks_204 : decode cX6_looks 204 = .ok (.iinc 2 1, 3) := by decide +kernel
theorem dX6_looks_207 : decode cX6_looks 207 = .ok (.goto (-49), 3) := by decide +kernel
theorem dX6_looks_210 : decode cX6_looks 210 = .ok (.iconst 0, 1) := by decide +kernel
theorem dX6_looks_211 : decode cX6_looks 211 = .ok (.istore_n 2, 1) := by decide +kernel
theorem dX6_looks_212 : decode cX6_looks 212 = .ok (.iload_n 2, 1) := by decide +kernel
theorem dX6_looks_213 : decode cX6_looks 213 = .ok (.bipush 25, 2) := by decide +kernel
theorem dX6_looks_215 : decode cX6_looks 215 = .ok (.if_icmp .ge 150, 3) := by decide +kernel
theorem dX6_looks_218 : decode cX6_looks 218 = .ok (.iconst 0, 1) := by decide +kernel
theorem dX6_looks_219 : decode cX6_looks 219 = .ok (.istore_n 3, 1) := by decide +kernel
theorem dX6_looks_220 : decode cX6_looks 220 = .ok (.iload_n 3, 1) := by decide +kernel
theorem dX6_looks_221 : decode cX6_looks 221 = .ok (.bipush 40, 2) := by decide +kernel
theorem dX6_looks_223 : decode cX6_looks 223 = .ok (.if_icmp .ge 136, 3) := by decide +kernel
theorem dX6_looks_226 : decode cX6_looks 226 = .ok (.aload_n 0, 1) := by decide +kernel
theorem dX6_looks_227 : decode cX6_looks 227 = .ok (.getfield 25, 3) := by decide +kernel
theorem dX6_looks_230 : decode cX6_looks 230 = .ok (.bipush 40, 2) := by decide +kernel
theorem dX6_looks_232 : decode cX6_looks 232 = .ok (.iload_n 1, 1) := by decide +kernel
theorem dX6_looks_233 : decode cX6_looks 233 = .ok (.imul, 1) := by decide +kernel
theorem dX6_looks_234 : decode cX6_looks 234 = .ok (.iload_n 3, 1) := by decide +kernel
theorem dX6_looks_235 : decode cX6_looks 235 = .ok (.iadd, 1) := by decide +kernel
theorem dX6_looks_236 : decode cX6_looks 236 = .ok (.iaload, 1) := by decide +kernel
theorem dX6_looks_237 : decode cX6_looks 237 = .ok (.iconst 2, 1) := by decide +kernel
theorem dX6_looks_238 : decode cX6_looks 238 = .ok (.if_icmp .ne 115, 3) := by decide +kernel
theorem dX6_looks_241 : decode cX6_looks 241 = .ok (.aload_n 0, 1) := by decide +kernel
theorem dX6_looks_242 : decode cX6_looks 242 = .ok (.getfield 31, 3) := by decide +kernel
theorem dX6_looks_245 : decode cX6_looks 245 = .ok (.iload_n 3, 1) := by decide +kernel
theorem dX6_looks_246 : decode cX6_looks 246 = .ok (.invokestatic 73, 3) := by decide +kernel
theorem dX6_looks_249 : decode cX6_looks 249 = .ok (.iaload, 1) := by decide +kernel
theorem dX6_looks_250 : decode cX6_looks 250 = .ok (.istore 4, 2) := by decide +kernel
theorem dX6_looks_252 : decode cX6_looks 252 = .ok (.aload_n 0, 1) := by decide +kernel
theorem dX6_looks_253 : decode cX6_looks 253 = .ok (.getfield 31, 3) := by decide +kernel
theorem dX6_looks_256 : decode cX6_looks 256 = .ok (.iload_n 3, 1) := by decide +kernel
theorem dX6_looks_257 : decode cX6_looks 257 = .ok (.invokestatic 80, 3) := by decide +kernel
theorem dX6_looks_260 : decode cX6_looks 260 = .ok (.iaload, 1) := by decide +kernel
theorem dX6_looks_261 : decode cX6_looks 261 = .ok (.istore 5, 2) := by decide +kernel
theorem dX6_looks_263 : decode cX6_looks 263 = .ok (.aload_n 0, 1) := by decide +kernel
theorem dX6_looks_264 : decode cX6_looks 264 = .ok (.getfield 34, 3) := by decide +kernel
theorem dX6_looks_267 : decode cX6_looks 267 = .ok (.iload 4, 2) := by decide +kernel
theorem dX6_looks_269 : decode cX6_looks 269 = .ok (.aload_n 0, 1) := by decide +kernel
theorem dX6_looks_270 : decode cX6_looks 270 = .ok (.getfield 34, 3) := by decide +kernel
theorem dX6_looks_273 : decode cX6_looks 273 = .ok (.iload 5, 2) := by decide +kernel
theorem dX6_looks_275 : decode cX6_looks 275 = .ok (.iaload, 1) := by decide +kernel
theorem dX6_looks_276 : decode cX6_looks 276 = .ok (.iconst 1, 1) := by decide +kernel
theorem dX6_looks_277 : decode cX6_looks 277 = .ok (.iadd, 1) := by decide +kernel
theorem dX6_looks_278 : decode cX6_looks 278 = .ok (.aload_n 0, 1) := by decide +kernel
theorem dX6_looks_279 : decode cX6_looks 279 = .ok (.getfield 34, 3) := by decide +kernel
theorem dX6_looks_282 : decode cX6_looks 282 = .ok (.iload 4, 2) := by decide +kernel
theorem dX6_looks_284 : decode cX6_looks 284 = .ok (.iaload, 1) := by decide +kernel
theorem dX6_looks_285 : decode cX6_looks 285 = .ok (.if_icmp .ge 15, 3) := by decide +kernel
theorem dX6_looks_288 : decode cX6_looks 288 = .ok (.aload_n 0, 1) := by decide +kernel
theorem dX6_looks_289 : decode cX6_looks 289 = .ok (.getfield 34, 3) := by decide +kernel
theorem dX6_looks_292 : decode cX6_looks 292 = .ok (.iload 5, 2) := by decide +kernel
theorem dX6_looks_294 : decode cX6_looks 294 = .ok (.iaload, 1) := by decide +kernel
theorem dX6_looks_295 : decode cX6_looks 295 = .ok (.iconst 1, 1) := by decide +kernel
theorem dX6_looks_296 : decode cX6_looks 296 = .ok (.iadd, 1) := by decide +kernel
theorem dX6_looks_297 : decode cX6_looks 297 = .ok (.goto 10, 3) := by decide +kernel
theorem dX6_looks_300 : decode cX6_looks 300 = .ok (.aload_n 0, 1) := by decide +kernel
theorem dX6_looks_301 : decode cX6_looks 301 = .ok (.getfield 34, 3) := by decide +kernel
theorem dX6_looks_304 : decode cX6_looks 304 = .ok (.iload 4, 2) := by decide +kernel
theorem dX6_looks_306 : decode cX6_looks 306 = .ok (.iaload, 1) := by decide +kernel
theorem dX6_looks_307 : decode cX6_looks 307 = .ok (.iastore, 1) := by decide +kernel
theorem dX6_looks_308 : decode cX6_looks 308 = .ok (.aload_n 0, 1) := by decide +kernel
theorem dX6_looks_309 : decode cX6_looks 309 = .ok (.getfield 34, 3) := by decide +kernel
theorem dX6_looks_312 : decode cX6_looks 312 = .ok (.iload 5, 2) := by decide +kernel
theorem dX6_looks_314 : decode cX6_looks 314 = .ok (.aload_n 0, 1) := by decide +kernel
theorem dX6_looks_315 : decode cX6_looks 315 = .ok (.getfield 34, 3) := by decide +kernel
theorem dX6_looks_318 : decode cX6_looks 318 = .ok (.iload 4, 2) := by decide +kernel
theorem dX6_looks_320 : decode cX6_looks 320 = .ok (.iaload, 1) := by decide +kernel
theorem dX6_looks_321 : decode cX6_looks 321 = .ok (.iconst 1, 1) := by decide +kernel
theorem dX6_looks_322 : decode cX6_looks 322 = .ok (.iadd, 1) := by decide +kernel
theorem dX6_looks_323 : decode cX6_looks 323 = .ok (.aload_n 0, 1) := by decide +kernel
theorem dX6_looks_324 : decode cX6_looks 324 = .ok (.getfield 34, 3) := by decide +kernel
theorem dX6_looks_327 : decode cX6_looks 327 = .ok (.iload 5, 2) := by decide +kernel
theorem dX6_looks_329 : decode cX6_looks 329 = .ok (.iaload, 1) := by decide +kernel
theorem dX6_looks_330 : decode cX6_looks 330 = .ok (.if_icmp .ge 15, 3) := by decide +kernel
theorem dX6_looks_333 : decode cX6_looks 333 = .ok (.aload_n 0, 1) := by decide +kernel
theorem dX6_looks_334 : decode cX6_looks 334 = .ok (.getfield 34, 3) := by decide +kernel
theorem dX6_looks_337 : decode cX6_looks 337 = .ok (.iload 4, 2) := by decide +kernel
theorem dX6_looks_339 : decode cX6_looks 339 = .ok (.iaload, 1) := by decide +kernel
theorem dX6_looks_340 : decode cX6_looks 340 = .ok (.iconst 1, 1) := by decide +kernel
theorem dX6_looks_341 : decode cX6_looks 341 = .ok (.iadd, 1) := by decide +kernel
theorem dX6_looks_342 : decode cX6_looks 342 = .ok (.goto 10, 3) := by decide +kernel
theorem dX6_looks_345 : decode cX6_looks 345 = .ok (.aload_n 0, 1) := by decide +kernel
theorem dX6_looks_346 : decode cX6_looks 346 = .ok (.getfield 34, 3) := by decide +kernel
theorem dX6_looks_349 : decode cX6_looks 349 = .ok (.iload 5, 2) := by decide +kernel
theorem dX6_looks_351 : decode cX6_looks 351 = .ok (.iaload, 1) := by decide +kernel
theorem dX6_looks_352 : decode cX6_looks 352 = .ok (.iastore, 1) := by decide +kernel
theorem dX6_looks_353 : decode cX6_looks 353 = .ok (.iinc 3 1, 3) := by decide +kernel
theorem dX6_looks_356 : decode cX6_looks 356 = .ok (.goto (-136), 3) := by decide +kernel
theorem dX6_looks_359 : decode cX6_looks 359 = .ok (.iinc 2 1, 3) := by decide +kernel
theorem dX6_looks_362 : decode cX6_looks 362 = .ok (.goto (-150), 3) := by decide +kernel
theorem dX6_looks_365 : decode cX6_looks 365 = .ok (.return_, 1) := by decide +kernel
theorem dX6_isJoined_0 : decode cX6_isJoined 0 = .ok (.iconst 1, 1) := by decide +kernel
theorem dX6_isJoined_1 : decode cX6_isJoined 1 = .ok (.iload_n 2, 1) := by decide +kernel
theorem dX6_isJoined_2 : decode cX6_isJoined 2 = .ok (.ishl, 1) := by decide +kernel
theorem dX6_isJoined_3 : decode cX6_isJoined 3 = .ok (.istore 4, 2) := by decide +kernel
theorem dX6_isJoined_5 : decode cX6_isJoined 5 = .ok (.iconst 0, 1) := by decide +kernel
theorem dX6_isJoined_6 : decode cX6_isJoined 6 = .ok (.istore 5, 2) := by decide +kernel
theorem dX6_isJoined_8 : decode cX6_isJoined 8 = .ok (.iload 5, 2) := by decide +kernel
theorem dX6_isJoined_10 : decode cX6_isJoined 10 = .ok (.bipush 25, 2) := by decide +kernel
theorem dX6_isJoined_12 : decode cX6_isJoined 12 = .ok (.if_icmp .ge 87, 3) := by decide +kernel
theorem dX6_isJoined_15 : decode cX6_isJoined 15 = .ok (.iconst 0, 1) := by decide +kernel
theorem dX6_isJoined_16 : decode cX6_isJoined 16 = .ok (.istore 6, 2) := by decide +kernel
theorem dX6_isJoined_18 : decode cX6_isJoined 18 = .ok (.iload 6, 2) := by decide +kernel
theorem dX6_isJoined_20 : decode cX6_isJoined 20 = .ok (.bipush 40, 2) := by decide +kernel
theorem dX6_isJoined_22 : decode cX6_isJoined 22 = .ok (.if_icmp .ge 71, 3) := by decide +kernel
theorem dX6_isJoined_25 : decode cX6_isJoined 25 = .ok (.iconst 1, 1) := by decide +kernel
theorem dX6_isJoined_26 : decode cX6_isJoined 26 = .ok (.aload_n 0, 1) := by decide +kernel
theorem dX6_isJoined_27 : decode cX6_isJoined 27 = .ok (.getfield 31, 3) := by decide +kernel
theorem dX6_isJoined_30 : decode cX6_isJoined 30 = .ok (.iload 6, 2) := by decide +kernel
theorem dX6_isJoined_32 : decode cX6_isJoined 32 = .ok (.invokestatic 73, 3) := by decide +kernel
theorem dX6_isJoined_35 : decode cX6_isJoined 35 = .ok (.iaload, 1) := by decide +kernel
theorem dX6_isJoined_36 : decode cX6_isJoined 36 = .ok (.ishl, 1) := by decide +kernel
theorem dX6_isJoined_37 : decode cX6_isJoined 37 = .ok (.iconst 1, 1) := by decide +kernel
theorem dX6_isJoined_38 : decode cX6_isJoined 38 = .ok (.aload_n 0, 1) := by decide +kernel
theorem dX6_isJoined_39 : decode cX6_isJoined 39 = .ok (.getfield 31, 3) := by decide +kernel
theorem dX6_isJoined_42 : decode cX6_isJoined 42 = .ok (.iload 6, 2) := by decide +kernel
theorem dX6_isJoined_44 : decode cX6_isJoined 44 = .ok (.invokestatic 80, 3) := by decide +kernel
theorem dX6_isJoined_47 : decode cX6_isJoined 47 = .ok (.iaload, 1) := by decide +kernel
theorem dX6_isJoined_48 : decode cX6_isJoined 48 = .ok (.ishl, 1) := by decide +kernel
theorem dX6_isJoined_49 : decode cX6_isJoined 49 = .ok (.ior, 1) := by decide +kernel
theorem dX6_isJoined_50 : decode cX6_isJoined 50 = .ok (.istore 7, 2) := by decide +kernel
theorem dX6_isJoined_52 : decode cX6_isJoined 52 = .ok (.iload 4, 2) := by decide +kernel
theorem dX6_isJoined_54 : decode cX6_isJoined 54 = .ok (.aload_n 0, 1) := by decide +kernel
theorem dX6_isJoined_55 : decode cX6_isJoined 55 = .ok (.getfield 25, 3) := by decide +kernel
theorem dX6_isJoined_58 : decode cX6_isJoined 58 = .ok (.bipush 40, 2) := by decide +kernel
theorem dX6_isJoined_60 : decode cX6_isJoined 60 = .ok (.iload_n 1, 1) := by decide +kernel
theorem dX6_isJoined_61 : decode cX6_isJoined 61 = .ok (.imul, 1) := by decide +kernel
theorem dX6_isJoined_62 : decode cX6_isJoined 62 = .ok (.iload 6, 2) := by decide +kernel
theorem dX6_isJoined_64 : decode cX6_isJoined 64 = .ok (.iadd, 1) := by decide +kernel
theorem dX6_isJoined_65 : decode cX6_isJoined 65 = .ok (.iaload, 1) := by decide +kernel
theorem dX6_isJoined_66 : decode cX6_isJoined 66 = .ok (.iconst 2, 1) := by decide +kernel
theorem dX6_isJoined_67 : decode cX6_isJoined 67 = .ok (.if_icmp .ne 16, 3) := by decide +kernel
theorem dX6_isJoined_70 : decode cX6_isJoined 70 = .ok (.iload 4, 2) := by decide +kernel
theorem dX6_isJoined_72 : decode cX6_isJoined 72 = .ok (.iload 7, 2) := by decide +kernel
theorem dX6_isJoined_74 : decode cX6_isJoined 74 = .ok (.iand, 1) := by decide +kernel
theorem dX6_isJoined_75 : decode cX6_isJoined 75 = .ok (.ifCond .eq 8, 3) := by decide +kernel
theorem dX6_isJoined_78 : decode cX6_isJoined 78 = .ok (.iload 7, 2) := by decide +kernel
theorem dX6_isJoined_80 : decode cX6_isJoined 80 = .ok (.goto 4, 3) := by decide +kernel
theorem dX6_isJoined_83 : decode cX6_isJoined 83 = .ok (.iconst 0, 1) := by decide +kernel
theorem dX6_isJoined_84 : decode cX6_isJoined 84 = .ok (.ior, 1) := by decide +kernel
theorem dX6_isJoined_85 : decode cX6_isJoined 85 = .ok (.istore 4, 2) := by decide +kernel
