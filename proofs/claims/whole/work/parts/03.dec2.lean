theorem dX6_isJoined_87 : decode cX6_isJoined 87 = .ok (.iinc 6 1, 3) := by decide +kernel
theorem dX6_isJoined_90 : decode cX6_isJoined 90 = .ok (.goto (-72), 3) := by decide +kernel
theorem dX6_isJoined_93 : decode cX6_isJoined 93 = .ok (.iinc 5 1, 3) := by decide +kernel
theorem dX6_isJoined_96 : decode cX6_isJoined 96 = .ok (.goto (-88), 3) := by decide +kernel
theorem dX6_isJoined_99 : decode cX6_isJoined 99 = .ok (.iload 4, 2) := by decide +kernel
theorem dX6_isJoined_101 : decode cX6_isJoined 101 = .ok (.iload_n 3, 1) := by decide +kernel
theorem dX6_isJoined_102 : decode cX6_isJoined 102 = .ok (.ishr, 1) := by decide +kernel
theorem dX6_isJoined_103 : decode cX6_isJoined 103 = .ok (.iconst 1, 1) := by decide +kernel
theorem dX6_isJoined_104 : decode cX6_isJoined 104 = .ok (.iand, 1) := by decide +kernel
theorem dX6_isJoined_105 : decode cX6_isJoined 105 = .ok (.iconst 1, 1) := by decide +kernel
theorem dX6_isJoined_106 : decode cX6_isJoined 106 = .ok (.if_icmp .ne 7, 3) := by decide +kernel
theorem dX6_isJoined_109 : decode cX6_isJoined 109 = .ok (.iconst 1, 1) := by decide +kernel
theorem dX6_isJoined_110 : decode cX6_isJoined 110 = .ok (.goto 4, 3) := by decide +kernel
theorem dX6_isJoined_113 : decode cX6_isJoined 113 = .ok (.iconst 0, 1) := by decide +kernel
theorem dX6_isJoined_114 : decode cX6_isJoined 114 = .ok (.ireturn, 1) := by decide +kernel
theorem dX6_isCell_0 : decode cX6_isCell 0 = .ok (.iload_n 0, 1) := by decide +kernel
theorem dX6_isCell_1 : decode cX6_isCell 1 = .ok (.iconst 0, 1) := by decide +kernel
theorem dX6_isCell_2 : decode cX6_isCell 2 = .ok (.bipush 24, 2) := by decide +kernel
theorem dX6_isCell_4 : decode cX6_isCell 4 = .ok (.invokestatic 65, 3) := by decide +kernel
theorem dX6_isCell_7 : decode cX6_isCell 7 = .ok (.ireturn, 1) := by decide +kernel
theorem dX6_asks_0 : decode cX6_asks 0 = .ok (.aload_n 0, 1) := by decide +kernel
theorem dX6_asks_1 : decode cX6_asks 1 = .ok (.aload_n 0, 1) := by decide +kernel
theorem dX6_asks_2 : decode cX6_asks 2 = .ok (.iload_n 1, 1) := by decide +kernel
theorem dX6_asks_3 : decode cX6_asks 3 = .ok (.invokevirtual 83, 3) := by decide +kernel
theorem dX6_asks_6 : decode cX6_asks 6 = .ok (.ifCond .ne 7, 3) := by decide +kernel
theorem dX6_asks_9 : decode cX6_asks 9 = .ok (.iconst 1, 1) := by decide +kernel
theorem dX6_asks_10 : decode cX6_asks 10 = .ok (.goto 15, 3) := by decide +kernel
theorem dX6_asks_13 : decode cX6_asks 13 = .ok (.iload_n 2, 1) := by decide +kernel
theorem dX6_asks_14 : decode cX6_asks 14 = .ok (.invokestatic 87, 3) := by decide +kernel
theorem dX6_asks_17 : decode cX6_asks 17 = .ok (.ifCond .eq 7, 3) := by decide +kernel
theorem dX6_asks_20 : decode cX6_asks 20 = .ok (.iconst 0, 1) := by decide +kernel
theorem dX6_asks_21 : decode cX6_asks 21 = .ok (.goto 4, 3) := by decide +kernel
theorem dX6_asks_24 : decode cX6_asks 24 = .ok (.iconst 2, 1) := by decide +kernel
theorem dX6_asks_25 : decode cX6_asks 25 = .ok (.putfield 58, 3) := by decide +kernel
theorem dX6_asks_28 : decode cX6_asks 28 = .ok (.aload_n 0, 1) := by decide +kernel
theorem dX6_asks_29 : decode cX6_asks 29 = .ok (.getfield 58, 3) := by decide +kernel
theorem dX6_asks_32 : decode cX6_asks 32 = .ok (.ifCond .ne 8, 3) := by decide +kernel
theorem dX6_asks_35 : decode cX6_asks 35 = .ok (.aload_n 0, 1) := by decide +kernel
theorem dX6_asks_36 : decode cX6_asks 36 = .ok (.iload_n 1, 1) := by decide +kernel
theorem dX6_asks_37 : decode cX6_asks 37 = .ok (.invokevirtual 90, 3) := by decide +kernel
theorem dX6_asks_40 : decode cX6_asks 40 = .ok (.aload_n 0, 1) := by decide +kernel
theorem dX6_asks_41 : decode cX6_asks 41 = .ok (.getfield 58, 3) := by decide +kernel
theorem dX6_asks_44 : decode cX6_asks 44 = .ok (.ifCond .ne 7, 3) := by decide +kernel
theorem dX6_asks_47 : decode cX6_asks 47 = .ok (.iconst 1, 1) := by decide +kernel
theorem dX6_asks_48 : decode cX6_asks 48 = .ok (.goto 4, 3) := by decide +kernel
theorem dX6_asks_51 : decode cX6_asks 51 = .ok (.iconst 0, 1) := by decide +kernel
theorem dX6_asks_52 : decode cX6_asks 52 = .ok (.ireturn, 1) := by decide +kernel
theorem dX6_begin_0 : decode cX6_begin 0 = .ok (.aload_n 0, 1) := by decide +kernel
theorem dX6_begin_1 : decode cX6_begin 1 = .ok (.aload_n 0, 1) := by decide +kernel
theorem dX6_begin_2 : decode cX6_begin 2 = .ok (.getfield 62, 3) := by decide +kernel
theorem dX6_begin_5 : decode cX6_begin 5 = .ok (.bipush 6, 2) := by decide +kernel
theorem dX6_begin_7 : decode cX6_begin 7 = .ok (.if_icmp .ne 7, 3) := by decide +kernel
theorem dX6_begin_10 : decode cX6_begin 10 = .ok (.iconst 1, 1) := by decide +kernel
theorem dX6_begin_11 : decode cX6_begin 11 = .ok (.goto 4, 3) := by decide +kernel
theorem dX6_begin_14 : decode cX6_begin 14 = .ok (.iconst 0, 1) := by decide +kernel
theorem dX6_begin_15 : decode cX6_begin 15 = .ok (.putfield 58, 3) := by decide +kernel
theorem dX6_begin_18 : decode cX6_begin 18 = .ok (.aload_n 0, 1) := by decide +kernel
theorem dX6_begin_19 : decode cX6_begin 19 = .ok (.getfield 58, 3) := by decide +kernel
theorem dX6_begin_22 : decode cX6_begin 22 = .ok (.ifCond .le 5, 3) := by decide +kernel
theorem dX6_begin_25 : decode cX6_begin 25 = .ok (.iconst 0, 1) := by decide +kernel
theorem dX6_begin_26 : decode cX6_begin 26 = .ok (.ireturn, 1) := by decide +kernel
theorem dX6_begin_27 : decode cX6_begin 27 = .ok (.iconst 0, 1) := by decide +kernel
theorem dX6_begin_28 : decode cX6_begin 28 = .ok (.istore_n 1, 1) := by decide +kernel
theorem dX6_begin_29 : decode cX6_begin 29 = .ok (.iload_n 1, 1) := by decide +kernel
theorem dX6_begin_30 : decode cX6_begin 30 = .ok (.bipush 40, 2) := by decide +kernel
theorem dX6_begin_32 : decode cX6_begin 32 = .ok (.if_icmp .ge 24, 3) := by decide +kernel
theorem dX6_begin_35 : decode cX6_begin 35 = .ok (.aload_n 0, 1) := by decide +kernel
theorem dX6_begin_36 : decode cX6_begin 36 = .ok (.getfield 7, 3) := by decide +kernel
theorem dX6_begin_39 : decode cX6_begin 39 = .ok (.bipush 40, 2) := by decide +kernel
theorem dX6_begin_41 : decode cX6_begin 41 = .ok (.aload_n 0, 1) := by decide +kernel
theorem dX6_begin_42 : decode cX6_begin 42 = .ok (.getfield 62, 3) := by decide +kernel
theorem dX6_begin_45 : decode cX6_begin 45 = .ok (.imul, 1) := by decide +kernel
theorem dX6_begin_46 : decode cX6_begin 46 = .ok (.iload_n 1, 1) := by decide +kernel
theorem dX6_begin_47 : decode cX6_begin 47 = .ok (.iadd, 1) := by decide +kernel
theorem dX6_begin_48 : decode cX6_begin 48 = .ok (.iconst (-1), 1) := by decide +kernel
theorem dX6_begin_49 : decode cX6_begin 49 = .ok (.iastore, 1) := by decide +kernel
theorem dX6_begin_50 : decode cX6_begin 50 = .ok (.iinc 1 1, 3) := by decide +kernel
theorem dX6_begin_53 : decode cX6_begin 53 = .ok (.goto (-24), 3) := by decide +kernel
theorem dX6_begin_56 : decode cX6_begin 56 = .ok (.aload_n 0, 1) := by decide +kernel
theorem dX6_begin_57 : decode cX6_begin 57 = .ok (.getfield 19, 3) := by decide +kernel
theorem dX6_begin_60 : decode cX6_begin 60 = .ok (.aload_n 0, 1) := by decide +kernel
theorem dX6_begin_61 : decode cX6_begin 61 = .ok (.getfield 62, 3) := by decide +kernel
theorem dX6_begin_64 : decode cX6_begin 64 = .ok (.iconst (-1), 1) := by decide +kernel
theorem dX6_begin_65 : decode cX6_begin 65 = .ok (.iastore, 1) := by decide +kernel
theorem dX6_begin_66 : decode cX6_begin 66 = .ok (.aload_n 0, 1) := by decide +kernel
theorem dX6_begin_67 : decode cX6_begin 67 = .ok (.getfield 22, 3) := by decide +kernel
theorem dX6_begin_70 : decode cX6_begin 70 = .ok (.aload_n 0, 1) := by decide +kernel
theorem dX6_begin_71 : decode cX6_begin 71 = .ok (.getfield 62, 3) := by decide +kernel
theorem dX6_begin_74 : decode cX6_begin 74 = .ok (.iconst (-1), 1) := by decide +kernel
theorem dX6_begin_75 : decode cX6_begin 75 = .ok (.iastore, 1) := by decide +kernel
theorem dX6_begin_76 : decode cX6_begin 76 = .ok (.aload_n 0, 1) := by decide +kernel
theorem dX6_begin_77 : decode cX6_begin 77 = .ok (.dup, 1) := by decide +kernel
theorem dX6_begin_78 : decode cX6_begin 78 = .ok (.getfield 62, 3) := by decide +kernel
theorem dX6_begin_81 : decode cX6_begin 81 = .ok (.iconst 1, 1) := by decide +kernel
theorem dX6_begin_82 : decode cX6_begin 82 = .ok (.iadd, 1) := by decide +kernel
theorem dX6_begin_83 : decode cX6_begin 83 = .ok (.putfield 62, 3) := by decide +kernel
theorem dX6_begin_86 : decode cX6_begin 86 = .ok (.aload_n 0, 1) := by decide +kernel
theorem dX6_begin_87 : decode cX6_begin 87 = .ok (.getfield 62, 3) := by decide +kernel
theorem dX6_begin_90 : decode cX6_begin 90 = .ok (.iconst 1, 1) := by decide +kernel
theorem dX6_begin_91 : decode cX6_begin 91 = .ok (.isub, 1) := by decide +kernel
theorem dX6_begin_92 : decode cX6_begin 92 = .ok (.ireturn, 1) := by decide +kernel
theorem dX6_tell_0 : decode cX6_tell 0 = .ok (.iload_n 2, 1) := by decide +kernel
theorem dX6_tell_1 : decode cX6_tell 1 = .ok (.invokestatic 94, 3) := by decide +kernel
theorem dX6_tell_4 : decode cX6_tell 4 = .ok (.ifCond .eq 27, 3) := by decide +kernel
theorem dX6_tell_7 : decode cX6_tell 7 = .ok (.iload_n 3, 1) := by decide +kernel
theorem dX6_tell_8 : decode cX6_tell 8 = .ok (.iconst 0, 1) := by decide +kernel
theorem dX6_tell_9 : decode cX6_tell 9 = .ok (.bipush 39, 2) := by decide +kernel
theorem dX6_tell_11 : decode cX6_tell 11 = .ok (.invokestatic 65, 3) := by decide +kernel
theorem dX6_tell_14 : decode cX6_tell 14 = .ok (.ifCond .eq 17, 3) := by decide +kernel
theorem dX6_tell_17 : decode cX6_tell 17 = .ok (.iload 4, 2) := by decide +kernel
theorem dX6_tell_19 : decode cX6_tell 19 = .ok (.iconst (-1), 1) := by decide +kernel
theorem dX6_tell_20 : decode cX6_tell 20 = .ok (.iconst 2, 1) := by decide +kernel
theorem dX6_tell_21 : decode cX6_tell 21 = .ok (.invokestatic 65, 3) := by decide +kernel
theorem dX6_tell_24 : decode cX6_tell 24 = .ok (.ifCond .eq 7, 3) := by decide +kernel
theorem dX6_tell_27 : decode cX6_tell 27 = .ok (.iconst 1, 1) := by decide +kernel
theorem dX6_tell_28 : decode cX6_tell 28 = .ok (.goto 4, 3) := by decide +kernel
theorem dX6_tell_31 : decode cX6_tell 31 = .ok (.iconst 0, 1) := by decide +kernel
theorem dX6_tell_32 : decode cX6_tell 32 = .ok (.istore 5, 2) := by decide +kernel
theorem dX6_tell_34 : decode cX6_tell 34 = .ok (.aload_n 0, 1) := by decide +kernel
theorem dX6_tell_35 : decode cX6_tell 35 = .ok (.aload_n 0, 1) := by decide +kernel
theorem dX6_tell_36 : decode cX6_tell 36 = .ok (.iload_n 1, 1) := by decide +kernel
theorem dX6_tell_37 : decode cX6_tell 37 = .ok (.invokevirtual 83, 3) := by decide +kernel
theorem dX6_tell_40 : decode cX6_tell 40 = .ok (.ifCond .ne 7, 3) := by decide +kernel
theorem dX6_tell_43 : decode cX6_tell 43 = .ok (.iconst 1, 1) := by decide +kernel
theorem dX6_tell_44 : decode cX6_tell 44 = .ok (.goto 26, 3) := by decide +kernel
theorem dX6_tell_47 : decode cX6_tell 47 = .ok (.iload 5, 2) := by decide +kernel
theorem dX6_tell_49 : decode cX6_tell 49 = .ok (.ifCond .ne 7, 3) := by decide +kernel
theorem dX6_tell_52 : decode cX6_tell 52 = .ok (.iconst 2, 1) := by decide +kernel
theorem dX6_tell_53 : decode cX6_tell 53 = .ok (.goto 17, 3) := by decide +kernel
theorem dX6_tell_56 : decode cX6_tell 56 = .ok (.aload_n 0, 1) := by decide +kernel
theorem dX6_tell_57 : decode cX6_tell 57 = .ok (.iload_n 1, 1) := by decide +kernel
theorem dX6_tell_58 : decode cX6_tell 58 = .ok (.invokevirtual 97, 3) := by decide +kernel
theorem dX6_tell_61 : decode cX6_tell 61 = .ok (.iload_n 2, 1) := by decide +kernel
theorem dX6_tell_62 : decode cX6_tell 62 = .ok (.if_icmp .ne 7, 3) := by decide +kernel
theorem dX6_tell_65 : decode cX6_tell 65 = .ok (.iconst 0, 1) := by decide +kernel
theorem dX6_tell_66 : decode cX6_tell 66 = .ok (.goto 4, 3) := by decide +kernel
theorem dX6_tell_69 : decode cX6_tell 69 = .ok (.iconst 3, 1) := by decide +kernel
theorem dX6_tell_70 : decode cX6_tell 70 = .ok (.putfield 58, 3) := by decide +kernel
theorem dX6_tell_73 : decode cX6_tell 73 = .ok (.aload_n 0, 1) := by decide +kernel
theorem dX6_tell_74 : decode cX6_tell 74 = .ok (.getfield 58, 3) := by decide +kernel
theorem dX6_tell_77 : decode cX6_tell 77 = .ok (.ifCond .le 5, 3) := by decide +kernel
theorem dX6_tell_80 : decode cX6_tell 80 = .ok (.iconst 0, 1) := by decide +kernel
theorem dX6_tell_81 : decode cX6_tell 81 = .ok (.ireturn, 1) := by decide +kernel
theorem dX6_tell_82 : decode cX6_tell 82 = .ok (.aload_n 0, 1) := by decide +kernel
theorem dX6_tell_83 : decode cX6_tell 83 = .ok (.getfield 7, 3) := by decide +kernel
theorem dX6_tell_86 : decode cX6_tell 86 = .ok (.bipush 40, 2) := by decide +kernel
theorem dX6_tell_88 : decode cX6_tell 88 = .ok (.iload_n 1, 1) := by decide +kernel
theorem dX6_tell_89 : decode cX6_tell 89 = .ok (.imul, 1) := by decide +kernel
theorem dX6_tell_90 : decode cX6_tell 90 = .ok (.iload_n 3, 1) := by decide +kernel
theorem dX6_tell_91 : decode cX6_tell 91 = .ok (.iadd, 1) := by decide +kernel
theorem dX6_tell_92 : decode cX6_tell 92 = .ok (.iaload, 1) := by decide +kernel
theorem dX6_tell_93 : decode cX6_tell 93 = .ok (.istore 6, 2) := by decide +kernel
theorem dX6_tell_95 : decode cX6_tell 95 = .ok (.aload_n 0, 1) := by decide +kernel
theorem dX6_tell_96 : decode cX6_tell 96 = .ok (.getfield 7, 3) := by decide +kernel
theorem dX6_tell_99 : decode cX6_tell 99 = .ok (.bipush 40, 2) := by decide +kernel
theorem dX6_tell_101 : decode cX6_tell 101 = .ok (.iload_n 1, 1) := by decide +kernel
theorem dX6_tell_102 : decode cX6_tell 102 = .ok (.imul, 1) := by decide +kernel
theorem dX6_tell_103 : decode cX6_tell 103 = .ok (.iload_n 3, 1) := by decide +kernel
theorem dX6_tell_104 : decode cX6_tell 104 = .ok (.iadd, 1) := by decide +kernel
theorem dX6_tell_105 : decode cX6_tell 105 = .ok (.iload 4, 2) := by decide +kernel
theorem dX6_tell_107 : decode cX6_tell 107 = .ok (.iastore, 1) := by decide +kernel
theorem dX6_tell_108 : decode cX6_tell 108 = .ok (.iload 6, 2) := by decide +kernel
theorem dX6_tell_110 : decode cX6_tell 110 = .ok (.ireturn, 1) := by decide +kernel
theorem dX6_setExit_0 : decode cX6_setExit 0 = .ok (.iload_n 2, 1) := by decide +kernel
theorem dX6_setExit_1 : decode cX6_setExit 1 = .ok (.invokestatic 94, 3) := by decide +kernel
theorem dX6_setExit_4 : decode cX6_setExit 4 = .ok (.ifCond .eq 14, 3) := by decide +kernel
theorem dX6_setExit_7 : decode cX6_setExit 7 = .ok (.iload_n 3, 1) := by decide +kernel
theorem dX6_setExit_8 : decode cX6_setExit 8 = .ok (.invokestatic 87, 3) := by decide +kernel
theorem dX6_setExit_11 : decode cX6_setExit 11 = .ok (.ifCond .eq 7, 3) := by decide +kernel
theorem dX6_setExit_14 : decode cX6_setExit 14 = .ok (.iconst 1, 1) := by decide +kernel
theorem dX6_setExit_15 : decode cX6_setExit 15 = .ok (.goto 4, 3) := by decide +kernel
theorem dX6_setExit_18 : decode cX6_setExit 18 = .ok (.iconst 0, 1) := by decide +kernel
theorem dX6_setExit_19 : decode cX6_setExit 19 = .ok (.istore 5, 2) := by decide +kernel
theorem dX6_setExit_21 : decode cX6_setExit 21 = .ok (.aload_n 0, 1) := by decide +kernel
theorem dX6_setExit_22 : decode cX6_setExit 22 = .ok (.aload_n 0, 1) := by decide +kernel
theorem dX6_setExit_23 : decode cX6_setExit 23 = .ok (.iload_n 1, 1) := by decide +kernel
theorem dX6_setExit_24 : decode cX6_setExit 24 = .ok (.invokevirtual 83, 3) := by decide +kernel
theorem dX6_setExit_27 : decode cX6_setExit 27 = .ok (.ifCond .ne 7, 3) := by decide +kernel
theorem dX6_setExit_30 : decode cX6_setExit 30 = .ok (.iconst 1, 1) := by decide +kernel
theorem dX6_setExit_31 : decode cX6_setExit 31 = .ok (.goto 26, 3) := by decide +kernel
theorem dX6_setExit_34 : decode cX6_setExit 34 = .ok (.iload 5, 2) := by decide +kernel
theorem dX6_setExit_36 : decode cX6_setExit 36 = .ok (.ifCond .ne 7, 3) := by decide +kernel
theorem dX6_setExit_39 : decode cX6_setExit 39 = .ok (.iconst 2, 1) := by decide +kernel
theorem dX6_setExit_40 : decode cX6_setExit 40 = .ok (.goto 17, 3) := by decide +kernel
theorem dX6_setExit_43 : decode cX6_setExit 43 = .ok (.aload_n 0, 1) := by decide +kernel
theorem dX6_setExit_44 : decode cX6_setExit 44 = .ok (.iload_n 1, 1) := by decide +kernel
theorem dX6_setExit_45 : decode cX6_setExit 45 = .ok (.invokevirtual 97, 3) := by decide +kernel
theorem dX6_setExit_48 : decode cX6_setExit 48 = .ok (.iload_n 2, 1) := by decide +kernel
theorem dX6_setExit_49 : decode cX6_setExit 49 = .ok (.if_icmp .ne 7, 3) := by decide +kernel
theorem dX6_setExit_52 : decode cX6_setExit 52 = .ok (.iconst 0, 1) := by decide +kernel
theorem dX6_setExit_53 : decode cX6_setExit 53 = .ok (.goto 4, 3) := by decide +kernel
theorem dX6_setExit_56 : decode cX6_setExit 56 = .ok (.iconst 3, 1) := by decide +kernel
theorem dX6_setExit_57 : decode cX6_setExit 57 = .ok (.putfield 58, 3) := by decide +kernel
theorem dX6_setExit_60 : decode cX6_setExit 60 = .ok (.aload_n 0, 1) := by decide +kernel
theorem dX6_setExit_61 : decode cX6_setExit 61 = .ok (.getfield 58, 3) := by decide +kernel
theorem dX6_setExit_64 : decode cX6_setExit 64 = .ok (.ifCond .le 5, 3) := by decide +kernel
theorem dX6_setExit_67 : decode cX6_setExit 67 = .ok (.iconst 0, 1) := by decide +kernel
theorem dX6_setExit_68 : decode cX6_setExit 68 = .ok (.ireturn, 1) := by decide +kernel
theorem dX6_setExit_69 : decode cX6_setExit 69 = .ok (.aload_n 0, 1) := by decide +kernel
theorem dX6_setExit_70 : decode cX6_setExit 70 = .ok (.getfield 13, 3) := by decide +kernel
theorem dX6_setExit_73 : decode cX6_setExit 73 = .ok (.iload_n 1, 1) := by decide +kernel
theorem dX6_setExit_74 : decode cX6_setExit 74 = .ok (.iaload, 1) := by decide +kernel
theorem dX6_setExit_75 : decode cX6_setExit 75 = .ok (.iload_n 3, 1) := by decide +kernel
theorem dX6_setExit_76 : decode cX6_setExit 76 = .ok (.ishr, 1) := by decide +kernel
theorem dX6_setExit_77 : decode cX6_setExit 77 = .ok (.iconst 1, 1) := by decide +kernel
theorem dX6_setExit_78 : decode cX6_setExit 78 = .ok (.iand, 1) := by decide +kernel
theorem dX6_setExit_79 : decode cX6_setExit 79 = .ok (.iconst 1, 1) := by decide +kernel
theorem dX6_setExit_80 : decode cX6_setExit 80 = .ok (.if_icmp .ne 7, 3) := by decide +kernel
theorem dX6_setExit_83 : decode cX6_setExit 83 = .ok (.iconst 1, 1) := by decide +kernel
theorem dX6_setExit_84 : decode cX6_setExit 84 = .ok (.goto 4, 3) := by decide +kernel
theorem dX6_setExit_87 : decode cX6_setExit 87 = .ok (.iconst 0, 1) := by decide +kernel
theorem dX6_setExit_88 : decode cX6_setExit 88 = .ok (.istore 6, 2) := by decide +kernel
theorem dX6_setExit_90 : decode cX6_setExit 90 = .ok (.aload_n 0, 1) := by decide +kernel
theorem dX6_setExit_91 : decode cX6_setExit 91 = .ok (.getfield 13, 3) := by decide +kernel
theorem dX6_setExit_94 : decode cX6_setExit 94 = .ok (.iload_n 1, 1) := by decide +kernel
theorem dX6_setExit_95 : decode cX6_setExit 95 = .ok (.iload 4, 2) := by decide +kernel
theorem dX6_setExit_97 : decode cX6_setExit 97 = .ok (.ifCond .eq 16, 3) := by decide +kernel
theorem dX6_setExit_100 : decode cX6_setExit 100 = .ok (.aload_n 0, 1) := by decide +kernel
theorem dX6_setExit_101 : decode cX6_setExit 101 = .ok (.getfield 13, 3) := by decide +kernel
theorem dX6_setExit_104 : decode cX6_setExit 104 = .ok (.iload_n 1, 1) := by decide +kernel
theorem dX6_setExit_105 : decode cX6_setExit 105 = .ok (.iaload, 1) := by decide +kernel
theorem dX6_setExit_106 : decode cX6_setExit 106 = .ok (.iconst 1, 1) := by decide +kernel
theorem dX6_setExit_107 : decode cX6_setExit 107 = .ok (.iload_n 3, 1) := by decide +kernel
theorem dX6_setExit_108 : decode cX6_setExit 108 = .ok (.ishl, 1) := by decide +kernel
theorem dX6_setExit_109 : decode cX6_setExit 109 = .ok (.ior, 1) := by decide +kernel
theorem dX6_setExit_110 : decode cX6_setExit 110 = .ok (.goto 15, 3) := by decide +kernel
theorem dX6_setExit_113 : decode cX6_setExit 113 = .ok (.aload_n 0, 1) := by decide +kernel
theorem dX6_setExit_114 : decode cX6_setExit 114 = .ok (.getfield 13, 3) := by decide +kernel
theorem dX6_setExit_117 : decode cX6_setExit 117 = .ok (.iload_n 1, 1) := by decide +kernel
theorem dX6_setExit_118 : decode cX6_setExit 118 = .ok (.iaload, 1) := by decide +kernel
theorem dX6_setExit_119 : decode cX6_setExit 119 = .ok (.iconst 1, 1) := by decide +kernel
theorem dX6_setExit_120 : decode cX6_setExit 120 = .ok (.iload_n 3, 1) := by decide +kernel
theorem dX6_setExit_121 : decode cX6_setExit 121 = .ok (.ishl, 1) := by decide +kernel
theorem dX6_setExit_122 : decode cX6_setExit 122 = .ok (.iconst (-1), 1) := by decide +kernel
theorem dX6_setExit_123 : decode cX6_setExit 123 = .ok (.ixor, 1) := by decide +kernel
theorem dX6_setExit_124 : decode cX6_setExit 124 = .ok (.iand, 1) := by decide +kernel
theorem dX6_setExit_125 : decode cX6_setExit 125 = .ok (.iastore, 1) := by decide +kernel
theorem dX6_setExit_126 : decode cX6_setExit 126 = .ok (.iload 6, 2) := by decide +kernel
theorem dX6_setExit_128 : decode cX6_setExit 128 = .ok (.ireturn, 1) := by decide +kernel
theorem dX6_over_0 : decode cX6_over 0 = .ok (.iconst 1, 1) := by decide +kernel
theorem dX6_over_1 : decode cX6_over 1 = .ok (.iload_n 1, 1) := by decide +kernel
theorem dX6_over_2 : decode cX6_over 2 = .ok (.ishl, 1) := by decide +kernel
theorem dX6_over_3 : decode cX6_over 3 = .ok (.istore_n 2, 1) := by decide +kernel
theorem dX6_over_4 : decode cX6_over 4 = .ok (.iconst 0, 1) := by decide +kernel
theorem dX6_over_5 : decode cX6_over 5 = .ok (.istore_n 3, 1) := by decide +kernel
theorem dX6_over_6 : decode cX6_over 6 = .ok (.iload_n 3, 1) := by decide +kernel
theorem dX6_over_7 : decode cX6_over 7 = .ok (.bipush 6, 2) := by decide +kernel
theorem dX6_over_9 : decode cX6_over 9 = .ok (.if_icmp .ge 51, 3) := by decide +kernel
theorem dX6_over_12 : decode cX6_over 12 = .ok (.iconst 0, 1) := by decide +kernel
theorem dX6_over_13 : decode cX6_over 13 = .ok (.istore 4, 2) := by decide +kernel
theorem dX6_over_15 : decode cX6_over 15 = .ok (.iload 4, 2) := by decide +kernel
theorem dX6_over_17 : decode cX6_over 17 = .ok (.aload_n 0, 1) := by decide +kernel
theorem dX6_over_18 : decode cX6_over 18 = .ok (.getfield 62, 3) := by decide +kernel
theorem dX6_over_21 : decode cX6_over 21 = .ok (.if_icmp .ge 33, 3) := by decide +kernel
theorem dX6_over_24 : decode cX6_over 24 = .ok (.iload_n 2, 1) := by decide +kernel
theorem dX6_over_25 : decode cX6_over 25 = .ok (.iload_n 2, 1) := by decide +kernel
theorem dX6_over_26 : decode cX6_over 26 = .ok (.iload 4, 2) := by decide +kernel
theorem dX6_over_28 : decode cX6_over 28 = .ok (.ishr, 1) := by decide +kernel
theorem dX6_over_29 : decode cX6_over 29 = .ok (.iconst 1, 1) := by decide +kernel
theorem dX6_over_30 : decode cX6_over 30 = .ok (.iand, 1) := by decide +kernel
theorem dX6_over_31 : decode cX6_over 31 = .ok (.iconst 1, 1) := by decide +kernel
theorem dX6_over_32 : decode cX6_over 32 = .ok (.if_icmp .ne 13, 3) := by decide +kernel
theorem dX6_over_35 : decode cX6_over 35 = .ok (.aload_n 0, 1) := by decide +kernel
theorem dX6_over_36 : decode cX6_over 36 = .ok (.getfield 16, 3) := by decide +kernel
theorem dX6_over_39 : decode cX6_over 39 = .ok (.iload 4, 2) := by decide +kernel
theorem dX6_over_41 : decode cX6_over 41 = .ok (.iaload, 1) := by decide +kernel
theorem dX6_over_42 : decode cX6_over 42 = .ok (.goto 4, 3) := by decide +kernel
theorem dX6_over_45 : decode cX6_over 45 = .ok (.iconst 0, 1) := by decide +kernel
theorem dX6_over_46 : decode cX6_over 46 = .ok (.ior, 1) := by decide +kernel
theorem dX6_over_47 : decode cX6_over 47 = .ok (.istore_n 2, 1) := by decide +kernel
theorem dX6_over_48 : decode cX6_over 48 = .ok (.iinc 4 1, 3) := by decide +kernel
theorem dX6_over_51 : decode cX6_over 51 = .ok (.goto (-36), 3) := by decide +kernel
theorem dX6_over_54 : decode cX6_over 54 = .ok (.iinc 3 1, 3) := by decide +kernel
theorem dX6_over_57 : decode cX6_over 57 = .ok (.goto (-51), 3) := by decide +kernel
theorem dX6_over_60 : decode cX6_over 60 = .ok (.iload_n 2, 1) := by decide +kernel
theorem dX6_over_61 : decode cX6_over 61 = .ok (.ireturn, 1) := by decide +kernel
theorem dX6_refer_0 : decode cX6_refer 0 = .ok (.aload_n 0, 1) := by decide +kernel
theorem dX6_refer_1 : decode cX6_refer 1 = .ok (.aload_n 0, 1) := by decide +kernel
theorem dX6_refer_2 : decode cX6_refer 2 = .ok (.iload_n 1, 1) := by decide +kernel
theorem dX6_refer_3 : decode cX6_refer 3 = .ok (.invokevirtual 83, 3) := by decide +kernel
theorem dX6_refer_6 : decode cX6_refer 6 = .ok (.ifCond .eq 11, 3) := by decide +kernel
theorem dX6_refer_9 : decode cX6_refer 9 = .ok (.aload_n 0, 1) := by decide +kernel
theorem dX6_refer_10 : decode cX6_refer 10 = .ok (.iload_n 3, 1) := by decide +kernel
theorem dX6_refer_11 : decode cX6_refer 11 = .ok (.invokevirtual 83, 3) := by decide +kernel
theorem dX6_refer_14 : decode cX6_refer 14 = .ok (.ifCond .ne 7, 3) := by decide +kernel
theorem dX6_refer_17 : decode cX6_refer 17 = .ok (.iconst 1, 1) := by decide +kernel
theorem dX6_refer_18 : decode cX6_refer 18 = .ok (.goto 15, 3) := by decide +kernel
theorem dX6_refer_21 : decode cX6_refer 21 = .ok (.iload_n 2, 1) := by decide +kernel
theorem dX6_refer_22 : decode cX6_refer 22 = .ok (.invokestatic 94, 3) := by decide +kernel
theorem dX6_refer_25 : decode cX6_refer 25 = .ok (.ifCond .eq 7, 3) := by decide +kernel
theorem dX6_refer_28 : decode cX6_refer 28 = .ok (.iconst 0, 1) := by decide +kernel
theorem dX6_refer_29 : decode cX6_refer 29 = .ok (.goto 4, 3) := by decide +kernel
theorem dX6_refer_32 : decode cX6_refer 32 = .ok (.iconst 2, 1) := by decide +kernel
theorem dX6_refer_33 : decode cX6_refer 33 = .ok (.putfield 58, 3) := by decide +kernel
theorem dX6_refer_36 : decode cX6_refer 36 = .ok (.aload_n 0, 1) := by decide +kernel
theorem dX6_refer_37 : decode cX6_refer 37 = .ok (.getfield 58, 3) := by decide +kernel
theorem dX6_refer_40 : decode cX6_refer 40 = .ok (.ifCond .le 5, 3) := by decide +kernel
theorem dX6_refer_43 : decode cX6_refer 43 = .ok (.iconst 0, 1) := by decide +kernel
theorem dX6_refer_44 : decode cX6_refer 44 = .ok (.ireturn, 1) := by decide +kernel
theorem dX6_refer_45 : decode cX6_refer 45 = .ok (.iload 4, 2) := by decide +kernel
theorem dX6_refer_47 : decode cX6_refer 47 = .ok (.ifCond .eq 20, 3) := by decide +kernel
theorem dX6_refer_50 : decode cX6_refer 50 = .ok (.aload_n 0, 1) := by decide +kernel
theorem dX6_refer_51 : decode cX6_refer 51 = .ok (.iload_n 3, 1) := by decide +kernel
theorem dX6_refer_52 : decode cX6_refer 52 = .ok (.invokevirtual 100, 3) := by decide +kernel
theorem dX6_refer_55 : decode cX6_refer 55 = .ok (.iload_n 1, 1) := by decide +kernel
theorem dX6_refer_56 : decode cX6_refer 56 = .ok (.ishr, 1) := by decide +kernel
theorem dX6_refer_57 : decode cX6_refer 57 = .ok (.iconst 1, 1) := by decide +kernel
theorem dX6_refer_58 : decode cX6_refer 58 = .ok (.iand, 1) := by decide +kernel
theorem dX6_refer_59 : decode cX6_refer 59 = .ok (.iconst 1, 1) := by decide +kernel
theorem dX6_refer_60 : decode cX6_refer 60 = .ok (.if_icmp .ne 7, 3) := by decide +kernel
theorem dX6_refer_63 : decode cX6_refer 63 = .ok (.iconst 1, 1) := by decide +kernel
theorem dX6_refer_64 : decode cX6_refer 64 = .ok (.goto 4, 3) := by decide +kernel
theorem dX6_refer_67 : decode cX6_refer 67 = .ok (.iconst 0, 1) := by decide +kernel
theorem dX6_refer_68 : decode cX6_refer 68 = .ok (.istore 5, 2) := by decide +kernel
theorem dX6_refer_70 : decode cX6_refer 70 = .ok (.aload_n 0, 1) := by decide +kernel
theorem dX6_refer_71 : decode cX6_refer 71 = .ok (.aload_n 0, 1) := by decide +kernel
theorem dX6_refer_72 : decode cX6_refer 72 = .ok (.iload_n 1, 1) := by decide +kernel
theorem dX6_refer_73 : decode cX6_refer 73 = .ok (.invokevirtual 97, 3) := by decide +kernel
theorem dX6_refer_76 : decode cX6_refer 76 = .ok (.iload_n 2, 1) := by decide +kernel
theorem dX6_refer_77 : decode cX6_refer 77 = .ok (.if_icmp .ne 8, 3) := by decide +kernel
theorem dX6_refer_80 : decode cX6_refer 80 = .ok (.iload 5, 2) := by decide +kernel
theorem dX6_refer_82 : decode cX6_refer 82 = .ok (.ifCond .eq 7, 3) := by decide +kernel
theorem dX6_refer_85 : decode cX6_refer 85 = .ok (.iconst 3, 1) := by decide +kernel
theorem dX6_refer_86 : decode cX6_refer 86 = .ok (.goto 4, 3) := by decide +kernel
theorem dX6_refer_89 : decode cX6_refer 89 = .ok (.iconst 0, 1) := by decide +kernel
theorem dX6_refer_90 : decode cX6_refer 90 = .ok (.putfield 58, 3) := by decide +kernel
theorem dX6_refer_93 : decode cX6_refer 93 = .ok (.aload_n 0, 1) := by decide +kernel
theorem dX6_refer_94 : decode cX6_refer 94 = .ok (.getfield 58, 3) := by decide +kernel
theorem dX6_refer_97 : decode cX6_refer 97 = .ok (.ifCond .le 5, 3) := by decide +kernel
theorem dX6_refer_100 : decode cX6_refer 100 = .ok (.iconst 0, 1) := by decide +kernel
theorem dX6_refer_101 : decode cX6_refer 101 = .ok (.ireturn, 1) := by decide +kernel
theorem dX6_refer_102 : decode cX6_refer 102 = .ok (.aload_n 0, 1) := by decide +kernel
theorem dX6_refer_103 : decode cX6_refer 103 = .ok (.getfield 16, 3) := by decide +kernel
theorem dX6_refer_106 : decode cX6_refer 106 = .ok (.iload_n 1, 1) := by decide +kernel
theorem dX6_refer_107 : decode cX6_refer 107 = .ok (.iaload, 1) := by decide +kernel
theorem dX6_refer_108 : decode cX6_refer 108 = .ok (.iload_n 3, 1) := by decide +kernel
theorem dX6_refer_109 : decode cX6_refer 109 = .ok (.ishr, 1) := by decide +kernel
theorem dX6_refer_110 : decode cX6_refer 110 = .ok (.iconst 1, 1) := by decide +kernel
theorem dX6_refer_111 : decode cX6_refer 111 = .ok (.iand, 1) := by decide +kernel
theorem dX6_refer_112 : decode cX6_refer 112 = .ok (.iconst 1, 1) := by decide +kernel
theorem dX6_refer_113 : decode cX6_refer 113 = .ok (.if_icmp .ne 7, 3) := by decide +kernel
theorem dX6_refer_116 : decode cX6_refer 116 = .ok (.iconst 1, 1) := by decide +kernel
theorem dX6_refer_117 : decode cX6_refer 117 = .ok (.goto 4, 3) := by decide +kernel
theorem dX6_refer_120 : decode cX6_refer 120 = .ok (.iconst 0, 1) := by decide +kernel
theorem dX6_refer_121 : decode cX6_refer 121 = .ok (.istore 6, 2) := by decide +kernel
theorem dX6_refer_123 : decode cX6_refer 123 = .ok (.aload_n 0, 1) := by decide +kernel
theorem dX6_refer_124 : decode cX6_refer 124 = .ok (.getfield 16, 3) := by decide +kernel
theorem dX6_refer_127 : decode cX6_refer 127 = .ok (.iload_n 1, 1) := by decide +kernel
theorem dX6_refer_128 : decode cX6_refer 128 = .ok (.iload 4, 2) := by decide +kernel
theorem dX6_refer_130 : decode cX6_refer 130 = .ok (.ifCond .eq 16, 3) := by decide +kernel
theorem dX6_refer_133 : decode cX6_refer 133 = .ok (.aload_n 0, 1) := by decide +kernel
theorem dX6_refer_134 : decode cX6_refer 134 = .ok (.getfield 16, 3) := by decide +kernel
theorem dX6_refer_137 : decode cX6_refer 137 = .ok (.iload_n 1, 1) := by decide +kernel
theorem dX6_refer_138 : decode cX6_refer 138 = .ok (.iaload, 1) := by decide +kernel
theorem dX6_refer_139 : decode cX6_refer 139 = .ok (.iconst 1, 1) := by decide +kernel
theorem dX6_refer_140 : decode cX6_refer 140 = .ok (.iload_n 3, 1) := by decide +kernel
theorem dX6_refer_141 : decode cX6_refer 141 = .ok (.ishl, 1) := by decide +kernel
theorem dX6_refer_142 : decode cX6_refer 142 = .ok (.ior, 1) := by decide +kernel
theorem dX6_refer_143 : decode cX6_refer 143 = .ok (.goto 15, 3) := by decide +kernel
theorem dX6_refer_146 : decode cX6_refer 146 = .ok (.aload_n 0, 1) := by decide +kernel
theorem dX6_refer_147 : decode cX6_refer 147 = .ok (.getfield 16, 3) := by decide +kernel
theorem dX6_refer_150 : decode cX6_refer 150 = .ok (.iload_n 1, 1) := by decide +kernel
theorem dX6_refer_151 : decode cX6_refer 151 = .ok (.iaload, 1) := by decide +kernel
theorem dX6_refer_152 : decode cX6_refer 152 = .ok (.iconst 1, 1) := by decide +kernel
theorem dX6_refer_153 : decode cX6_refer 153 = .ok (.iload_n 3, 1) := by decide +kernel
theorem dX6_refer_154 : decode cX6_refer 154 = .ok (.ishl, 1) := by decide +kernel
theorem dX6_refer_155 : decode cX6_refer 155 = .ok (.iconst (-1), 1) := by decide +kernel
theorem dX6_refer_156 : decode cX6_refer 156 = .ok (.ixor, 1) := by decide +kernel
theorem dX6_refer_157 : decode cX6_refer 157 = .ok (.iand, 1) := by decide +kernel
theorem dX6_refer_158 : decode cX6_refer 158 = .ok (.iastore, 1) := by decide +kernel
theorem dX6_refer_159 : decode cX6_refer 159 = .ok (.iload 6, 2) := by decide +kernel
theorem dX6_refer_161 : decode cX6_refer 161 = .ok (.ireturn, 1) := by decide +kernel
theorem dX6_drawings_0 : decode cX6_drawings 0 = .ok (.aload_n 0, 1) := by decide +kernel
theorem dX6_drawings_1 : decode cX6_drawings 1 = .ok (.iconst 0, 1) := by decide +kernel
theorem dX6_drawings_2 : decode cX6_drawings 2 = .ok (.putfield 58, 3) := by decide +kernel
theorem dX6_drawings_5 : decode cX6_drawings 5 = .ok (.aload_n 0, 1) := by decide +kernel
theorem dX6_drawings_6 : decode cX6_drawings 6 = .ok (.getfield 62, 3) := by decide +kernel
theorem dX6_drawings_9 : decode cX6_drawings 9 = .ok (.ireturn, 1) := by decide +kernel
theorem dX6_side_0 : decode cX6_side 0 = .ok (.aload_n 0, 1) := by decide +kernel
theorem dX6_side_1 : decode cX6_side 1 = .ok (.aload_n 0, 1) := by decide +kernel
theorem dX6_side_2 : decode cX6_side 2 = .ok (.iload_n 1, 1) := by decide +kernel
theorem dX6_side_3 : decode cX6_side 3 = .ok (.invokevirtual 83, 3) := by decide +kernel
theorem dX6_side_6 : decode cX6_side 6 = .ok (.ifCond .ne 7, 3) := by decide +kernel
theorem dX6_side_9 : decode cX6_side 9 = .ok (.iconst 1, 1) := by decide +kernel
theorem dX6_side_10 : decode cX6_side 10 = .ok (.goto 18, 3) := by decide +kernel
theorem dX6_side_13 : decode cX6_side 13 = .ok (.iload_n 2, 1) := by decide +kernel
theorem dX6_side_14 : decode cX6_side 14 = .ok (.iconst 0, 1) := by decide +kernel
theorem dX6_side_15 : decode cX6_side 15 = .ok (.bipush 39, 2) := by decide +kernel
theorem dX6_side_17 : decode cX6_side 17 = .ok (.invokestatic 65, 3) := by decide +kernel
theorem dX6_side_20 : decode cX6_side 20 = .ok (.ifCond .eq 7, 3) := by decide +kernel
theorem dX6_side_23 : decode cX6_side 23 = .ok (.iconst 0, 1) := by decide +kernel
theorem dX6_side_24 : decode cX6_side 24 = .ok (.goto 4, 3) := by decide +kernel
theorem dX6_side_27 : decode cX6_side 27 = .ok (.iconst 2, 1) := by decide +kernel
theorem dX6_side_28 : decode cX6_side 28 = .ok (.putfield 58, 3) := by decide +kernel
theorem dX6_side_31 : decode cX6_side 31 = .ok (.aload_n 0, 1) := by decide +kernel
theorem dX6_side_32 : decode cX6_side 32 = .ok (.getfield 58, 3) := by decide +kernel
theorem dX6_side_35 : decode cX6_side 35 = .ok (.ifCond .le 5, 3) := by decide +kernel
theorem dX6_side_38 : decode cX6_side 38 = .ok (.iconst 0, 1) := by decide +kernel
theorem dX6_side_39 : decode cX6_side 39 = .ok (.ireturn, 1) := by decide +kernel
theorem dX6_side_40 : decode cX6_side 40 = .ok (.aload_n 0, 1) := by decide +kernel
theorem dX6_side_41 : decode cX6_side 41 = .ok (.invokevirtual 77, 3) := by decide +kernel
theorem dX6_side_44 : decode cX6_side 44 = .ok (.aload_n 0, 1) := by decide +kernel
theorem dX6_side_45 : decode cX6_side 45 = .ok (.getfield 25, 3) := by decide +kernel
theorem dX6_side_48 : decode cX6_side 48 = .ok (.bipush 40, 2) := by decide +kernel
theorem dX6_side_50 : decode cX6_side 50 = .ok (.iload_n 1, 1) := by decide +kernel
theorem dX6_side_51 : decode cX6_side 51 = .ok (.imul, 1) := by decide +kernel
theorem dX6_side_52 : decode cX6_side 52 = .ok (.iload_n 2, 1) := by decide +kernel
theorem dX6_side_53 : decode cX6_side 53 = .ok (.iadd, 1) := by decide +kernel
theorem dX6_side_54 : decode cX6_side 54 = .ok (.iaload, 1) := by decide +kernel
theorem dX6_side_55 : decode cX6_side 55 = .ok (.ireturn, 1) := by decide +kernel
theorem dX6_hasExit_0 : decode cX6_hasExit 0 = .ok (.aload_n 0, 1) := by decide +kernel
theorem dX6_hasExit_1 : decode cX6_hasExit 1 = .ok (.iload_n 1, 1) := by decide +kernel
theorem dX6_hasExit_2 : decode cX6_hasExit 2 = .ok (.iload_n 2, 1) := by decide +kernel
theorem dX6_hasExit_3 : decode cX6_hasExit 3 = .ok (.invokevirtual 103, 3) := by decide +kernel
theorem dX6_hasExit_6 : decode cX6_hasExit 6 = .ok (.ifCond .eq 21, 3) := by decide +kernel
theorem dX6_hasExit_9 : decode cX6_hasExit 9 = .ok (.aload_n 0, 1) := by decide +kernel
theorem dX6_hasExit_10 : decode cX6_hasExit 10 = .ok (.getfield 28, 3) := by decide +kernel
theorem dX6_hasExit_13 : decode cX6_hasExit 13 = .ok (.iload_n 1, 1) := by decide +kernel
theorem dX6_hasExit_14 : decode cX6_hasExit 14 = .ok (.iaload, 1) := by decide +kernel
theorem dX6_hasExit_15 : decode cX6_hasExit 15 = .ok (.iload_n 2, 1) := by decide +kernel
theorem dX6_hasExit_16 : decode cX6_hasExit 16 = .ok (.ishr, 1) := by decide +kernel
theorem dX6_hasExit_17 : decode cX6_hasExit 17 = .ok (.iconst 1, 1) := by decide +kernel
theorem dX6_hasExit_18 : decode cX6_hasExit 18 = .ok (.iand, 1) := by decide +kernel
theorem dX6_hasExit_19 : decode cX6_hasExit 19 = .ok (.iconst 1, 1) := by decide +kernel
theorem dX6_hasExit_20 : decode cX6_hasExit 20 = .ok (.if_icmp .ne 7, 3) := by decide +kernel
theorem dX6_hasExit_23 : decode cX6_hasExit 23 = .ok (.iconst 1, 1) := by decide +kernel
theorem dX6_hasExit_24 : decode cX6_hasExit 24 = .ok (.goto 4, 3) := by decide +kernel
theorem dX6_hasExit_27 : decode cX6_hasExit 27 = .ok (.iconst 0, 1) := by decide +kernel
theorem dX6_hasExit_28 : decode cX6_hasExit 28 = .ok (.ireturn, 1) := by decide +kernel
theorem dX6_rooms_0 : decode cX6_rooms 0 = .ok (.iconst 0, 1) := by decide +kernel
theorem dX6_rooms_1 : decode cX6_rooms 1 = .ok (.istore_n 2, 1) := by decide +kernel
theorem dX6_rooms_2 : decode cX6_rooms 2 = .ok (.aload_n 0, 1) := by decide +kernel
theorem dX6_rooms_3 : decode cX6_rooms 3 = .ok (.iload_n 1, 1) := by decide +kernel
theorem dX6_rooms_4 : decode cX6_rooms 4 = .ok (.iconst 0, 1) := by decide +kernel
theorem dX6_rooms_5 : decode cX6_rooms 5 = .ok (.invokevirtual 103, 3) := by decide +kernel
theorem dX6_rooms_8 : decode cX6_rooms 8 = .ok (.istore_n 3, 1) := by decide +kernel
theorem dX6_rooms_9 : decode cX6_rooms 9 = .ok (.iconst 0, 1) := by decide +kernel
theorem dX6_rooms_10 : decode cX6_rooms 10 = .ok (.istore 4, 2) := by decide +kernel
theorem dX6_rooms_12 : decode cX6_rooms 12 = .ok (.iload 4, 2) := by decide +kernel
theorem dX6_rooms_14 : decode cX6_rooms 14 = .ok (.bipush 25, 2) := by decide +kernel
theorem dX6_rooms_16 : decode cX6_rooms 16 = .ok (.if_icmp .ge 33, 3) := by decide +kernel
theorem dX6_rooms_19 : decode cX6_rooms 19 = .ok (.iload_n 3, 1) := by decide +kernel
theorem dX6_rooms_20 : decode cX6_rooms 20 = .ok (.ifCond .eq 29, 3) := by decide +kernel
theorem dX6_rooms_23 : decode cX6_rooms 23 = .ok (.iload_n 2, 1) := by decide +kernel
theorem dX6_rooms_24 : decode cX6_rooms 24 = .ok (.aload_n 0, 1) := by decide +kernel
theorem dX6_rooms_25 : decode cX6_rooms 25 = .ok (.getfield 31, 3) := by decide +kernel
theorem dX6_rooms_28 : decode cX6_rooms 28 = .ok (.iload 4, 2) := by decide +kernel
theorem dX6_rooms_30 : decode cX6_rooms 30 = .ok (.iaload, 1) := by decide +kernel
theorem dX6_rooms_31 : decode cX6_rooms 31 = .ok (.iload 4, 2) := by decide +kernel
theorem dX6_rooms_33 : decode cX6_rooms 33 = .ok (.if_icmp .ne 7, 3) := by decide +kernel
theorem dX6_rooms_36 : decode cX6_rooms 36 = .ok (.iconst 1, 1) := by decide +kernel
theorem dX6_rooms_37 : decode cX6_rooms 37 = .ok (.goto 4, 3) := by decide +kernel
theorem dX6_rooms_40 : decode cX6_rooms 40 = .ok (.iconst 0, 1) := by decide +kernel
theorem dX6_rooms_41 : decode cX6_rooms 41 = .ok (.iadd, 1) := by decide +kernel
theorem dX6_rooms_42 : decode cX6_rooms 42 = .ok (.istore_n 2, 1) := by decide +kernel
theorem dX6_rooms_43 : decode cX6_rooms 43 = .ok (.iinc 4 1, 3) := by decide +kernel
theorem dX6_rooms_46 : decode cX6_rooms 46 = .ok (.goto (-34), 3) := by decide +kernel
theorem dX6_rooms_49 : decode cX6_rooms 49 = .ok (.iload_n 2, 1) := by decide +kernel
theorem dX6_rooms_50 : decode cX6_rooms 50 = .ok (.ireturn, 1) := by decide +kernel
theorem dX6_room_0 : decode cX6_room 0 = .ok (.aload_n 0, 1) := by decide +kernel
theorem dX6_room_1 : decode cX6_room 1 = .ok (.iload_n 1, 1) := by decide +kernel
theorem dX6_room_2 : decode cX6_room 2 = .ok (.iload_n 2, 1) := by decide +kernel
theorem dX6_room_3 : decode cX6_room 3 = .ok (.invokevirtual 103, 3) := by decide +kernel
theorem dX6_room_6 : decode cX6_room 6 = .ok (.ifCond .eq 12, 3) := by decide +kernel
theorem dX6_room_9 : decode cX6_room 9 = .ok (.aload_n 0, 1) := by decide +kernel
theorem dX6_room_10 : decode cX6_room 10 = .ok (.getfield 31, 3) := by decide +kernel
theorem dX6_room_13 : decode cX6_room 13 = .ok (.iload_n 2, 1) := by decide +kernel
theorem dX6_room_14 : decode cX6_room 14 = .ok (.iaload, 1) := by decide +kernel
theorem dX6_room_15 : decode cX6_room 15 = .ok (.goto 4, 3) := by decide +kernel
theorem dX6_room_18 : decode cX6_room 18 = .ok (.iconst 0, 1) := by decide +kernel
theorem dX6_room_19 : decode cX6_room 19 = .ok (.ireturn, 1) := by decide +kernel
theorem dX6_size_0 : decode cX6_size 0 = .ok (.iconst 0, 1) := by decide +kernel
theorem dX6_size_1 : decode cX6_size 1 = .ok (.istore_n 3, 1) := by decide +kernel
theorem dX6_size_2 : decode cX6_size 2 = .ok (.aload_n 0, 1) := by decide +kernel
theorem dX6_size_3 : decode cX6_size 3 = .ok (.iload_n 1, 1) := by decide +kernel
theorem dX6_size_4 : decode cX6_size 4 = .ok (.iload_n 2, 1) := by decide +kernel
theorem dX6_size_5 : decode cX6_size 5 = .ok (.invokevirtual 103, 3) := by decide +kernel
theorem dX6_size_8 : decode cX6_size 8 = .ok (.istore 4, 2) := by decide +kernel
theorem dX6_size_10 : decode cX6_size 10 = .ok (.iconst 0, 1) := by decide +kernel
theorem dX6_size_11 : decode cX6_size 11 = .ok (.istore 5, 2) := by decide +kernel
theorem dX6_size_13 : decode cX6_size 13 = .ok (.iload 5, 2) := by decide +kernel
theorem dX6_size_15 : decode cX6_size 15 = .ok (.bipush 25, 2) := by decide +kernel
theorem dX6_size_17 : decode cX6_size 17 = .ok (.if_icmp .ge 38, 3) := by decide +kernel
theorem dX6_size_20 : decode cX6_size 20 = .ok (.iload 4, 2) := by decide +kernel
theorem dX6_size_22 : decode cX6_size 22 = .ok (.ifCond .eq 33, 3) := by decide +kernel
theorem dX6_size_25 : decode cX6_size 25 = .ok (.iload_n 3, 1) := by decide +kernel
theorem dX6_size_26 : decode cX6_size 26 = .ok (.aload_n 0, 1) := by decide +kernel
theorem dX6_size_27 : decode cX6_size 27 = .ok (.getfield 31, 3) := by decide +kernel
theorem dX6_size_30 : decode cX6_size 30 = .ok (.iload 5, 2) := by decide +kernel
theorem dX6_size_32 : decode cX6_size 32 = .ok (.iaload, 1) := by decide +kernel
theorem dX6_size_33 : decode cX6_size 33 = .ok (.aload_n 0, 1) := by decide +kernel
theorem dX6_size_34 : decode cX6_size 34 = .ok (.getfield 31, 3) := by decide +kernel
theorem dX6_size_37 : decode cX6_size 37 = .ok (.iload_n 2, 1) := by decide +kernel
theorem dX6_size_38 : decode cX6_size 38 = .ok (.iaload, 1) := by decide +kernel
theorem dX6_size_39 : decode cX6_size 39 = .ok (.if_icmp .ne 7, 3) := by decide +kernel
theorem dX6_size_42 : decode cX6_size 42 = .ok (.iconst 1, 1) := by decide +kernel
theorem dX6_size_43 : decode cX6_size 43 = .ok (.goto 4, 3) := by decide +kernel
theorem dX6_size_46 : decode cX6_size 46 = .ok (.iconst 0, 1) := by decide +kernel
theorem dX6_size_47 : decode cX6_size 47 = .ok (.iadd, 1) := by decide +kernel
theorem dX6_size_48 : decode cX6_size 48 = .ok (.istore_n 3, 1) := by decide +kernel
theorem dX6_size_49 : decode cX6_size 49 = .ok (.iinc 5 1, 3) := by decide +kernel
theorem dX6_size_52 : decode cX6_size 52 = .ok (.goto (-39), 3) := by decide +kernel
theorem dX6_size_55 : decode cX6_size 55 = .ok (.iload_n 3, 1) := by decide +kernel
theorem dX6_size_56 : decode cX6_size 56 = .ok (.ireturn, 1) := by decide +kernel
theorem dX6_doorsOut_0 : decode cX6_doorsOut 0 = .ok (.aload_n 0, 1) := by decide +kernel
theorem dX6_doorsOut_1 : decode cX6_doorsOut 1 = .ok (.iload_n 1, 1) := by decide +kernel
theorem dX6_doorsOut_2 : decode cX6_doorsOut 2 = .ok (.iload_n 2, 1) := by decide +kernel
theorem dX6_doorsOut_3 : decode cX6_doorsOut 3 = .ok (.invokevirtual 103, 3) := by decide +kernel
theorem dX6_doorsOut_6 : decode cX6_doorsOut 6 = .ok (.ifCond .ne 5, 3) := by decide +kernel
theorem dX6_doorsOut_9 : decode cX6_doorsOut 9 = .ok (.iconst 0, 1) := by decide +kernel
theorem dX6_doorsOut_10 : decode cX6_doorsOut 10 = .ok (.ireturn, 1) := by decide +kernel
theorem dX6_doorsOut_11 : decode cX6_doorsOut 11 = .ok (.aload_n 0, 1) := by decide +kernel
theorem dX6_doorsOut_12 : decode cX6_doorsOut 12 = .ok (.getfield 34, 3) := by decide +kernel
theorem dX6_doorsOut_15 : decode cX6_doorsOut 15 = .ok (.aload_n 0, 1) := by decide +kernel
theorem dX6_doorsOut_16 : decode cX6_doorsOut 16 = .ok (.getfield 31, 3) := by decide +kernel
theorem dX6_doorsOut_19 : decode cX6_doorsOut 19 = .ok (.iload_n 2, 1) := by decide +kernel
theorem dX6_doorsOut_20 : decode cX6_doorsOut 20 = .ok (.iaload, 1) := by decide +kernel
theorem dX6_doorsOut_21 : decode cX6_doorsOut 21 = .ok (.iaload, 1) := by decide +kernel
theorem dX6_doorsOut_22 : decode cX6_doorsOut 22 = .ok (.istore_n 3, 1) := by decide +kernel
theorem dX6_doorsOut_23 : decode cX6_doorsOut 23 = .ok (.iload_n 3, 1) := by decide +kernel
theorem dX6_doorsOut_24 : decode cX6_doorsOut 24 = .ok (.bipush 99, 2) := by decide +kernel
theorem dX6_doorsOut_26 : decode cX6_doorsOut 26 = .ok (.if_icmp .ne 7, 3) := by decide +kernel
theorem dX6_doorsOut_29 : decode cX6_doorsOut 29 = .ok (.iconst (-1), 1) := by decide +kernel
theorem dX6_doorsOut_30 : decode cX6_doorsOut 30 = .ok (.goto 4, 3) := by decide +kernel
theorem dX6_doorsOut_33 : decode cX6_doorsOut 33 = .ok (.iload_n 3, 1) := by decide +kernel
theorem dX6_doorsOut_34 : decode cX6_doorsOut 34 = .ok (.ireturn, 1) := by decide +kernel
theorem dX6_doorThatHelps_0 : decode cX6_doorThatHelps 0 = .ok (.aload_n 0, 1) := by decide +kernel
theorem dX6_doorThatHelps_1 : decode cX6_doorThatHelps 1 = .ok (.iload_n 1, 1) := by decide +kernel
theorem dX6_doorThatHelps_2 : decode cX6_doorThatHelps 2 = .ok (.iload_n 2, 1) := by decide +kernel
theorem dX6_doorThatHelps_3 : decode cX6_doorThatHelps 3 = .ok (.invokevirtual 103, 3) := by decide +kernel
theorem dX6_doorThatHelps_6 : decode cX6_doorThatHelps 6 = .ok (.ifCond .ne 5, 3) := by decide +kernel
theorem dX6_doorThatHelps_9 : decode cX6_doorThatHelps 9 = .ok (.iconst 0, 1) := by decide +kernel
theorem dX6_doorThatHelps_10 : decode cX6_doorThatHelps 10 = .ok (.ireturn, 1) := by decide +kernel
theorem dX6_doorThatHelps_11 : decode cX6_doorThatHelps 11 = .ok (.iconst (-1), 1) := by decide +kernel
theorem dX6_doorThatHelps_12 : decode cX6_doorThatHelps 12 = .ok (.istore_n 3, 1) := by decide +kernel
theorem dX6_doorThatHelps_13 : decode cX6_doorThatHelps 13 = .ok (.bipush 39, 2) := by decide +kernel
theorem dX6_doorThatHelps_15 : decode cX6_doorThatHelps 15 = .ok (.istore 4, 2) := by decide +kernel
theorem dX6_doorThatHelps_17 : decode cX6_doorThatHelps 17 = .ok (.iload 4, 2) := by decide +kernel
theorem dX6_doorThatHelps_19 : decode cX6_doorThatHelps 19 = .ok (.ifCond .lt 140, 3) := by decide +kernel
theorem dX6_doorThatHelps_22 : decode cX6_doorThatHelps 22 = .ok (.aload_n 0, 1) := by decide +kernel
theorem dX6_doorThatHelps_23 : decode cX6_doorThatHelps 23 = .ok (.getfield 34, 3) := by decide +kernel
theorem dX6_doorThatHelps_26 : decode cX6_doorThatHelps 26 = .ok (.aload_n 0, 1) := by decide +kernel
theorem dX6_doorThatHelps_27 : decode cX6_doorThatHelps 27 = .ok (.getfield 31, 3) := by decide +kernel
theorem dX6_doorThatHelps_30 : decode cX6_doorThatHelps 30 = .ok (.iload_n 2, 1) := by decide +kernel
theorem dX6_doorThatHelps_31 : decode cX6_doorThatHelps 31 = .ok (.iaload, 1) := by decide +kernel
theorem dX6_doorThatHelps_32 : decode cX6_doorThatHelps 32 = .ok (.iaload, 1) := by decide +kernel
theorem dX6_doorThatHelps_33 : decode cX6_doorThatHelps 33 = .ok (.bipush 99, 2) := by decide +kernel
theorem dX6_doorThatHelps_35 : decode cX6_doorThatHelps 35 = .ok (.if_icmp .ne 124, 3) := by decide +kernel
theorem dX6_doorThatHelps_38 : decode cX6_doorThatHelps 38 = .ok (.aload_n 0, 1) := by decide +kernel
theorem dX6_doorThatHelps_39 : decode cX6_doorThatHelps 39 = .ok (.getfield 31, 3) := by decide +kernel
theorem dX6_doorThatHelps_42 : decode cX6_doorThatHelps 42 = .ok (.iload 4, 2) := by decide +kernel
theorem dX6_doorThatHelps_44 : decode cX6_doorThatHelps 44 = .ok (.invokestatic 73, 3) := by decide +kernel
theorem dX6_doorThatHelps_47 : decode cX6_doorThatHelps 47 = .ok (.iaload, 1) := by decide +kernel
theorem dX6_doorThatHelps_48 : decode cX6_doorThatHelps 48 = .ok (.istore 5, 2) := by decide +kernel
theorem dX6_doorThatHelps_50 : decode cX6_doorThatHelps 50 = .ok (.aload_n 0, 1) := by decide +kernel
theorem dX6_doorThatHelps_51 : decode cX6_doorThatHelps 51 = .ok (.getfield 31, 3) := by decide +kernel
theorem dX6_doorThatHelps_54 : decode cX6_doorThatHelps 54 = .ok (.iload 4, 2) := by decide +kernel
theorem dX6_doorThatHelps_56 : decode cX6_doorThatHelps 56 = .ok (.invokestatic 80, 3) := by decide +kernel
theorem dX6_doorThatHelps_59 : decode cX6_doorThatHelps 59 = .ok (.iaload, 1) := by decide +kernel
theorem dX6_doorThatHelps_60 : decode cX6_doorThatHelps 60 = .ok (.istore 6, 2) := by decide +kernel
theorem dX6_doorThatHelps_62 : decode cX6_doorThatHelps 62 = .ok (.aload_n 0, 1) := by decide +kernel
theorem dX6_doorThatHelps_63 : decode cX6_doorThatHelps 63 = .ok (.getfield 34, 3) := by decide +kernel
theorem dX6_doorThatHelps_66 : decode cX6_doorThatHelps 66 = .ok (.iload 5, 2) := by decide +kernel
theorem dX6_doorThatHelps_68 : decode cX6_doorThatHelps 68 = .ok (.iaload, 1) := by decide +kernel
theorem dX6_doorThatHelps_69 : decode cX6_doorThatHelps 69 = .ok (.bipush 99, 2) := by decide +kernel
theorem dX6_doorThatHelps_71 : decode cX6_doorThatHelps 71 = .ok (.if_icmp .ge 19, 3) := by decide +kernel
theorem dX6_doorThatHelps_74 : decode cX6_doorThatHelps 74 = .ok (.aload_n 0, 1) := by decide +kernel
theorem dX6_doorThatHelps_75 : decode cX6_doorThatHelps 75 = .ok (.iload_n 1, 1) := by decide +kernel
theorem dX6_doorThatHelps_76 : decode cX6_doorThatHelps 76 = .ok (.aload_n 0, 1) := by decide +kernel
theorem dX6_doorThatHelps_77 : decode cX6_doorThatHelps 77 = .ok (.getfield 31, 3) := by decide +kernel
theorem dX6_doorThatHelps_80 : decode cX6_doorThatHelps 80 = .ok (.iload_n 2, 1) := by decide +kernel
theorem dX6_doorThatHelps_81 : decode cX6_doorThatHelps 81 = .ok (.iaload, 1) := by decide +kernel
theorem dX6_doorThatHelps_82 : decode cX6_doorThatHelps 82 = .ok (.iload 6, 2) := by decide +kernel
theorem dX6_doorThatHelps_84 : decode cX6_doorThatHelps 84 = .ok (.invokevirtual 107, 3) := by decide +kernel
theorem dX6_doorThatHelps_87 : decode cX6_doorThatHelps 87 = .ok (.ifCond .ne 31, 3) := by decide +kernel
theorem dX6_doorThatHelps_90 : decode cX6_doorThatHelps 90 = .ok (.aload_n 0, 1) := by decide +kernel
theorem dX6_doorThatHelps_91 : decode cX6_doorThatHelps 91 = .ok (.getfield 34, 3) := by decide +kernel
theorem dX6_doorThatHelps_94 : decode cX6_doorThatHelps 94 = .ok (.iload 6, 2) := by decide +kernel
theorem dX6_doorThatHelps_96 : decode cX6_doorThatHelps 96 = .ok (.iaload, 1) := by decide +kernel
theorem dX6_doorThatHelps_97 : decode cX6_doorThatHelps 97 = .ok (.bipush 99, 2) := by decide +kernel
theorem dX6_doorThatHelps_99 : decode cX6_doorThatHelps 99 = .ok (.if_icmp .ge 23, 3) := by decide +kernel
theorem dX6_doorThatHelps_102 : decode cX6_doorThatHelps 102 = .ok (.aload_n 0, 1) := by decide +kernel
theorem dX6_doorThatHelps_103 : decode cX6_doorThatHelps 103 = .ok (.iload_n 1, 1) := by decide +kernel
theorem dX6_doorThatHelps_104 : decode cX6_doorThatHelps 104 = .ok (.aload_n 0, 1) := by decide +kernel
theorem dX6_doorThatHelps_105 : decode cX6_doorThatHelps 105 = .ok (.getfield 31, 3) := by decide +kernel
theorem dX6_doorThatHelps_108 : decode cX6_doorThatHelps 108 = .ok (.iload_n 2, 1) := by decide +kernel
theorem dX6_doorThatHelps_109 : decode cX6_doorThatHelps 109 = .ok (.iaload, 1) := by decide +kernel
theorem dX6_doorThatHelps_110 : decode cX6_doorThatHelps 110 = .ok (.iload 5, 2) := by decide +kernel
theorem dX6_doorThatHelps_112 : decode cX6_doorThatHelps 112 = .ok (.invokevirtual 107, 3) := by decide +kernel
theorem dX6_doorThatHelps_115 : decode cX6_doorThatHelps 115 = .ok (.ifCond .eq 7, 3) := by decide +kernel
theorem dX6_doorThatHelps_118 : decode cX6_doorThatHelps 118 = .ok (.iconst 1, 1) := by decide +kernel
theorem dX6_doorThatHelps_119 : decode cX6_doorThatHelps 119 = .ok (.goto 4, 3) := by decide +kernel
theorem dX6_doorThatHelps_122 : decode cX6_doorThatHelps 122 = .ok (.iconst 0, 1) := by decide +kernel
theorem dX6_doorThatHelps_123 : decode cX6_doorThatHelps 123 = .ok (.istore 7, 2) := by decide +kernel
theorem dX6_doorThatHelps_125 : decode cX6_doorThatHelps 125 = .ok (.aload_n 0, 1) := by decide +kernel
theorem dX6_doorThatHelps_126 : decode cX6_doorThatHelps 126 = .ok (.getfield 25, 3) := by decide +kernel
theorem dX6_doorThatHelps_129 : decode cX6_doorThatHelps 129 = .ok (.bipush 40, 2) := by decide +kernel
theorem dX6_doorThatHelps_131 : decode cX6_doorThatHelps 131 = .ok (.iload_n 1, 1) := by decide +kernel
theorem dX6_doorThatHelps_132 : decode cX6_doorThatHelps 132 = .ok (.imul, 1) := by decide +kernel
theorem dX6_doorThatHelps_133 : decode cX6_doorThatHelps 133 = .ok (.iload 4, 2) := by decide +kernel
theorem dX6_doorThatHelps_135 : decode cX6_doorThatHelps 135 = .ok (.iadd, 1) := by decide +kernel
theorem dX6_doorThatHelps_136 : decode cX6_doorThatHelps 136 = .ok (.iaload, 1) := by decide +kernel
theorem dX6_doorThatHelps_137 : decode cX6_doorThatHelps 137 = .ok (.iconst 1, 1) := by decide +kernel
theorem dX6_doorThatHelps_138 : decode cX6_doorThatHelps 138 = .ok (.if_icmp .ne 13, 3) := by decide +kernel
theorem dX6_doorThatHelps_141 : decode cX6_doorThatHelps 141 = .ok (.iload 7, 2) := by decide +kernel
theorem dX6_doorThatHelps_143 : decode cX6_doorThatHelps 143 = .ok (.ifCond .eq 8, 3) := by decide +kernel
theorem dX6_doorThatHelps_146 : decode cX6_doorThatHelps 146 = .ok (.iload 4, 2) := by decide +kernel
theorem dX6_doorThatHelps_148 : decode cX6_doorThatHelps 148 = .ok (.goto 4, 3) := by decide +kernel
theorem dX6_doorThatHelps_151 : decode cX6_doorThatHelps 151 = .ok (.iload_n 3, 1) := by decide +kernel
theorem dX6_doorThatHelps_152 : decode cX6_doorThatHelps 152 = .ok (.istore_n 3, 1) := by decide +kernel
theorem dX6_doorThatHelps_153 : decode cX6_doorThatHelps 153 = .ok (.iinc 4 (-1), 3) := by decide +kernel
theorem dX6_doorThatHelps_156 : decode cX6_doorThatHelps 156 = .ok (.goto (-139), 3) := by decide +kernel
theorem dX6_doorThatHelps_159 : decode cX6_doorThatHelps 159 = .ok (.iload_n 3, 1) := by decide +kernel
theorem dX6_doorThatHelps_160 : decode cX6_doorThatHelps 160 = .ok (.ireturn, 1) := by decide +kernel
theorem dX6_lock_0 : decode cX6_lock 0 = .ok (.aload_n 0, 1) := by decide +kernel
theorem dX6_lock_1 : decode cX6_lock 1 = .ok (.aload_n 0, 1) := by decide +kernel
theorem dX6_lock_2 : decode cX6_lock 2 = .ok (.iload_n 1, 1) := by decide +kernel
theorem dX6_lock_3 : decode cX6_lock 3 = .ok (.invokevirtual 83, 3) := by decide +kernel
theorem dX6_lock_6 : decode cX6_lock 6 = .ok (.ifCond .ne 7, 3) := by decide +kernel
theorem dX6_lock_9 : decode cX6_lock 9 = .ok (.iconst 1, 1) := by decide +kernel
theorem dX6_lock_10 : decode cX6_lock 10 = .ok (.goto 28, 3) := by decide +kernel
theorem dX6_lock_13 : decode cX6_lock 13 = .ok (.iload_n 2, 1) := by decide +kernel
theorem dX6_lock_14 : decode cX6_lock 14 = .ok (.invokestatic 94, 3) := by decide +kernel
theorem dX6_lock_17 : decode cX6_lock 17 = .ok (.ifCond .ne 7, 3) := by decide +kernel
theorem dX6_lock_20 : decode cX6_lock 20 = .ok (.iconst 2, 1) := by decide +kernel
theorem dX6_lock_21 : decode cX6_lock 21 = .ok (.goto 17, 3) := by decide +kernel
theorem dX6_lock_24 : decode cX6_lock 24 = .ok (.aload_n 0, 1) := by decide +kernel
theorem dX6_lock_25 : decode cX6_lock 25 = .ok (.getfield 19, 3) := by decide +kernel
theorem dX6_lock_28 : decode cX6_lock 28 = .ok (.iload_n 1, 1) := by decide +kernel
theorem dX6_lock_29 : decode cX6_lock 29 = .ok (.iaload, 1) := by decide +kernel
theorem dX6_lock_30 : decode cX6_lock 30 = .ok (.ifCond .lt 7, 3) := by decide +kernel
theorem dX6_lock_33 : decode cX6_lock 33 = .ok (.iconst 3, 1) := by decide +kernel
theorem dX6_lock_34 : decode cX6_lock 34 = .ok (.goto 4, 3) := by decide +kernel
theorem dX6_lock_37 : decode cX6_lock 37 = .ok (.iconst 0, 1) := by decide +kernel
theorem dX6_lock_38 : decode cX6_lock 38 = .ok (.putfield 58, 3) := by decide +kernel
theorem dX6_lock_41 : decode cX6_lock 41 = .ok (.aload_n 0, 1) := by decide +kernel
theorem dX6_lock_42 : decode cX6_lock 42 = .ok (.getfield 58, 3) := by decide +kernel
theorem dX6_lock_45 : decode cX6_lock 45 = .ok (.ifCond .ne 10, 3) := by decide +kernel
theorem dX6_lock_48 : decode cX6_lock 48 = .ok (.aload_n 0, 1) := by decide +kernel
theorem dX6_lock_49 : decode cX6_lock 49 = .ok (.getfield 19, 3) := by decide +kernel
theorem dX6_lock_52 : decode cX6_lock 52 = .ok (.iload_n 1, 1) := by decide +kernel
theorem dX6_lock_53 : decode cX6_lock 53 = .ok (.iload_n 2, 1) := by decide +kernel
theorem dX6_lock_54 : decode cX6_lock 54 = .ok (.iastore, 1) := by decide +kernel
theorem dX6_lock_55 : decode cX6_lock 55 = .ok (.return_, 1) := by decide +kernel
theorem dX6_unlock_0 : decode cX6_unlock 0 = .ok (.aload_n 0, 1) := by decide +kernel
theorem dX6_unlock_1 : decode cX6_unlock 1 = .ok (.aload_n 0, 1) := by decide +kernel
theorem dX6_unlock_2 : decode cX6_unlock 2 = .ok (.iload_n 1, 1) := by decide +kernel
theorem dX6_unlock_3 : decode cX6_unlock 3 = .ok (.invokevirtual 83, 3) := by decide +kernel
theorem dX6_unlock_6 : decode cX6_unlock 6 = .ok (.ifCond .ne 7, 3) := by decide +kernel
theorem dX6_unlock_9 : decode cX6_unlock 9 = .ok (.iconst 1, 1) := by decide +kernel
theorem dX6_unlock_10 : decode cX6_unlock 10 = .ok (.goto 38, 3) := by decide +kernel
theorem dX6_unlock_13 : decode cX6_unlock 13 = .ok (.iload_n 2, 1) := by decide +kernel
theorem dX6_unlock_14 : decode cX6_unlock 14 = .ok (.invokestatic 94, 3) := by decide +kernel
theorem dX6_unlock_17 : decode cX6_unlock 17 = .ok (.ifCond .ne 7, 3) := by decide +kernel
theorem dX6_unlock_20 : decode cX6_unlock 20 = .ok (.iconst 2, 1) := by decide +kernel
theorem dX6_unlock_21 : decode cX6_unlock 21 = .ok (.goto 27, 3) := by decide +kernel
theorem dX6_unlock_24 : decode cX6_unlock 24 = .ok (.aload_n 0, 1) := by decide +kernel
theorem dX6_unlock_25 : decode cX6_unlock 25 = .ok (.getfield 19, 3) := by decide +kernel
theorem dX6_unlock_28 : decode cX6_unlock 28 = .ok (.iload_n 1, 1) := by decide +kernel
theorem dX6_unlock_29 : decode cX6_unlock 29 = .ok (.iaload, 1) := by decide +kernel
theorem dX6_unlock_30 : decode cX6_unlock 30 = .ok (.iload_n 2, 1) := by decide +kernel
theorem dX6_unlock_31 : decode cX6_unlock 31 = .ok (.if_icmp .ne 12, 3) := by decide +kernel
theorem dX6_unlock_34 : decode cX6_unlock 34 = .ok (.aload_n 0, 1) := by decide +kernel
theorem dX6_unlock_35 : decode cX6_unlock 35 = .ok (.getfield 22, 3) := by decide +kernel
theorem dX6_unlock_38 : decode cX6_unlock 38 = .ok (.iload_n 1, 1) := by decide +kernel
theorem dX6_unlock_39 : decode cX6_unlock 39 = .ok (.iaload, 1) := by decide +kernel
theorem dX6_unlock_40 : decode cX6_unlock 40 = .ok (.ifCond .lt 7, 3) := by decide +kernel
theorem dX6_unlock_43 : decode cX6_unlock 43 = .ok (.iconst 3, 1) := by decide +kernel
theorem dX6_unlock_44 : decode cX6_unlock 44 = .ok (.goto 4, 3) := by decide +kernel
theorem dX6_unlock_47 : decode cX6_unlock 47 = .ok (.iconst 0, 1) := by decide +kernel
theorem dX6_unlock_48 : decode cX6_unlock 48 = .ok (.putfield 58, 3) := by decide +kernel
theorem dX6_unlock_51 : decode cX6_unlock 51 = .ok (.aload_n 0, 1) := by decide +kernel
theorem dX6_unlock_52 : decode cX6_unlock 52 = .ok (.getfield 58, 3) := by decide +kernel
theorem dX6_unlock_55 : decode cX6_unlock 55 = .ok (.ifCond .ne 10, 3) := by decide +kernel
theorem dX6_unlock_58 : decode cX6_unlock 58 = .ok (.aload_n 0, 1) := by decide +kernel
theorem dX6_unlock_59 : decode cX6_unlock 59 = .ok (.getfield 19, 3) := by decide +kernel
theorem dX6_unlock_62 : decode cX6_unlock 62 = .ok (.iload_n 1, 1) := by decide +kernel
theorem dX6_unlock_63 : decode cX6_unlock 63 = .ok (.iconst (-1), 1) := by decide +kernel
theorem dX6_unlock_64 : decode cX6_unlock 64 = .ok (.iastore, 1) := by decide +kernel
theorem dX6_unlock_65 : decode cX6_unlock 65 = .ok (.return_, 1) := by decide +kernel
theorem dX6_lend_0 : decode cX6_lend 0 = .ok (.iload_n 2, 1) := by decide +kernel
theorem dX6_lend_1 : decode cX6_lend 1 = .ok (.invokestatic 94, 3) := by decide +kernel
theorem dX6_lend_4 : decode cX6_lend 4 = .ok (.ifCond .eq 21, 3) := by decide +kernel
theorem dX6_lend_7 : decode cX6_lend 7 = .ok (.iload_n 3, 1) := by decide +kernel
theorem dX6_lend_8 : decode cX6_lend 8 = .ok (.iconst (-1), 1) := by decide +kernel
theorem dX6_lend_9 : decode cX6_lend 9 = .ok (.iconst 5, 1) := by decide +kernel
theorem dX6_lend_10 : decode cX6_lend 10 = .ok (.invokestatic 65, 3) := by decide +kernel
theorem dX6_lend_13 : decode cX6_lend 13 = .ok (.ifCond .eq 12, 3) := by decide +kernel
theorem dX6_lend_16 : decode cX6_lend 16 = .ok (.iload_n 2, 1) := by decide +kernel
theorem dX6_lend_17 : decode cX6_lend 17 = .ok (.iload_n 3, 1) := by decide +kernel
theorem dX6_lend_18 : decode cX6_lend 18 = .ok (.if_icmp .eq 7, 3) := by decide +kernel
theorem dX6_lend_21 : decode cX6_lend 21 = .ok (.iconst 1, 1) := by decide +kernel
theorem dX6_lend_22 : decode cX6_lend 22 = .ok (.goto 4, 3) := by decide +kernel
theorem dX6_lend_25 : decode cX6_lend 25 = .ok (.iconst 0, 1) := by decide +kernel
theorem dX6_lend_26 : decode cX6_lend 26 = .ok (.istore 4, 2) := by decide +kernel
theorem dX6_lend_28 : decode cX6_lend 28 = .ok (.aload_n 0, 1) := by decide +kernel
theorem dX6_lend_29 : decode cX6_lend 29 = .ok (.aload_n 0, 1) := by decide +kernel
theorem dX6_lend_30 : decode cX6_lend 30 = .ok (.iload_n 1, 1) := by decide +kernel
theorem dX6_lend_31 : decode cX6_lend 31 = .ok (.invokevirtual 83, 3) := by decide +kernel
theorem dX6_lend_34 : decode cX6_lend 34 = .ok (.ifCond .ne 7, 3) := by decide +kernel
theorem dX6_lend_37 : decode cX6_lend 37 = .ok (.iconst 1, 1) := by decide +kernel
theorem dX6_lend_38 : decode cX6_lend 38 = .ok (.goto 27, 3) := by decide +kernel
theorem dX6_lend_41 : decode cX6_lend 41 = .ok (.iload 4, 2) := by decide +kernel
theorem dX6_lend_43 : decode cX6_lend 43 = .ok (.ifCond .ne 7, 3) := by decide +kernel
theorem dX6_lend_46 : decode cX6_lend 46 = .ok (.iconst 2, 1) := by decide +kernel
theorem dX6_lend_47 : decode cX6_lend 47 = .ok (.goto 18, 3) := by decide +kernel
theorem dX6_lend_50 : decode cX6_lend 50 = .ok (.aload_n 0, 1) := by decide +kernel
theorem dX6_lend_51 : decode cX6_lend 51 = .ok (.getfield 19, 3) := by decide +kernel
theorem dX6_lend_54 : decode cX6_lend 54 = .ok (.iload_n 1, 1) := by decide +kernel
theorem dX6_lend_55 : decode cX6_lend 55 = .ok (.iaload, 1) := by decide +kernel
theorem dX6_lend_56 : decode cX6_lend 56 = .ok (.iload_n 2, 1) := by decide +kernel
theorem dX6_lend_57 : decode cX6_lend 57 = .ok (.if_icmp .ne 7, 3) := by decide +kernel
theorem dX6_lend_60 : decode cX6_lend 60 = .ok (.iconst 0, 1) := by decide +kernel
theorem dX6_lend_61 : decode cX6_lend 61 = .ok (.goto 4, 3) := by decide +kernel
theorem dX6_lend_64 : decode cX6_lend 64 = .ok (.iconst 3, 1) := by decide +kernel
theorem dX6_lend_65 : decode cX6_lend 65 = .ok (.putfield 58, 3) := by decide +kernel
theorem dX6_lend_68 : decode cX6_lend 68 = .ok (.aload_n 0, 1) := by decide +kernel
theorem dX6_lend_69 : decode cX6_lend 69 = .ok (.getfield 58, 3) := by decide +kernel
theorem dX6_lend_72 : decode cX6_lend 72 = .ok (.ifCond .le 5, 3) := by decide +kernel
theorem dX6_lend_75 : decode cX6_lend 75 = .ok (.iconst 0, 1) := by decide +kernel
theorem dX6_lend_76 : decode cX6_lend 76 = .ok (.ireturn, 1) := by decide +kernel
theorem dX6_lend_77 : decode cX6_lend 77 = .ok (.aload_n 0, 1) := by decide +kernel
theorem dX6_lend_78 : decode cX6_lend 78 = .ok (.getfield 22, 3) := by decide +kernel
theorem dX6_lend_81 : decode cX6_lend 81 = .ok (.iload_n 1, 1) := by decide +kernel
theorem dX6_lend_82 : decode cX6_lend 82 = .ok (.iaload, 1) := by decide +kernel
theorem dX6_lend_83 : decode cX6_lend 83 = .ok (.istore 5, 2) := by decide +kernel
theorem dX6_lend_85 : decode cX6_lend 85 = .ok (.aload_n 0, 1) := by decide +kernel
theorem dX6_lend_86 : decode cX6_lend 86 = .ok (.getfield 22, 3) := by decide +kernel
theorem dX6_lend_89 : decode cX6_lend 89 = .ok (.iload_n 1, 1) := by decide +kernel
theorem dX6_lend_90 : decode cX6_lend 90 = .ok (.iload_n 3, 1) := by decide +kernel
theorem dX6_lend_91 : decode cX6_lend 91 = .ok (.iastore, 1) := by decide +kernel
theorem dX6_lend_92 : decode cX6_lend 92 = .ok (.iload 5, 2) := by decide +kernel
theorem dX6_lend_94 : decode cX6_lend 94 = .ok (.ireturn, 1) := by decide +kernel
theorem dX6_canChange_0 : decode cX6_canChange 0 = .ok (.aload_n 0, 1) := by decide +kernel
theorem dX6_canChange_1 : decode cX6_canChange 1 = .ok (.aload_n 0, 1) := by decide +kernel
theorem dX6_canChange_2 : decode cX6_canChange 2 = .ok (.iload_n 1, 1) := by decide +kernel
theorem dX6_canChange_3 : decode cX6_canChange 3 = .ok (.invokevirtual 83, 3) := by decide +kernel
theorem dX6_canChange_6 : decode cX6_canChange 6 = .ok (.ifCond .eq 7, 3) := by decide +kernel
theorem dX6_canChange_9 : decode cX6_canChange 9 = .ok (.iconst 0, 1) := by decide +kernel
theorem dX6_canChange_10 : decode cX6_canChange 10 = .ok (.goto 4, 3) := by decide +kernel
theorem dX6_canChange_13 : decode cX6_canChange 13 = .ok (.iconst 1, 1) := by decide +kernel
theorem dX6_canChange_14 : decode cX6_canChange 14 = .ok (.putfield 58, 3) := by decide +kernel
theorem dX6_canChange_17 : decode cX6_canChange 17 = .ok (.aload_n 0, 1) := by decide +kernel
theorem dX6_canChange_18 : decode cX6_canChange 18 = .ok (.getfield 58, 3) := by decide +kernel
theorem dX6_canChange_21 : decode cX6_canChange 21 = .ok (.ifCond .le 7, 3) := by decide +kernel
theorem dX6_canChange_24 : decode cX6_canChange 24 = .ok (.iconst 0, 1) := by decide +kernel
theorem dX6_canChange_25 : decode cX6_canChange 25 = .ok (.goto 8, 3) := by decide +kernel
theorem dX6_canChange_28 : decode cX6_canChange 28 = .ok (.aload_n 0, 1) := by decide +kernel
theorem dX6_canChange_29 : decode cX6_canChange 29 = .ok (.iload_n 1, 1) := by decide +kernel
theorem dX6_canChange_30 : decode cX6_canChange 30 = .ok (.invokevirtual 97, 3) := by decide +kernel
theorem dX6_canChange_33 : decode cX6_canChange 33 = .ok (.ireturn, 1) := by decide +kernel
theorem dX6_stands_0 : decode cX6_stands 0 = .ok (.aload_n 0, 1) := by decide +kernel
theorem dX6_stands_1 : decode cX6_stands 1 = .ok (.getfield 37, 3) := by decide +kernel
theorem dX6_stands_4 : decode cX6_stands 4 = .ok (.iload_n 1, 1) := by decide +kernel
theorem dX6_stands_5 : decode cX6_stands 5 = .ok (.iaload, 1) := by decide +kernel
theorem dX6_stands_6 : decode cX6_stands 6 = .ok (.istore_n 2, 1) := by decide +kernel
theorem dX6_stands_7 : decode cX6_stands 7 = .ok (.aload_n 0, 1) := by decide +kernel
theorem dX6_stands_8 : decode cX6_stands 8 = .ok (.getfield 43, 3) := by decide +kernel
theorem dX6_stands_11 : decode cX6_stands 11 = .ok (.iload_n 1, 1) := by decide +kernel
theorem dX6_stands_12 : decode cX6_stands 12 = .ok (.iaload, 1) := by decide +kernel
theorem dX6_stands_13 : decode cX6_stands 13 = .ok (.aload_n 0, 1) := by decide +kernel
theorem dX6_stands_14 : decode cX6_stands 14 = .ok (.getfield 28, 3) := by decide +kernel
theorem dX6_stands_17 : decode cX6_stands 17 = .ok (.iload_n 2, 1) := by decide +kernel
theorem dX6_stands_18 : decode cX6_stands 18 = .ok (.iaload, 1) := by decide +kernel
theorem dX6_stands_19 : decode cX6_stands 19 = .ok (.if_icmp .ne 7, 3) := by decide +kernel
theorem dX6_stands_22 : decode cX6_stands 22 = .ok (.iconst 1, 1) := by decide +kernel
theorem dX6_stands_23 : decode cX6_stands 23 = .ok (.goto 4, 3) := by decide +kernel
theorem dX6_stands_26 : decode cX6_stands 26 = .ok (.iconst 0, 1) := by decide +kernel
theorem dX6_stands_27 : decode cX6_stands 27 = .ok (.istore_n 3, 1) := by decide +kernel
theorem dX6_stands_28 : decode cX6_stands 28 = .ok (.iconst 0, 1) := by decide +kernel
theorem dX6_stands_29 : decode cX6_stands 29 = .ok (.istore 4, 2) := by decide +kernel
theorem dX6_stands_31 : decode cX6_stands 31 = .ok (.iload 4, 2) := by decide +kernel
theorem dX6_stands_33 : decode cX6_stands 33 = .ok (.bipush 40, 2) := by decide +kernel
theorem dX6_stands_35 : decode cX6_stands 35 = .ok (.if_icmp .ge 44, 3) := by decide +kernel
theorem dX6_stands_38 : decode cX6_stands 38 = .ok (.iload_n 3, 1) := by decide +kernel
theorem dX6_stands_39 : decode cX6_stands 39 = .ok (.aload_n 0, 1) := by decide +kernel
theorem dX6_stands_40 : decode cX6_stands 40 = .ok (.getfield 40, 3) := by decide +kernel
theorem dX6_stands_43 : decode cX6_stands 43 = .ok (.bipush 40, 2) := by decide +kernel
theorem dX6_stands_45 : decode cX6_stands 45 = .ok (.iload_n 1, 1) := by decide +kernel
theorem dX6_stands_46 : decode cX6_stands 46 = .ok (.imul, 1) := by decide +kernel
theorem dX6_stands_47 : decode cX6_stands 47 = .ok (.iload 4, 2) := by decide +kernel
theorem dX6_stands_49 : decode cX6_stands 49 = .ok (.iadd, 1) := by decide +kernel
theorem dX6_stands_50 : decode cX6_stands 50 = .ok (.iaload, 1) := by decide +kernel
theorem dX6_stands_51 : decode cX6_stands 51 = .ok (.aload_n 0, 1) := by decide +kernel
theorem dX6_stands_52 : decode cX6_stands 52 = .ok (.getfield 25, 3) := by decide +kernel
theorem dX6_stands_55 : decode cX6_stands 55 = .ok (.bipush 40, 2) := by decide +kernel
theorem dX6_stands_57 : decode cX6_stands 57 = .ok (.iload_n 2, 1) := by decide +kernel
theorem dX6_stands_58 : decode cX6_stands 58 = .ok (.imul, 1) := by decide +kernel
theorem dX6_stands_59 : decode cX6_stands 59 = .ok (.iload 4, 2) := by decide +kernel
theorem dX6_stands_61 : decode cX6_stands 61 = .ok (.iadd, 1) := by decide +kernel
theorem dX6_stands_62 : decode cX6_stands 62 = .ok (.iaload, 1) := by decide +kernel
theorem dX6_stands_63 : decode cX6_stands 63 = .ok (.if_icmp .ne 7, 3) := by decide +kernel
theorem dX6_stands_66 : decode cX6_stands 66 = .ok (.iconst 1, 1) := by decide +kernel
theorem dX6_stands_67 : decode cX6_stands 67 = .ok (.goto 4, 3) := by decide +kernel
theorem dX6_stands_70 : decode cX6_stands 70 = .ok (.iconst 0, 1) := by decide +kernel
theorem dX6_stands_71 : decode cX6_stands 71 = .ok (.iand, 1) := by decide +kernel
theorem dX6_stands_72 : decode cX6_stands 72 = .ok (.istore_n 3, 1) := by decide +kernel
theorem dX6_stands_73 : decode cX6_stands 73 = .ok (.iinc 4 1, 3) := by decide +kernel
theorem dX6_stands_76 : decode cX6_stands 76 = .ok (.goto (-45), 3) := by decide +kernel
theorem dX6_stands_79 : decode cX6_stands 79 = .ok (.iload_n 3, 1) := by decide +kernel
theorem dX6_stands_80 : decode cX6_stands 80 = .ok (.ireturn, 1) := by decide +kernel
theorem dX6_isOld_0 : decode cX6_isOld 0 = .ok (.aload_n 0, 1) := by decide +kernel
theorem dX6_isOld_1 : decode cX6_isOld 1 = .ok (.getfield 46, 3) := by decide +kernel
theorem dX6_isOld_4 : decode cX6_isOld 4 = .ok (.iload_n 1, 1) := by decide +kernel
theorem dX6_isOld_5 : decode cX6_isOld 5 = .ok (.iaload, 1) := by decide +kernel
theorem dX6_isOld_6 : decode cX6_isOld 6 = .ok (.istore_n 2, 1) := by decide +kernel
theorem dX6_isOld_7 : decode cX6_isOld 7 = .ok (.aload_n 0, 1) := by decide +kernel
theorem dX6_isOld_8 : decode cX6_isOld 8 = .ok (.getfield 52, 3) := by decide +kernel
theorem dX6_isOld_11 : decode cX6_isOld 11 = .ok (.iload_n 1, 1) := by decide +kernel
theorem dX6_isOld_12 : decode cX6_isOld 12 = .ok (.iaload, 1) := by decide +kernel
theorem dX6_isOld_13 : decode cX6_isOld 13 = .ok (.aload_n 0, 1) := by decide +kernel
theorem dX6_isOld_14 : decode cX6_isOld 14 = .ok (.getfield 28, 3) := by decide +kernel
theorem dX6_isOld_17 : decode cX6_isOld 17 = .ok (.iload_n 2, 1) := by decide +kernel
theorem dX6_isOld_18 : decode cX6_isOld 18 = .ok (.iaload, 1) := by decide +kernel
theorem dX6_isOld_19 : decode cX6_isOld 19 = .ok (.if_icmp .eq 7, 3) := by decide +kernel
theorem dX6_isOld_22 : decode cX6_isOld 22 = .ok (.iconst 1, 1) := by decide +kernel
theorem dX6_isOld_23 : decode cX6_isOld 23 = .ok (.goto 4, 3) := by decide +kernel
theorem dX6_isOld_26 : decode cX6_isOld 26 = .ok (.iconst 0, 1) := by decide +kernel
theorem dX6_isOld_27 : decode cX6_isOld 27 = .ok (.istore_n 3, 1) := by decide +kernel
theorem dX6_isOld_28 : decode cX6_isOld 28 = .ok (.iconst 0, 1) := by decide +kernel
theorem dX6_isOld_29 : decode cX6_isOld 29 = .ok (.istore 4, 2) := by decide +kernel
theorem dX6_isOld_31 : decode cX6_isOld 31 = .ok (.iload 4, 2) := by decide +kernel
theorem dX6_isOld_33 : decode cX6_isOld 33 = .ok (.bipush 40, 2) := by decide +kernel
theorem dX6_isOld_35 : decode cX6_isOld 35 = .ok (.if_icmp .ge 44, 3) := by decide +kernel
theorem dX6_isOld_38 : decode cX6_isOld 38 = .ok (.iload_n 3, 1) := by decide +kernel
theorem dX6_isOld_39 : decode cX6_isOld 39 = .ok (.aload_n 0, 1) := by decide +kernel
theorem dX6_isOld_40 : decode cX6_isOld 40 = .ok (.getfield 49, 3) := by decide +kernel
theorem dX6_isOld_43 : decode cX6_isOld 43 = .ok (.bipush 40, 2) := by decide +kernel
theorem dX6_isOld_45 : decode cX6_isOld 45 = .ok (.iload_n 1, 1) := by decide +kernel
theorem dX6_isOld_46 : decode cX6_isOld 46 = .ok (.imul, 1) := by decide +kernel
theorem dX6_isOld_47 : decode cX6_isOld 47 = .ok (.iload 4, 2) := by decide +kernel
theorem dX6_isOld_49 : decode cX6_isOld 49 = .ok (.iadd, 1) := by decide +kernel
theorem dX6_isOld_50 : decode cX6_isOld 50 = .ok (.iaload, 1) := by decide +kernel
theorem dX6_isOld_51 : decode cX6_isOld 51 = .ok (.aload_n 0, 1) := by decide +kernel
theorem dX6_isOld_52 : decode cX6_isOld 52 = .ok (.getfield 25, 3) := by decide +kernel
theorem dX6_isOld_55 : decode cX6_isOld 55 = .ok (.bipush 40, 2) := by decide +kernel
theorem dX6_isOld_57 : decode cX6_isOld 57 = .ok (.iload_n 2, 1) := by decide +kernel
theorem dX6_isOld_58 : decode cX6_isOld 58 = .ok (.imul, 1) := by decide +kernel
theorem dX6_isOld_59 : decode cX6_isOld 59 = .ok (.iload 4, 2) := by decide +kernel
theorem dX6_isOld_61 : decode cX6_isOld 61 = .ok (.iadd, 1) := by decide +kernel
theorem dX6_isOld_62 : decode cX6_isOld 62 = .ok (.iaload, 1) := by decide +kernel
theorem dX6_isOld_63 : decode cX6_isOld 63 = .ok (.if_icmp .eq 7, 3) := by decide +kernel
theorem dX6_isOld_66 : decode cX6_isOld 66 = .ok (.iconst 1, 1) := by decide +kernel
theorem dX6_isOld_67 : decode cX6_isOld 67 = .ok (.goto 4, 3) := by decide +kernel
theorem dX6_isOld_70 : decode cX6_isOld 70 = .ok (.iconst 0, 1) := by decide +kernel
theorem dX6_isOld_71 : decode cX6_isOld 71 = .ok (.ior, 1) := by decide +kernel
theorem dX6_isOld_72 : decode cX6_isOld 72 = .ok (.istore_n 3, 1) := by decide +kernel
theorem dX6_isOld_73 : decode cX6_isOld 73 = .ok (.iinc 4 1, 3) := by decide +kernel
theorem dX6_isOld_76 : decode cX6_isOld 76 = .ok (.goto (-45), 3) := by decide +kernel
theorem dX6_isOld_79 : decode cX6_isOld 79 = .ok (.iload_n 3, 1) := by decide +kernel
theorem dX6_isOld_80 : decode cX6_isOld 80 = .ok (.ireturn, 1) := by decide +kernel
theorem dX6_grant_0 : decode cX6_grant 0 = .ok (.aload_n 0, 1) := by decide +kernel
theorem dX6_grant_1 : decode cX6_grant 1 = .ok (.iload_n 1, 1) := by decide +kernel
theorem dX6_grant_2 : decode cX6_grant 2 = .ok (.iconst 0, 1) := by decide +kernel
theorem dX6_grant_3 : decode cX6_grant 3 = .ok (.invokevirtual 103, 3) := by decide +kernel
theorem dX6_grant_6 : decode cX6_grant 6 = .ok (.ifCond .ne 5, 3) := by decide +kernel
theorem dX6_grant_9 : decode cX6_grant 9 = .ok (.iconst 0, 1) := by decide +kernel
theorem dX6_grant_10 : decode cX6_grant 10 = .ok (.ireturn, 1) := by decide +kernel
theorem dX6_grant_11 : decode cX6_grant 11 = .ok (.aload_n 0, 1) := by decide +kernel
theorem dX6_grant_12 : decode cX6_grant 12 = .ok (.getfield 110, 3) := by decide +kernel
theorem dX6_grant_15 : decode cX6_grant 15 = .ok (.bipush 20, 2) := by decide +kernel
theorem dX6_grant_17 : decode cX6_grant 17 = .ok (.if_icmp .ge 7, 3) := by decide +kernel
theorem dX6_grant_20 : decode cX6_grant 20 = .ok (.iconst 1, 1) := by decide +kernel
theorem dX6_grant_21 : decode cX6_grant 21 = .ok (.goto 4, 3) := by decide +kernel
theorem dX6_grant_24 : decode cX6_grant 24 = .ok (.iconst 0, 1) := by decide +kernel
theorem dX6_grant_25 : decode cX6_grant 25 = .ok (.istore_n 2, 1) := by decide +kernel
theorem dX6_grant_26 : decode cX6_grant 26 = .ok (.iconst 0, 1) := by decide +kernel
theorem dX6_grant_27 : decode cX6_grant 27 = .ok (.istore_n 3, 1) := by decide +kernel
theorem dX6_grant_28 : decode cX6_grant 28 = .ok (.iload_n 3, 1) := by decide +kernel
theorem dX6_grant_29 : decode cX6_grant 29 = .ok (.bipush 25, 2) := by decide +kernel
theorem dX6_grant_31 : decode cX6_grant 31 = .ok (.if_icmp .ge 33, 3) := by decide +kernel
theorem dX6_grant_34 : decode cX6_grant 34 = .ok (.iload_n 2, 1) := by decide +kernel
theorem dX6_grant_35 : decode cX6_grant 35 = .ok (.aload_n 0, 1) := by decide +kernel
theorem dX6_grant_36 : decode cX6_grant 36 = .ok (.getfield 34, 3) := by decide +kernel
theorem dX6_grant_39 : decode cX6_grant 39 = .ok (.aload_n 0, 1) := by decide +kernel
theorem dX6_grant_40 : decode cX6_grant 40 = .ok (.getfield 31, 3) := by decide +kernel
theorem dX6_grant_43 : decode cX6_grant 43 = .ok (.iload_n 3, 1) := by decide +kernel
theorem dX6_grant_44 : decode cX6_grant 44 = .ok (.iaload, 1) := by decide +kernel
theorem dX6_grant_45 : decode cX6_grant 45 = .ok (.iaload, 1) := by decide +kernel
theorem dX6_grant_46 : decode cX6_grant 46 = .ok (.bipush 99, 2) := by decide +kernel
theorem dX6_grant_48 : decode cX6_grant 48 = .ok (.if_icmp .ge 7, 3) := by decide +kernel
theorem dX6_grant_51 : decode cX6_grant 51 = .ok (.iconst 1, 1) := by decide +kernel
theorem dX6_grant_52 : decode cX6_grant 52 = .ok (.goto 4, 3) := by decide +kernel
theorem dX6_grant_55 : decode cX6_grant 55 = .ok (.iconst 0, 1) := by decide +kernel
theorem dX6_grant_56 : decode cX6_grant 56 = .ok (.iand, 1) := by decide +kernel
theorem dX6_grant_57 : decode cX6_grant 57 = .ok (.istore_n 2, 1) := by decide +kernel
theorem dX6_grant_58 : decode cX6_grant 58 = .ok (.iinc 3 1, 3) := by decide +kernel
theorem dX6_grant_61 : decode cX6_grant 61 = .ok (.goto (-33), 3) := by decide +kernel
theorem dX6_grant_64 : decode cX6_grant 64 = .ok (.aload_n 0, 1) := by decide +kernel
