theorem dJ8_newLength_cabcc_7 : decode cJ8_newLength_cabcc 7 = .ok (.istore_n 3, 1) := by decide +kernel
theorem dJ8_newLength_cabcc_8 : decode cJ8_newLength_cabcc 8 = .ok (.iconst 0, 1) := by decide +kernel
theorem dJ8_newLength_cabcc_9 : decode cJ8_newLength_cabcc 9 = .ok (.iload_n 3, 1) := by decide +kernel
theorem dJ8_newLength_cabcc_10 : decode cJ8_newLength_cabcc 10 = .ok (.if_icmp .ge 11, 3) := by decide +kernel
theorem dJ8_newLength_cabcc_13 : decode cJ8_newLength_cabcc 13 = .ok (.iload_n 3, 1) := by decide +kernel
theorem dJ8_newLength_cabcc_14 : decode cJ8_newLength_cabcc 14 = .ok (.ldc 200, 2) := by decide +kernel
theorem dJ8_newLength_cabcc_16 : decode cJ8_newLength_cabcc 16 = .ok (.if_icmp .gt 5, 3) := by decide +kernel
theorem dJ8_newLength_cabcc_19 : decode cJ8_newLength_cabcc 19 = .ok (.iload_n 3, 1) := by decide +kernel
theorem dJ8_newLength_cabcc_20 : decode cJ8_newLength_cabcc 20 = .ok (.ireturn, 1) := by decide +kernel
theorem dJ8_newLength_cabcc_21 : decode cJ8_newLength_cabcc 21 = .ok (.iload_n 0, 1) := by decide +kernel
theorem dJ8_newLength_cabcc_22 : decode cJ8_newLength_cabcc 22 = .ok (.iload_n 1, 1) := by decide +kernel
theorem dJ8_newLength_cabcc_23 : decode cJ8_newLength_cabcc 23 = .ok (.invokestatic 201, 3) := by decide +kernel
theorem dJ8_newLength_cabcc_26 : decode cJ8_newLength_cabcc 26 = .ok (.ireturn, 1) := by decide +kernel
theorem dJ8_hugeLength_7cf53_0 : decode cJ8_hugeLength_7cf53 0 = .ok (.iload_n 0, 1) := by decide +kernel
theorem dJ8_hugeLength_7cf53_1 : decode cJ8_hugeLength_7cf53 1 = .ok (.iload_n 1, 1) := by decide +kernel
theorem dJ8_hugeLength_7cf53_2 : decode cJ8_hugeLength_7cf53 2 = .ok (.iadd, 1) := by decide +kernel
theorem dJ8_hugeLength_7cf53_3 : decode cJ8_hugeLength_7cf53 3 = .ok (.istore_n 2, 1) := by decide +kernel
theorem dJ8_hugeLength_7cf53_4 : decode cJ8_hugeLength_7cf53 4 = .ok (.iload_n 2, 1) := by decide +kernel
theorem dJ8_hugeLength_7cf53_5 : decode cJ8_hugeLength_7cf53 5 = .ok (.ifCond .ge 44, 3) := by decide +kernel
theorem dJ8_hugeLength_7cf53_8 : decode cJ8_hugeLength_7cf53 8 = .ok (.new 204, 3) := by decide +kernel
theorem dJ8_hugeLength_7cf53_11 : decode cJ8_hugeLength_7cf53 11 = .ok (.dup, 1) := by decide +kernel
theorem dJ8_hugeLength_7cf53_12 : decode cJ8_hugeLength_7cf53 12 = .ok (.new 89, 3) := by decide +kernel
theorem dJ8_hugeLength_7cf53_15 : decode cJ8_hugeLength_7cf53 15 = .ok (.dup, 1) := by decide +kernel
theorem dJ8_hugeLength_7cf53_16 : decode cJ8_hugeLength_7cf53 16 = .ok (.invokespecial 91, 3) := by decide +kernel
theorem dJ8_hugeLength_7cf53_19 : decode cJ8_hugeLength_7cf53 19 = .ok (.ldc 206, 2) := by decide +kernel
theorem dJ8_hugeLength_7cf53_21 : decode cJ8_hugeLength_7cf53 21 = .ok (.invokevirtual 94, 3) := by decide +kernel
theorem dJ8_hugeLength_7cf53_24 : decode cJ8_hugeLength_7cf53 24 = .ok (.iload_n 0, 1) := by decide +kernel
theorem dJ8_hugeLength_7cf53_25 : decode cJ8_hugeLength_7cf53 25 = .ok (.invokevirtual 98, 3) := by decide +kernel
theorem dJ8_hugeLength_7cf53_28 : decode cJ8_hugeLength_7cf53 28 = .ok (.ldc 208, 2) := by decide +kernel
theorem dJ8_hugeLength_7cf53_30 : decode cJ8_hugeLength_7cf53 30 = .ok (.invokevirtual 94, 3) := by decide +kernel
theorem dJ8_hugeLength_7cf53_33 : decode cJ8_hugeLength_7cf53 33 = .ok (.iload_n 1, 1) := by decide +kernel
theorem dJ8_hugeLength_7cf53_34 : decode cJ8_hugeLength_7cf53 34 = .ok (.invokevirtual 98, 3) := by decide +kernel
theorem dJ8_hugeLength_7cf53_37 : decode cJ8_hugeLength_7cf53 37 = .ok (.ldc 210, 2) := by decide +kernel
theorem dJ8_hugeLength_7cf53_39 : decode cJ8_hugeLength_7cf53 39 = .ok (.invokevirtual 94, 3) := by decide +kernel
theorem dJ8_hugeLength_7cf53_42 : decode cJ8_hugeLength_7cf53 42 = .ok (.invokevirtual 101, 3) := by decide +kernel
theorem dJ8_hugeLength_7cf53_45 : decode cJ8_hugeLength_7cf53 45 = .ok (.invokespecial 212, 3) := by decide +kernel
theorem dJ8_hugeLength_7cf53_48 : decode cJ8_hugeLength_7cf53 48 = .ok (.athrow, 1) := by decide +kernel
theorem dJ8_hugeLength_7cf53_49 : decode cJ8_hugeLength_7cf53 49 = .ok (.iload_n 2, 1) := by decide +kernel
theorem dJ8_hugeLength_7cf53_50 : decode cJ8_hugeLength_7cf53 50 = .ok (.ldc 200, 2) := by decide +kernel
theorem dJ8_hugeLength_7cf53_52 : decode cJ8_hugeLength_7cf53 52 = .ok (.if_icmp .gt 6, 3) := by decide +kernel
theorem dJ8_hugeLength_7cf53_55 : decode cJ8_hugeLength_7cf53 55 = .ok (.ldc 200, 2) := by decide +kernel
theorem dJ8_hugeLength_7cf53_57 : decode cJ8_hugeLength_7cf53 57 = .ok (.ireturn, 1) := by decide +kernel
theorem dJ8_hugeLength_7cf53_58 : decode cJ8_hugeLength_7cf53 58 = .ok (.iload_n 2, 1) := by decide +kernel
theorem dJ8_hugeLength_7cf53_59 : decode cJ8_hugeLength_7cf53 59 = .ok (.ireturn, 1) := by decide +kernel
theorem dJ3_checkIndex_8e157_0 : decode cJ3_checkIndex_8e157 0 = .ok (.iload_n 0, 1) := by decide +kernel
theorem dJ3_checkIndex_8e157_1 : decode cJ3_checkIndex_8e157 1 = .ok (.ifCond .lt 8, 3) := by decide +kernel
theorem dJ3_checkIndex_8e157_4 : decode cJ3_checkIndex_8e157 4 = .ok (.iload_n 0, 1) := by decide +kernel
theorem dJ3_checkIndex_8e157_5 : decode cJ3_checkIndex_8e157 5 = .ok (.iload_n 1, 1) := by decide +kernel
theorem dJ3_checkIndex_8e157_6 : decode cJ3_checkIndex_8e157 6 = .ok (.if_icmp .lt 10, 3) := by decide +kernel
theorem dJ3_checkIndex_8e157_9 : decode cJ3_checkIndex_8e157 9 = .ok (.aload_n 2, 1) := by decide +kernel
theorem dJ3_checkIndex_8e157_10 : decode cJ3_checkIndex_8e157 10 = .ok (.iload_n 0, 1) := by decide +kernel
theorem dJ3_checkIndex_8e157_11 : decode cJ3_checkIndex_8e157 11 = .ok (.iload_n 1, 1) := by decide +kernel
theorem dJ3_checkIndex_8e157_12 : decode cJ3_checkIndex_8e157 12 = .ok (.invokestatic 95, 3) := by decide +kernel
theorem dJ3_checkIndex_8e157_15 : decode cJ3_checkIndex_8e157 15 = .ok (.athrow, 1) := by decide +kernel
theorem dJ3_checkIndex_8e157_16 : decode cJ3_checkIndex_8e157 16 = .ok (.iload_n 0, 1) := by decide +kernel
theorem dJ3_checkIndex_8e157_17 : decode cJ3_checkIndex_8e157 17 = .ok (.ireturn, 1) := by decide +kernel
theorem dL_lock_0 : decode cL_lock 0 = .ok (.aload_n 0, 1) := by decide +kernel
theorem dL_lock_1 : decode cL_lock 1 = .ok (.iload_n 1, 1) := by decide +kernel
theorem dL_lock_2 : decode cL_lock 2 = .ok (.iload_n 2, 1) := by decide +kernel
theorem dL_lock_3 : decode cL_lock 3 = .ok (.invokevirtual 7, 3) := by decide +kernel
theorem dL_lock_6 : decode cL_lock 6 = .ok (.iconst 0, 1) := by decide +kernel
theorem dL_lock_7 : decode cL_lock 7 = .ok (.ireturn, 1) := by decide +kernel
theorem dL_lock_8 : decode cL_lock 8 = .ok (.astore_n 3, 1) := by decide +kernel
theorem dL_lock_9 : decode cL_lock 9 = .ok (.bipush (-71), 2) := by decide +kernel
theorem dL_lock_11 : decode cL_lock 11 = .ok (.ireturn, 1) := by decide +kernel
theorem dL_lock_12 : decode cL_lock 12 = .ok (.astore_n 3, 1) := by decide +kernel
theorem dL_lock_13 : decode cL_lock 13 = .ok (.bipush (-72), 2) := by decide +kernel
theorem dL_lock_15 : decode cL_lock 15 = .ok (.ireturn, 1) := by decide +kernel
theorem dL_lock_16 : decode cL_lock 16 = .ok (.astore_n 3, 1) := by decide +kernel
theorem dL_lock_17 : decode cL_lock 17 = .ok (.bipush (-73), 2) := by decide +kernel
theorem dL_lock_19 : decode cL_lock 19 = .ok (.ireturn, 1) := by decide +kernel
theorem dL_unlock_0 : decode cL_unlock 0 = .ok (.aload_n 0, 1) := by decide +kernel
theorem dL_unlock_1 : decode cL_unlock 1 = .ok (.iload_n 1, 1) := by decide +kernel
theorem dL_unlock_2 : decode cL_unlock 2 = .ok (.iload_n 2, 1) := by decide +kernel
theorem dL_unlock_3 : decode cL_unlock 3 = .ok (.invokevirtual 19, 3) := by decide +kernel
theorem dL_unlock_6 : decode cL_unlock 6 = .ok (.iconst 0, 1) := by decide +kernel
theorem dL_unlock_7 : decode cL_unlock 7 = .ok (.ireturn, 1) := by decide +kernel
theorem dL_unlock_8 : decode cL_unlock 8 = .ok (.astore_n 3, 1) := by decide +kernel
theorem dL_unlock_9 : decode cL_unlock 9 = .ok (.bipush (-71), 2) := by decide +kernel
theorem dL_unlock_11 : decode cL_unlock 11 = .ok (.ireturn, 1) := by decide +kernel
theorem dL_unlock_12 : decode cL_unlock 12 = .ok (.astore_n 3, 1) := by decide +kernel
theorem dL_unlock_13 : decode cL_unlock 13 = .ok (.bipush (-72), 2) := by decide +kernel
theorem dL_unlock_15 : decode cL_unlock 15 = .ok (.ireturn, 1) := by decide +kernel
theorem dL_unlock_16 : decode cL_unlock 16 = .ok (.astore_n 3, 1) := by decide +kernel
theorem dL_unlock_17 : decode cL_unlock 17 = .ok (.bipush (-73), 2) := by decide +kernel
theorem dL_unlock_19 : decode cL_unlock 19 = .ok (.ireturn, 1) := by decide +kernel
theorem dL_act_0 : decode cL_act 0 = .ok (.iload_n 1, 1) := by decide +kernel
theorem dL_act_1 : decode cL_act 1 = .ok (.ifCond .ne 10, 3) := by decide +kernel
theorem dL_act_4 : decode cL_act 4 = .ok (.aload_n 0, 1) := by decide +kernel
theorem dL_act_5 : decode cL_act 5 = .ok (.invokevirtual 22, 3) := by decide +kernel
theorem dL_act_8 : decode cL_act 8 = .ok (.goto 309, 3) := by decide +kernel
theorem dL_act_11 : decode cL_act 11 = .ok (.iload_n 1, 1) := by decide +kernel
theorem dL_act_12 : decode cL_act 12 = .ok (.iconst 1, 1) := by decide +kernel
theorem dL_act_13 : decode cL_act 13 = .ok (.if_icmp .ne 16, 3) := by decide +kernel
theorem dL_act_16 : decode cL_act 16 = .ok (.aload_n 0, 1) := by decide +kernel
theorem dL_act_17 : decode cL_act 17 = .ok (.iload_n 2, 1) := by decide +kernel
theorem dL_act_18 : decode cL_act 18 = .ok (.iload_n 3, 1) := by decide +kernel
theorem dL_act_19 : decode cL_act 19 = .ok (.iload 4, 2) := by decide +kernel
theorem dL_act_21 : decode cL_act 21 = .ok (.iload 5, 2) := by decide +kernel
theorem dL_act_23 : decode cL_act 23 = .ok (.invokevirtual 26, 3) := by decide +kernel
theorem dL_act_26 : decode cL_act 26 = .ok (.goto 291, 3) := by decide +kernel
theorem dL_act_29 : decode cL_act 29 = .ok (.iload_n 1, 1) := by decide +kernel
theorem dL_act_30 : decode cL_act 30 = .ok (.iconst 2, 1) := by decide +kernel
theorem dL_act_31 : decode cL_act 31 = .ok (.if_icmp .ne 33, 3) := by decide +kernel
theorem dL_act_34 : decode cL_act 34 = .ok (.aload_n 0, 1) := by decide +kernel
theorem dL_act_35 : decode cL_act 35 = .ok (.iload_n 2, 1) := by decide +kernel
theorem dL_act_36 : decode cL_act 36 = .ok (.iload_n 3, 1) := by decide +kernel
theorem dL_act_37 : decode cL_act 37 = .ok (.iload 4, 2) := by decide +kernel
theorem dL_act_39 : decode cL_act 39 = .ok (.iload 5, 2) := by decide +kernel
theorem dL_act_41 : decode cL_act 41 = .ok (.iconst 1, 1) := by decide +kernel
theorem dL_act_42 : decode cL_act 42 = .ok (.if_icmp .ne 7, 3) := by decide +kernel
theorem dL_act_45 : decode cL_act 45 = .ok (.iconst 1, 1) := by decide +kernel
theorem dL_act_46 : decode cL_act 46 = .ok (.goto 4, 3) := by decide +kernel
theorem dL_act_49 : decode cL_act 49 = .ok (.iconst 0, 1) := by decide +kernel
theorem dL_act_50 : decode cL_act 50 = .ok (.invokevirtual 30, 3) := by decide +kernel
theorem dL_act_53 : decode cL_act 53 = .ok (.ifCond .eq 7, 3) := by decide +kernel
theorem dL_act_56 : decode cL_act 56 = .ok (.iconst 1, 1) := by decide +kernel
theorem dL_act_57 : decode cL_act 57 = .ok (.goto 260, 3) := by decide +kernel
theorem dL_act_60 : decode cL_act 60 = .ok (.iconst 0, 1) := by decide +kernel
theorem dL_act_61 : decode cL_act 61 = .ok (.goto 256, 3) := by decide +kernel
theorem dL_act_64 : decode cL_act 64 = .ok (.iload_n 1, 1) := by decide +kernel
theorem dL_act_65 : decode cL_act 65 = .ok (.iconst 3, 1) := by decide +kernel
theorem dL_act_66 : decode cL_act 66 = .ok (.if_icmp .ne 33, 3) := by decide +kernel
theorem dL_act_69 : decode cL_act 69 = .ok (.aload_n 0, 1) := by decide +kernel
theorem dL_act_70 : decode cL_act 70 = .ok (.iload_n 2, 1) := by decide +kernel
theorem dL_act_71 : decode cL_act 71 = .ok (.iload_n 3, 1) := by decide +kernel
theorem dL_act_72 : decode cL_act 72 = .ok (.iload 4, 2) := by decide +kernel
theorem dL_act_74 : decode cL_act 74 = .ok (.iload 5, 2) := by decide +kernel
theorem dL_act_76 : decode cL_act 76 = .ok (.iconst 1, 1) := by decide +kernel
theorem dL_act_77 : decode cL_act 77 = .ok (.if_icmp .ne 7, 3) := by decide +kernel
theorem dL_act_80 : decode cL_act 80 = .ok (.iconst 1, 1) := by decide +kernel
theorem dL_act_81 : decode cL_act 81 = .ok (.goto 4, 3) := by decide +kernel
theorem dL_act_84 : decode cL_act 84 = .ok (.iconst 0, 1) := by decide +kernel
theorem dL_act_85 : decode cL_act 85 = .ok (.invokevirtual 34, 3) := by decide +kernel
theorem dL_act_88 : decode cL_act 88 = .ok (.ifCond .eq 7, 3) := by decide +kernel
theorem dL_act_91 : decode cL_act 91 = .ok (.iconst 1, 1) := by decide +kernel
theorem dL_act_92 : decode cL_act 92 = .ok (.goto 225, 3) := by decide +kernel
theorem dL_act_95 : decode cL_act 95 = .ok (.iconst 0, 1) := by decide +kernel
theorem dL_act_96 : decode cL_act 96 = .ok (.goto 221, 3) := by decide +kernel
theorem dL_act_99 : decode cL_act 99 = .ok (.iload_n 1, 1) := by decide +kernel
theorem dL_act_100 : decode cL_act 100 = .ok (.iconst 4, 1) := by decide +kernel
theorem dL_act_101 : decode cL_act 101 = .ok (.if_icmp .ne 12, 3) := by decide +kernel
theorem dL_act_104 : decode cL_act 104 = .ok (.aload_n 0, 1) := by decide +kernel
theorem dL_act_105 : decode cL_act 105 = .ok (.iload_n 2, 1) := by decide +kernel
theorem dL_act_106 : decode cL_act 106 = .ok (.iload_n 3, 1) := by decide +kernel
theorem dL_act_107 : decode cL_act 107 = .ok (.invokevirtual 37, 3) := by decide +kernel
theorem dL_act_110 : decode cL_act 110 = .ok (.goto 207, 3) := by decide +kernel
theorem dL_act_113 : decode cL_act 113 = .ok (.iload_n 1, 1) := by decide +kernel
theorem dL_act_114 : decode cL_act 114 = .ok (.iconst 5, 1) := by decide +kernel
theorem dL_act_115 : decode cL_act 115 = .ok (.if_icmp .ne 20, 3) := by decide +kernel
theorem dL_act_118 : decode cL_act 118 = .ok (.aload_n 0, 1) := by decide +kernel
theorem dL_act_119 : decode cL_act 119 = .ok (.iload_n 2, 1) := by decide +kernel
theorem dL_act_120 : decode cL_act 120 = .ok (.iload_n 3, 1) := by decide +kernel
theorem dL_act_121 : decode cL_act 121 = .ok (.invokevirtual 41, 3) := by decide +kernel
theorem dL_act_124 : decode cL_act 124 = .ok (.ifCond .eq 7, 3) := by decide +kernel
theorem dL_act_127 : decode cL_act 127 = .ok (.iconst 1, 1) := by decide +kernel
theorem dL_act_128 : decode cL_act 128 = .ok (.goto 189, 3) := by decide +kernel
theorem dL_act_131 : decode cL_act 131 = .ok (.iconst 0, 1) := by decide +kernel
theorem dL_act_132 : decode cL_act 132 = .ok (.goto 185, 3) := by decide +kernel
theorem dL_act_135 : decode cL_act 135 = .ok (.iload_n 1, 1) := by decide +kernel
theorem dL_act_136 : decode cL_act 136 = .ok (.bipush 6, 2) := by decide +kernel
theorem dL_act_138 : decode cL_act 138 = .ok (.if_icmp .ne 11, 3) := by decide +kernel
theorem dL_act_141 : decode cL_act 141 = .ok (.aload_n 0, 1) := by decide +kernel
theorem dL_act_142 : decode cL_act 142 = .ok (.iload_n 2, 1) := by decide +kernel
theorem dL_act_143 : decode cL_act 143 = .ok (.invokevirtual 45, 3) := by decide +kernel
theorem dL_act_146 : decode cL_act 146 = .ok (.goto 171, 3) := by decide +kernel
theorem dL_act_149 : decode cL_act 149 = .ok (.iload_n 1, 1) := by decide +kernel
theorem dL_act_150 : decode cL_act 150 = .ok (.bipush 7, 2) := by decide +kernel
theorem dL_act_152 : decode cL_act 152 = .ok (.if_icmp .ne 12, 3) := by decide +kernel
theorem dL_act_155 : decode cL_act 155 = .ok (.aload_n 0, 1) := by decide +kernel
theorem dL_act_156 : decode cL_act 156 = .ok (.iload_n 2, 1) := by decide +kernel
theorem dL_act_157 : decode cL_act 157 = .ok (.iload_n 3, 1) := by decide +kernel
theorem dL_act_158 : decode cL_act 158 = .ok (.invokevirtual 49, 3) := by decide +kernel
theorem dL_act_161 : decode cL_act 161 = .ok (.goto 156, 3) := by decide +kernel
theorem dL_act_164 : decode cL_act 164 = .ok (.iload_n 1, 1) := by decide +kernel
theorem dL_act_165 : decode cL_act 165 = .ok (.bipush 8, 2) := by decide +kernel
theorem dL_act_167 : decode cL_act 167 = .ok (.if_icmp .ne 12, 3) := by decide +kernel
theorem dL_act_170 : decode cL_act 170 = .ok (.aload_n 0, 1) := by decide +kernel
theorem dL_act_171 : decode cL_act 171 = .ok (.iload_n 2, 1) := by decide +kernel
theorem dL_act_172 : decode cL_act 172 = .ok (.iload_n 3, 1) := by decide +kernel
theorem dL_act_173 : decode cL_act 173 = .ok (.invokevirtual 52, 3) := by decide +kernel
theorem dL_act_176 : decode cL_act 176 = .ok (.goto 141, 3) := by decide +kernel
theorem dL_act_179 : decode cL_act 179 = .ok (.iload_n 1, 1) := by decide +kernel
theorem dL_act_180 : decode cL_act 180 = .ok (.bipush 9, 2) := by decide +kernel
theorem dL_act_182 : decode cL_act 182 = .ok (.if_icmp .ne 12, 3) := by decide +kernel
theorem dL_act_185 : decode cL_act 185 = .ok (.aload_n 0, 1) := by decide +kernel
theorem dL_act_186 : decode cL_act 186 = .ok (.iload_n 2, 1) := by decide +kernel
theorem dL_act_187 : decode cL_act 187 = .ok (.iload_n 3, 1) := by decide +kernel
theorem dL_act_188 : decode cL_act 188 = .ok (.invokevirtual 55, 3) := by decide +kernel
theorem dL_act_191 : decode cL_act 191 = .ok (.goto 126, 3) := by decide +kernel
theorem dL_act_194 : decode cL_act 194 = .ok (.iload_n 1, 1) := by decide +kernel
theorem dL_act_195 : decode cL_act 195 = .ok (.bipush 10, 2) := by decide +kernel
theorem dL_act_197 : decode cL_act 197 = .ok (.if_icmp .ne 12, 3) := by decide +kernel
theorem dL_act_200 : decode cL_act 200 = .ok (.aload_n 0, 1) := by decide +kernel
theorem dL_act_201 : decode cL_act 201 = .ok (.iload_n 2, 1) := by decide +kernel
theorem dL_act_202 : decode cL_act 202 = .ok (.iload_n 3, 1) := by decide +kernel
theorem dL_act_203 : decode cL_act 203 = .ok (.invokevirtual 58, 3) := by decide +kernel
theorem dL_act_206 : decode cL_act 206 = .ok (.goto 111, 3) := by decide +kernel
theorem dL_act_209 : decode cL_act 209 = .ok (.iload_n 1, 1) := by decide +kernel
theorem dL_act_210 : decode cL_act 210 = .ok (.bipush 11, 2) := by decide +kernel
theorem dL_act_212 : decode cL_act 212 = .ok (.if_icmp .ne 14, 3) := by decide +kernel
theorem dL_act_215 : decode cL_act 215 = .ok (.aload_n 0, 1) := by decide +kernel
theorem dL_act_216 : decode cL_act 216 = .ok (.iload_n 2, 1) := by decide +kernel
theorem dL_act_217 : decode cL_act 217 = .ok (.iload_n 3, 1) := by decide +kernel
theorem dL_act_218 : decode cL_act 218 = .ok (.iload 4, 2) := by decide +kernel
theorem dL_act_220 : decode cL_act 220 = .ok (.invokevirtual 61, 3) := by decide +kernel
theorem dL_act_223 : decode cL_act 223 = .ok (.goto 94, 3) := by decide +kernel
theorem dL_act_226 : decode cL_act 226 = .ok (.iload_n 1, 1) := by decide +kernel
theorem dL_act_227 : decode cL_act 227 = .ok (.bipush 12, 2) := by decide +kernel
theorem dL_act_229 : decode cL_act 229 = .ok (.if_icmp .ne 11, 3) := by decide +kernel
theorem dL_act_232 : decode cL_act 232 = .ok (.aload_n 0, 1) := by decide +kernel
theorem dL_act_233 : decode cL_act 233 = .ok (.iload_n 2, 1) := by decide +kernel
theorem dL_act_234 : decode cL_act 234 = .ok (.invokevirtual 65, 3) := by decide +kernel
theorem dL_act_237 : decode cL_act 237 = .ok (.goto 80, 3) := by decide +kernel
theorem dL_act_240 : decode cL_act 240 = .ok (.iload_n 1, 1) := by decide +kernel
theorem dL_act_241 : decode cL_act 241 = .ok (.bipush 13, 2) := by decide +kernel
theorem dL_act_243 : decode cL_act 243 = .ok (.if_icmp .ne 11, 3) := by decide +kernel
theorem dL_act_246 : decode cL_act 246 = .ok (.aload_n 0, 1) := by decide +kernel
theorem dL_act_247 : decode cL_act 247 = .ok (.iload_n 2, 1) := by decide +kernel
theorem dL_act_248 : decode cL_act 248 = .ok (.invokevirtual 68, 3) := by decide +kernel
theorem dL_act_251 : decode cL_act 251 = .ok (.goto 66, 3) := by decide +kernel
theorem dL_act_254 : decode cL_act 254 = .ok (.iload_n 1, 1) := by decide +kernel
theorem dL_act_255 : decode cL_act 255 = .ok (.bipush 14, 2) := by decide +kernel
theorem dL_act_257 : decode cL_act 257 = .ok (.if_icmp .ne 19, 3) := by decide +kernel
theorem dL_act_260 : decode cL_act 260 = .ok (.aload_n 0, 1) := by decide +kernel
theorem dL_act_261 : decode cL_act 261 = .ok (.iload_n 2, 1) := by decide +kernel
theorem dL_act_262 : decode cL_act 262 = .ok (.invokevirtual 71, 3) := by decide +kernel
theorem dL_act_265 : decode cL_act 265 = .ok (.ifCond .eq 7, 3) := by decide +kernel
theorem dL_act_268 : decode cL_act 268 = .ok (.iconst 1, 1) := by decide +kernel
theorem dL_act_269 : decode cL_act 269 = .ok (.goto 48, 3) := by decide +kernel
theorem dL_act_272 : decode cL_act 272 = .ok (.iconst 0, 1) := by decide +kernel
theorem dL_act_273 : decode cL_act 273 = .ok (.goto 44, 3) := by decide +kernel
theorem dL_act_276 : decode cL_act 276 = .ok (.iload_n 1, 1) := by decide +kernel
theorem dL_act_277 : decode cL_act 277 = .ok (.bipush 15, 2) := by decide +kernel
theorem dL_act_279 : decode cL_act 279 = .ok (.if_icmp .ne 11, 3) := by decide +kernel
theorem dL_act_282 : decode cL_act 282 = .ok (.aload_n 0, 1) := by decide +kernel
theorem dL_act_283 : decode cL_act 283 = .ok (.iload_n 2, 1) := by decide +kernel
theorem dL_act_284 : decode cL_act 284 = .ok (.invokevirtual 75, 3) := by decide +kernel
theorem dL_act_287 : decode cL_act 287 = .ok (.goto 30, 3) := by decide +kernel
theorem dL_act_290 : decode cL_act 290 = .ok (.iload_n 1, 1) := by decide +kernel
theorem dL_act_291 : decode cL_act 291 = .ok (.bipush 16, 2) := by decide +kernel
theorem dL_act_293 : decode cL_act 293 = .ok (.if_icmp .ne 11, 3) := by decide +kernel
theorem dL_act_296 : decode cL_act 296 = .ok (.aload_n 0, 1) := by decide +kernel
theorem dL_act_297 : decode cL_act 297 = .ok (.iload_n 2, 1) := by decide +kernel
theorem dL_act_298 : decode cL_act 298 = .ok (.invokevirtual 78, 3) := by decide +kernel
theorem dL_act_301 : decode cL_act 301 = .ok (.goto 16, 3) := by decide +kernel
theorem dL_act_304 : decode cL_act 304 = .ok (.aload_n 0, 1) := by decide +kernel
theorem dL_act_305 : decode cL_act 305 = .ok (.iload_n 2, 1) := by decide +kernel
theorem dL_act_306 : decode cL_act 306 = .ok (.invokevirtual 81, 3) := by decide +kernel
theorem dL_act_309 : decode cL_act 309 = .ok (.ifCond .eq 7, 3) := by decide +kernel
theorem dL_act_312 : decode cL_act 312 = .ok (.iconst 1, 1) := by decide +kernel
theorem dL_act_313 : decode cL_act 313 = .ok (.goto 4, 3) := by decide +kernel
theorem dL_act_316 : decode cL_act 316 = .ok (.iconst 0, 1) := by decide +kernel
theorem dL_act_317 : decode cL_act 317 = .ok (.ireturn, 1) := by decide +kernel
theorem dL_act_318 : decode cL_act 318 = .ok (.astore 6, 2) := by decide +kernel
theorem dL_act_320 : decode cL_act 320 = .ok (.bipush (-71), 2) := by decide +kernel
theorem dL_act_322 : decode cL_act 322 = .ok (.ireturn, 1) := by decide +kernel
theorem dL_act_323 : decode cL_act 323 = .ok (.astore 6, 2) := by decide +kernel
theorem dL_act_325 : decode cL_act 325 = .ok (.bipush (-72), 2) := by decide +kernel
theorem dL_act_327 : decode cL_act 327 = .ok (.ireturn, 1) := by decide +kernel
theorem dL_act_328 : decode cL_act 328 = .ok (.astore 6, 2) := by decide +kernel
theorem dL_act_330 : decode cL_act 330 = .ok (.bipush (-73), 2) := by decide +kernel
theorem dL_act_332 : decode cL_act 332 = .ok (.ireturn, 1) := by decide +kernel
theorem dL_refuses_0 : decode cL_refuses 0 = .ok (.aload_n 0, 1) := by decide +kernel
theorem dL_refuses_1 : decode cL_refuses 1 = .ok (.invokevirtual 84, 3) := by decide +kernel
theorem dL_refuses_4 : decode cL_refuses 4 = .ok (.istore_n 3, 1) := by decide +kernel
theorem dL_refuses_5 : decode cL_refuses 5 = .ok (.aload_n 0, 1) := by decide +kernel
theorem dL_refuses_6 : decode cL_refuses 6 = .ok (.invokevirtual 87, 3) := by decide +kernel
theorem dL_refuses_9 : decode cL_refuses 9 = .ok (.istore 4, 2) := by decide +kernel
theorem dL_refuses_11 : decode cL_refuses 11 = .ok (.ldc 90, 2) := by decide +kernel
theorem dL_refuses_13 : decode cL_refuses 13 = .ok (.istore 5, 2) := by decide +kernel
theorem dL_refuses_15 : decode cL_refuses 15 = .ok (.iconst 0, 1) := by decide +kernel
theorem dL_refuses_16 : decode cL_refuses 16 = .ok (.istore 6, 2) := by decide +kernel
theorem dL_refuses_18 : decode cL_refuses 18 = .ok (.iload 6, 2) := by decide +kernel
theorem dL_refuses_20 : decode cL_refuses 20 = .ok (.iconst 4, 1) := by decide +kernel
theorem dL_refuses_21 : decode cL_refuses 21 = .ok (.if_icmp .ge 598, 3) := by decide +kernel
theorem dL_refuses_24 : decode cL_refuses 24 = .ok (.iload 6, 2) := by decide +kernel
theorem dL_refuses_26 : decode cL_refuses 26 = .ok (.ifCond .ne 7, 3) := by decide +kernel
theorem dL_refuses_29 : decode cL_refuses 29 = .ok (.iconst (-1), 1) := by decide +kernel
theorem dL_refuses_30 : decode cL_refuses 30 = .ok (.goto 19, 3) := by decide +kernel
theorem dL_refuses_33 : decode cL_refuses 33 = .ok (.iload 6, 2) := by decide +kernel
theorem dL_refuses_35 : decode cL_refuses 35 = .ok (.iconst 2, 1) := by decide +kernel
theorem dL_refuses_36 : decode cL_refuses 36 = .ok (.if_icmp .ne 8, 3) := by decide +kernel
theorem dL_refuses_39 : decode cL_refuses 39 = .ok (.iload 5, 2) := by decide +kernel
theorem dL_refuses_41 : decode cL_refuses 41 = .ok (.goto 8, 3) := by decide +kernel
theorem dL_refuses_44 : decode cL_refuses 44 = .ok (.iload 5, 2) := by decide +kernel
theorem dL_refuses_46 : decode cL_refuses 46 = .ok (.ineg, 1) := by decide +kernel
theorem dL_refuses_47 : decode cL_refuses 47 = .ok (.iconst 1, 1) := by decide +kernel
theorem dL_refuses_48 : decode cL_refuses 48 = .ok (.isub, 1) := by decide +kernel
theorem dL_refuses_49 : decode cL_refuses 49 = .ok (.istore 7, 2) := by decide +kernel
theorem dL_refuses_51 : decode cL_refuses 51 = .ok (.iload 6, 2) := by decide +kernel
theorem dL_refuses_53 : decode cL_refuses 53 = .ok (.ifCond .ne 8, 3) := by decide +kernel
theorem dL_refuses_56 : decode cL_refuses 56 = .ok (.bipush (-2), 2) := by decide +kernel
theorem dL_refuses_58 : decode cL_refuses 58 = .ok (.goto 5, 3) := by decide +kernel
theorem dL_refuses_61 : decode cL_refuses 61 = .ok (.iload 7, 2) := by decide +kernel
theorem dL_refuses_63 : decode cL_refuses 63 = .ok (.istore 8, 2) := by decide +kernel
theorem dL_refuses_65 : decode cL_refuses 65 = .ok (.iload 6, 2) := by decide +kernel
theorem dL_refuses_67 : decode cL_refuses 67 = .ok (.iconst 1, 1) := by decide +kernel
theorem dL_refuses_68 : decode cL_refuses 68 = .ok (.if_icmp .ne 7, 3) := by decide +kernel
theorem dL_refuses_71 : decode cL_refuses 71 = .ok (.iload_n 3, 1) := by decide +kernel
theorem dL_refuses_72 : decode cL_refuses 72 = .ok (.goto 5, 3) := by decide +kernel
theorem dL_refuses_75 : decode cL_refuses 75 = .ok (.iload 7, 2) := by decide +kernel
theorem dL_refuses_77 : decode cL_refuses 77 = .ok (.istore 9, 2) := by decide +kernel
theorem dL_refuses_79 : decode cL_refuses 79 = .ok (.iload 6, 2) := by decide +kernel
theorem dL_refuses_81 : decode cL_refuses 81 = .ok (.iconst 1, 1) := by decide +kernel
theorem dL_refuses_82 : decode cL_refuses 82 = .ok (.if_icmp .ne 8, 3) := by decide +kernel
theorem dL_refuses_85 : decode cL_refuses 85 = .ok (.bipush 6, 2) := by decide +kernel
theorem dL_refuses_87 : decode cL_refuses 87 = .ok (.goto 5, 3) := by decide +kernel
theorem dL_refuses_90 : decode cL_refuses 90 = .ok (.iload 7, 2) := by decide +kernel
theorem dL_refuses_92 : decode cL_refuses 92 = .ok (.istore 10, 2) := by decide +kernel
theorem dL_refuses_94 : decode cL_refuses 94 = .ok (.iload 6, 2) := by decide +kernel
theorem dL_refuses_96 : decode cL_refuses 96 = .ok (.iconst 1, 1) := by decide +kernel
theorem dL_refuses_97 : decode cL_refuses 97 = .ok (.if_icmp .ne 8, 3) := by decide +kernel
theorem dL_refuses_100 : decode cL_refuses 100 = .ok (.bipush 25, 2) := by decide +kernel
theorem dL_refuses_102 : decode cL_refuses 102 = .ok (.goto 5, 3) := by decide +kernel
theorem dL_refuses_105 : decode cL_refuses 105 = .ok (.iload 7, 2) := by decide +kernel
theorem dL_refuses_107 : decode cL_refuses 107 = .ok (.istore 11, 2) := by decide +kernel
theorem dL_refuses_109 : decode cL_refuses 109 = .ok (.iload 6, 2) := by decide +kernel
theorem dL_refuses_111 : decode cL_refuses 111 = .ok (.iconst 1, 1) := by decide +kernel
theorem dL_refuses_112 : decode cL_refuses 112 = .ok (.if_icmp .ne 8, 3) := by decide +kernel
theorem dL_refuses_115 : decode cL_refuses 115 = .ok (.bipush 40, 2) := by decide +kernel
theorem dL_refuses_117 : decode cL_refuses 117 = .ok (.goto 5, 3) := by decide +kernel
theorem dL_refuses_120 : decode cL_refuses 120 = .ok (.iload 7, 2) := by decide +kernel
theorem dL_refuses_122 : decode cL_refuses 122 = .ok (.istore 12, 2) := by decide +kernel
theorem dL_refuses_124 : decode cL_refuses 124 = .ok (.aload_n 0, 1) := by decide +kernel
theorem dL_refuses_125 : decode cL_refuses 125 = .ok (.iconst 1, 1) := by decide +kernel
theorem dL_refuses_126 : decode cL_refuses 126 = .ok (.iload 9, 2) := by decide +kernel
theorem dL_refuses_128 : decode cL_refuses 128 = .ok (.iconst (-1), 1) := by decide +kernel
theorem dL_refuses_129 : decode cL_refuses 129 = .ok (.iconst (-1), 1) := by decide +kernel
theorem dL_refuses_130 : decode cL_refuses 130 = .ok (.iconst 5, 1) := by decide +kernel
theorem dL_refuses_131 : decode cL_refuses 131 = .ok (.invokestatic 91, 3) := by decide +kernel
theorem dL_refuses_134 : decode cL_refuses 134 = .ok (.bipush (-71), 2) := by decide +kernel
theorem dL_refuses_136 : decode cL_refuses 136 = .ok (.if_icmp .ne 77, 3) := by decide +kernel
theorem dL_refuses_139 : decode cL_refuses 139 = .ok (.aload_n 0, 1) := by decide +kernel
theorem dL_refuses_140 : decode cL_refuses 140 = .ok (.iconst 2, 1) := by decide +kernel
theorem dL_refuses_141 : decode cL_refuses 141 = .ok (.iload 9, 2) := by decide +kernel
theorem dL_refuses_143 : decode cL_refuses 143 = .ok (.iconst (-1), 1) := by decide +kernel
theorem dL_refuses_144 : decode cL_refuses 144 = .ok (.iconst (-1), 1) := by decide +kernel
theorem dL_refuses_145 : decode cL_refuses 145 = .ok (.iconst 1, 1) := by decide +kernel
theorem dL_refuses_146 : decode cL_refuses 146 = .ok (.invokestatic 91, 3) := by decide +kernel
theorem dL_refuses_149 : decode cL_refuses 149 = .ok (.bipush (-71), 2) := by decide +kernel
theorem dL_refuses_151 : decode cL_refuses 151 = .ok (.if_icmp .ne 62, 3) := by decide +kernel
theorem dL_refuses_154 : decode cL_refuses 154 = .ok (.aload_n 0, 1) := by decide +kernel
theorem dL_refuses_155 : decode cL_refuses 155 = .ok (.iconst 3, 1) := by decide +kernel
theorem dL_refuses_156 : decode cL_refuses 156 = .ok (.iload 9, 2) := by decide +kernel
theorem dL_refuses_158 : decode cL_refuses 158 = .ok (.iconst (-1), 1) := by decide +kernel
theorem dL_refuses_159 : decode cL_refuses 159 = .ok (.iconst 0, 1) := by decide +kernel
theorem dL_refuses_160 : decode cL_refuses 160 = .ok (.iconst 1, 1) := by decide +kernel
theorem dL_refuses_161 : decode cL_refuses 161 = .ok (.invokestatic 91, 3) := by decide +kernel
theorem dL_refuses_164 : decode cL_refuses 164 = .ok (.bipush (-71), 2) := by decide +kernel
theorem dL_refuses_166 : decode cL_refuses 166 = .ok (.if_icmp .ne 47, 3) := by decide +kernel
theorem dL_refuses_169 : decode cL_refuses 169 = .ok (.aload_n 0, 1) := by decide +kernel
theorem dL_refuses_170 : decode cL_refuses 170 = .ok (.bipush 11, 2) := by decide +kernel
theorem dL_refuses_172 : decode cL_refuses 172 = .ok (.iload 9, 2) := by decide +kernel
theorem dL_refuses_174 : decode cL_refuses 174 = .ok (.iconst (-1), 1) := by decide +kernel
theorem dL_refuses_175 : decode cL_refuses 175 = .ok (.iconst (-1), 1) := by decide +kernel
theorem dL_refuses_176 : decode cL_refuses 176 = .ok (.iconst 0, 1) := by decide +kernel
theorem dL_refuses_177 : decode cL_refuses 177 = .ok (.invokestatic 91, 3) := by decide +kernel
theorem dL_refuses_180 : decode cL_refuses 180 = .ok (.bipush (-71), 2) := by decide +kernel
theorem dL_refuses_182 : decode cL_refuses 182 = .ok (.if_icmp .ne 31, 3) := by decide +kernel
theorem dL_refuses_185 : decode cL_refuses 185 = .ok (.aload_n 0, 1) := by decide +kernel
theorem dL_refuses_186 : decode cL_refuses 186 = .ok (.iload 9, 2) := by decide +kernel
theorem dL_refuses_188 : decode cL_refuses 188 = .ok (.iconst (-1), 1) := by decide +kernel
theorem dL_refuses_189 : decode cL_refuses 189 = .ok (.invokestatic 97, 3) := by decide +kernel
theorem dL_refuses_192 : decode cL_refuses 192 = .ok (.bipush (-71), 2) := by decide +kernel
theorem dL_refuses_194 : decode cL_refuses 194 = .ok (.if_icmp .ne 19, 3) := by decide +kernel
theorem dL_refuses_197 : decode cL_refuses 197 = .ok (.aload_n 0, 1) := by decide +kernel
theorem dL_refuses_198 : decode cL_refuses 198 = .ok (.iload 9, 2) := by decide +kernel
theorem dL_refuses_200 : decode cL_refuses 200 = .ok (.iconst (-1), 1) := by decide +kernel
theorem dL_refuses_201 : decode cL_refuses 201 = .ok (.invokestatic 100, 3) := by decide +kernel
theorem dL_refuses_204 : decode cL_refuses 204 = .ok (.bipush (-71), 2) := by decide +kernel
theorem dL_refuses_206 : decode cL_refuses 206 = .ok (.if_icmp .ne 7, 3) := by decide +kernel
theorem dL_refuses_209 : decode cL_refuses 209 = .ok (.iconst 1, 1) := by decide +kernel
theorem dL_refuses_210 : decode cL_refuses 210 = .ok (.goto 4, 3) := by decide +kernel
theorem dL_refuses_213 : decode cL_refuses 213 = .ok (.iconst 0, 1) := by decide +kernel
theorem dL_refuses_214 : decode cL_refuses 214 = .ok (.istore 13, 2) := by decide +kernel
theorem dL_refuses_216 : decode cL_refuses 216 = .ok (.iconst 4, 1) := by decide +kernel
theorem dL_refuses_217 : decode cL_refuses 217 = .ok (.istore 14, 2) := by decide +kernel
theorem dL_refuses_219 : decode cL_refuses 219 = .ok (.iload 14, 2) := by decide +kernel
theorem dL_refuses_221 : decode cL_refuses 221 = .ok (.bipush 11, 2) := by decide +kernel
theorem dL_refuses_223 : decode cL_refuses 223 = .ok (.if_icmp .ge 75, 3) := by decide +kernel
theorem dL_refuses_226 : decode cL_refuses 226 = .ok (.iload 13, 2) := by decide +kernel
theorem dL_refuses_228 : decode cL_refuses 228 = .ok (.ifCond .eq 61, 3) := by decide +kernel
theorem dL_refuses_231 : decode cL_refuses 231 = .ok (.aload_n 0, 1) := by decide +kernel
theorem dL_refuses_232 : decode cL_refuses 232 = .ok (.iload 14, 2) := by decide +kernel
theorem dL_refuses_234 : decode cL_refuses 234 = .ok (.iload 9, 2) := by decide +kernel
theorem dL_refuses_236 : decode cL_refuses 236 = .ok (.iconst (-1), 1) := by decide +kernel
theorem dL_refuses_237 : decode cL_refuses 237 = .ok (.iconst 0, 1) := by decide +kernel
theorem dL_refuses_238 : decode cL_refuses 238 = .ok (.iconst 0, 1) := by decide +kernel
theorem dL_refuses_239 : decode cL_refuses 239 = .ok (.invokestatic 91, 3) := by decide +kernel
theorem dL_refuses_242 : decode cL_refuses 242 = .ok (.bipush (-71), 2) := by decide +kernel
theorem dL_refuses_244 : decode cL_refuses 244 = .ok (.if_icmp .ne 45, 3) := by decide +kernel
theorem dL_refuses_247 : decode cL_refuses 247 = .ok (.iload_n 3, 1) := by decide +kernel
theorem dL_refuses_248 : decode cL_refuses 248 = .ok (.ifCond .eq 37, 3) := by decide +kernel
theorem dL_refuses_251 : decode cL_refuses 251 = .ok (.iload 14, 2) := by decide +kernel
theorem dL_refuses_253 : decode cL_refuses 253 = .ok (.bipush 6, 2) := by decide +kernel
theorem dL_refuses_255 : decode cL_refuses 255 = .ok (.if_icmp .eq 30, 3) := by decide +kernel
theorem dL_refuses_258 : decode cL_refuses 258 = .ok (.aload_n 0, 1) := by decide +kernel
theorem dL_refuses_259 : decode cL_refuses 259 = .ok (.iload 14, 2) := by decide +kernel
theorem dL_refuses_261 : decode cL_refuses 261 = .ok (.iconst 0, 1) := by decide +kernel
theorem dL_refuses_262 : decode cL_refuses 262 = .ok (.iload 14, 2) := by decide +kernel
theorem dL_refuses_264 : decode cL_refuses 264 = .ok (.iconst 4, 1) := by decide +kernel
theorem dL_refuses_265 : decode cL_refuses 265 = .ok (.if_icmp .ne 8, 3) := by decide +kernel
theorem dL_refuses_268 : decode cL_refuses 268 = .ok (.iload 12, 2) := by decide +kernel
theorem dL_refuses_270 : decode cL_refuses 270 = .ok (.goto 5, 3) := by decide +kernel
theorem dL_refuses_273 : decode cL_refuses 273 = .ok (.iload 11, 2) := by decide +kernel
theorem dL_refuses_275 : decode cL_refuses 275 = .ok (.iconst 0, 1) := by decide +kernel
theorem dL_refuses_276 : decode cL_refuses 276 = .ok (.iconst 0, 1) := by decide +kernel
theorem dL_refuses_277 : decode cL_refuses 277 = .ok (.invokestatic 91, 3) := by decide +kernel
theorem dL_refuses_280 : decode cL_refuses 280 = .ok (.bipush (-72), 2) := by decide +kernel
theorem dL_refuses_282 : decode cL_refuses 282 = .ok (.if_icmp .ne 7, 3) := by decide +kernel
theorem dL_refuses_285 : decode cL_refuses 285 = .ok (.iconst 1, 1) := by decide +kernel
theorem dL_refuses_286 : decode cL_refuses 286 = .ok (.goto 4, 3) := by decide +kernel
theorem dL_refuses_289 : decode cL_refuses 289 = .ok (.iconst 0, 1) := by decide +kernel
theorem dL_refuses_290 : decode cL_refuses 290 = .ok (.istore 13, 2) := by decide +kernel
theorem dL_refuses_292 : decode cL_refuses 292 = .ok (.iinc 14 1, 3) := by decide +kernel
theorem dL_refuses_295 : decode cL_refuses 295 = .ok (.goto (-76), 3) := by decide +kernel
theorem dL_refuses_298 : decode cL_refuses 298 = .ok (.bipush 12, 2) := by decide +kernel
theorem dL_refuses_300 : decode cL_refuses 300 = .ok (.istore 14, 2) := by decide +kernel
theorem dL_refuses_302 : decode cL_refuses 302 = .ok (.iload 14, 2) := by decide +kernel
theorem dL_refuses_304 : decode cL_refuses 304 = .ok (.bipush 18, 2) := by decide +kernel
theorem dL_refuses_306 : decode cL_refuses 306 = .ok (.if_icmp .ge 73, 3) := by decide +kernel
theorem dL_refuses_309 : decode cL_refuses 309 = .ok (.iload 14, 2) := by decide +kernel
theorem dL_refuses_311 : decode cL_refuses 311 = .ok (.bipush 14, 2) := by decide +kernel
theorem dL_refuses_313 : decode cL_refuses 313 = .ok (.if_icmp .ne 7, 3) := by decide +kernel
theorem dL_refuses_316 : decode cL_refuses 316 = .ok (.iload_n 1, 1) := by decide +kernel
theorem dL_refuses_317 : decode cL_refuses 317 = .ok (.goto 15, 3) := by decide +kernel
theorem dL_refuses_320 : decode cL_refuses 320 = .ok (.iload 14, 2) := by decide +kernel
theorem dL_refuses_322 : decode cL_refuses 322 = .ok (.bipush 15, 2) := by decide +kernel
theorem dL_refuses_324 : decode cL_refuses 324 = .ok (.if_icmp .le 7, 3) := by decide +kernel
theorem dL_refuses_327 : decode cL_refuses 327 = .ok (.iload_n 2, 1) := by decide +kernel
theorem dL_refuses_328 : decode cL_refuses 328 = .ok (.goto 4, 3) := by decide +kernel
theorem dL_refuses_331 : decode cL_refuses 331 = .ok (.iload_n 3, 1) := by decide +kernel
theorem dL_refuses_332 : decode cL_refuses 332 = .ok (.istore 15, 2) := by decide +kernel
theorem dL_refuses_334 : decode cL_refuses 334 = .ok (.iload 13, 2) := by decide +kernel
theorem dL_refuses_336 : decode cL_refuses 336 = .ok (.ifCond .eq 34, 3) := by decide +kernel
theorem dL_refuses_339 : decode cL_refuses 339 = .ok (.aload_n 0, 1) := by decide +kernel
theorem dL_refuses_340 : decode cL_refuses 340 = .ok (.iload 14, 2) := by decide +kernel
theorem dL_refuses_342 : decode cL_refuses 342 = .ok (.iload 6, 2) := by decide +kernel
theorem dL_refuses_344 : decode cL_refuses 344 = .ok (.iconst 1, 1) := by decide +kernel
theorem dL_refuses_345 : decode cL_refuses 345 = .ok (.if_icmp .ne 8, 3) := by decide +kernel
theorem dL_refuses_348 : decode cL_refuses 348 = .ok (.iload 15, 2) := by decide +kernel
theorem dL_refuses_350 : decode cL_refuses 350 = .ok (.goto 5, 3) := by decide +kernel
theorem dL_refuses_353 : decode cL_refuses 353 = .ok (.iload 7, 2) := by decide +kernel
theorem dL_refuses_355 : decode cL_refuses 355 = .ok (.iconst 0, 1) := by decide +kernel
theorem dL_refuses_356 : decode cL_refuses 356 = .ok (.iconst 0, 1) := by decide +kernel
theorem dL_refuses_357 : decode cL_refuses 357 = .ok (.iconst 0, 1) := by decide +kernel
theorem dL_refuses_358 : decode cL_refuses 358 = .ok (.invokestatic 91, 3) := by decide +kernel
theorem dL_refuses_361 : decode cL_refuses 361 = .ok (.bipush (-71), 2) := by decide +kernel
theorem dL_refuses_363 : decode cL_refuses 363 = .ok (.if_icmp .ne 7, 3) := by decide +kernel
theorem dL_refuses_366 : decode cL_refuses 366 = .ok (.iconst 1, 1) := by decide +kernel
theorem dL_refuses_367 : decode cL_refuses 367 = .ok (.goto 4, 3) := by decide +kernel
theorem dL_refuses_370 : decode cL_refuses 370 = .ok (.iconst 0, 1) := by decide +kernel
theorem dL_refuses_371 : decode cL_refuses 371 = .ok (.istore 13, 2) := by decide +kernel
theorem dL_refuses_373 : decode cL_refuses 373 = .ok (.iinc 14 1, 3) := by decide +kernel
theorem dL_refuses_376 : decode cL_refuses 376 = .ok (.goto (-74), 3) := by decide +kernel
theorem dL_refuses_379 : decode cL_refuses 379 = .ok (.iload_n 3, 1) := by decide +kernel
theorem dL_refuses_380 : decode cL_refuses 380 = .ok (.ifCond .le 226, 3) := by decide +kernel
theorem dL_refuses_383 : decode cL_refuses 383 = .ok (.iload 13, 2) := by decide +kernel
theorem dL_refuses_385 : decode cL_refuses 385 = .ok (.ifCond .eq 122, 3) := by decide +kernel
theorem dL_refuses_388 : decode cL_refuses 388 = .ok (.aload_n 0, 1) := by decide +kernel
theorem dL_refuses_389 : decode cL_refuses 389 = .ok (.iconst 1, 1) := by decide +kernel
theorem dL_refuses_390 : decode cL_refuses 390 = .ok (.iconst 0, 1) := by decide +kernel
theorem dL_refuses_391 : decode cL_refuses 391 = .ok (.iload 10, 2) := by decide +kernel
theorem dL_refuses_393 : decode cL_refuses 393 = .ok (.iconst 0, 1) := by decide +kernel
theorem dL_refuses_394 : decode cL_refuses 394 = .ok (.iconst 0, 1) := by decide +kernel
theorem dL_refuses_395 : decode cL_refuses 395 = .ok (.invokestatic 91, 3) := by decide +kernel
theorem dL_refuses_398 : decode cL_refuses 398 = .ok (.bipush (-72), 2) := by decide +kernel
theorem dL_refuses_400 : decode cL_refuses 400 = .ok (.if_icmp .ne 107, 3) := by decide +kernel
theorem dL_refuses_403 : decode cL_refuses 403 = .ok (.aload_n 0, 1) := by decide +kernel
theorem dL_refuses_404 : decode cL_refuses 404 = .ok (.iconst 1, 1) := by decide +kernel
theorem dL_refuses_405 : decode cL_refuses 405 = .ok (.iconst 0, 1) := by decide +kernel
theorem dL_refuses_406 : decode cL_refuses 406 = .ok (.iconst 0, 1) := by decide +kernel
theorem dL_refuses_407 : decode cL_refuses 407 = .ok (.iload 12, 2) := by decide +kernel
theorem dL_refuses_409 : decode cL_refuses 409 = .ok (.iconst 0, 1) := by decide +kernel
theorem dL_refuses_410 : decode cL_refuses 410 = .ok (.invokestatic 91, 3) := by decide +kernel
theorem dL_refuses_413 : decode cL_refuses 413 = .ok (.bipush (-72), 2) := by decide +kernel
theorem dL_refuses_415 : decode cL_refuses 415 = .ok (.if_icmp .ne 92, 3) := by decide +kernel
theorem dL_refuses_418 : decode cL_refuses 418 = .ok (.aload_n 0, 1) := by decide +kernel
theorem dL_refuses_419 : decode cL_refuses 419 = .ok (.iconst 1, 1) := by decide +kernel
theorem dL_refuses_420 : decode cL_refuses 420 = .ok (.iconst 0, 1) := by decide +kernel
theorem dL_refuses_421 : decode cL_refuses 421 = .ok (.iconst 0, 1) := by decide +kernel
theorem dL_refuses_422 : decode cL_refuses 422 = .ok (.iconst 0, 1) := by decide +kernel
theorem dL_refuses_423 : decode cL_refuses 423 = .ok (.iload 6, 2) := by decide +kernel
theorem dL_refuses_425 : decode cL_refuses 425 = .ok (.iconst 1, 1) := by decide +kernel
theorem dL_refuses_426 : decode cL_refuses 426 = .ok (.if_icmp .ne 7, 3) := by decide +kernel
theorem dL_refuses_429 : decode cL_refuses 429 = .ok (.iconst 3, 1) := by decide +kernel
theorem dL_refuses_430 : decode cL_refuses 430 = .ok (.goto 5, 3) := by decide +kernel
theorem dL_refuses_433 : decode cL_refuses 433 = .ok (.iload 8, 2) := by decide +kernel
theorem dL_refuses_435 : decode cL_refuses 435 = .ok (.invokestatic 91, 3) := by decide +kernel
theorem dL_refuses_438 : decode cL_refuses 438 = .ok (.bipush (-72), 2) := by decide +kernel
theorem dL_refuses_440 : decode cL_refuses 440 = .ok (.if_icmp .ne 67, 3) := by decide +kernel
theorem dL_refuses_443 : decode cL_refuses 443 = .ok (.aload_n 0, 1) := by decide +kernel
theorem dL_refuses_444 : decode cL_refuses 444 = .ok (.iconst 2, 1) := by decide +kernel
theorem dL_refuses_445 : decode cL_refuses 445 = .ok (.iconst 0, 1) := by decide +kernel
theorem dL_refuses_446 : decode cL_refuses 446 = .ok (.iload 10, 2) := by decide +kernel
theorem dL_refuses_448 : decode cL_refuses 448 = .ok (.iconst 0, 1) := by decide +kernel
theorem dL_refuses_449 : decode cL_refuses 449 = .ok (.iconst 1, 1) := by decide +kernel
theorem dL_refuses_450 : decode cL_refuses 450 = .ok (.invokestatic 91, 3) := by decide +kernel
theorem dL_refuses_453 : decode cL_refuses 453 = .ok (.bipush (-72), 2) := by decide +kernel
theorem dL_refuses_455 : decode cL_refuses 455 = .ok (.if_icmp .ne 52, 3) := by decide +kernel
theorem dL_refuses_458 : decode cL_refuses 458 = .ok (.aload_n 0, 1) := by decide +kernel
theorem dL_refuses_459 : decode cL_refuses 459 = .ok (.iconst 2, 1) := by decide +kernel
theorem dL_refuses_460 : decode cL_refuses 460 = .ok (.iconst 0, 1) := by decide +kernel
theorem dL_refuses_461 : decode cL_refuses 461 = .ok (.iconst 0, 1) := by decide +kernel
theorem dL_refuses_462 : decode cL_refuses 462 = .ok (.iload 11, 2) := by decide +kernel
theorem dL_refuses_464 : decode cL_refuses 464 = .ok (.iconst 1, 1) := by decide +kernel
theorem dL_refuses_465 : decode cL_refuses 465 = .ok (.invokestatic 91, 3) := by decide +kernel
theorem dL_refuses_468 : decode cL_refuses 468 = .ok (.bipush (-72), 2) := by decide +kernel
theorem dL_refuses_470 : decode cL_refuses 470 = .ok (.if_icmp .ne 37, 3) := by decide +kernel
theorem dL_refuses_473 : decode cL_refuses 473 = .ok (.aload_n 0, 1) := by decide +kernel
theorem dL_refuses_474 : decode cL_refuses 474 = .ok (.iconst 3, 1) := by decide +kernel
theorem dL_refuses_475 : decode cL_refuses 475 = .ok (.iconst 0, 1) := by decide +kernel
theorem dL_refuses_476 : decode cL_refuses 476 = .ok (.iconst 0, 1) := by decide +kernel
theorem dL_refuses_477 : decode cL_refuses 477 = .ok (.iload 9, 2) := by decide +kernel
theorem dL_refuses_479 : decode cL_refuses 479 = .ok (.iconst 1, 1) := by decide +kernel
theorem dL_refuses_480 : decode cL_refuses 480 = .ok (.invokestatic 91, 3) := by decide +kernel
theorem dL_refuses_483 : decode cL_refuses 483 = .ok (.bipush (-71), 2) := by decide +kernel
theorem dL_refuses_485 : decode cL_refuses 485 = .ok (.if_icmp .ne 22, 3) := by decide +kernel
theorem dL_refuses_488 : decode cL_refuses 488 = .ok (.aload_n 0, 1) := by decide +kernel
theorem dL_refuses_489 : decode cL_refuses 489 = .ok (.iconst 3, 1) := by decide +kernel
theorem dL_refuses_490 : decode cL_refuses 490 = .ok (.iconst 0, 1) := by decide +kernel
theorem dL_refuses_491 : decode cL_refuses 491 = .ok (.iload 10, 2) := by decide +kernel
theorem dL_refuses_493 : decode cL_refuses 493 = .ok (.iconst 0, 1) := by decide +kernel
theorem dL_refuses_494 : decode cL_refuses 494 = .ok (.iconst 1, 1) := by decide +kernel
theorem dL_refuses_495 : decode cL_refuses 495 = .ok (.invokestatic 91, 3) := by decide +kernel
theorem dL_refuses_498 : decode cL_refuses 498 = .ok (.bipush (-72), 2) := by decide +kernel
theorem dL_refuses_500 : decode cL_refuses 500 = .ok (.if_icmp .ne 7, 3) := by decide +kernel
theorem dL_refuses_503 : decode cL_refuses 503 = .ok (.iconst 1, 1) := by decide +kernel
theorem dL_refuses_504 : decode cL_refuses 504 = .ok (.goto 4, 3) := by decide +kernel
theorem dL_refuses_507 : decode cL_refuses 507 = .ok (.iconst 0, 1) := by decide +kernel
theorem dL_refuses_508 : decode cL_refuses 508 = .ok (.istore 13, 2) := by decide +kernel
theorem dL_refuses_510 : decode cL_refuses 510 = .ok (.iload 13, 2) := by decide +kernel
theorem dL_refuses_512 : decode cL_refuses 512 = .ok (.ifCond .eq 91, 3) := by decide +kernel
theorem dL_refuses_515 : decode cL_refuses 515 = .ok (.aload_n 0, 1) := by decide +kernel
theorem dL_refuses_516 : decode cL_refuses 516 = .ok (.iconst 0, 1) := by decide +kernel
theorem dL_refuses_517 : decode cL_refuses 517 = .ok (.iload 10, 2) := by decide +kernel
theorem dL_refuses_519 : decode cL_refuses 519 = .ok (.invokestatic 97, 3) := by decide +kernel
theorem dL_refuses_522 : decode cL_refuses 522 = .ok (.bipush (-72), 2) := by decide +kernel
theorem dL_refuses_524 : decode cL_refuses 524 = .ok (.if_icmp .ne 79, 3) := by decide +kernel
theorem dL_refuses_527 : decode cL_refuses 527 = .ok (.aload_n 0, 1) := by decide +kernel
theorem dL_refuses_528 : decode cL_refuses 528 = .ok (.iconst 0, 1) := by decide +kernel
theorem dL_refuses_529 : decode cL_refuses 529 = .ok (.iload 10, 2) := by decide +kernel
theorem dL_refuses_531 : decode cL_refuses 531 = .ok (.invokestatic 100, 3) := by decide +kernel
theorem dL_refuses_534 : decode cL_refuses 534 = .ok (.bipush (-72), 2) := by decide +kernel
theorem dL_refuses_536 : decode cL_refuses 536 = .ok (.if_icmp .ne 67, 3) := by decide +kernel
theorem dL_refuses_539 : decode cL_refuses 539 = .ok (.aload_n 0, 1) := by decide +kernel
theorem dL_refuses_540 : decode cL_refuses 540 = .ok (.bipush 11, 2) := by decide +kernel
theorem dL_refuses_542 : decode cL_refuses 542 = .ok (.iconst 0, 1) := by decide +kernel
theorem dL_refuses_543 : decode cL_refuses 543 = .ok (.iload 10, 2) := by decide +kernel
theorem dL_refuses_545 : decode cL_refuses 545 = .ok (.iconst (-1), 1) := by decide +kernel
theorem dL_refuses_546 : decode cL_refuses 546 = .ok (.iconst 0, 1) := by decide +kernel
theorem dL_refuses_547 : decode cL_refuses 547 = .ok (.invokestatic 91, 3) := by decide +kernel
theorem dL_refuses_550 : decode cL_refuses 550 = .ok (.bipush (-72), 2) := by decide +kernel
theorem dL_refuses_552 : decode cL_refuses 552 = .ok (.if_icmp .ne 51, 3) := by decide +kernel
theorem dL_refuses_555 : decode cL_refuses 555 = .ok (.aload_n 0, 1) := by decide +kernel
theorem dL_refuses_556 : decode cL_refuses 556 = .ok (.bipush 11, 2) := by decide +kernel
theorem dL_refuses_558 : decode cL_refuses 558 = .ok (.iconst 0, 1) := by decide +kernel
theorem dL_refuses_559 : decode cL_refuses 559 = .ok (.iconst 0, 1) := by decide +kernel
theorem dL_refuses_560 : decode cL_refuses 560 = .ok (.iload 6, 2) := by decide +kernel
theorem dL_refuses_562 : decode cL_refuses 562 = .ok (.iconst 1, 1) := by decide +kernel
theorem dL_refuses_563 : decode cL_refuses 563 = .ok (.if_icmp .ne 8, 3) := by decide +kernel
theorem dL_refuses_566 : decode cL_refuses 566 = .ok (.bipush 6, 2) := by decide +kernel
theorem dL_refuses_568 : decode cL_refuses 568 = .ok (.goto 5, 3) := by decide +kernel
theorem dL_refuses_571 : decode cL_refuses 571 = .ok (.iload 8, 2) := by decide +kernel
theorem dL_refuses_573 : decode cL_refuses 573 = .ok (.iconst 0, 1) := by decide +kernel
theorem dL_refuses_574 : decode cL_refuses 574 = .ok (.invokestatic 91, 3) := by decide +kernel
theorem dL_refuses_577 : decode cL_refuses 577 = .ok (.bipush (-72), 2) := by decide +kernel
theorem dL_refuses_579 : decode cL_refuses 579 = .ok (.if_icmp .ne 24, 3) := by decide +kernel
theorem dL_refuses_582 : decode cL_refuses 582 = .ok (.aload_n 0, 1) := by decide +kernel
theorem dL_refuses_583 : decode cL_refuses 583 = .ok (.bipush 11, 2) := by decide +kernel
theorem dL_refuses_585 : decode cL_refuses 585 = .ok (.iconst 0, 1) := by decide +kernel
theorem dL_refuses_586 : decode cL_refuses 586 = .ok (.iload 6, 2) := by decide +kernel
theorem dL_refuses_588 : decode cL_refuses 588 = .ok (.iload 6, 2) := by decide +kernel
theorem dL_refuses_590 : decode cL_refuses 590 = .ok (.iconst 0, 1) := by decide +kernel
theorem dL_refuses_591 : decode cL_refuses 591 = .ok (.invokestatic 91, 3) := by decide +kernel
theorem dL_refuses_594 : decode cL_refuses 594 = .ok (.bipush (-72), 2) := by decide +kernel
theorem dL_refuses_596 : decode cL_refuses 596 = .ok (.if_icmp .ne 7, 3) := by decide +kernel
theorem dL_refuses_599 : decode cL_refuses 599 = .ok (.iconst 1, 1) := by decide +kernel
theorem dL_refuses_600 : decode cL_refuses 600 = .ok (.goto 4, 3) := by decide +kernel
theorem dL_refuses_603 : decode cL_refuses 603 = .ok (.iconst 0, 1) := by decide +kernel
theorem dL_refuses_604 : decode cL_refuses 604 = .ok (.istore 13, 2) := by decide +kernel
theorem dL_refuses_606 : decode cL_refuses 606 = .ok (.iload 13, 2) := by decide +kernel
theorem dL_refuses_608 : decode cL_refuses 608 = .ok (.ifCond .ne 5, 3) := by decide +kernel
theorem dL_refuses_611 : decode cL_refuses 611 = .ok (.iconst 0, 1) := by decide +kernel
theorem dL_refuses_612 : decode cL_refuses 612 = .ok (.ireturn, 1) := by decide +kernel
theorem dL_refuses_613 : decode cL_refuses 613 = .ok (.iinc 6 1, 3) := by decide +kernel
theorem dL_refuses_616 : decode cL_refuses 616 = .ok (.goto (-598), 3) := by decide +kernel
theorem dL_refuses_619 : decode cL_refuses 619 = .ok (.aload_n 0, 1) := by decide +kernel
theorem dL_refuses_620 : decode cL_refuses 620 = .ok (.invokevirtual 84, 3) := by decide +kernel
theorem dL_refuses_623 : decode cL_refuses 623 = .ok (.iload_n 3, 1) := by decide +kernel
theorem dL_refuses_624 : decode cL_refuses 624 = .ok (.if_icmp .ne 16, 3) := by decide +kernel
theorem dL_refuses_627 : decode cL_refuses 627 = .ok (.aload_n 0, 1) := by decide +kernel
theorem dL_refuses_628 : decode cL_refuses 628 = .ok (.invokevirtual 87, 3) := by decide +kernel
theorem dL_refuses_631 : decode cL_refuses 631 = .ok (.iload 4, 2) := by decide +kernel
theorem dL_refuses_633 : decode cL_refuses 633 = .ok (.if_icmp .ne 7, 3) := by decide +kernel
theorem dL_refuses_636 : decode cL_refuses 636 = .ok (.iconst 1, 1) := by decide +kernel
theorem dL_refuses_637 : decode cL_refuses 637 = .ok (.goto 4, 3) := by decide +kernel
theorem dL_refuses_640 : decode cL_refuses 640 = .ok (.iconst 0, 1) := by decide +kernel
theorem dL_refuses_641 : decode cL_refuses 641 = .ok (.ireturn, 1) := by decide +kernel
theorem dL_cell_0 : decode cL_cell 0 = .ok (.aload_n 0, 1) := by decide +kernel
theorem dL_cell_1 : decode cL_cell 1 = .ok (.iload_n 1, 1) := by decide +kernel
theorem dL_cell_2 : decode cL_cell 2 = .ok (.iload_n 2, 1) := by decide +kernel
theorem dL_cell_3 : decode cL_cell 3 = .ok (.invokevirtual 49, 3) := by decide +kernel
theorem dL_cell_6 : decode cL_cell 6 = .ok (.iload_n 3, 1) := by decide +kernel
theorem dL_cell_7 : decode cL_cell 7 = .ok (.if_icmp .ne 40, 3) := by decide +kernel
theorem dL_cell_10 : decode cL_cell 10 = .ok (.aload_n 0, 1) := by decide +kernel
theorem dL_cell_11 : decode cL_cell 11 = .ok (.iload_n 1, 1) := by decide +kernel
theorem dL_cell_12 : decode cL_cell 12 = .ok (.iload_n 2, 1) := by decide +kernel
theorem dL_cell_13 : decode cL_cell 13 = .ok (.invokevirtual 52, 3) := by decide +kernel
theorem dL_cell_16 : decode cL_cell 16 = .ok (.iload 4, 2) := by decide +kernel
theorem dL_cell_18 : decode cL_cell 18 = .ok (.if_icmp .ne 29, 3) := by decide +kernel
theorem dL_cell_21 : decode cL_cell 21 = .ok (.aload_n 0, 1) := by decide +kernel
theorem dL_cell_22 : decode cL_cell 22 = .ok (.iload_n 1, 1) := by decide +kernel
theorem dL_cell_23 : decode cL_cell 23 = .ok (.iload_n 2, 1) := by decide +kernel
theorem dL_cell_24 : decode cL_cell 24 = .ok (.invokevirtual 55, 3) := by decide +kernel
theorem dL_cell_27 : decode cL_cell 27 = .ok (.iload 5, 2) := by decide +kernel
theorem dL_cell_29 : decode cL_cell 29 = .ok (.if_icmp .ne 18, 3) := by decide +kernel
theorem dL_cell_32 : decode cL_cell 32 = .ok (.aload_n 0, 1) := by decide +kernel
theorem dL_cell_33 : decode cL_cell 33 = .ok (.iload_n 1, 1) := by decide +kernel
theorem dL_cell_34 : decode cL_cell 34 = .ok (.iload_n 2, 1) := by decide +kernel
theorem dL_cell_35 : decode cL_cell 35 = .ok (.invokevirtual 58, 3) := by decide +kernel
theorem dL_cell_38 : decode cL_cell 38 = .ok (.iload 6, 2) := by decide +kernel
theorem dL_cell_40 : decode cL_cell 40 = .ok (.if_icmp .ne 7, 3) := by decide +kernel
theorem dL_cell_43 : decode cL_cell 43 = .ok (.iconst 1, 1) := by decide +kernel
theorem dL_cell_44 : decode cL_cell 44 = .ok (.goto 4, 3) := by decide +kernel
theorem dL_cell_47 : decode cL_cell 47 = .ok (.iconst 0, 1) := by decide +kernel
theorem dL_cell_48 : decode cL_cell 48 = .ok (.ireturn, 1) := by decide +kernel
theorem dL_floor_0 : decode cL_floor 0 = .ok (.new 8, 3) := by decide +kernel
theorem dL_floor_3 : decode cL_floor 3 = .ok (.dup, 1) := by decide +kernel
theorem dL_floor_4 : decode cL_floor 4 = .ok (.invokespecial 102, 3) := by decide +kernel
theorem dL_floor_7 : decode cL_floor 7 = .ok (.astore_n 0, 1) := by decide +kernel
theorem dL_floor_8 : decode cL_floor 8 = .ok (.bipush (-73), 2) := by decide +kernel
theorem dL_floor_10 : decode cL_floor 10 = .ok (.istore_n 1, 1) := by decide +kernel
theorem dL_floor_11 : decode cL_floor 11 = .ok (.aload_n 0, 1) := by decide +kernel
theorem dL_floor_12 : decode cL_floor 12 = .ok (.invokevirtual 84, 3) := by decide +kernel
theorem dL_floor_15 : decode cL_floor 15 = .ok (.ifCond .ne 180, 3) := by decide +kernel
theorem dL_floor_18 : decode cL_floor 18 = .ok (.aload_n 0, 1) := by decide +kernel
theorem dL_floor_19 : decode cL_floor 19 = .ok (.invokevirtual 87, 3) := by decide +kernel
theorem dL_floor_22 : decode cL_floor 22 = .ok (.ifCond .ne 173, 3) := by decide +kernel
theorem dL_floor_25 : decode cL_floor 25 = .ok (.aload_n 0, 1) := by decide +kernel
theorem dL_floor_26 : decode cL_floor 26 = .ok (.iconst 0, 1) := by decide +kernel
theorem dL_floor_27 : decode cL_floor 27 = .ok (.iconst 0, 1) := by decide +kernel
theorem dL_floor_28 : decode cL_floor 28 = .ok (.invokestatic 103, 3) := by decide +kernel
theorem dL_floor_31 : decode cL_floor 31 = .ok (.ifCond .eq 164, 3) := by decide +kernel
theorem dL_floor_34 : decode cL_floor 34 = .ok (.aload_n 0, 1) := by decide +kernel
theorem dL_floor_35 : decode cL_floor 35 = .ok (.invokevirtual 22, 3) := by decide +kernel
theorem dL_floor_38 : decode cL_floor 38 = .ok (.ifCond .ne 157, 3) := by decide +kernel
theorem dL_floor_41 : decode cL_floor 41 = .ok (.aload_n 0, 1) := by decide +kernel
theorem dL_floor_42 : decode cL_floor 42 = .ok (.iconst 0, 1) := by decide +kernel
theorem dL_floor_43 : decode cL_floor 43 = .ok (.invokevirtual 45, 3) := by decide +kernel
theorem dL_floor_46 : decode cL_floor 46 = .ok (.iconst 1, 1) := by decide +kernel
theorem dL_floor_47 : decode cL_floor 47 = .ok (.if_icmp .ne 148, 3) := by decide +kernel
theorem dL_floor_50 : decode cL_floor 50 = .ok (.aload_n 0, 1) := by decide +kernel
theorem dL_floor_51 : decode cL_floor 51 = .ok (.iconst 0, 1) := by decide +kernel
theorem dL_floor_52 : decode cL_floor 52 = .ok (.bipush 24, 2) := by decide +kernel
theorem dL_floor_54 : decode cL_floor 54 = .ok (.iconst 0, 1) := by decide +kernel
theorem dL_floor_55 : decode cL_floor 55 = .ok (.bipush 25, 2) := by decide +kernel
theorem dL_floor_57 : decode cL_floor 57 = .ok (.iconst (-1), 1) := by decide +kernel
theorem dL_floor_58 : decode cL_floor 58 = .ok (.iconst (-1), 1) := by decide +kernel
theorem dL_floor_59 : decode cL_floor 59 = .ok (.invokestatic 107, 3) := by decide +kernel
theorem dL_floor_62 : decode cL_floor 62 = .ok (.ifCond .eq 133, 3) := by decide +kernel
theorem dL_floor_65 : decode cL_floor 65 = .ok (.aload_n 0, 1) := by decide +kernel
theorem dL_floor_66 : decode cL_floor 66 = .ok (.iconst 0, 1) := by decide +kernel
theorem dL_floor_67 : decode cL_floor 67 = .ok (.bipush 39, 2) := by decide +kernel
theorem dL_floor_69 : decode cL_floor 69 = .ok (.invokevirtual 37, 3) := by decide +kernel
theorem dL_floor_72 : decode cL_floor 72 = .ok (.iconst (-1), 1) := by decide +kernel
theorem dL_floor_73 : decode cL_floor 73 = .ok (.if_icmp .ne 122, 3) := by decide +kernel
theorem dL_floor_76 : decode cL_floor 76 = .ok (.aload_n 0, 1) := by decide +kernel
theorem dL_floor_77 : decode cL_floor 77 = .ok (.iconst 0, 1) := by decide +kernel
theorem dL_floor_78 : decode cL_floor 78 = .ok (.iconst 0, 1) := by decide +kernel
theorem dL_floor_79 : decode cL_floor 79 = .ok (.invokevirtual 41, 3) := by decide +kernel
theorem dL_floor_82 : decode cL_floor 82 = .ok (.ifCond .ne 113, 3) := by decide +kernel
theorem dL_floor_85 : decode cL_floor 85 = .ok (.aload_n 0, 1) := by decide +kernel
theorem dL_floor_86 : decode cL_floor 86 = .ok (.iconst 0, 1) := by decide +kernel
theorem dL_floor_87 : decode cL_floor 87 = .ok (.invokevirtual 65, 3) := by decide +kernel
theorem dL_floor_90 : decode cL_floor 90 = .ok (.iconst (-1), 1) := by decide +kernel
theorem dL_floor_91 : decode cL_floor 91 = .ok (.if_icmp .ne 104, 3) := by decide +kernel
theorem dL_floor_94 : decode cL_floor 94 = .ok (.aload_n 0, 1) := by decide +kernel
theorem dL_floor_95 : decode cL_floor 95 = .ok (.iconst 1, 1) := by decide +kernel
theorem dL_floor_96 : decode cL_floor 96 = .ok (.iconst 0, 1) := by decide +kernel
theorem dL_floor_97 : decode cL_floor 97 = .ok (.iconst 0, 1) := by decide +kernel
theorem dL_floor_98 : decode cL_floor 98 = .ok (.iconst 0, 1) := by decide +kernel
theorem dL_floor_99 : decode cL_floor 99 = .ok (.iconst 1, 1) := by decide +kernel
theorem dL_floor_100 : decode cL_floor 100 = .ok (.invokestatic 91, 3) := by decide +kernel
theorem dL_floor_103 : decode cL_floor 103 = .ok (.iload_n 1, 1) := by decide +kernel
theorem dL_floor_104 : decode cL_floor 104 = .ok (.if_icmp .ne 91, 3) := by decide +kernel
theorem dL_floor_107 : decode cL_floor 107 = .ok (.aload_n 0, 1) := by decide +kernel
theorem dL_floor_108 : decode cL_floor 108 = .ok (.bipush 13, 2) := by decide +kernel
theorem dL_floor_110 : decode cL_floor 110 = .ok (.iconst 0, 1) := by decide +kernel
theorem dL_floor_111 : decode cL_floor 111 = .ok (.iconst 0, 1) := by decide +kernel
theorem dL_floor_112 : decode cL_floor 112 = .ok (.iconst 0, 1) := by decide +kernel
theorem dL_floor_113 : decode cL_floor 113 = .ok (.iconst 0, 1) := by decide +kernel
theorem dL_floor_114 : decode cL_floor 114 = .ok (.invokestatic 91, 3) := by decide +kernel
theorem dL_floor_117 : decode cL_floor 117 = .ok (.iload_n 1, 1) := by decide +kernel
theorem dL_floor_118 : decode cL_floor 118 = .ok (.if_icmp .ne 77, 3) := by decide +kernel
theorem dL_floor_121 : decode cL_floor 121 = .ok (.aload_n 0, 1) := by decide +kernel
theorem dL_floor_122 : decode cL_floor 122 = .ok (.iconst 0, 1) := by decide +kernel
theorem dL_floor_123 : decode cL_floor 123 = .ok (.iconst 0, 1) := by decide +kernel
theorem dL_floor_124 : decode cL_floor 124 = .ok (.invokestatic 100, 3) := by decide +kernel
theorem dL_floor_127 : decode cL_floor 127 = .ok (.iload_n 1, 1) := by decide +kernel
theorem dL_floor_128 : decode cL_floor 128 = .ok (.if_icmp .ne 67, 3) := by decide +kernel
theorem dL_floor_131 : decode cL_floor 131 = .ok (.aload_n 0, 1) := by decide +kernel
theorem dL_floor_132 : decode cL_floor 132 = .ok (.iconst 0, 1) := by decide +kernel
theorem dL_floor_133 : decode cL_floor 133 = .ok (.iconst 2, 1) := by decide +kernel
theorem dL_floor_134 : decode cL_floor 134 = .ok (.invokestatic 97, 3) := by decide +kernel
theorem dL_floor_137 : decode cL_floor 137 = .ok (.ifCond .ne 58, 3) := by decide +kernel
theorem dL_floor_140 : decode cL_floor 140 = .ok (.aload_n 0, 1) := by decide +kernel
theorem dL_floor_141 : decode cL_floor 141 = .ok (.iconst 0, 1) := by decide +kernel
theorem dL_floor_142 : decode cL_floor 142 = .ok (.iconst 2, 1) := by decide +kernel
theorem dL_floor_143 : decode cL_floor 143 = .ok (.invokestatic 97, 3) := by decide +kernel
