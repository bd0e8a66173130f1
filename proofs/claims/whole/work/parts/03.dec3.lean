theorem dX6_grant_65 : decode cX6_grant 65 = .ok (.iload_n 2, 1) := by decide +kernel
theorem dX6_grant_66 : decode cX6_grant 66 = .ok (.ifCond .eq 7, 3) := by decide +kernel
theorem dX6_grant_69 : decode cX6_grant 69 = .ok (.iconst 0, 1) := by decide +kernel
theorem dX6_grant_70 : decode cX6_grant 70 = .ok (.goto 4, 3) := by decide +kernel
theorem dX6_grant_73 : decode cX6_grant 73 = .ok (.iconst 2, 1) := by decide +kernel
theorem dX6_grant_74 : decode cX6_grant 74 = .ok (.putfield 58, 3) := by decide +kernel
theorem dX6_grant_77 : decode cX6_grant 77 = .ok (.iload_n 2, 1) := by decide +kernel
theorem dX6_grant_78 : decode cX6_grant 78 = .ok (.ifCond .ne 5, 3) := by decide +kernel
theorem dX6_grant_81 : decode cX6_grant 81 = .ok (.iconst 0, 1) := by decide +kernel
theorem dX6_grant_82 : decode cX6_grant 82 = .ok (.ireturn, 1) := by decide +kernel
theorem dX6_grant_83 : decode cX6_grant 83 = .ok (.aload_n 0, 1) := by decide +kernel
theorem dX6_grant_84 : decode cX6_grant 84 = .ok (.getfield 37, 3) := by decide +kernel
theorem dX6_grant_87 : decode cX6_grant 87 = .ok (.aload_n 0, 1) := by decide +kernel
theorem dX6_grant_88 : decode cX6_grant 88 = .ok (.getfield 110, 3) := by decide +kernel
theorem dX6_grant_91 : decode cX6_grant 91 = .ok (.iload_n 1, 1) := by decide +kernel
theorem dX6_grant_92 : decode cX6_grant 92 = .ok (.iastore, 1) := by decide +kernel
theorem dX6_grant_93 : decode cX6_grant 93 = .ok (.aload_n 0, 1) := by decide +kernel
theorem dX6_grant_94 : decode cX6_grant 94 = .ok (.getfield 43, 3) := by decide +kernel
theorem dX6_grant_97 : decode cX6_grant 97 = .ok (.aload_n 0, 1) := by decide +kernel
theorem dX6_grant_98 : decode cX6_grant 98 = .ok (.getfield 110, 3) := by decide +kernel
theorem dX6_grant_101 : decode cX6_grant 101 = .ok (.aload_n 0, 1) := by decide +kernel
theorem dX6_grant_102 : decode cX6_grant 102 = .ok (.getfield 28, 3) := by decide +kernel
theorem dX6_grant_105 : decode cX6_grant 105 = .ok (.iload_n 1, 1) := by decide +kernel
theorem dX6_grant_106 : decode cX6_grant 106 = .ok (.iaload, 1) := by decide +kernel
theorem dX6_grant_107 : decode cX6_grant 107 = .ok (.iastore, 1) := by decide +kernel
theorem dX6_grant_108 : decode cX6_grant 108 = .ok (.iconst 0, 1) := by decide +kernel
theorem dX6_grant_109 : decode cX6_grant 109 = .ok (.istore_n 3, 1) := by decide +kernel
theorem dX6_grant_110 : decode cX6_grant 110 = .ok (.iload_n 3, 1) := by decide +kernel
theorem dX6_grant_111 : decode cX6_grant 111 = .ok (.bipush 40, 2) := by decide +kernel
theorem dX6_grant_113 : decode cX6_grant 113 = .ok (.if_icmp .ge 34, 3) := by decide +kernel
theorem dX6_grant_116 : decode cX6_grant 116 = .ok (.aload_n 0, 1) := by decide +kernel
theorem dX6_grant_117 : decode cX6_grant 117 = .ok (.getfield 40, 3) := by decide +kernel
theorem dX6_grant_120 : decode cX6_grant 120 = .ok (.bipush 40, 2) := by decide +kernel
theorem dX6_grant_122 : decode cX6_grant 122 = .ok (.aload_n 0, 1) := by decide +kernel
theorem dX6_grant_123 : decode cX6_grant 123 = .ok (.getfield 110, 3) := by decide +kernel
theorem dX6_grant_126 : decode cX6_grant 126 = .ok (.imul, 1) := by decide +kernel
theorem dX6_grant_127 : decode cX6_grant 127 = .ok (.iload_n 3, 1) := by decide +kernel
theorem dX6_grant_128 : decode cX6_grant 128 = .ok (.iadd, 1) := by decide +kernel
theorem dX6_grant_129 : decode cX6_grant 129 = .ok (.aload_n 0, 1) := by decide +kernel
theorem dX6_grant_130 : decode cX6_grant 130 = .ok (.getfield 25, 3) := by decide +kernel
theorem dX6_grant_133 : decode cX6_grant 133 = .ok (.bipush 40, 2) := by decide +kernel
theorem dX6_grant_135 : decode cX6_grant 135 = .ok (.iload_n 1, 1) := by decide +kernel
theorem dX6_grant_136 : decode cX6_grant 136 = .ok (.imul, 1) := by decide +kernel
theorem dX6_grant_137 : decode cX6_grant 137 = .ok (.iload_n 3, 1) := by decide +kernel
theorem dX6_grant_138 : decode cX6_grant 138 = .ok (.iadd, 1) := by decide +kernel
theorem dX6_grant_139 : decode cX6_grant 139 = .ok (.iaload, 1) := by decide +kernel
theorem dX6_grant_140 : decode cX6_grant 140 = .ok (.iastore, 1) := by decide +kernel
theorem dX6_grant_141 : decode cX6_grant 141 = .ok (.iinc 3 1, 3) := by decide +kernel
theorem dX6_grant_144 : decode cX6_grant 144 = .ok (.goto (-34), 3) := by decide +kernel
theorem dX6_grant_147 : decode cX6_grant 147 = .ok (.aload_n 0, 1) := by decide +kernel
theorem dX6_grant_148 : decode cX6_grant 148 = .ok (.dup, 1) := by decide +kernel
theorem dX6_grant_149 : decode cX6_grant 149 = .ok (.getfield 110, 3) := by decide +kernel
theorem dX6_grant_152 : decode cX6_grant 152 = .ok (.iconst 1, 1) := by decide +kernel
theorem dX6_grant_153 : decode cX6_grant 153 = .ok (.iadd, 1) := by decide +kernel
theorem dX6_grant_154 : decode cX6_grant 154 = .ok (.putfield 110, 3) := by decide +kernel
theorem dX6_grant_157 : decode cX6_grant 157 = .ok (.aload_n 0, 1) := by decide +kernel
theorem dX6_grant_158 : decode cX6_grant 158 = .ok (.getfield 110, 3) := by decide +kernel
theorem dX6_grant_161 : decode cX6_grant 161 = .ok (.iconst 1, 1) := by decide +kernel
theorem dX6_grant_162 : decode cX6_grant 162 = .ok (.isub, 1) := by decide +kernel
theorem dX6_grant_163 : decode cX6_grant 163 = .ok (.ireturn, 1) := by decide +kernel
theorem dX6_holds_0 : decode cX6_holds 0 = .ok (.aload_n 0, 1) := by decide +kernel
theorem dX6_holds_1 : decode cX6_holds 1 = .ok (.iload_n 1, 1) := by decide +kernel
theorem dX6_holds_2 : decode cX6_holds 2 = .ok (.iconst 0, 1) := by decide +kernel
theorem dX6_holds_3 : decode cX6_holds 3 = .ok (.aload_n 0, 1) := by decide +kernel
theorem dX6_holds_4 : decode cX6_holds 4 = .ok (.getfield 110, 3) := by decide +kernel
theorem dX6_holds_7 : decode cX6_holds 7 = .ok (.iconst 1, 1) := by decide +kernel
theorem dX6_holds_8 : decode cX6_holds 8 = .ok (.isub, 1) := by decide +kernel
theorem dX6_holds_9 : decode cX6_holds 9 = .ok (.invokestatic 65, 3) := by decide +kernel
theorem dX6_holds_12 : decode cX6_holds 12 = .ok (.ifCond .eq 7, 3) := by decide +kernel
theorem dX6_holds_15 : decode cX6_holds 15 = .ok (.iconst 0, 1) := by decide +kernel
theorem dX6_holds_16 : decode cX6_holds 16 = .ok (.goto 4, 3) := by decide +kernel
theorem dX6_holds_19 : decode cX6_holds 19 = .ok (.iconst 1, 1) := by decide +kernel
theorem dX6_holds_20 : decode cX6_holds 20 = .ok (.putfield 58, 3) := by decide +kernel
theorem dX6_holds_23 : decode cX6_holds 23 = .ok (.aload_n 0, 1) := by decide +kernel
theorem dX6_holds_24 : decode cX6_holds 24 = .ok (.invokevirtual 77, 3) := by decide +kernel
theorem dX6_holds_27 : decode cX6_holds 27 = .ok (.aload_n 0, 1) := by decide +kernel
theorem dX6_holds_28 : decode cX6_holds 28 = .ok (.getfield 58, 3) := by decide +kernel
theorem dX6_holds_31 : decode cX6_holds 31 = .ok (.ifCond .ne 15, 3) := by decide +kernel
theorem dX6_holds_34 : decode cX6_holds 34 = .ok (.aload_n 0, 1) := by decide +kernel
theorem dX6_holds_35 : decode cX6_holds 35 = .ok (.iload_n 1, 1) := by decide +kernel
theorem dX6_holds_36 : decode cX6_holds 36 = .ok (.invokevirtual 113, 3) := by decide +kernel
theorem dX6_holds_39 : decode cX6_holds 39 = .ok (.ifCond .eq 7, 3) := by decide +kernel
theorem dX6_holds_42 : decode cX6_holds 42 = .ok (.iconst 1, 1) := by decide +kernel
theorem dX6_holds_43 : decode cX6_holds 43 = .ok (.goto 4, 3) := by decide +kernel
theorem dX6_holds_46 : decode cX6_holds 46 = .ok (.iconst 0, 1) := by decide +kernel
theorem dX6_holds_47 : decode cX6_holds 47 = .ok (.ireturn, 1) := by decide +kernel
theorem dX6_print_0 : decode cX6_print 0 = .ok (.aload_n 0, 1) := by decide +kernel
theorem dX6_print_1 : decode cX6_print 1 = .ok (.aload_n 0, 1) := by decide +kernel
theorem dX6_print_2 : decode cX6_print 2 = .ok (.iload_n 1, 1) := by decide +kernel
theorem dX6_print_3 : decode cX6_print 3 = .ok (.invokevirtual 83, 3) := by decide +kernel
theorem dX6_print_6 : decode cX6_print 6 = .ok (.ifCond .ne 7, 3) := by decide +kernel
theorem dX6_print_9 : decode cX6_print 9 = .ok (.iconst 1, 1) := by decide +kernel
theorem dX6_print_10 : decode cX6_print 10 = .ok (.goto 17, 3) := by decide +kernel
theorem dX6_print_13 : decode cX6_print 13 = .ok (.aload_n 0, 1) := by decide +kernel
theorem dX6_print_14 : decode cX6_print 14 = .ok (.getfield 116, 3) := by decide +kernel
theorem dX6_print_17 : decode cX6_print 17 = .ok (.bipush 30, 2) := by decide +kernel
theorem dX6_print_19 : decode cX6_print 19 = .ok (.if_icmp .ne 7, 3) := by decide +kernel
theorem dX6_print_22 : decode cX6_print 22 = .ok (.iconst 2, 1) := by decide +kernel
theorem dX6_print_23 : decode cX6_print 23 = .ok (.goto 4, 3) := by decide +kernel
theorem dX6_print_26 : decode cX6_print 26 = .ok (.iconst 0, 1) := by decide +kernel
theorem dX6_print_27 : decode cX6_print 27 = .ok (.putfield 58, 3) := by decide +kernel
theorem dX6_print_30 : decode cX6_print 30 = .ok (.aload_n 0, 1) := by decide +kernel
theorem dX6_print_31 : decode cX6_print 31 = .ok (.getfield 58, 3) := by decide +kernel
theorem dX6_print_34 : decode cX6_print 34 = .ok (.ifCond .le 5, 3) := by decide +kernel
theorem dX6_print_37 : decode cX6_print 37 = .ok (.iconst 0, 1) := by decide +kernel
theorem dX6_print_38 : decode cX6_print 38 = .ok (.ireturn, 1) := by decide +kernel
theorem dX6_print_39 : decode cX6_print 39 = .ok (.aload_n 0, 1) := by decide +kernel
theorem dX6_print_40 : decode cX6_print 40 = .ok (.invokevirtual 77, 3) := by decide +kernel
theorem dX6_print_43 : decode cX6_print 43 = .ok (.aload_n 0, 1) := by decide +kernel
theorem dX6_print_44 : decode cX6_print 44 = .ok (.getfield 46, 3) := by decide +kernel
theorem dX6_print_47 : decode cX6_print 47 = .ok (.aload_n 0, 1) := by decide +kernel
theorem dX6_print_48 : decode cX6_print 48 = .ok (.getfield 116, 3) := by decide +kernel
theorem dX6_print_51 : decode cX6_print 51 = .ok (.iload_n 1, 1) := by decide +kernel
theorem dX6_print_52 : decode cX6_print 52 = .ok (.iastore, 1) := by decide +kernel
theorem dX6_print_53 : decode cX6_print 53 = .ok (.aload_n 0, 1) := by decide +kernel
theorem dX6_print_54 : decode cX6_print 54 = .ok (.getfield 52, 3) := by decide +kernel
theorem dX6_print_57 : decode cX6_print 57 = .ok (.aload_n 0, 1) := by decide +kernel
theorem dX6_print_58 : decode cX6_print 58 = .ok (.getfield 116, 3) := by decide +kernel
theorem dX6_print_61 : decode cX6_print 61 = .ok (.aload_n 0, 1) := by decide +kernel
theorem dX6_print_62 : decode cX6_print 62 = .ok (.getfield 28, 3) := by decide +kernel
theorem dX6_print_65 : decode cX6_print 65 = .ok (.iload_n 1, 1) := by decide +kernel
theorem dX6_print_66 : decode cX6_print 66 = .ok (.iaload, 1) := by decide +kernel
theorem dX6_print_67 : decode cX6_print 67 = .ok (.iastore, 1) := by decide +kernel
theorem dX6_print_68 : decode cX6_print 68 = .ok (.iconst 0, 1) := by decide +kernel
theorem dX6_print_69 : decode cX6_print 69 = .ok (.istore_n 2, 1) := by decide +kernel
theorem dX6_print_70 : decode cX6_print 70 = .ok (.iload_n 2, 1) := by decide +kernel
theorem dX6_print_71 : decode cX6_print 71 = .ok (.bipush 40, 2) := by decide +kernel
theorem dX6_print_73 : decode cX6_print 73 = .ok (.if_icmp .ge 34, 3) := by decide +kernel
theorem dX6_print_76 : decode cX6_print 76 = .ok (.aload_n 0, 1) := by decide +kernel
theorem dX6_print_77 : decode cX6_print 77 = .ok (.getfield 49, 3) := by decide +kernel
theorem dX6_print_80 : decode cX6_print 80 = .ok (.bipush 40, 2) := by decide +kernel
theorem dX6_print_82 : decode cX6_print 82 = .ok (.aload_n 0, 1) := by decide +kernel
theorem dX6_print_83 : decode cX6_print 83 = .ok (.getfield 116, 3) := by decide +kernel
theorem dX6_print_86 : decode cX6_print 86 = .ok (.imul, 1) := by decide +kernel
theorem dX6_print_87 : decode cX6_print 87 = .ok (.iload_n 2, 1) := by decide +kernel
theorem dX6_print_88 : decode cX6_print 88 = .ok (.iadd, 1) := by decide +kernel
theorem dX6_print_89 : decode cX6_print 89 = .ok (.aload_n 0, 1) := by decide +kernel
theorem dX6_print_90 : decode cX6_print 90 = .ok (.getfield 25, 3) := by decide +kernel
theorem dX6_print_93 : decode cX6_print 93 = .ok (.bipush 40, 2) := by decide +kernel
theorem dX6_print_95 : decode cX6_print 95 = .ok (.iload_n 1, 1) := by decide +kernel
theorem dX6_print_96 : decode cX6_print 96 = .ok (.imul, 1) := by decide +kernel
theorem dX6_print_97 : decode cX6_print 97 = .ok (.iload_n 2, 1) := by decide +kernel
theorem dX6_print_98 : decode cX6_print 98 = .ok (.iadd, 1) := by decide +kernel
theorem dX6_print_99 : decode cX6_print 99 = .ok (.iaload, 1) := by decide +kernel
theorem dX6_print_100 : decode cX6_print 100 = .ok (.iastore, 1) := by decide +kernel
theorem dX6_print_101 : decode cX6_print 101 = .ok (.iinc 2 1, 3) := by decide +kernel
theorem dX6_print_104 : decode cX6_print 104 = .ok (.goto (-34), 3) := by decide +kernel
theorem dX6_print_107 : decode cX6_print 107 = .ok (.aload_n 0, 1) := by decide +kernel
theorem dX6_print_108 : decode cX6_print 108 = .ok (.getfield 55, 3) := by decide +kernel
theorem dX6_print_111 : decode cX6_print 111 = .ok (.aload_n 0, 1) := by decide +kernel
theorem dX6_print_112 : decode cX6_print 112 = .ok (.getfield 116, 3) := by decide +kernel
theorem dX6_print_115 : decode cX6_print 115 = .ok (.iconst (-1), 1) := by decide +kernel
theorem dX6_print_116 : decode cX6_print 116 = .ok (.iastore, 1) := by decide +kernel
theorem dX6_print_117 : decode cX6_print 117 = .ok (.iconst 0, 1) := by decide +kernel
theorem dX6_print_118 : decode cX6_print 118 = .ok (.istore_n 2, 1) := by decide +kernel
theorem dX6_print_119 : decode cX6_print 119 = .ok (.iload_n 2, 1) := by decide +kernel
theorem dX6_print_120 : decode cX6_print 120 = .ok (.aload_n 0, 1) := by decide +kernel
theorem dX6_print_121 : decode cX6_print 121 = .ok (.getfield 110, 3) := by decide +kernel
theorem dX6_print_124 : decode cX6_print 124 = .ok (.if_icmp .ge 49, 3) := by decide +kernel
theorem dX6_print_127 : decode cX6_print 127 = .ok (.aload_n 0, 1) := by decide +kernel
theorem dX6_print_128 : decode cX6_print 128 = .ok (.getfield 55, 3) := by decide +kernel
theorem dX6_print_131 : decode cX6_print 131 = .ok (.aload_n 0, 1) := by decide +kernel
theorem dX6_print_132 : decode cX6_print 132 = .ok (.getfield 116, 3) := by decide +kernel
theorem dX6_print_135 : decode cX6_print 135 = .ok (.aload_n 0, 1) := by decide +kernel
theorem dX6_print_136 : decode cX6_print 136 = .ok (.getfield 37, 3) := by decide +kernel
theorem dX6_print_139 : decode cX6_print 139 = .ok (.iload_n 2, 1) := by decide +kernel
theorem dX6_print_140 : decode cX6_print 140 = .ok (.iaload, 1) := by decide +kernel
theorem dX6_print_141 : decode cX6_print 141 = .ok (.iload_n 1, 1) := by decide +kernel
theorem dX6_print_142 : decode cX6_print 142 = .ok (.if_icmp .ne 15, 3) := by decide +kernel
theorem dX6_print_145 : decode cX6_print 145 = .ok (.aload_n 0, 1) := by decide +kernel
theorem dX6_print_146 : decode cX6_print 146 = .ok (.iload_n 2, 1) := by decide +kernel
theorem dX6_print_147 : decode cX6_print 147 = .ok (.invokevirtual 113, 3) := by decide +kernel
theorem dX6_print_150 : decode cX6_print 150 = .ok (.ifCond .eq 7, 3) := by decide +kernel
theorem dX6_print_153 : decode cX6_print 153 = .ok (.iload_n 2, 1) := by decide +kernel
theorem dX6_print_154 : decode cX6_print 154 = .ok (.goto 12, 3) := by decide +kernel
theorem dX6_print_157 : decode cX6_print 157 = .ok (.aload_n 0, 1) := by decide +kernel
theorem dX6_print_158 : decode cX6_print 158 = .ok (.getfield 55, 3) := by decide +kernel
theorem dX6_print_161 : decode cX6_print 161 = .ok (.aload_n 0, 1) := by decide +kernel
theorem dX6_print_162 : decode cX6_print 162 = .ok (.getfield 116, 3) := by decide +kernel
theorem dX6_print_165 : decode cX6_print 165 = .ok (.iaload, 1) := by decide +kernel
theorem dX6_print_166 : decode cX6_print 166 = .ok (.iastore, 1) := by decide +kernel
theorem dX6_print_167 : decode cX6_print 167 = .ok (.iinc 2 1, 3) := by decide +kernel
theorem dX6_print_170 : decode cX6_print 170 = .ok (.goto (-51), 3) := by decide +kernel
theorem dX6_print_173 : decode cX6_print 173 = .ok (.aload_n 0, 1) := by decide +kernel
theorem dX6_print_174 : decode cX6_print 174 = .ok (.dup, 1) := by decide +kernel
theorem dX6_print_175 : decode cX6_print 175 = .ok (.getfield 116, 3) := by decide +kernel
theorem dX6_print_178 : decode cX6_print 178 = .ok (.iconst 1, 1) := by decide +kernel
theorem dX6_print_179 : decode cX6_print 179 = .ok (.iadd, 1) := by decide +kernel
theorem dX6_print_180 : decode cX6_print 180 = .ok (.putfield 116, 3) := by decide +kernel
theorem dX6_print_183 : decode cX6_print 183 = .ok (.aload_n 0, 1) := by decide +kernel
theorem dX6_print_184 : decode cX6_print 184 = .ok (.getfield 116, 3) := by decide +kernel
theorem dX6_print_187 : decode cX6_print 187 = .ok (.iconst 1, 1) := by decide +kernel
theorem dX6_print_188 : decode cX6_print 188 = .ok (.isub, 1) := by decide +kernel
theorem dX6_print_189 : decode cX6_print 189 = .ok (.ireturn, 1) := by decide +kernel
theorem dX6_isPrint_0 : decode cX6_isPrint 0 = .ok (.aload_n 0, 1) := by decide +kernel
theorem dX6_isPrint_1 : decode cX6_isPrint 1 = .ok (.iload_n 1, 1) := by decide +kernel
theorem dX6_isPrint_2 : decode cX6_isPrint 2 = .ok (.iconst 0, 1) := by decide +kernel
theorem dX6_isPrint_3 : decode cX6_isPrint 3 = .ok (.aload_n 0, 1) := by decide +kernel
theorem dX6_isPrint_4 : decode cX6_isPrint 4 = .ok (.getfield 116, 3) := by decide +kernel
theorem dX6_isPrint_7 : decode cX6_isPrint 7 = .ok (.iconst 1, 1) := by decide +kernel
theorem dX6_isPrint_8 : decode cX6_isPrint 8 = .ok (.isub, 1) := by decide +kernel
theorem dX6_isPrint_9 : decode cX6_isPrint 9 = .ok (.invokestatic 65, 3) := by decide +kernel
theorem dX6_isPrint_12 : decode cX6_isPrint 12 = .ok (.ifCond .eq 7, 3) := by decide +kernel
theorem dX6_isPrint_15 : decode cX6_isPrint 15 = .ok (.iconst 0, 1) := by decide +kernel
theorem dX6_isPrint_16 : decode cX6_isPrint 16 = .ok (.goto 4, 3) := by decide +kernel
theorem dX6_isPrint_19 : decode cX6_isPrint 19 = .ok (.iconst 1, 1) := by decide +kernel
theorem dX6_isPrint_20 : decode cX6_isPrint 20 = .ok (.putfield 58, 3) := by decide +kernel
theorem dX6_isPrint_23 : decode cX6_isPrint 23 = .ok (.aload_n 0, 1) := by decide +kernel
theorem dX6_isPrint_24 : decode cX6_isPrint 24 = .ok (.invokevirtual 77, 3) := by decide +kernel
theorem dX6_isPrint_27 : decode cX6_isPrint 27 = .ok (.aload_n 0, 1) := by decide +kernel
theorem dX6_isPrint_28 : decode cX6_isPrint 28 = .ok (.getfield 58, 3) := by decide +kernel
theorem dX6_isPrint_31 : decode cX6_isPrint 31 = .ok (.ifCond .ne 7, 3) := by decide +kernel
theorem dX6_isPrint_34 : decode cX6_isPrint 34 = .ok (.iconst 1, 1) := by decide +kernel
theorem dX6_isPrint_35 : decode cX6_isPrint 35 = .ok (.goto 4, 3) := by decide +kernel
theorem dX6_isPrint_38 : decode cX6_isPrint 38 = .ok (.iconst 0, 1) := by decide +kernel
theorem dX6_isPrint_39 : decode cX6_isPrint 39 = .ok (.ireturn, 1) := by decide +kernel
theorem dX6_permitOf_0 : decode cX6_permitOf 0 = .ok (.aload_n 0, 1) := by decide +kernel
theorem dX6_permitOf_1 : decode cX6_permitOf 1 = .ok (.iload_n 1, 1) := by decide +kernel
theorem dX6_permitOf_2 : decode cX6_permitOf 2 = .ok (.invokevirtual 119, 3) := by decide +kernel
theorem dX6_permitOf_5 : decode cX6_permitOf 5 = .ok (.ifCond .eq 12, 3) := by decide +kernel
theorem dX6_permitOf_8 : decode cX6_permitOf 8 = .ok (.aload_n 0, 1) := by decide +kernel
theorem dX6_permitOf_9 : decode cX6_permitOf 9 = .ok (.getfield 55, 3) := by decide +kernel
theorem dX6_permitOf_12 : decode cX6_permitOf 12 = .ok (.iload_n 1, 1) := by decide +kernel
theorem dX6_permitOf_13 : decode cX6_permitOf 13 = .ok (.iaload, 1) := by decide +kernel
theorem dX6_permitOf_14 : decode cX6_permitOf 14 = .ok (.goto 4, 3) := by decide +kernel
theorem dX6_permitOf_17 : decode cX6_permitOf 17 = .ok (.iconst 0, 1) := by decide +kernel
theorem dX6_permitOf_18 : decode cX6_permitOf 18 = .ok (.ireturn, 1) := by decide +kernel
theorem dX6_isGood_0 : decode cX6_isGood 0 = .ok (.aload_n 0, 1) := by decide +kernel
theorem dX6_isGood_1 : decode cX6_isGood 1 = .ok (.iload_n 1, 1) := by decide +kernel
theorem dX6_isGood_2 : decode cX6_isGood 2 = .ok (.invokevirtual 119, 3) := by decide +kernel
theorem dX6_isGood_5 : decode cX6_isGood 5 = .ok (.ifCond .eq 24, 3) := by decide +kernel
theorem dX6_isGood_8 : decode cX6_isGood 8 = .ok (.aload_n 0, 1) := by decide +kernel
theorem dX6_isGood_9 : decode cX6_isGood 9 = .ok (.getfield 55, 3) := by decide +kernel
theorem dX6_isGood_12 : decode cX6_isGood 12 = .ok (.iload_n 1, 1) := by decide +kernel
theorem dX6_isGood_13 : decode cX6_isGood 13 = .ok (.iaload, 1) := by decide +kernel
theorem dX6_isGood_14 : decode cX6_isGood 14 = .ok (.ifCond .lt 15, 3) := by decide +kernel
theorem dX6_isGood_17 : decode cX6_isGood 17 = .ok (.aload_n 0, 1) := by decide +kernel
theorem dX6_isGood_18 : decode cX6_isGood 18 = .ok (.iload_n 1, 1) := by decide +kernel
theorem dX6_isGood_19 : decode cX6_isGood 19 = .ok (.invokevirtual 122, 3) := by decide +kernel
theorem dX6_isGood_22 : decode cX6_isGood 22 = .ok (.ifCond .ne 7, 3) := by decide +kernel
theorem dX6_isGood_25 : decode cX6_isGood 25 = .ok (.iconst 1, 1) := by decide +kernel
theorem dX6_isGood_26 : decode cX6_isGood 26 = .ok (.goto 4, 3) := by decide +kernel
theorem dX6_isGood_29 : decode cX6_isGood 29 = .ok (.iconst 0, 1) := by decide +kernel
theorem dX6_isGood_30 : decode cX6_isGood 30 = .ok (.ireturn, 1) := by decide +kernel
theorem dX6_old_0 : decode cX6_old 0 = .ok (.aload_n 0, 1) := by decide +kernel
theorem dX6_old_1 : decode cX6_old 1 = .ok (.iconst 0, 1) := by decide +kernel
theorem dX6_old_2 : decode cX6_old 2 = .ok (.putfield 58, 3) := by decide +kernel
theorem dX6_old_5 : decode cX6_old 5 = .ok (.aload_n 0, 1) := by decide +kernel
theorem dX6_old_6 : decode cX6_old 6 = .ok (.invokevirtual 77, 3) := by decide +kernel
theorem dX6_old_9 : decode cX6_old 9 = .ok (.iconst 0, 1) := by decide +kernel
theorem dX6_old_10 : decode cX6_old 10 = .ok (.istore_n 1, 1) := by decide +kernel
theorem dX6_old_11 : decode cX6_old 11 = .ok (.iconst 0, 1) := by decide +kernel
theorem dX6_old_12 : decode cX6_old 12 = .ok (.istore_n 2, 1) := by decide +kernel
theorem dX6_old_13 : decode cX6_old 13 = .ok (.iload_n 2, 1) := by decide +kernel
theorem dX6_old_14 : decode cX6_old 14 = .ok (.aload_n 0, 1) := by decide +kernel
theorem dX6_old_15 : decode cX6_old 15 = .ok (.getfield 116, 3) := by decide +kernel
theorem dX6_old_18 : decode cX6_old 18 = .ok (.if_icmp .ge 25, 3) := by decide +kernel
theorem dX6_old_21 : decode cX6_old 21 = .ok (.iload_n 1, 1) := by decide +kernel
theorem dX6_old_22 : decode cX6_old 22 = .ok (.aload_n 0, 1) := by decide +kernel
theorem dX6_old_23 : decode cX6_old 23 = .ok (.iload_n 2, 1) := by decide +kernel
theorem dX6_old_24 : decode cX6_old 24 = .ok (.invokevirtual 122, 3) := by decide +kernel
theorem dX6_old_27 : decode cX6_old 27 = .ok (.ifCond .eq 7, 3) := by decide +kernel
theorem dX6_old_30 : decode cX6_old 30 = .ok (.iconst 1, 1) := by decide +kernel
theorem dX6_old_31 : decode cX6_old 31 = .ok (.goto 4, 3) := by decide +kernel
theorem dX6_old_34 : decode cX6_old 34 = .ok (.iconst 0, 1) := by decide +kernel
theorem dX6_old_35 : decode cX6_old 35 = .ok (.iadd, 1) := by decide +kernel
theorem dX6_old_36 : decode cX6_old 36 = .ok (.istore_n 1, 1) := by decide +kernel
theorem dX6_old_37 : decode cX6_old 37 = .ok (.iinc 2 1, 3) := by decide +kernel
theorem dX6_old_40 : decode cX6_old 40 = .ok (.goto (-27), 3) := by decide +kernel
theorem dX6_old_43 : decode cX6_old 43 = .ok (.iload_n 1, 1) := by decide +kernel
theorem dX6_old_44 : decode cX6_old 44 = .ok (.ireturn, 1) := by decide +kernel
theorem dJ9_max_7cf53_0 : decode cJ9_max_7cf53 0 = .ok (.iload_n 0, 1) := by decide +kernel
theorem dJ9_max_7cf53_1 : decode cJ9_max_7cf53 1 = .ok (.iload_n 1, 1) := by decide +kernel
theorem dJ9_max_7cf53_2 : decode cJ9_max_7cf53 2 = .ok (.if_icmp .lt 7, 3) := by decide +kernel
theorem dJ9_max_7cf53_5 : decode cJ9_max_7cf53 5 = .ok (.iload_n 0, 1) := by decide +kernel
theorem dJ9_max_7cf53_6 : decode cJ9_max_7cf53 6 = .ok (.goto 4, 3) := by decide +kernel
theorem dJ9_max_7cf53_9 : decode cJ9_max_7cf53 9 = .ok (.iload_n 1, 1) := by decide +kernel
theorem dJ9_max_7cf53_10 : decode cJ9_max_7cf53 10 = .ok (.ireturn, 1) := by decide +kernel
theorem dJ9_min_7cf53_0 : decode cJ9_min_7cf53 0 = .ok (.iload_n 0, 1) := by decide +kernel
theorem dJ9_min_7cf53_1 : decode cJ9_min_7cf53 1 = .ok (.iload_n 1, 1) := by decide +kernel
theorem dJ9_min_7cf53_2 : decode cJ9_min_7cf53 2 = .ok (.if_icmp .gt 7, 3) := by decide +kernel
theorem dJ9_min_7cf53_5 : decode cJ9_min_7cf53 5 = .ok (.iload_n 0, 1) := by decide +kernel
theorem dJ9_min_7cf53_6 : decode cJ9_min_7cf53 6 = .ok (.goto 4, 3) := by decide +kernel
theorem dJ9_min_7cf53_9 : decode cJ9_min_7cf53 9 = .ok (.iload_n 1, 1) := by decide +kernel
theorem dJ9_min_7cf53_10 : decode cJ9_min_7cf53 10 = .ok (.ireturn, 1) := by decide +kernel
theorem dJxa1e45_init_da8c8_0 : decode cJxa1e45_init_da8c8 0 = .ok (.aload_n 0, 1) := by decide +kernel
theorem dJxa1e45_init_da8c8_1 : decode cJxa1e45_init_da8c8 1 = .ok (.invokespecial 1, 3) := by decide +kernel
theorem dJxa1e45_init_da8c8_4 : decode cJxa1e45_init_da8c8 4 = .ok (.return_, 1) := by decide +kernel
theorem dJxc12de_init_da8c8_0 : decode cJxc12de_init_da8c8 0 = .ok (.aload_n 0, 1) := by decide +kernel
theorem dJxc12de_init_da8c8_1 : decode cJxc12de_init_da8c8 1 = .ok (.invokespecial 1, 3) := by decide +kernel
theorem dJxc12de_init_da8c8_4 : decode cJxc12de_init_da8c8 4 = .ok (.aload_n 0, 1) := by decide +kernel
theorem dJxc12de_init_da8c8_5 : decode cJxc12de_init_da8c8 5 = .ok (.iconst 0, 1) := by decide +kernel
theorem dJxc12de_init_da8c8_6 : decode cJxc12de_init_da8c8 6 = .ok (.putfield 7, 3) := by decide +kernel
theorem dJxc12de_init_da8c8_9 : decode cJxc12de_init_da8c8 9 = .ok (.return_, 1) := by decide +kernel
theorem dJx4a65c_init_da8c8_0 : decode cJx4a65c_init_da8c8 0 = .ok (.aload_n 0, 1) := by decide +kernel
theorem dJx4a65c_init_da8c8_1 : decode cJx4a65c_init_da8c8 1 = .ok (.invokespecial 1, 3) := by decide +kernel
theorem dJx4a65c_init_da8c8_4 : decode cJx4a65c_init_da8c8 4 = .ok (.aload_n 0, 1) := by decide +kernel
theorem dJx4a65c_init_da8c8_5 : decode cJx4a65c_init_da8c8 5 = .ok (.getstatic 39, 3) := by decide +kernel
theorem dJx4a65c_init_da8c8_8 : decode cJx4a65c_init_da8c8 8 = .ok (.putfield 9, 3) := by decide +kernel
theorem dJx4a65c_init_da8c8_11 : decode cJx4a65c_init_da8c8 11 = .ok (.return_, 1) := by decide +kernel
theorem dJx4a65c_grow_92f84_0 : decode cJx4a65c_grow_92f84 0 = .ok (.aload_n 0, 1) := by decide +kernel
theorem dJx4a65c_grow_92f84_1 : decode cJx4a65c_grow_92f84 1 = .ok (.getfield 9, 3) := by decide +kernel
theorem dJx4a65c_grow_92f84_4 : decode cJx4a65c_grow_92f84 4 = .ok (.arraylength, 1) := by decide +kernel
theorem dJx4a65c_grow_92f84_5 : decode cJx4a65c_grow_92f84 5 = .ok (.istore_n 2, 1) := by decide +kernel
theorem dJx4a65c_grow_92f84_6 : decode cJx4a65c_grow_92f84 6 = .ok (.iload_n 2, 1) := by decide +kernel
theorem dJx4a65c_grow_92f84_7 : decode cJx4a65c_grow_92f84 7 = .ok (.ifCond .gt 13, 3) := by decide +kernel
theorem dJx4a65c_grow_92f84_10 : decode cJx4a65c_grow_92f84 10 = .ok (.aload_n 0, 1) := by decide +kernel
theorem dJx4a65c_grow_92f84_11 : decode cJx4a65c_grow_92f84 11 = .ok (.getfield 9, 3) := by decide +kernel
theorem dJx4a65c_grow_92f84_14 : decode cJx4a65c_grow_92f84 14 = .ok (.getstatic 39, 3) := by decide +kernel
theorem dJx4a65c_grow_92f84_17 : decode cJx4a65c_grow_92f84 17 = .ok (.if_acmp .eq 28, 3) := by decide +kernel
theorem dJx4a65c_grow_92f84_20 : decode cJx4a65c_grow_92f84 20 = .ok (.iload_n 2, 1) := by decide +kernel
theorem dJx4a65c_grow_92f84_21 : decode cJx4a65c_grow_92f84 21 = .ok (.iload_n 1, 1) := by decide +kernel
theorem dJx4a65c_grow_92f84_22 : decode cJx4a65c_grow_92f84 22 = .ok (.iload_n 2, 1) := by decide +kernel
theorem dJx4a65c_grow_92f84_23 : decode cJx4a65c_grow_92f84 23 = .ok (.isub, 1) := by decide +kernel
theorem dJx4a65c_grow_92f84_24 : decode cJx4a65c_grow_92f84 24 = .ok (.iload_n 2, 1) := by decide +kernel
theorem dJx4a65c_grow_92f84_25 : decode cJx4a65c_grow_92f84 25 = .ok (.iconst 1, 1) := by decide +kernel
theorem dJx4a65c_grow_92f84_26 : decode cJx4a65c_grow_92f84 26 = .ok (.ishr, 1) := by decide +kernel
theorem dJx4a65c_grow_92f84_27 : decode cJx4a65c_grow_92f84 27 = .ok (.invokestatic 73, 3) := by decide +kernel
theorem dJx4a65c_grow_92f84_30 : decode cJx4a65c_grow_92f84 30 = .ok (.istore_n 3, 1) := by decide +kernel
theorem dJx4a65c_grow_92f84_31 : decode cJx4a65c_grow_92f84 31 = .ok (.aload_n 0, 1) := by decide +kernel
theorem dJx4a65c_grow_92f84_32 : decode cJx4a65c_grow_92f84 32 = .ok (.aload_n 0, 1) := by decide +kernel
theorem dJx4a65c_grow_92f84_33 : decode cJx4a65c_grow_92f84 33 = .ok (.getfield 9, 3) := by decide +kernel
theorem dJx4a65c_grow_92f84_36 : decode cJx4a65c_grow_92f84 36 = .ok (.iload_n 3, 1) := by decide +kernel
theorem dJx4a65c_grow_92f84_37 : decode cJx4a65c_grow_92f84 37 = .ok (.invokestatic 66, 3) := by decide +kernel
theorem dJx4a65c_grow_92f84_40 : decode cJx4a65c_grow_92f84 40 = .ok (.dup_x1, 1) := by decide +kernel
theorem dJx4a65c_grow_92f84_41 : decode cJx4a65c_grow_92f84 41 = .ok (.putfield 9, 3) := by decide +kernel
theorem dJx4a65c_grow_92f84_44 : decode cJx4a65c_grow_92f84 44 = .ok (.areturn, 1) := by decide +kernel
theorem dJx4a65c_grow_92f84_45 : decode cJx4a65c_grow_92f84 45 = .ok (.aload_n 0, 1) := by decide +kernel
theorem dJx4a65c_grow_92f84_46 : decode cJx4a65c_grow_92f84 46 = .ok (.bipush 10, 2) := by decide +kernel
theorem dJx4a65c_grow_92f84_48 : decode cJx4a65c_grow_92f84 48 = .ok (.iload_n 1, 1) := by decide +kernel
theorem dJx4a65c_grow_92f84_49 : decode cJx4a65c_grow_92f84 49 = .ok (.invokestatic 79, 3) := by decide +kernel
theorem dJx4a65c_grow_92f84_52 : decode cJx4a65c_grow_92f84 52 = .ok (.anewarray 7, 3) := by decide +kernel
theorem dJx4a65c_grow_92f84_55 : decode cJx4a65c_grow_92f84 55 = .ok (.dup_x1, 1) := by decide +kernel
theorem dJx4a65c_grow_92f84_56 : decode cJx4a65c_grow_92f84 56 = .ok (.putfield 9, 3) := by decide +kernel
theorem dJx4a65c_grow_92f84_59 : decode cJx4a65c_grow_92f84 59 = .ok (.areturn, 1) := by decide +kernel
theorem dJx4a65c_grow_d5877_0 : decode cJx4a65c_grow_d5877 0 = .ok (.aload_n 0, 1) := by decide +kernel
theorem dJx4a65c_grow_d5877_1 : decode cJx4a65c_grow_d5877 1 = .ok (.aload_n 0, 1) := by decide +kernel
theorem dJx4a65c_grow_d5877_2 : decode cJx4a65c_grow_d5877 2 = .ok (.getfield 48, 3) := by decide +kernel
theorem dJx4a65c_grow_d5877_5 : decode cJx4a65c_grow_d5877 5 = .ok (.iconst 1, 1) := by decide +kernel
theorem dJx4a65c_grow_d5877_6 : decode cJx4a65c_grow_d5877 6 = .ok (.iadd, 1) := by decide +kernel
theorem dJx4a65c_grow_d5877_7 : decode cJx4a65c_grow_d5877 7 = .ok (.invokevirtual 69, 3) := by decide +kernel
theorem dJx4a65c_grow_d5877_10 : decode cJx4a65c_grow_d5877 10 = .ok (.areturn, 1) := by decide +kernel
theorem dJx4a65c_size_8abf5_0 : decode cJx4a65c_size_8abf5 0 = .ok (.aload_n 0, 1) := by decide +kernel
theorem dJx4a65c_size_8abf5_1 : decode cJx4a65c_size_8abf5 1 = .ok (.getfield 48, 3) := by decide +kernel
theorem dJx4a65c_size_8abf5_4 : decode cJx4a65c_size_8abf5 4 = .ok (.ireturn, 1) := by decide +kernel
theorem dJx4a65c_elementData_915e3_0 : decode cJx4a65c_elementData_915e3 0 = .ok (.aload_n 0, 1) := by decide +kernel
theorem dJx4a65c_elementData_915e3_1 : decode cJx4a65c_elementData_915e3 1 = .ok (.getfield 9, 3) := by decide +kernel
theorem dJx4a65c_elementData_915e3_4 : decode cJx4a65c_elementData_915e3 4 = .ok (.iload_n 1, 1) := by decide +kernel
theorem dJx4a65c_elementData_915e3_5 : decode cJx4a65c_elementData_915e3 5 = .ok (.aaload, 1) := by decide +kernel
theorem dJx4a65c_elementData_915e3_6 : decode cJx4a65c_elementData_915e3 6 = .ok (.areturn, 1) := by decide +kernel
theorem dJx4a65c_get_915e3_0 : decode cJx4a65c_get_915e3 0 = .ok (.iload_n 1, 1) := by decide +kernel
theorem dJx4a65c_get_915e3_1 : decode cJx4a65c_get_915e3 1 = .ok (.aload_n 0, 1) := by decide +kernel
theorem dJx4a65c_get_915e3_2 : decode cJx4a65c_get_915e3 2 = .ok (.getfield 48, 3) := by decide +kernel
theorem dJx4a65c_get_915e3_5 : decode cJx4a65c_get_915e3 5 = .ok (.invokestatic 118, 3) := by decide +kernel
theorem dJx4a65c_get_915e3_8 : decode cJx4a65c_get_915e3 8 = .ok (.pop, 1) := by decide +kernel
theorem dJx4a65c_get_915e3_9 : decode cJx4a65c_get_915e3 9 = .ok (.aload_n 0, 1) := by decide +kernel
theorem dJx4a65c_get_915e3_10 : decode cJx4a65c_get_915e3 10 = .ok (.iload_n 1, 1) := by decide +kernel
theorem dJx4a65c_get_915e3_11 : decode cJx4a65c_get_915e3 11 = .ok (.invokevirtual 123, 3) := by decide +kernel
theorem dJx4a65c_get_915e3_14 : decode cJx4a65c_get_915e3 14 = .ok (.areturn, 1) := by decide +kernel
theorem dJx4a65c_add_72be8_0 : decode cJx4a65c_add_72be8 0 = .ok (.iload_n 3, 1) := by decide +kernel
theorem dJx4a65c_add_72be8_1 : decode cJx4a65c_add_72be8 1 = .ok (.aload_n 2, 1) := by decide +kernel
theorem dJx4a65c_add_72be8_2 : decode cJx4a65c_add_72be8 2 = .ok (.arraylength, 1) := by decide +kernel
theorem dJx4a65c_add_72be8_3 : decode cJx4a65c_add_72be8 3 = .ok (.if_icmp .ne 8, 3) := by decide +kernel
theorem dJx4a65c_add_72be8_6 : decode cJx4a65c_add_72be8 6 = .ok (.aload_n 0, 1) := by decide +kernel
theorem dJx4a65c_add_72be8_7 : decode cJx4a65c_add_72be8 7 = .ok (.invokevirtual 129, 3) := by decide +kernel
theorem dJx4a65c_add_72be8_10 : decode cJx4a65c_add_72be8 10 = .ok (.astore_n 2, 1) := by decide +kernel
theorem dJx4a65c_add_72be8_11 : decode cJx4a65c_add_72be8 11 = .ok (.aload_n 2, 1) := by decide +kernel
theorem dJx4a65c_add_72be8_12 : decode cJx4a65c_add_72be8 12 = .ok (.iload_n 3, 1) := by decide +kernel
theorem dJx4a65c_add_72be8_13 : decode cJx4a65c_add_72be8 13 = .ok (.aload_n 1, 1) := by decide +kernel
theorem dJx4a65c_add_72be8_14 : decode cJx4a65c_add_72be8 14 = .ok (.aastore, 1) := by decide +kernel
theorem dJx4a65c_add_72be8_15 : decode cJx4a65c_add_72be8 15 = .ok (.aload_n 0, 1) := by decide +kernel
theorem dJx4a65c_add_72be8_16 : decode cJx4a65c_add_72be8 16 = .ok (.iload_n 3, 1) := by decide +kernel
theorem dJx4a65c_add_72be8_17 : decode cJx4a65c_add_72be8 17 = .ok (.iconst 1, 1) := by decide +kernel
theorem dJx4a65c_add_72be8_18 : decode cJx4a65c_add_72be8 18 = .ok (.iadd, 1) := by decide +kernel
theorem dJx4a65c_add_72be8_19 : decode cJx4a65c_add_72be8 19 = .ok (.putfield 48, 3) := by decide +kernel
theorem dJx4a65c_add_72be8_22 : decode cJx4a65c_add_72be8 22 = .ok (.return_, 1) := by decide +kernel
theorem dJx4a65c_add_9ea2d_0 : decode cJx4a65c_add_9ea2d 0 = .ok (.aload_n 0, 1) := by decide +kernel
theorem dJx4a65c_add_9ea2d_1 : decode cJx4a65c_add_9ea2d 1 = .ok (.dup, 1) := by decide +kernel
theorem dJx4a65c_add_9ea2d_2 : decode cJx4a65c_add_9ea2d 2 = .ok (.getfield 63, 3) := by decide +kernel
theorem dJx4a65c_add_9ea2d_5 : decode cJx4a65c_add_9ea2d 5 = .ok (.iconst 1, 1) := by decide +kernel
theorem dJx4a65c_add_9ea2d_6 : decode cJx4a65c_add_9ea2d 6 = .ok (.iadd, 1) := by decide +kernel
theorem dJx4a65c_add_9ea2d_7 : decode cJx4a65c_add_9ea2d 7 = .ok (.putfield 63, 3) := by decide +kernel
theorem dJx4a65c_add_9ea2d_10 : decode cJx4a65c_add_9ea2d 10 = .ok (.aload_n 0, 1) := by decide +kernel
theorem dJx4a65c_add_9ea2d_11 : decode cJx4a65c_add_9ea2d 11 = .ok (.aload_n 1, 1) := by decide +kernel
theorem dJx4a65c_add_9ea2d_12 : decode cJx4a65c_add_9ea2d 12 = .ok (.aload_n 0, 1) := by decide +kernel
theorem dJx4a65c_add_9ea2d_13 : decode cJx4a65c_add_9ea2d 13 = .ok (.getfield 9, 3) := by decide +kernel
theorem dJx4a65c_add_9ea2d_16 : decode cJx4a65c_add_9ea2d 16 = .ok (.aload_n 0, 1) := by decide +kernel
theorem dJx4a65c_add_9ea2d_17 : decode cJx4a65c_add_9ea2d 17 = .ok (.getfield 48, 3) := by decide +kernel
theorem dJx4a65c_add_9ea2d_20 : decode cJx4a65c_add_9ea2d 20 = .ok (.invokevirtual 131, 3) := by decide +kernel
theorem dJx4a65c_add_9ea2d_23 : decode cJx4a65c_add_9ea2d 23 = .ok (.iconst 1, 1) := by decide +kernel
theorem dJx4a65c_add_9ea2d_24 : decode cJx4a65c_add_9ea2d 24 = .ok (.ireturn, 1) := by decide +kernel
theorem dJ7_fill_53178_0 : decode cJ7_fill_53178 0 = .ok (.iconst 0, 1) := by decide +kernel
theorem dJ7_fill_53178_1 : decode cJ7_fill_53178 1 = .ok (.istore_n 2, 1) := by decide +kernel
theorem dJ7_fill_53178_2 : decode cJ7_fill_53178 2 = .ok (.aload_n 0, 1) := by decide +kernel
theorem dJ7_fill_53178_3 : decode cJ7_fill_53178 3 = .ok (.arraylength, 1) := by decide +kernel
theorem dJ7_fill_53178_4 : decode cJ7_fill_53178 4 = .ok (.istore_n 3, 1) := by decide +kernel
theorem dJ7_fill_53178_5 : decode cJ7_fill_53178 5 = .ok (.iload_n 2, 1) := by decide +kernel
theorem dJ7_fill_53178_6 : decode cJ7_fill_53178 6 = .ok (.iload_n 3, 1) := by decide +kernel
theorem dJ7_fill_53178_7 : decode cJ7_fill_53178 7 = .ok (.if_icmp .ge 13, 3) := by decide +kernel
theorem dJ7_fill_53178_10 : decode cJ7_fill_53178 10 = .ok (.aload_n 0, 1) := by decide +kernel
theorem dJ7_fill_53178_11 : decode cJ7_fill_53178 11 = .ok (.iload_n 2, 1) := by decide +kernel
theorem dJ7_fill_53178_12 : decode cJ7_fill_53178 12 = .ok (.iload_n 1, 1) := by decide +kernel
theorem dJ7_fill_53178_13 : decode cJ7_fill_53178 13 = .ok (.iastore, 1) := by decide +kernel
theorem dJ7_fill_53178_14 : decode cJ7_fill_53178 14 = .ok (.iinc 2 1, 3) := by decide +kernel
theorem dJ7_fill_53178_17 : decode cJ7_fill_53178 17 = .ok (.goto (-12), 3) := by decide +kernel
theorem dJ7_fill_53178_20 : decode cJ7_fill_53178 20 = .ok (.return_, 1) := by decide +kernel
theorem dJ7_copyOf_1904c_0 : decode cJ7_copyOf_1904c 0 = .ok (.aload_n 0, 1) := by decide +kernel
theorem dJ7_copyOf_1904c_1 : decode cJ7_copyOf_1904c 1 = .ok (.iload_n 1, 1) := by decide +kernel
theorem dJ7_copyOf_1904c_2 : decode cJ7_copyOf_1904c 2 = .ok (.aload_n 0, 1) := by decide +kernel
theorem dJ7_copyOf_1904c_3 : decode cJ7_copyOf_1904c 3 = .ok (.invokevirtual 86, 3) := by decide +kernel
theorem dJ7_copyOf_1904c_6 : decode cJ7_copyOf_1904c 6 = .ok (.invokestatic 300, 3) := by decide +kernel
theorem dJ7_copyOf_1904c_9 : decode cJ7_copyOf_1904c 9 = .ok (.areturn, 1) := by decide +kernel
theorem dJ7_copyOf_6403c_0 : decode cJ7_copyOf_6403c 0 = .ok (.aload_n 2, 1) := by decide +kernel
theorem dJ7_copyOf_6403c_1 : decode cJ7_copyOf_6403c 1 = .ok (.ldc 110, 2) := by decide +kernel
theorem dJ7_copyOf_6403c_3 : decode cJ7_copyOf_6403c 3 = .ok (.if_acmp .ne 10, 3) := by decide +kernel
theorem dJ7_copyOf_6403c_6 : decode cJ7_copyOf_6403c 6 = .ok (.iload_n 1, 1) := by decide +kernel
theorem dJ7_copyOf_6403c_7 : decode cJ7_copyOf_6403c 7 = .ok (.anewarray 2, 3) := by decide +kernel
theorem dJ7_copyOf_6403c_10 : decode cJ7_copyOf_6403c 10 = .ok (.goto 14, 3) := by decide +kernel
theorem dJ7_copyOf_6403c_13 : decode cJ7_copyOf_6403c 13 = .ok (.aload_n 2, 1) := by decide +kernel
theorem dJ7_copyOf_6403c_14 : decode cJ7_copyOf_6403c 14 = .ok (.invokevirtual 90, 3) := by decide +kernel
theorem dJ7_copyOf_6403c_17 : decode cJ7_copyOf_6403c 17 = .ok (.iload_n 1, 1) := by decide +kernel
theorem dJ7_copyOf_6403c_18 : decode cJ7_copyOf_6403c 18 = .ok (.invokestatic 95, 3) := by decide +kernel
theorem dJ7_copyOf_6403c_21 : decode cJ7_copyOf_6403c 21 = .ok (.checkcast 110, 3) := by decide +kernel
theorem dJ7_copyOf_6403c_24 : decode cJ7_copyOf_6403c 24 = .ok (.astore_n 3, 1) := by decide +kernel
theorem dJ7_copyOf_6403c_25 : decode cJ7_copyOf_6403c 25 = .ok (.aload_n 0, 1) := by decide +kernel
theorem dJ7_copyOf_6403c_26 : decode cJ7_copyOf_6403c 26 = .ok (.iconst 0, 1) := by decide +kernel
theorem dJ7_copyOf_6403c_27 : decode cJ7_copyOf_6403c 27 = .ok (.aload_n 3, 1) := by decide +kernel
theorem dJ7_copyOf_6403c_28 : decode cJ7_copyOf_6403c 28 = .ok (.iconst 0, 1) := by decide +kernel
theorem dJ7_copyOf_6403c_29 : decode cJ7_copyOf_6403c 29 = .ok (.aload_n 0, 1) := by decide +kernel
theorem dJ7_copyOf_6403c_30 : decode cJ7_copyOf_6403c 30 = .ok (.arraylength, 1) := by decide +kernel
theorem dJ7_copyOf_6403c_31 : decode cJ7_copyOf_6403c 31 = .ok (.iload_n 1, 1) := by decide +kernel
theorem dJ7_copyOf_6403c_32 : decode cJ7_copyOf_6403c 32 = .ok (.invokestatic 304, 3) := by decide +kernel
theorem dJ7_copyOf_6403c_35 : decode cJ7_copyOf_6403c 35 = .ok (.invokestatic 150, 3) := by decide +kernel
theorem dJ7_copyOf_6403c_38 : decode cJ7_copyOf_6403c 38 = .ok (.aload_n 3, 1) := by decide +kernel
theorem dJ7_copyOf_6403c_39 : decode cJ7_copyOf_6403c 39 = .ok (.areturn, 1) := by decide +kernel
theorem dJ15_checkIndex_7cf53_0 : decode cJ15_checkIndex_7cf53 0 = .ok (.iload_n 0, 1) := by decide +kernel
theorem dJ15_checkIndex_7cf53_1 : decode cJ15_checkIndex_7cf53 1 = .ok (.iload_n 1, 1) := by decide +kernel
theorem dJ15_checkIndex_7cf53_2 : decode cJ15_checkIndex_7cf53 2 = .ok (.aconst_null, 1) := by decide +kernel
theorem dJ15_checkIndex_7cf53_3 : decode cJ15_checkIndex_7cf53 3 = .ok (.invokestatic 105, 3) := by decide +kernel
theorem dJ15_checkIndex_7cf53_6 : decode cJ15_checkIndex_7cf53 6 = .ok (.ireturn, 1) := by decide +kernel
theorem dJ8_newLength_cabcc_0 : decode cJ8_newLength_cabcc 0 = .ok (.iload_n 0, 1) := by decide +kernel
theorem dJ8_newLength_cabcc_1 : decode cJ8_newLength_cabcc 1 = .ok (.iload_n 1, 1) := by decide +kernel
theorem dJ8_newLength_cabcc_2 : decode cJ8_newLength_cabcc 2 = .ok (.iload_n 2, 1) := by decide +kernel
theorem dJ8_newLength_cabcc_3 : decode cJ8_newLength_cabcc 3 = .ok (.invokestatic 194, 3) := by decide +kernel
theorem dJ8_newLength_cabcc_6 : decode cJ8_newLength_cabcc 6 = .ok (.iadd, 1) := by decide +kernel
theorem dJ8_newLength_cabcc_7 : decode cJ8_newLength_cabcc 7 = .ok (.istore_n 3, 1) := by decide +kernel
theorem dJ8_newLength_cabcc_8 : decode cJ8_newLength_cabcc 8 = .ok (.iconst 0, 1) := by decide +kernel
theorem dJ8_newLength_cabcc_9 : decode cJ8_newLength_cabcc 9 = .ok (.iload_n 3, 1) := by decide +kernel
theorem dJ8_newLength_cabcc_10 : decode cJ8_newLength_cabcc 10 = .ok (.if_icmp .ge 11, 3) := by decide +kernel
theorem dJ8_newLength_cabcc_13 : decode cJ8_newLength_cabcc 13 = .ok (.iload_n 3, 1) := by decide +kernel
theorem dJ8_newLength_cabcc_14 : decode cJ8_newLength_cabcc 14 = .ok (.ldc 200, 2) := by decide +kernel
theorem dJ8_newLength_cabcc_16 : decode cJ8_newLength_cabcc 16 = .ok (.if_icmp .gt 5, 3) := by decide +kernel
theorem dJ8_newLength_cabcc_19 : decode cJ8_newLength_cabcc 19 = .ok (.iload_n 3, 1) := by decide +kernel
theorem dJ8_newLength_cabcc_20 : decode cJ8_newLength_cabcc 20 = .ok (.ireturn, 1) := by decide +kernel
theorem dJ8_newLength_cabcc_21 : decode cJ8_newLength_cabcc 21 = .ok (.iload_n 0, 1) := by decide +kernel
theorem dJ8_newLength_cabcc_22 : decode cJ8_newLength_cabcc 22 = .ok (.iload_n 1, 1) := by decide +kernel
theorem dJ8_newLength_cabcc_23 : decode cJ8_newLength_cabcc 23 = .ok (.invokestatic 201, 3) := by decide +kernel
theorem dJ8_newLength_cabcc_26 : decode cJ8_newLength_cabcc 26 = .ok (.ireturn, 1) := by decide +kernel
theorem dJ8_hugeLength_7cf53_0 : decode cJ8_hugeLength_7cf53 0 = .ok (.iload_n 0, 1) := by decide +kernel
theorem dJ8_hugeLength_7cf53_1 : decode cJ8_hugeLength_7cf53 1 = .ok (.iload_n 1, 1) := by decide +kernel
theorem dJ8_hugeLength_7cf53_2 : decode cJ8_hugeLength_7cf53 2 = .ok (.iadd, 1) := by decide +kernel
theorem dJ8_hugeLength_7cf53_3 : decode cJ8_hugeLength_7cf53 3 = .ok (.istore_n 2, 1) := by decide +kernel
theorem dJ8_hugeLength_7cf53_4 : decode cJ8_hugeLength_7cf53 4 = .ok (.iload_n 2, 1) := by decide +kernel
theorem dJ8_hugeLength_7cf53_5 : decode cJ8_hugeLength_7cf53 5 = .ok (.ifCond .ge 44, 3) := by decide +kernel
theorem dJ8_hugeLength_7cf53_8 : decode cJ8_hugeLength_7cf53 8 = .ok (.new 204, 3) := by decide +kernel
theorem dJ8_hugeLength_7cf53_11 : decode cJ8_hugeLength_7cf53 11 = .ok (.dup, 1) := by decide +kernel
theorem dJ8_hugeLength_7cf53_12 : decode cJ8_hugeLength_7cf53 12 = .ok (.new 89, 3) := by decide +kernel
theorem dJ8_hugeLength_7cf53_15 : decode cJ8_hugeLength_7cf53 15 = .ok (.dup, 1) := by decide +kernel
theorem dJ8_hugeLength_7cf53_16 : decode cJ8_hugeLength_7cf53 16 = .ok (.invokespecial 91, 3) := by decide +kernel
theorem dJ8_hugeLength_7cf53_19 : decode cJ8_hugeLength_7cf53 19 = .ok (.ldc 206, 2) := by decide +kernel
theorem dJ8_hugeLength_7cf53_21 : decode cJ8_hugeLength_7cf53 21 = .ok (.invokevirtual 94, 3) := by decide +kernel
theorem dJ8_hugeLength_7cf53_24 : decode cJ8_hugeLength_7cf53 24 = .ok (.iload_n 0, 1) := by decide +kernel
theorem dJ8_hugeLength_7cf53_25 : decode cJ8_hugeLength_7cf53 25 = .ok (.invokevirtual 98, 3) := by decide +kernel
theorem dJ8_hugeLength_7cf53_28 : decode cJ8_hugeLength_7cf53 28 = .ok (.ldc 208, 2) := by decide +kernel
theorem dJ8_hugeLength_7cf53_30 : decode cJ8_hugeLength_7cf53 30 = .ok (.invokevirtual 94, 3) := by decide +kernel
theorem dJ8_hugeLength_7cf53_33 : decode cJ8_hugeLength_7cf53 33 = .ok (.iload_n 1, 1) := by decide +kernel
theorem dJ8_hugeLength_7cf53_34 : decode cJ8_hugeLength_7cf53 34 = .ok (.invokevirtual 98, 3) := by decide +kernel
theorem dJ8_hugeLength_7cf53_37 : decode cJ8_hugeLength_7cf53 37 = .ok (.ldc 210, 2) := by decide +kernel
theorem dJ8_hugeLength_7cf53_39 : decode cJ8_hugeLength_7cf53 39 = .ok (.invokevirtual 94, 3) := by decide +kernel
theorem dJ8_hugeLength_7cf53_42 : decode cJ8_hugeLength_7cf53 42 = .ok (.invokevirtual 101, 3) := by decide +kernel
theorem dJ8_hugeLength_7cf53_45 : decode cJ8_hugeLength_7cf53 45 = .ok (.invokespecial 212, 3) := by decide +kernel
theorem dJ8_hugeLength_7cf53_48 : decode cJ8_hugeLength_7cf53 48 = .ok (.athrow, 1) := by decide +kernel
theorem dJ8_hugeLength_7cf53_49 : decode cJ8_hugeLength_7cf53 49 = .ok (.iload_n 2, 1) := by decide +kernel
theorem dJ8_hugeLength_7cf53_50 : decode cJ8_hugeLength_7cf53 50 = .ok (.ldc 200, 2) := by decide +kernel
theorem dJ8_hugeLength_7cf53_52 : decode cJ8_hugeLength_7cf53 52 = .ok (.if_icmp .gt 6, 3) := by decide +kernel
theorem dJ8_hugeLength_7cf53_55 : decode cJ8_hugeLength_7cf53 55 = .ok (.ldc 200, 2) := by decide +kernel
theorem dJ8_hugeLength_7cf53_57 : decode cJ8_hugeLength_7cf53 57 = .ok (.ireturn, 1) := by decide +kernel
theorem dJ8_hugeLength_7cf53_58 : decode cJ8_hugeLength_7cf53 58 = .ok (.iload_n 2, 1) := by decide +kernel
theorem dJ8_hugeLength_7cf53_59 : decode cJ8_hugeLength_7cf53 59 = .ok (.ireturn, 1) := by decide +kernel
theorem dJ3_checkIndex_8e157_0 : decode cJ3_checkIndex_8e157 0 = .ok (.iload_n 0, 1) := by decide +kernel
theorem dJ3_checkIndex_8e157_1 : decode cJ3_checkIndex_8e157 1 = .ok (.ifCond .lt 8, 3) := by decide +kernel
theorem dJ3_checkIndex_8e157_4 : decode cJ3_checkIndex_8e157 4 = .ok (.iload_n 0, 1) := by decide +kernel
theorem dJ3_checkIndex_8e157_5 : decode cJ3_checkIndex_8e157 5 = .ok (.iload_n 1, 1) := by decide +kernel
theorem dJ3_checkIndex_8e157_6 : decode cJ3_checkIndex_8e157 6 = .ok (.if_icmp .lt 10, 3) := by decide +kernel
theorem dJ3_checkIndex_8e157_9 : decode cJ3_checkIndex_8e157 9 = .ok (.aload_n 2, 1) := by decide +kernel
theorem dJ3_checkIndex_8e157_10 : decode cJ3_checkIndex_8e157 10 = .ok (.iload_n 0, 1) := by decide +kernel
theorem dJ3_checkIndex_8e157_11 : decode cJ3_checkIndex_8e157 11 = .ok (.iload_n 1, 1) := by decide +kernel
theorem dJ3_checkIndex_8e157_12 : decode cJ3_checkIndex_8e157 12 = .ok (.invokestatic 95, 3) := by decide +kernel
theorem dJ3_checkIndex_8e157_15 : decode cJ3_checkIndex_8e157 15 = .ok (.athrow, 1) := by decide +kernel
theorem dJ3_checkIndex_8e157_16 : decode cJ3_checkIndex_8e157 16 = .ok (.iload_n 0, 1) := by decide +kernel
theorem dJ3_checkIndex_8e157_17 : decode cJ3_checkIndex_8e157 17 = .ok (.ireturn, 1) := by decide +kernel
theorem dL_begin_0 : decode cL_begin 0 = .ok (.aload_n 1, 1) := by decide +kernel
theorem dL_begin_1 : decode cL_begin 1 = .ok (.iconst 0, 1) := by decide +kernel
theorem dL_begin_2 : decode cL_begin 2 = .ok (.aload_n 0, 1) := by decide +kernel
theorem dL_begin_3 : decode cL_begin 3 = .ok (.invokevirtual 7, 3) := by decide +kernel
theorem dL_begin_6 : decode cL_begin 6 = .ok (.i2l, 1) := by decide +kernel
theorem dL_begin_7 : decode cL_begin 7 = .ok (.lastore, 1) := by decide +kernel
theorem dL_begin_8 : decode cL_begin 8 = .ok (.goto 6, 3) := by decide +kernel
theorem dL_begin_11 : decode cL_begin 11 = .ok (.astore_n 2, 1) := by decide +kernel
theorem dL_begin_12 : decode cL_begin 12 = .ok (.iconst 1, 1) := by decide +kernel
theorem dL_begin_13 : decode cL_begin 13 = .ok (.ireturn, 1) := by decide +kernel
theorem dL_begin_14 : decode cL_begin 14 = .ok (.iconst 0, 1) := by decide +kernel
theorem dL_begin_15 : decode cL_begin 15 = .ok (.ireturn, 1) := by decide +kernel
theorem dL_tell_0 : decode cL_tell 0 = .ok (.aload 5, 2) := by decide +kernel
theorem dL_tell_2 : decode cL_tell 2 = .ok (.iconst 0, 1) := by decide +kernel
theorem dL_tell_3 : decode cL_tell 3 = .ok (.aload_n 0, 1) := by decide +kernel
theorem dL_tell_4 : decode cL_tell 4 = .ok (.iload_n 1, 1) := by decide +kernel
theorem dL_tell_5 : decode cL_tell 5 = .ok (.iload_n 2, 1) := by decide +kernel
theorem dL_tell_6 : decode cL_tell 6 = .ok (.iload_n 3, 1) := by decide +kernel
theorem dL_tell_7 : decode cL_tell 7 = .ok (.iload 4, 2) := by decide +kernel
theorem dL_tell_9 : decode cL_tell 9 = .ok (.invokevirtual 15, 3) := by decide +kernel
theorem dL_tell_12 : decode cL_tell 12 = .ok (.i2l, 1) := by decide +kernel
theorem dL_tell_13 : decode cL_tell 13 = .ok (.lastore, 1) := by decide +kernel
theorem dL_tell_14 : decode cL_tell 14 = .ok (.goto 15, 3) := by decide +kernel
theorem dL_tell_17 : decode cL_tell 17 = .ok (.astore 6, 2) := by decide +kernel
theorem dL_tell_19 : decode cL_tell 19 = .ok (.iconst 1, 1) := by decide +kernel
theorem dL_tell_20 : decode cL_tell 20 = .ok (.ireturn, 1) := by decide +kernel
theorem dL_tell_21 : decode cL_tell 21 = .ok (.astore 6, 2) := by decide +kernel
theorem dL_tell_23 : decode cL_tell 23 = .ok (.iconst 2, 1) := by decide +kernel
theorem dL_tell_24 : decode cL_tell 24 = .ok (.ireturn, 1) := by decide +kernel
theorem dL_tell_25 : decode cL_tell 25 = .ok (.astore 6, 2) := by decide +kernel
theorem dL_tell_27 : decode cL_tell 27 = .ok (.iconst 3, 1) := by decide +kernel
theorem dL_tell_28 : decode cL_tell 28 = .ok (.ireturn, 1) := by decide +kernel
theorem dL_tell_29 : decode cL_tell 29 = .ok (.iconst 0, 1) := by decide +kernel
theorem dL_tell_30 : decode cL_tell 30 = .ok (.ireturn, 1) := by decide +kernel
theorem dL_setExit_0 : decode cL_setExit 0 = .ok (.aload 5, 2) := by decide +kernel
theorem dL_setExit_2 : decode cL_setExit 2 = .ok (.iconst 0, 1) := by decide +kernel
theorem dL_setExit_3 : decode cL_setExit 3 = .ok (.aload_n 0, 1) := by decide +kernel
theorem dL_setExit_4 : decode cL_setExit 4 = .ok (.iload_n 1, 1) := by decide +kernel
theorem dL_setExit_5 : decode cL_setExit 5 = .ok (.iload_n 2, 1) := by decide +kernel
theorem dL_setExit_6 : decode cL_setExit 6 = .ok (.iload_n 3, 1) := by decide +kernel
theorem dL_setExit_7 : decode cL_setExit 7 = .ok (.iload 4, 2) := by decide +kernel
theorem dL_setExit_9 : decode cL_setExit 9 = .ok (.invokevirtual 23, 3) := by decide +kernel
theorem dL_setExit_12 : decode cL_setExit 12 = .ok (.ifCond .eq 7, 3) := by decide +kernel
theorem dL_setExit_15 : decode cL_setExit 15 = .ok (.lconst 1, 1) := by decide +kernel
theorem dL_setExit_16 : decode cL_setExit 16 = .ok (.goto 4, 3) := by decide +kernel
theorem dL_setExit_19 : decode cL_setExit 19 = .ok (.lconst 0, 1) := by decide +kernel
theorem dL_setExit_20 : decode cL_setExit 20 = .ok (.lastore, 1) := by decide +kernel
theorem dL_setExit_21 : decode cL_setExit 21 = .ok (.goto 15, 3) := by decide +kernel
theorem dL_setExit_24 : decode cL_setExit 24 = .ok (.astore 6, 2) := by decide +kernel
theorem dL_setExit_26 : decode cL_setExit 26 = .ok (.iconst 1, 1) := by decide +kernel
theorem dL_setExit_27 : decode cL_setExit 27 = .ok (.ireturn, 1) := by decide +kernel
theorem dL_setExit_28 : decode cL_setExit 28 = .ok (.astore 6, 2) := by decide +kernel
theorem dL_setExit_30 : decode cL_setExit 30 = .ok (.iconst 2, 1) := by decide +kernel
theorem dL_setExit_31 : decode cL_setExit 31 = .ok (.ireturn, 1) := by decide +kernel
theorem dL_setExit_32 : decode cL_setExit 32 = .ok (.astore 6, 2) := by decide +kernel
theorem dL_setExit_34 : decode cL_setExit 34 = .ok (.iconst 3, 1) := by decide +kernel
theorem dL_setExit_35 : decode cL_setExit 35 = .ok (.ireturn, 1) := by decide +kernel
theorem dL_setExit_36 : decode cL_setExit 36 = .ok (.iconst 0, 1) := by decide +kernel
theorem dL_setExit_37 : decode cL_setExit 37 = .ok (.ireturn, 1) := by decide +kernel
theorem dL_refer_0 : decode cL_refer 0 = .ok (.aload 5, 2) := by decide +kernel
theorem dL_refer_2 : decode cL_refer 2 = .ok (.iconst 0, 1) := by decide +kernel
theorem dL_refer_3 : decode cL_refer 3 = .ok (.aload_n 0, 1) := by decide +kernel
theorem dL_refer_4 : decode cL_refer 4 = .ok (.iload_n 1, 1) := by decide +kernel
theorem dL_refer_5 : decode cL_refer 5 = .ok (.iload_n 2, 1) := by decide +kernel
theorem dL_refer_6 : decode cL_refer 6 = .ok (.iload_n 3, 1) := by decide +kernel
theorem dL_refer_7 : decode cL_refer 7 = .ok (.iload 4, 2) := by decide +kernel
theorem dL_refer_9 : decode cL_refer 9 = .ok (.invokevirtual 27, 3) := by decide +kernel
theorem dL_refer_12 : decode cL_refer 12 = .ok (.ifCond .eq 7, 3) := by decide +kernel
theorem dL_refer_15 : decode cL_refer 15 = .ok (.lconst 1, 1) := by decide +kernel
theorem dL_refer_16 : decode cL_refer 16 = .ok (.goto 4, 3) := by decide +kernel
theorem dL_refer_19 : decode cL_refer 19 = .ok (.lconst 0, 1) := by decide +kernel
theorem dL_refer_20 : decode cL_refer 20 = .ok (.lastore, 1) := by decide +kernel
theorem dL_refer_21 : decode cL_refer 21 = .ok (.goto 15, 3) := by decide +kernel
theorem dL_refer_24 : decode cL_refer 24 = .ok (.astore 6, 2) := by decide +kernel
theorem dL_refer_26 : decode cL_refer 26 = .ok (.iconst 1, 1) := by decide +kernel
theorem dL_refer_27 : decode cL_refer 27 = .ok (.ireturn, 1) := by decide +kernel
theorem dL_refer_28 : decode cL_refer 28 = .ok (.astore 6, 2) := by decide +kernel
theorem dL_refer_30 : decode cL_refer 30 = .ok (.iconst 2, 1) := by decide +kernel
theorem dL_refer_31 : decode cL_refer 31 = .ok (.ireturn, 1) := by decide +kernel
theorem dL_refer_32 : decode cL_refer 32 = .ok (.astore 6, 2) := by decide +kernel
theorem dL_refer_34 : decode cL_refer 34 = .ok (.iconst 3, 1) := by decide +kernel
theorem dL_refer_35 : decode cL_refer 35 = .ok (.ireturn, 1) := by decide +kernel
theorem dL_refer_36 : decode cL_refer 36 = .ok (.iconst 0, 1) := by decide +kernel
theorem dL_refer_37 : decode cL_refer 37 = .ok (.ireturn, 1) := by decide +kernel
theorem dL_side_0 : decode cL_side 0 = .ok (.aload_n 3, 1) := by decide +kernel
theorem dL_side_1 : decode cL_side 1 = .ok (.iconst 0, 1) := by decide +kernel
theorem dL_side_2 : decode cL_side 2 = .ok (.aload_n 0, 1) := by decide +kernel
theorem dL_side_3 : decode cL_side 3 = .ok (.iload_n 1, 1) := by decide +kernel
theorem dL_side_4 : decode cL_side 4 = .ok (.iload_n 2, 1) := by decide +kernel
theorem dL_side_5 : decode cL_side 5 = .ok (.invokevirtual 30, 3) := by decide +kernel
theorem dL_side_8 : decode cL_side 8 = .ok (.i2l, 1) := by decide +kernel
theorem dL_side_9 : decode cL_side 9 = .ok (.lastore, 1) := by decide +kernel
theorem dL_side_10 : decode cL_side 10 = .ok (.goto 11, 3) := by decide +kernel
theorem dL_side_13 : decode cL_side 13 = .ok (.astore 4, 2) := by decide +kernel
theorem dL_side_15 : decode cL_side 15 = .ok (.iconst 1, 1) := by decide +kernel
theorem dL_side_16 : decode cL_side 16 = .ok (.ireturn, 1) := by decide +kernel
theorem dL_side_17 : decode cL_side 17 = .ok (.astore 4, 2) := by decide +kernel
theorem dL_side_19 : decode cL_side 19 = .ok (.iconst 2, 1) := by decide +kernel
theorem dL_side_20 : decode cL_side 20 = .ok (.ireturn, 1) := by decide +kernel
theorem dL_side_21 : decode cL_side 21 = .ok (.iconst 0, 1) := by decide +kernel
theorem dL_side_22 : decode cL_side 22 = .ok (.ireturn, 1) := by decide +kernel
theorem dL_hasExit_0 : decode cL_hasExit 0 = .ok (.aload_n 3, 1) := by decide +kernel
theorem dL_hasExit_1 : decode cL_hasExit 1 = .ok (.iconst 0, 1) := by decide +kernel
theorem dL_hasExit_2 : decode cL_hasExit 2 = .ok (.aload_n 0, 1) := by decide +kernel
theorem dL_hasExit_3 : decode cL_hasExit 3 = .ok (.iload_n 1, 1) := by decide +kernel
theorem dL_hasExit_4 : decode cL_hasExit 4 = .ok (.iload_n 2, 1) := by decide +kernel
theorem dL_hasExit_5 : decode cL_hasExit 5 = .ok (.invokevirtual 34, 3) := by decide +kernel
theorem dL_hasExit_8 : decode cL_hasExit 8 = .ok (.ifCond .eq 7, 3) := by decide +kernel
theorem dL_hasExit_11 : decode cL_hasExit 11 = .ok (.lconst 1, 1) := by decide +kernel
theorem dL_hasExit_12 : decode cL_hasExit 12 = .ok (.goto 4, 3) := by decide +kernel
theorem dL_hasExit_15 : decode cL_hasExit 15 = .ok (.lconst 0, 1) := by decide +kernel
theorem dL_hasExit_16 : decode cL_hasExit 16 = .ok (.lastore, 1) := by decide +kernel
theorem dL_hasExit_17 : decode cL_hasExit 17 = .ok (.goto 11, 3) := by decide +kernel
theorem dL_hasExit_20 : decode cL_hasExit 20 = .ok (.astore 4, 2) := by decide +kernel
theorem dL_hasExit_22 : decode cL_hasExit 22 = .ok (.iconst 1, 1) := by decide +kernel
theorem dL_hasExit_23 : decode cL_hasExit 23 = .ok (.ireturn, 1) := by decide +kernel
theorem dL_hasExit_24 : decode cL_hasExit 24 = .ok (.astore 4, 2) := by decide +kernel
theorem dL_hasExit_26 : decode cL_hasExit 26 = .ok (.iconst 2, 1) := by decide +kernel
theorem dL_hasExit_27 : decode cL_hasExit 27 = .ok (.ireturn, 1) := by decide +kernel
theorem dL_hasExit_28 : decode cL_hasExit 28 = .ok (.iconst 0, 1) := by decide +kernel
theorem dL_hasExit_29 : decode cL_hasExit 29 = .ok (.ireturn, 1) := by decide +kernel
theorem dL_rooms_0 : decode cL_rooms 0 = .ok (.aload_n 2, 1) := by decide +kernel
theorem dL_rooms_1 : decode cL_rooms 1 = .ok (.iconst 0, 1) := by decide +kernel
theorem dL_rooms_2 : decode cL_rooms 2 = .ok (.aload_n 0, 1) := by decide +kernel
theorem dL_rooms_3 : decode cL_rooms 3 = .ok (.iload_n 1, 1) := by decide +kernel
theorem dL_rooms_4 : decode cL_rooms 4 = .ok (.invokevirtual 38, 3) := by decide +kernel
theorem dL_rooms_7 : decode cL_rooms 7 = .ok (.i2l, 1) := by decide +kernel
theorem dL_rooms_8 : decode cL_rooms 8 = .ok (.lastore, 1) := by decide +kernel
theorem dL_rooms_9 : decode cL_rooms 9 = .ok (.goto 6, 3) := by decide +kernel
theorem dL_rooms_12 : decode cL_rooms 12 = .ok (.astore_n 3, 1) := by decide +kernel
theorem dL_rooms_13 : decode cL_rooms 13 = .ok (.iconst 1, 1) := by decide +kernel
theorem dL_rooms_14 : decode cL_rooms 14 = .ok (.ireturn, 1) := by decide +kernel
theorem dL_rooms_15 : decode cL_rooms 15 = .ok (.iconst 0, 1) := by decide +kernel
theorem dL_rooms_16 : decode cL_rooms 16 = .ok (.ireturn, 1) := by decide +kernel
theorem dL_room_0 : decode cL_room 0 = .ok (.aload_n 3, 1) := by decide +kernel
theorem dL_room_1 : decode cL_room 1 = .ok (.iconst 0, 1) := by decide +kernel
theorem dL_room_2 : decode cL_room 2 = .ok (.aload_n 0, 1) := by decide +kernel
theorem dL_room_3 : decode cL_room 3 = .ok (.iload_n 1, 1) := by decide +kernel
theorem dL_room_4 : decode cL_room 4 = .ok (.iload_n 2, 1) := by decide +kernel
theorem dL_room_5 : decode cL_room 5 = .ok (.invokevirtual 42, 3) := by decide +kernel
theorem dL_room_8 : decode cL_room 8 = .ok (.i2l, 1) := by decide +kernel
theorem dL_room_9 : decode cL_room 9 = .ok (.lastore, 1) := by decide +kernel
theorem dL_room_10 : decode cL_room 10 = .ok (.goto 11, 3) := by decide +kernel
theorem dL_room_13 : decode cL_room 13 = .ok (.astore 4, 2) := by decide +kernel
theorem dL_room_15 : decode cL_room 15 = .ok (.iconst 1, 1) := by decide +kernel
theorem dL_room_16 : decode cL_room 16 = .ok (.ireturn, 1) := by decide +kernel
theorem dL_room_17 : decode cL_room 17 = .ok (.astore 4, 2) := by decide +kernel
theorem dL_room_19 : decode cL_room 19 = .ok (.iconst 2, 1) := by decide +kernel
theorem dL_room_20 : decode cL_room 20 = .ok (.ireturn, 1) := by decide +kernel
theorem dL_room_21 : decode cL_room 21 = .ok (.iconst 0, 1) := by decide +kernel
theorem dL_room_22 : decode cL_room 22 = .ok (.ireturn, 1) := by decide +kernel
theorem dL_size_0 : decode cL_size 0 = .ok (.aload_n 3, 1) := by decide +kernel
theorem dL_size_1 : decode cL_size 1 = .ok (.iconst 0, 1) := by decide +kernel
theorem dL_size_2 : decode cL_size 2 = .ok (.aload_n 0, 1) := by decide +kernel
theorem dL_size_3 : decode cL_size 3 = .ok (.iload_n 1, 1) := by decide +kernel
theorem dL_size_4 : decode cL_size 4 = .ok (.iload_n 2, 1) := by decide +kernel
theorem dL_size_5 : decode cL_size 5 = .ok (.invokevirtual 45, 3) := by decide +kernel
theorem dL_size_8 : decode cL_size 8 = .ok (.i2l, 1) := by decide +kernel
theorem dL_size_9 : decode cL_size 9 = .ok (.lastore, 1) := by decide +kernel
theorem dL_size_10 : decode cL_size 10 = .ok (.goto 11, 3) := by decide +kernel
theorem dL_size_13 : decode cL_size 13 = .ok (.astore 4, 2) := by decide +kernel
theorem dL_size_15 : decode cL_size 15 = .ok (.iconst 1, 1) := by decide +kernel
theorem dL_size_16 : decode cL_size 16 = .ok (.ireturn, 1) := by decide +kernel
theorem dL_size_17 : decode cL_size 17 = .ok (.astore 4, 2) := by decide +kernel
theorem dL_size_19 : decode cL_size 19 = .ok (.iconst 2, 1) := by decide +kernel
theorem dL_size_20 : decode cL_size 20 = .ok (.ireturn, 1) := by decide +kernel
theorem dL_size_21 : decode cL_size 21 = .ok (.iconst 0, 1) := by decide +kernel
theorem dL_size_22 : decode cL_size 22 = .ok (.ireturn, 1) := by decide +kernel
theorem dL_doorsOut_0 : decode cL_doorsOut 0 = .ok (.aload_n 3, 1) := by decide +kernel
theorem dL_doorsOut_1 : decode cL_doorsOut 1 = .ok (.iconst 0, 1) := by decide +kernel
theorem dL_doorsOut_2 : decode cL_doorsOut 2 = .ok (.aload_n 0, 1) := by decide +kernel
theorem dL_doorsOut_3 : decode cL_doorsOut 3 = .ok (.iload_n 1, 1) := by decide +kernel
theorem dL_doorsOut_4 : decode cL_doorsOut 4 = .ok (.iload_n 2, 1) := by decide +kernel
theorem dL_doorsOut_5 : decode cL_doorsOut 5 = .ok (.invokevirtual 48, 3) := by decide +kernel
theorem dL_doorsOut_8 : decode cL_doorsOut 8 = .ok (.i2l, 1) := by decide +kernel
theorem dL_doorsOut_9 : decode cL_doorsOut 9 = .ok (.lastore, 1) := by decide +kernel
theorem dL_doorsOut_10 : decode cL_doorsOut 10 = .ok (.goto 11, 3) := by decide +kernel
theorem dL_doorsOut_13 : decode cL_doorsOut 13 = .ok (.astore 4, 2) := by decide +kernel
theorem dL_doorsOut_15 : decode cL_doorsOut 15 = .ok (.iconst 1, 1) := by decide +kernel
theorem dL_doorsOut_16 : decode cL_doorsOut 16 = .ok (.ireturn, 1) := by decide +kernel
theorem dL_doorsOut_17 : decode cL_doorsOut 17 = .ok (.astore 4, 2) := by decide +kernel
theorem dL_doorsOut_19 : decode cL_doorsOut 19 = .ok (.iconst 2, 1) := by decide +kernel
theorem dL_doorsOut_20 : decode cL_doorsOut 20 = .ok (.ireturn, 1) := by decide +kernel
theorem dL_doorsOut_21 : decode cL_doorsOut 21 = .ok (.iconst 0, 1) := by decide +kernel
theorem dL_doorsOut_22 : decode cL_doorsOut 22 = .ok (.ireturn, 1) := by decide +kernel
theorem dL_doorThatHelps_0 : decode cL_doorThatHelps 0 = .ok (.aload_n 3, 1) := by decide +kernel
theorem dL_doorThatHelps_1 : decode cL_doorThatHelps 1 = .ok (.iconst 0, 1) := by decide +kernel
theorem dL_doorThatHelps_2 : decode cL_doorThatHelps 2 = .ok (.aload_n 0, 1) := by decide +kernel
theorem dL_doorThatHelps_3 : decode cL_doorThatHelps 3 = .ok (.iload_n 1, 1) := by decide +kernel
theorem dL_doorThatHelps_4 : decode cL_doorThatHelps 4 = .ok (.iload_n 2, 1) := by decide +kernel
theorem dL_doorThatHelps_5 : decode cL_doorThatHelps 5 = .ok (.invokevirtual 51, 3) := by decide +kernel
theorem dL_doorThatHelps_8 : decode cL_doorThatHelps 8 = .ok (.i2l, 1) := by decide +kernel
theorem dL_doorThatHelps_9 : decode cL_doorThatHelps 9 = .ok (.lastore, 1) := by decide +kernel
theorem dL_doorThatHelps_10 : decode cL_doorThatHelps 10 = .ok (.goto 11, 3) := by decide +kernel
theorem dL_doorThatHelps_13 : decode cL_doorThatHelps 13 = .ok (.astore 4, 2) := by decide +kernel
theorem dL_doorThatHelps_15 : decode cL_doorThatHelps 15 = .ok (.iconst 1, 1) := by decide +kernel
theorem dL_doorThatHelps_16 : decode cL_doorThatHelps 16 = .ok (.ireturn, 1) := by decide +kernel
theorem dL_doorThatHelps_17 : decode cL_doorThatHelps 17 = .ok (.astore 4, 2) := by decide +kernel
theorem dL_doorThatHelps_19 : decode cL_doorThatHelps 19 = .ok (.iconst 2, 1) := by decide +kernel
theorem dL_doorThatHelps_20 : decode cL_doorThatHelps 20 = .ok (.ireturn, 1) := by decide +kernel
theorem dL_doorThatHelps_21 : decode cL_doorThatHelps 21 = .ok (.iconst 0, 1) := by decide +kernel
theorem dL_doorThatHelps_22 : decode cL_doorThatHelps 22 = .ok (.ireturn, 1) := by decide +kernel
theorem dL_lock_0 : decode cL_lock 0 = .ok (.aload_n 0, 1) := by decide +kernel
theorem dL_lock_1 : decode cL_lock 1 = .ok (.iload_n 1, 1) := by decide +kernel
theorem dL_lock_2 : decode cL_lock 2 = .ok (.iload_n 2, 1) := by decide +kernel
theorem dL_lock_3 : decode cL_lock 3 = .ok (.invokevirtual 54, 3) := by decide +kernel
theorem dL_lock_6 : decode cL_lock 6 = .ok (.goto 12, 3) := by decide +kernel
theorem dL_lock_9 : decode cL_lock 9 = .ok (.astore_n 3, 1) := by decide +kernel
theorem dL_lock_10 : decode cL_lock 10 = .ok (.iconst 1, 1) := by decide +kernel
theorem dL_lock_11 : decode cL_lock 11 = .ok (.ireturn, 1) := by decide +kernel
theorem dL_lock_12 : decode cL_lock 12 = .ok (.astore_n 3, 1) := by decide +kernel
theorem dL_lock_13 : decode cL_lock 13 = .ok (.iconst 2, 1) := by decide +kernel
theorem dL_lock_14 : decode cL_lock 14 = .ok (.ireturn, 1) := by decide +kernel
theorem dL_lock_15 : decode cL_lock 15 = .ok (.astore_n 3, 1) := by decide +kernel
theorem dL_lock_16 : decode cL_lock 16 = .ok (.iconst 3, 1) := by decide +kernel
theorem dL_lock_17 : decode cL_lock 17 = .ok (.ireturn, 1) := by decide +kernel
theorem dL_lock_18 : decode cL_lock 18 = .ok (.iconst 0, 1) := by decide +kernel
theorem dL_lock_19 : decode cL_lock 19 = .ok (.ireturn, 1) := by decide +kernel
theorem dL_unlock_0 : decode cL_unlock 0 = .ok (.aload_n 0, 1) := by decide +kernel
theorem dL_unlock_1 : decode cL_unlock 1 = .ok (.iload_n 1, 1) := by decide +kernel
theorem dL_unlock_2 : decode cL_unlock 2 = .ok (.iload_n 2, 1) := by decide +kernel
theorem dL_unlock_3 : decode cL_unlock 3 = .ok (.invokevirtual 58, 3) := by decide +kernel
theorem dL_unlock_6 : decode cL_unlock 6 = .ok (.goto 12, 3) := by decide +kernel
theorem dL_unlock_9 : decode cL_unlock 9 = .ok (.astore_n 3, 1) := by decide +kernel
theorem dL_unlock_10 : decode cL_unlock 10 = .ok (.iconst 1, 1) := by decide +kernel
theorem dL_unlock_11 : decode cL_unlock 11 = .ok (.ireturn, 1) := by decide +kernel
theorem dL_unlock_12 : decode cL_unlock 12 = .ok (.astore_n 3, 1) := by decide +kernel
theorem dL_unlock_13 : decode cL_unlock 13 = .ok (.iconst 2, 1) := by decide +kernel
theorem dL_unlock_14 : decode cL_unlock 14 = .ok (.ireturn, 1) := by decide +kernel
theorem dL_unlock_15 : decode cL_unlock 15 = .ok (.astore_n 3, 1) := by decide +kernel
theorem dL_unlock_16 : decode cL_unlock 16 = .ok (.iconst 3, 1) := by decide +kernel
theorem dL_unlock_17 : decode cL_unlock 17 = .ok (.ireturn, 1) := by decide +kernel
theorem dL_unlock_18 : decode cL_unlock 18 = .ok (.iconst 0, 1) := by decide +kernel
theorem dL_unlock_19 : decode cL_unlock 19 = .ok (.ireturn, 1) := by decide +kernel
theorem dL_lend_0 : decode cL_lend 0 = .ok (.aload 4, 2) := by decide +kernel
theorem dL_lend_2 : decode cL_lend 2 = .ok (.iconst 0, 1) := by decide +kernel
theorem dL_lend_3 : decode cL_lend 3 = .ok (.aload_n 0, 1) := by decide +kernel
theorem dL_lend_4 : decode cL_lend 4 = .ok (.iload_n 1, 1) := by decide +kernel
theorem dL_lend_5 : decode cL_lend 5 = .ok (.iload_n 2, 1) := by decide +kernel
theorem dL_lend_6 : decode cL_lend 6 = .ok (.iload_n 3, 1) := by decide +kernel
theorem dL_lend_7 : decode cL_lend 7 = .ok (.invokevirtual 61, 3) := by decide +kernel
theorem dL_lend_10 : decode cL_lend 10 = .ok (.i2l, 1) := by decide +kernel
theorem dL_lend_11 : decode cL_lend 11 = .ok (.lastore, 1) := by decide +kernel
theorem dL_lend_12 : decode cL_lend 12 = .ok (.goto 15, 3) := by decide +kernel
theorem dL_lend_15 : decode cL_lend 15 = .ok (.astore 5, 2) := by decide +kernel
theorem dL_lend_17 : decode cL_lend 17 = .ok (.iconst 1, 1) := by decide +kernel
theorem dL_lend_18 : decode cL_lend 18 = .ok (.ireturn, 1) := by decide +kernel
theorem dL_lend_19 : decode cL_lend 19 = .ok (.astore 5, 2) := by decide +kernel
theorem dL_lend_21 : decode cL_lend 21 = .ok (.iconst 2, 1) := by decide +kernel
theorem dL_lend_22 : decode cL_lend 22 = .ok (.ireturn, 1) := by decide +kernel
theorem dL_lend_23 : decode cL_lend 23 = .ok (.astore 5, 2) := by decide +kernel
theorem dL_lend_25 : decode cL_lend 25 = .ok (.iconst 3, 1) := by decide +kernel
theorem dL_lend_26 : decode cL_lend 26 = .ok (.ireturn, 1) := by decide +kernel
theorem dL_lend_27 : decode cL_lend 27 = .ok (.iconst 0, 1) := by decide +kernel
theorem dL_lend_28 : decode cL_lend 28 = .ok (.ireturn, 1) := by decide +kernel
theorem dL_canChange_0 : decode cL_canChange 0 = .ok (.aload_n 2, 1) := by decide +kernel
theorem dL_canChange_1 : decode cL_canChange 1 = .ok (.iconst 0, 1) := by decide +kernel
theorem dL_canChange_2 : decode cL_canChange 2 = .ok (.aload_n 0, 1) := by decide +kernel
theorem dL_canChange_3 : decode cL_canChange 3 = .ok (.iload_n 1, 1) := by decide +kernel
theorem dL_canChange_4 : decode cL_canChange 4 = .ok (.invokevirtual 65, 3) := by decide +kernel
theorem dL_canChange_7 : decode cL_canChange 7 = .ok (.i2l, 1) := by decide +kernel
theorem dL_canChange_8 : decode cL_canChange 8 = .ok (.lastore, 1) := by decide +kernel
theorem dL_canChange_9 : decode cL_canChange 9 = .ok (.goto 6, 3) := by decide +kernel
theorem dL_canChange_12 : decode cL_canChange 12 = .ok (.astore_n 3, 1) := by decide +kernel
theorem dL_canChange_13 : decode cL_canChange 13 = .ok (.iconst 1, 1) := by decide +kernel
theorem dL_canChange_14 : decode cL_canChange 14 = .ok (.ireturn, 1) := by decide +kernel
theorem dL_canChange_15 : decode cL_canChange 15 = .ok (.iconst 0, 1) := by decide +kernel
theorem dL_canChange_16 : decode cL_canChange 16 = .ok (.ireturn, 1) := by decide +kernel
theorem dL_grant_0 : decode cL_grant 0 = .ok (.aload_n 2, 1) := by decide +kernel
theorem dL_grant_1 : decode cL_grant 1 = .ok (.iconst 0, 1) := by decide +kernel
theorem dL_grant_2 : decode cL_grant 2 = .ok (.aload_n 0, 1) := by decide +kernel
theorem dL_grant_3 : decode cL_grant 3 = .ok (.iload_n 1, 1) := by decide +kernel
theorem dL_grant_4 : decode cL_grant 4 = .ok (.invokevirtual 68, 3) := by decide +kernel
theorem dL_grant_7 : decode cL_grant 7 = .ok (.i2l, 1) := by decide +kernel
theorem dL_grant_8 : decode cL_grant 8 = .ok (.lastore, 1) := by decide +kernel
theorem dL_grant_9 : decode cL_grant 9 = .ok (.goto 9, 3) := by decide +kernel
theorem dL_grant_12 : decode cL_grant 12 = .ok (.astore_n 3, 1) := by decide +kernel
theorem dL_grant_13 : decode cL_grant 13 = .ok (.iconst 1, 1) := by decide +kernel
theorem dL_grant_14 : decode cL_grant 14 = .ok (.ireturn, 1) := by decide +kernel
theorem dL_grant_15 : decode cL_grant 15 = .ok (.astore_n 3, 1) := by decide +kernel
theorem dL_grant_16 : decode cL_grant 16 = .ok (.iconst 2, 1) := by decide +kernel
theorem dL_grant_17 : decode cL_grant 17 = .ok (.ireturn, 1) := by decide +kernel
theorem dL_grant_18 : decode cL_grant 18 = .ok (.iconst 0, 1) := by decide +kernel
theorem dL_grant_19 : decode cL_grant 19 = .ok (.ireturn, 1) := by decide +kernel
theorem dL_holds_0 : decode cL_holds 0 = .ok (.aload_n 2, 1) := by decide +kernel
theorem dL_holds_1 : decode cL_holds 1 = .ok (.iconst 0, 1) := by decide +kernel
theorem dL_holds_2 : decode cL_holds 2 = .ok (.aload_n 0, 1) := by decide +kernel
theorem dL_holds_3 : decode cL_holds 3 = .ok (.iload_n 1, 1) := by decide +kernel
theorem dL_holds_4 : decode cL_holds 4 = .ok (.invokevirtual 71, 3) := by decide +kernel
theorem dL_holds_7 : decode cL_holds 7 = .ok (.ifCond .eq 7, 3) := by decide +kernel
theorem dL_holds_10 : decode cL_holds 10 = .ok (.lconst 1, 1) := by decide +kernel
theorem dL_holds_11 : decode cL_holds 11 = .ok (.goto 4, 3) := by decide +kernel
theorem dL_holds_14 : decode cL_holds 14 = .ok (.lconst 0, 1) := by decide +kernel
theorem dL_holds_15 : decode cL_holds 15 = .ok (.lastore, 1) := by decide +kernel
theorem dL_holds_16 : decode cL_holds 16 = .ok (.goto 6, 3) := by decide +kernel
theorem dL_holds_19 : decode cL_holds 19 = .ok (.astore_n 3, 1) := by decide +kernel
theorem dL_holds_20 : decode cL_holds 20 = .ok (.iconst 1, 1) := by decide +kernel
theorem dL_holds_21 : decode cL_holds 21 = .ok (.ireturn, 1) := by decide +kernel
theorem dL_holds_22 : decode cL_holds 22 = .ok (.iconst 0, 1) := by decide +kernel
theorem dL_holds_23 : decode cL_holds 23 = .ok (.ireturn, 1) := by decide +kernel
theorem dL_print_0 : decode cL_print 0 = .ok (.aload_n 2, 1) := by decide +kernel
theorem dL_print_1 : decode cL_print 1 = .ok (.iconst 0, 1) := by decide +kernel
theorem dL_print_2 : decode cL_print 2 = .ok (.aload_n 0, 1) := by decide +kernel
theorem dL_print_3 : decode cL_print 3 = .ok (.iload_n 1, 1) := by decide +kernel
theorem dL_print_4 : decode cL_print 4 = .ok (.invokevirtual 75, 3) := by decide +kernel
theorem dL_print_7 : decode cL_print 7 = .ok (.i2l, 1) := by decide +kernel
theorem dL_print_8 : decode cL_print 8 = .ok (.lastore, 1) := by decide +kernel
theorem dL_print_9 : decode cL_print 9 = .ok (.goto 9, 3) := by decide +kernel
theorem dL_print_12 : decode cL_print 12 = .ok (.astore_n 3, 1) := by decide +kernel
theorem dL_print_13 : decode cL_print 13 = .ok (.iconst 1, 1) := by decide +kernel
theorem dL_print_14 : decode cL_print 14 = .ok (.ireturn, 1) := by decide +kernel
theorem dL_print_15 : decode cL_print 15 = .ok (.astore_n 3, 1) := by decide +kernel
theorem dL_print_16 : decode cL_print 16 = .ok (.iconst 2, 1) := by decide +kernel
theorem dL_print_17 : decode cL_print 17 = .ok (.ireturn, 1) := by decide +kernel
theorem dL_print_18 : decode cL_print 18 = .ok (.iconst 0, 1) := by decide +kernel
theorem dL_print_19 : decode cL_print 19 = .ok (.ireturn, 1) := by decide +kernel
theorem dL_permitOf_0 : decode cL_permitOf 0 = .ok (.aload_n 2, 1) := by decide +kernel
theorem dL_permitOf_1 : decode cL_permitOf 1 = .ok (.iconst 0, 1) := by decide +kernel
theorem dL_permitOf_2 : decode cL_permitOf 2 = .ok (.aload_n 0, 1) := by decide +kernel
theorem dL_permitOf_3 : decode cL_permitOf 3 = .ok (.iload_n 1, 1) := by decide +kernel
theorem dL_permitOf_4 : decode cL_permitOf 4 = .ok (.invokevirtual 78, 3) := by decide +kernel
theorem dL_permitOf_7 : decode cL_permitOf 7 = .ok (.i2l, 1) := by decide +kernel
theorem dL_permitOf_8 : decode cL_permitOf 8 = .ok (.lastore, 1) := by decide +kernel
theorem dL_permitOf_9 : decode cL_permitOf 9 = .ok (.goto 6, 3) := by decide +kernel
theorem dL_permitOf_12 : decode cL_permitOf 12 = .ok (.astore_n 3, 1) := by decide +kernel
theorem dL_permitOf_13 : decode cL_permitOf 13 = .ok (.iconst 1, 1) := by decide +kernel
theorem dL_permitOf_14 : decode cL_permitOf 14 = .ok (.ireturn, 1) := by decide +kernel
theorem dL_permitOf_15 : decode cL_permitOf 15 = .ok (.iconst 0, 1) := by decide +kernel
theorem dL_permitOf_16 : decode cL_permitOf 16 = .ok (.ireturn, 1) := by decide +kernel
theorem dL_isGood_0 : decode cL_isGood 0 = .ok (.aload_n 2, 1) := by decide +kernel
theorem dL_isGood_1 : decode cL_isGood 1 = .ok (.iconst 0, 1) := by decide +kernel
theorem dL_isGood_2 : decode cL_isGood 2 = .ok (.aload_n 0, 1) := by decide +kernel
theorem dL_isGood_3 : decode cL_isGood 3 = .ok (.iload_n 1, 1) := by decide +kernel
theorem dL_isGood_4 : decode cL_isGood 4 = .ok (.invokevirtual 81, 3) := by decide +kernel
theorem dL_isGood_7 : decode cL_isGood 7 = .ok (.ifCond .eq 7, 3) := by decide +kernel
theorem dL_isGood_10 : decode cL_isGood 10 = .ok (.lconst 1, 1) := by decide +kernel
theorem dL_isGood_11 : decode cL_isGood 11 = .ok (.goto 4, 3) := by decide +kernel
theorem dL_isGood_14 : decode cL_isGood 14 = .ok (.lconst 0, 1) := by decide +kernel
theorem dL_isGood_15 : decode cL_isGood 15 = .ok (.lastore, 1) := by decide +kernel
theorem dL_isGood_16 : decode cL_isGood 16 = .ok (.goto 6, 3) := by decide +kernel
theorem dL_isGood_19 : decode cL_isGood 19 = .ok (.astore_n 3, 1) := by decide +kernel
theorem dL_isGood_20 : decode cL_isGood 20 = .ok (.iconst 1, 1) := by decide +kernel
theorem dL_isGood_21 : decode cL_isGood 21 = .ok (.ireturn, 1) := by decide +kernel
theorem dL_isGood_22 : decode cL_isGood 22 = .ok (.iconst 0, 1) := by decide +kernel
theorem dL_isGood_23 : decode cL_isGood 23 = .ok (.ireturn, 1) := by decide +kernel
theorem dL_law_0 : decode cL_law 0 = .ok (.new 8, 3) := by decide +kernel
theorem dL_law_3 : decode cL_law 3 = .ok (.dup, 1) := by decide +kernel
theorem dL_law_4 : decode cL_law 4 = .ok (.invokespecial 84, 3) := by decide +kernel
theorem dL_law_7 : decode cL_law 7 = .ok (.astore_n 1, 1) := by decide +kernel
theorem dL_law_8 : decode cL_law 8 = .ok (.new 85, 3) := by decide +kernel
theorem dL_law_11 : decode cL_law 11 = .ok (.dup, 1) := by decide +kernel
theorem dL_law_12 : decode cL_law 12 = .ok (.invokespecial 87, 3) := by decide +kernel
theorem dL_law_15 : decode cL_law 15 = .ok (.astore_n 2, 1) := by decide +kernel
theorem dL_law_16 : decode cL_law 16 = .ok (.iconst 1, 1) := by decide +kernel
theorem dL_law_17 : decode cL_law 17 = .ok (.newarray .long, 2) := by decide +kernel
theorem dL_law_19 : decode cL_law 19 = .ok (.astore_n 3, 1) := by decide +kernel
theorem dL_law_20 : decode cL_law 20 = .ok (.iconst 0, 1) := by decide +kernel
theorem dL_law_21 : decode cL_law 21 = .ok (.istore 4, 2) := by decide +kernel
theorem dL_law_23 : decode cL_law 23 = .ok (.iload 4, 2) := by decide +kernel
theorem dL_law_25 : decode cL_law 25 = .ok (.aload_n 0, 1) := by decide +kernel
theorem dL_law_26 : decode cL_law 26 = .ok (.arraylength, 1) := by decide +kernel
theorem dL_law_27 : decode cL_law 27 = .ok (.iconst 5, 1) := by decide +kernel
theorem dL_law_28 : decode cL_law 28 = .ok (.isub, 1) := by decide +kernel
theorem dL_law_29 : decode cL_law 29 = .ok (.if_icmp .gt 1506, 3) := by decide +kernel
theorem dL_law_32 : decode cL_law 32 = .ok (.aload_n 0, 1) := by decide +kernel
theorem dL_law_33 : decode cL_law 33 = .ok (.iload 4, 2) := by decide +kernel
theorem dL_law_35 : decode cL_law 35 = .ok (.iaload, 1) := by decide +kernel
theorem dL_law_36 : decode cL_law 36 = .ok (.bipush 31, 2) := by decide +kernel
theorem dL_law_38 : decode cL_law 38 = .ok (.iand, 1) := by decide +kernel
theorem dL_law_39 : decode cL_law 39 = .ok (.tableswitch 1490 0 21 #[101, 145, 237, 352, 467, 480, 548, 623, 679, 747, 815, 883, 951, 999, 1047, 1127, 1183, 1239, 1302, 1358, 1414, 1477], 101) := by decide +kernel
theorem dL_law_140 : decode cL_law 140 = .ok (.aload_n 1, 1) := by decide +kernel
theorem dL_law_141 : decode cL_law 141 = .ok (.aload_n 3, 1) := by decide +kernel
theorem dL_law_142 : decode cL_law 142 = .ok (.invokestatic 88, 3) := by decide +kernel
theorem dL_law_145 : decode cL_law 145 = .ok (.istore 5, 2) := by decide +kernel
theorem dL_law_147 : decode cL_law 147 = .ok (.aload_n 2, 1) := by decide +kernel
theorem dL_law_148 : decode cL_law 148 = .ok (.invokevirtual 93, 3) := by decide +kernel
theorem dL_law_151 : decode cL_law 151 = .ok (.istore 6, 2) := by decide +kernel
theorem dL_law_153 : decode cL_law 153 = .ok (.aload_n 2, 1) := by decide +kernel
theorem dL_law_154 : decode cL_law 154 = .ok (.invokevirtual 94, 3) := by decide +kernel
theorem dL_law_157 : decode cL_law 157 = .ok (.iload 5, 2) := by decide +kernel
theorem dL_law_159 : decode cL_law 159 = .ok (.if_icmp .eq 5, 3) := by decide +kernel
theorem dL_law_162 : decode cL_law 162 = .ok (.iconst 0, 1) := by decide +kernel
theorem dL_law_163 : decode cL_law 163 = .ok (.ireturn, 1) := by decide +kernel
theorem dL_law_164 : decode cL_law 164 = .ok (.iload 5, 2) := by decide +kernel
theorem dL_law_166 : decode cL_law 166 = .ok (.ifCond .ne 15, 3) := by decide +kernel
theorem dL_law_169 : decode cL_law 169 = .ok (.aload_n 3, 1) := by decide +kernel
theorem dL_law_170 : decode cL_law 170 = .ok (.iconst 0, 1) := by decide +kernel
theorem dL_law_171 : decode cL_law 171 = .ok (.laload, 1) := by decide +kernel
