theorem dMd_init_0 : decode cMd_init 0 = .ok (.aload_n 0, 1) := by decide +kernel
theorem dMd_init_1 : decode cMd_init 1 = .ok (.invokespecial 1, 3) := by decide +kernel
theorem dMd_init_4 : decode cMd_init 4 = .ok (.aload_n 0, 1) := by decide +kernel
theorem dMd_init_5 : decode cMd_init 5 = .ok (.bipush 6, 2) := by decide +kernel
theorem dMd_init_7 : decode cMd_init 7 = .ok (.newarray .int, 2) := by decide +kernel
theorem dMd_init_9 : decode cMd_init 9 = .ok (.putfield 7, 3) := by decide +kernel
theorem dMd_init_12 : decode cMd_init 12 = .ok (.aload_n 0, 1) := by decide +kernel
theorem dMd_init_13 : decode cMd_init 13 = .ok (.bipush 18, 2) := by decide +kernel
theorem dMd_init_15 : decode cMd_init 15 = .ok (.newarray .int, 2) := by decide +kernel
theorem dMd_init_17 : decode cMd_init 17 = .ok (.putfield 13, 3) := by decide +kernel
theorem dMd_init_20 : decode cMd_init 20 = .ok (.aload_n 0, 1) := by decide +kernel
theorem dMd_init_21 : decode cMd_init 21 = .ok (.bipush 6, 2) := by decide +kernel
theorem dMd_init_23 : decode cMd_init 23 = .ok (.newarray .int, 2) := by decide +kernel
theorem dMd_init_25 : decode cMd_init 25 = .ok (.putfield 16, 3) := by decide +kernel
theorem dMd_init_28 : decode cMd_init 28 = .ok (.aload_n 0, 1) := by decide +kernel
theorem dMd_init_29 : decode cMd_init 29 = .ok (.bipush 36, 2) := by decide +kernel
theorem dMd_init_31 : decode cMd_init 31 = .ok (.newarray .int, 2) := by decide +kernel
theorem dMd_init_33 : decode cMd_init 33 = .ok (.putfield 19, 3) := by decide +kernel
theorem dMd_init_36 : decode cMd_init 36 = .ok (.aload_n 0, 1) := by decide +kernel
theorem dMd_init_37 : decode cMd_init 37 = .ok (.bipush 36, 2) := by decide +kernel
theorem dMd_init_39 : decode cMd_init 39 = .ok (.newarray .int, 2) := by decide +kernel
theorem dMd_init_41 : decode cMd_init 41 = .ok (.putfield 22, 3) := by decide +kernel
theorem dMd_init_44 : decode cMd_init 44 = .ok (.aload_n 0, 1) := by decide +kernel
theorem dMd_init_45 : decode cMd_init 45 = .ok (.bipush 36, 2) := by decide +kernel
theorem dMd_init_47 : decode cMd_init 47 = .ok (.newarray .boolean, 2) := by decide +kernel
theorem dMd_init_49 : decode cMd_init 49 = .ok (.putfield 25, 3) := by decide +kernel
theorem dMd_init_52 : decode cMd_init 52 = .ok (.aload_n 0, 1) := by decide +kernel
theorem dMd_init_53 : decode cMd_init 53 = .ok (.bipush 6, 2) := by decide +kernel
theorem dMd_init_55 : decode cMd_init 55 = .ok (.newarray .int, 2) := by decide +kernel
theorem dMd_init_57 : decode cMd_init 57 = .ok (.putfield 29, 3) := by decide +kernel
theorem dMd_init_60 : decode cMd_init 60 = .ok (.aload_n 0, 1) := by decide +kernel
theorem dMd_init_61 : decode cMd_init 61 = .ok (.bipush 36, 2) := by decide +kernel
theorem dMd_init_63 : decode cMd_init 63 = .ok (.newarray .int, 2) := by decide +kernel
theorem dMd_init_65 : decode cMd_init 65 = .ok (.putfield 32, 3) := by decide +kernel
theorem dMd_init_68 : decode cMd_init 68 = .ok (.aload_n 0, 1) := by decide +kernel
theorem dMd_init_69 : decode cMd_init 69 = .ok (.bipush 36, 2) := by decide +kernel
theorem dMd_init_71 : decode cMd_init 71 = .ok (.newarray .int, 2) := by decide +kernel
theorem dMd_init_73 : decode cMd_init 73 = .ok (.putfield 35, 3) := by decide +kernel
theorem dMd_init_76 : decode cMd_init 76 = .ok (.aload_n 0, 1) := by decide +kernel
theorem dMd_init_77 : decode cMd_init 77 = .ok (.bipush 36, 2) := by decide +kernel
theorem dMd_init_79 : decode cMd_init 79 = .ok (.newarray .int, 2) := by decide +kernel
theorem dMd_init_81 : decode cMd_init 81 = .ok (.putfield 38, 3) := by decide +kernel
theorem dMd_init_84 : decode cMd_init 84 = .ok (.aload_n 0, 1) := by decide +kernel
theorem dMd_init_85 : decode cMd_init 85 = .ok (.bipush 36, 2) := by decide +kernel
theorem dMd_init_87 : decode cMd_init 87 = .ok (.newarray .int, 2) := by decide +kernel
theorem dMd_init_89 : decode cMd_init 89 = .ok (.putfield 41, 3) := by decide +kernel
theorem dMd_init_92 : decode cMd_init 92 = .ok (.aload_n 0, 1) := by decide +kernel
theorem dMd_init_93 : decode cMd_init 93 = .ok (.bipush 6, 2) := by decide +kernel
theorem dMd_init_95 : decode cMd_init 95 = .ok (.newarray .int, 2) := by decide +kernel
theorem dMd_init_97 : decode cMd_init 97 = .ok (.putfield 44, 3) := by decide +kernel
theorem dMd_init_100 : decode cMd_init 100 = .ok (.aload_n 0, 1) := by decide +kernel
theorem dMd_init_101 : decode cMd_init 101 = .ok (.bipush 6, 2) := by decide +kernel
theorem dMd_init_103 : decode cMd_init 103 = .ok (.newarray .boolean, 2) := by decide +kernel
theorem dMd_init_105 : decode cMd_init 105 = .ok (.putfield 47, 3) := by decide +kernel
theorem dMd_init_108 : decode cMd_init 108 = .ok (.aload_n 0, 1) := by decide +kernel
theorem dMd_init_109 : decode cMd_init 109 = .ok (.bipush 6, 2) := by decide +kernel
theorem dMd_init_111 : decode cMd_init 111 = .ok (.newarray .int, 2) := by decide +kernel
theorem dMd_init_113 : decode cMd_init 113 = .ok (.putfield 50, 3) := by decide +kernel
theorem dMd_init_116 : decode cMd_init 116 = .ok (.aload_n 0, 1) := by decide +kernel
theorem dMd_init_117 : decode cMd_init 117 = .ok (.bipush 36, 2) := by decide +kernel
theorem dMd_init_119 : decode cMd_init 119 = .ok (.newarray .int, 2) := by decide +kernel
theorem dMd_init_121 : decode cMd_init 121 = .ok (.putfield 53, 3) := by decide +kernel
theorem dMd_init_124 : decode cMd_init 124 = .ok (.aload_n 0, 1) := by decide +kernel
theorem dMd_init_125 : decode cMd_init 125 = .ok (.bipush 6, 2) := by decide +kernel
theorem dMd_init_127 : decode cMd_init 127 = .ok (.newarray .int, 2) := by decide +kernel
theorem dMd_init_129 : decode cMd_init 129 = .ok (.putfield 56, 3) := by decide +kernel
theorem dMd_init_132 : decode cMd_init 132 = .ok (.aload_n 0, 1) := by decide +kernel
theorem dMd_init_133 : decode cMd_init 133 = .ok (.bipush 36, 2) := by decide +kernel
theorem dMd_init_135 : decode cMd_init 135 = .ok (.newarray .boolean, 2) := by decide +kernel
theorem dMd_init_137 : decode cMd_init 137 = .ok (.putfield 59, 3) := by decide +kernel
theorem dMd_init_140 : decode cMd_init 140 = .ok (.aload_n 0, 1) := by decide +kernel
theorem dMd_init_141 : decode cMd_init 141 = .ok (.bipush 6, 2) := by decide +kernel
theorem dMd_init_143 : decode cMd_init 143 = .ok (.newarray .int, 2) := by decide +kernel
theorem dMd_init_145 : decode cMd_init 145 = .ok (.putfield 62, 3) := by decide +kernel
theorem dMd_init_148 : decode cMd_init 148 = .ok (.aload_n 0, 1) := by decide +kernel
theorem dMd_init_149 : decode cMd_init 149 = .ok (.bipush 6, 2) := by decide +kernel
theorem dMd_init_151 : decode cMd_init 151 = .ok (.newarray .int, 2) := by decide +kernel
theorem dMd_init_153 : decode cMd_init 153 = .ok (.putfield 65, 3) := by decide +kernel
theorem dMd_init_156 : decode cMd_init 156 = .ok (.aload_n 0, 1) := by decide +kernel
theorem dMd_init_157 : decode cMd_init 157 = .ok (.bipush 6, 2) := by decide +kernel
theorem dMd_init_159 : decode cMd_init 159 = .ok (.newarray .int, 2) := by decide +kernel
theorem dMd_init_161 : decode cMd_init 161 = .ok (.putfield 68, 3) := by decide +kernel
theorem dMd_init_164 : decode cMd_init 164 = .ok (.aload_n 0, 1) := by decide +kernel
theorem dMd_init_165 : decode cMd_init 165 = .ok (.bipush 32, 2) := by decide +kernel
theorem dMd_init_167 : decode cMd_init 167 = .ok (.newarray .int, 2) := by decide +kernel
theorem dMd_init_169 : decode cMd_init 169 = .ok (.putfield 71, 3) := by decide +kernel
theorem dMd_init_172 : decode cMd_init 172 = .ok (.aload_n 0, 1) := by decide +kernel
theorem dMd_init_173 : decode cMd_init 173 = .ok (.bipush 6, 2) := by decide +kernel
theorem dMd_init_175 : decode cMd_init 175 = .ok (.newarray .int, 2) := by decide +kernel
theorem dMd_init_177 : decode cMd_init 177 = .ok (.putfield 74, 3) := by decide +kernel
theorem dMd_init_180 : decode cMd_init 180 = .ok (.aload_n 0, 1) := by decide +kernel
theorem dMd_init_181 : decode cMd_init 181 = .ok (.bipush 6, 2) := by decide +kernel
theorem dMd_init_183 : decode cMd_init 183 = .ok (.newarray .boolean, 2) := by decide +kernel
theorem dMd_init_185 : decode cMd_init 185 = .ok (.putfield 77, 3) := by decide +kernel
theorem dMd_init_188 : decode cMd_init 188 = .ok (.aload_n 0, 1) := by decide +kernel
theorem dMd_init_189 : decode cMd_init 189 = .ok (.bipush 6, 2) := by decide +kernel
theorem dMd_init_191 : decode cMd_init 191 = .ok (.newarray .boolean, 2) := by decide +kernel
theorem dMd_init_193 : decode cMd_init 193 = .ok (.putfield 80, 3) := by decide +kernel
theorem dMd_init_196 : decode cMd_init 196 = .ok (.aload_n 0, 1) := by decide +kernel
theorem dMd_init_197 : decode cMd_init 197 = .ok (.bipush 8, 2) := by decide +kernel
theorem dMd_init_199 : decode cMd_init 199 = .ok (.newarray .int, 2) := by decide +kernel
theorem dMd_init_201 : decode cMd_init 201 = .ok (.putfield 83, 3) := by decide +kernel
theorem dMd_init_204 : decode cMd_init 204 = .ok (.aload_n 0, 1) := by decide +kernel
theorem dMd_init_205 : decode cMd_init 205 = .ok (.bipush 8, 2) := by decide +kernel
theorem dMd_init_207 : decode cMd_init 207 = .ok (.newarray .int, 2) := by decide +kernel
theorem dMd_init_209 : decode cMd_init 209 = .ok (.putfield 86, 3) := by decide +kernel
theorem dMd_init_212 : decode cMd_init 212 = .ok (.aload_n 0, 1) := by decide +kernel
theorem dMd_init_213 : decode cMd_init 213 = .ok (.bipush 6, 2) := by decide +kernel
theorem dMd_init_215 : decode cMd_init 215 = .ok (.newarray .boolean, 2) := by decide +kernel
theorem dMd_init_217 : decode cMd_init 217 = .ok (.putfield 89, 3) := by decide +kernel
theorem dMd_init_220 : decode cMd_init 220 = .ok (.aload_n 0, 1) := by decide +kernel
theorem dMd_init_221 : decode cMd_init 221 = .ok (.bipush 40, 2) := by decide +kernel
theorem dMd_init_223 : decode cMd_init 223 = .ok (.newarray .int, 2) := by decide +kernel
theorem dMd_init_225 : decode cMd_init 225 = .ok (.putfield 92, 3) := by decide +kernel
theorem dMd_init_228 : decode cMd_init 228 = .ok (.return_, 1) := by decide +kernel
theorem dMd_thrown_0 : decode cMd_thrown 0 = .ok (.aload_n 0, 1) := by decide +kernel
theorem dMd_thrown_1 : decode cMd_thrown 1 = .ok (.getfield 95, 3) := by decide +kernel
theorem dMd_thrown_4 : decode cMd_thrown 4 = .ok (.ireturn, 1) := by decide +kernel
theorem dMd_isObject_0 : decode cMd_isObject 0 = .ok (.iload_n 0, 1) := by decide +kernel
theorem dMd_isObject_1 : decode cMd_isObject 1 = .ok (.ifCond .lt 13, 3) := by decide +kernel
theorem dMd_isObject_4 : decode cMd_isObject 4 = .ok (.iload_n 0, 1) := by decide +kernel
theorem dMd_isObject_5 : decode cMd_isObject 5 = .ok (.bipush 6, 2) := by decide +kernel
theorem dMd_isObject_7 : decode cMd_isObject 7 = .ok (.if_icmp .ge 7, 3) := by decide +kernel
theorem dMd_isObject_10 : decode cMd_isObject 10 = .ok (.iconst 1, 1) := by decide +kernel
theorem dMd_isObject_11 : decode cMd_isObject 11 = .ok (.goto 4, 3) := by decide +kernel
theorem dMd_isObject_14 : decode cMd_isObject 14 = .ok (.iconst 0, 1) := by decide +kernel
theorem dMd_isObject_15 : decode cMd_isObject 15 = .ok (.ireturn, 1) := by decide +kernel
theorem dMd_refused_0 : decode cMd_refused 0 = .ok (.aload_n 0, 1) := by decide +kernel
theorem dMd_refused_1 : decode cMd_refused 1 = .ok (.iload_n 1, 1) := by decide +kernel
theorem dMd_refused_2 : decode cMd_refused 2 = .ok (.ifCond .eq 7, 3) := by decide +kernel
theorem dMd_refused_5 : decode cMd_refused 5 = .ok (.iconst 1, 1) := by decide +kernel
theorem dMd_refused_6 : decode cMd_refused 6 = .ok (.goto 20, 3) := by decide +kernel
theorem dMd_refused_9 : decode cMd_refused 9 = .ok (.iload_n 2, 1) := by decide +kernel
theorem dMd_refused_10 : decode cMd_refused 10 = .ok (.ifCond .eq 7, 3) := by decide +kernel
theorem dMd_refused_13 : decode cMd_refused 13 = .ok (.iconst 2, 1) := by decide +kernel
theorem dMd_refused_14 : decode cMd_refused 14 = .ok (.goto 12, 3) := by decide +kernel
theorem dMd_refused_17 : decode cMd_refused 17 = .ok (.iload_n 3, 1) := by decide +kernel
theorem dMd_refused_18 : decode cMd_refused 18 = .ok (.ifCond .eq 7, 3) := by decide +kernel
theorem dMd_refused_21 : decode cMd_refused 21 = .ok (.iconst 3, 1) := by decide +kernel
theorem dMd_refused_22 : decode cMd_refused 22 = .ok (.goto 4, 3) := by decide +kernel
theorem dMd_refused_25 : decode cMd_refused 25 = .ok (.iconst 0, 1) := by decide +kernel
theorem dMd_refused_26 : decode cMd_refused 26 = .ok (.putfield 95, 3) := by decide +kernel
theorem dMd_refused_29 : decode cMd_refused 29 = .ok (.aload_n 0, 1) := by decide +kernel
theorem dMd_refused_30 : decode cMd_refused 30 = .ok (.getfield 95, 3) := by decide +kernel
theorem dMd_refused_33 : decode cMd_refused 33 = .ok (.ifCond .le 7, 3) := by decide +kernel
theorem dMd_refused_36 : decode cMd_refused 36 = .ok (.iconst 1, 1) := by decide +kernel
theorem dMd_refused_37 : decode cMd_refused 37 = .ok (.goto 4, 3) := by decide +kernel
theorem dMd_refused_40 : decode cMd_refused 40 = .ok (.iconst 0, 1) := by decide +kernel
theorem dMd_refused_41 : decode cMd_refused 41 = .ok (.ireturn, 1) := by decide +kernel
theorem dMd_isName_0 : decode cMd_isName 0 = .ok (.iconst 0, 1) := by decide +kernel
theorem dMd_isName_1 : decode cMd_isName 1 = .ok (.istore_n 1, 1) := by decide +kernel
theorem dMd_isName_2 : decode cMd_isName 2 = .ok (.iconst 0, 1) := by decide +kernel
theorem dMd_isName_3 : decode cMd_isName 3 = .ok (.istore_n 2, 1) := by decide +kernel
theorem dMd_isName_4 : decode cMd_isName 4 = .ok (.iconst 1, 1) := by decide +kernel
theorem dMd_isName_5 : decode cMd_isName 5 = .ok (.istore_n 3, 1) := by decide +kernel
theorem dMd_isName_6 : decode cMd_isName 6 = .ok (.iconst 0, 1) := by decide +kernel
theorem dMd_isName_7 : decode cMd_isName 7 = .ok (.istore 4, 2) := by decide +kernel
theorem dMd_isName_9 : decode cMd_isName 9 = .ok (.iload 4, 2) := by decide +kernel
theorem dMd_isName_11 : decode cMd_isName 11 = .ok (.iconst 4, 1) := by decide +kernel
theorem dMd_isName_12 : decode cMd_isName 12 = .ok (.if_icmp .ge 85, 3) := by decide +kernel
theorem dMd_isName_15 : decode cMd_isName 15 = .ok (.iload_n 0, 1) := by decide +kernel
theorem dMd_isName_16 : decode cMd_isName 16 = .ok (.bipush 8, 2) := by decide +kernel
theorem dMd_isName_18 : decode cMd_isName 18 = .ok (.iload 4, 2) := by decide +kernel
theorem dMd_isName_20 : decode cMd_isName 20 = .ok (.imul, 1) := by decide +kernel
theorem dMd_isName_21 : decode cMd_isName 21 = .ok (.ishr, 1) := by decide +kernel
theorem dMd_isName_22 : decode cMd_isName 22 = .ok (.sipush 255, 3) := by decide +kernel
theorem dMd_isName_25 : decode cMd_isName 25 = .ok (.iand, 1) := by decide +kernel
theorem dMd_isName_26 : decode cMd_isName 26 = .ok (.istore 5, 2) := by decide +kernel
theorem dMd_isName_28 : decode cMd_isName 28 = .ok (.iload_n 2, 1) := by decide +kernel
theorem dMd_isName_29 : decode cMd_isName 29 = .ok (.ifCond .ne 8, 3) := by decide +kernel
theorem dMd_isName_32 : decode cMd_isName 32 = .ok (.iload 5, 2) := by decide +kernel
theorem dMd_isName_34 : decode cMd_isName 34 = .ok (.ifCond .ne 7, 3) := by decide +kernel
theorem dMd_isName_37 : decode cMd_isName 37 = .ok (.iconst 1, 1) := by decide +kernel
theorem dMd_isName_38 : decode cMd_isName 38 = .ok (.goto 4, 3) := by decide +kernel
theorem dMd_isName_41 : decode cMd_isName 41 = .ok (.iconst 0, 1) := by decide +kernel
theorem dMd_isName_42 : decode cMd_isName 42 = .ok (.istore_n 2, 1) := by decide +kernel
theorem dMd_isName_43 : decode cMd_isName 43 = .ok (.iload_n 3, 1) := by decide +kernel
theorem dMd_isName_44 : decode cMd_isName 44 = .ok (.ifCond .eq 33, 3) := by decide +kernel
theorem dMd_isName_47 : decode cMd_isName 47 = .ok (.iload_n 2, 1) := by decide +kernel
theorem dMd_isName_48 : decode cMd_isName 48 = .ok (.ifCond .eq 11, 3) := by decide +kernel
theorem dMd_isName_51 : decode cMd_isName 51 = .ok (.iload 5, 2) := by decide +kernel
theorem dMd_isName_53 : decode cMd_isName 53 = .ok (.ifCond .ne 24, 3) := by decide +kernel
theorem dMd_isName_56 : decode cMd_isName 56 = .ok (.goto 17, 3) := by decide +kernel
theorem dMd_isName_59 : decode cMd_isName 59 = .ok (.iload 5, 2) := by decide +kernel
theorem dMd_isName_61 : decode cMd_isName 61 = .ok (.bipush 97, 2) := by decide +kernel
theorem dMd_isName_63 : decode cMd_isName 63 = .ok (.if_icmp .lt 14, 3) := by decide +kernel
theorem dMd_isName_66 : decode cMd_isName 66 = .ok (.iload 5, 2) := by decide +kernel
theorem dMd_isName_68 : decode cMd_isName 68 = .ok (.bipush 122, 2) := by decide +kernel
theorem dMd_isName_70 : decode cMd_isName 70 = .ok (.if_icmp .gt 7, 3) := by decide +kernel
theorem dMd_isName_73 : decode cMd_isName 73 = .ok (.iconst 1, 1) := by decide +kernel
theorem dMd_isName_74 : decode cMd_isName 74 = .ok (.goto 4, 3) := by decide +kernel
theorem dMd_isName_77 : decode cMd_isName 77 = .ok (.iconst 0, 1) := by decide +kernel
theorem dMd_isName_78 : decode cMd_isName 78 = .ok (.istore_n 3, 1) := by decide +kernel
theorem dMd_isName_79 : decode cMd_isName 79 = .ok (.iload_n 2, 1) := by decide +kernel
theorem dMd_isName_80 : decode cMd_isName 80 = .ok (.ifCond .eq 7, 3) := by decide +kernel
theorem dMd_isName_83 : decode cMd_isName 83 = .ok (.iload_n 1, 1) := by decide +kernel
theorem dMd_isName_84 : decode cMd_isName 84 = .ok (.goto 6, 3) := by decide +kernel
theorem dMd_isName_87 : decode cMd_isName 87 = .ok (.iload_n 1, 1) := by decide +kernel
theorem dMd_isName_88 : decode cMd_isName 88 = .ok (.iconst 1, 1) := by decide +kernel
theorem dMd_isName_89 : decode cMd_isName 89 = .ok (.iadd, 1) := by decide +kernel
theorem dMd_isName_90 : decode cMd_isName 90 = .ok (.istore_n 1, 1) := by decide +kernel
theorem dMd_isName_91 : decode cMd_isName 91 = .ok (.iinc 4 1, 3) := by decide +kernel
theorem dMd_isName_94 : decode cMd_isName 94 = .ok (.goto (-85), 3) := by decide +kernel
theorem dMd_isName_97 : decode cMd_isName 97 = .ok (.iload_n 3, 1) := by decide +kernel
theorem dMd_isName_98 : decode cMd_isName 98 = .ok (.ifCond .eq 11, 3) := by decide +kernel
theorem dMd_isName_101 : decode cMd_isName 101 = .ok (.iload_n 1, 1) := by decide +kernel
theorem dMd_isName_102 : decode cMd_isName 102 = .ok (.ifCond .le 7, 3) := by decide +kernel
theorem dMd_isName_105 : decode cMd_isName 105 = .ok (.iconst 1, 1) := by decide +kernel
theorem dMd_isName_106 : decode cMd_isName 106 = .ok (.goto 4, 3) := by decide +kernel
theorem dMd_isName_109 : decode cMd_isName 109 = .ok (.iconst 0, 1) := by decide +kernel
theorem dMd_isName_110 : decode cMd_isName 110 = .ok (.ireturn, 1) := by decide +kernel
theorem dMd_hash_0 : decode cMd_hash 0 = .ok (.iconst 0, 1) := by decide +kernel
theorem dMd_hash_1 : decode cMd_hash 1 = .ok (.istore_n 1, 1) := by decide +kernel
theorem dMd_hash_2 : decode cMd_hash 2 = .ok (.iconst 0, 1) := by decide +kernel
theorem dMd_hash_3 : decode cMd_hash 3 = .ok (.istore_n 2, 1) := by decide +kernel
theorem dMd_hash_4 : decode cMd_hash 4 = .ok (.iload_n 2, 1) := by decide +kernel
theorem dMd_hash_5 : decode cMd_hash 5 = .ok (.iconst 4, 1) := by decide +kernel
theorem dMd_hash_6 : decode cMd_hash 6 = .ok (.if_icmp .ge 35, 3) := by decide +kernel
theorem dMd_hash_9 : decode cMd_hash 9 = .ok (.iload_n 0, 1) := by decide +kernel
theorem dMd_hash_10 : decode cMd_hash 10 = .ok (.bipush 8, 2) := by decide +kernel
theorem dMd_hash_12 : decode cMd_hash 12 = .ok (.iload_n 2, 1) := by decide +kernel
theorem dMd_hash_13 : decode cMd_hash 13 = .ok (.imul, 1) := by decide +kernel
theorem dMd_hash_14 : decode cMd_hash 14 = .ok (.ishr, 1) := by decide +kernel
theorem dMd_hash_15 : decode cMd_hash 15 = .ok (.sipush 255, 3) := by decide +kernel
theorem dMd_hash_18 : decode cMd_hash 18 = .ok (.iand, 1) := by decide +kernel
theorem dMd_hash_19 : decode cMd_hash 19 = .ok (.istore_n 3, 1) := by decide +kernel
theorem dMd_hash_20 : decode cMd_hash 20 = .ok (.iload_n 3, 1) := by decide +kernel
theorem dMd_hash_21 : decode cMd_hash 21 = .ok (.ifCond .ne 7, 3) := by decide +kernel
theorem dMd_hash_24 : decode cMd_hash 24 = .ok (.iload_n 1, 1) := by decide +kernel
theorem dMd_hash_25 : decode cMd_hash 25 = .ok (.goto 9, 3) := by decide +kernel
theorem dMd_hash_28 : decode cMd_hash 28 = .ok (.bipush 16, 2) := by decide +kernel
theorem dMd_hash_30 : decode cMd_hash 30 = .ok (.iload_n 1, 1) := by decide +kernel
theorem dMd_hash_31 : decode cMd_hash 31 = .ok (.imul, 1) := by decide +kernel
theorem dMd_hash_32 : decode cMd_hash 32 = .ok (.iload_n 3, 1) := by decide +kernel
theorem dMd_hash_33 : decode cMd_hash 33 = .ok (.iadd, 1) := by decide +kernel
theorem dMd_hash_34 : decode cMd_hash 34 = .ok (.istore_n 1, 1) := by decide +kernel
theorem dMd_hash_35 : decode cMd_hash 35 = .ok (.iinc 2 1, 3) := by decide +kernel
theorem dMd_hash_38 : decode cMd_hash 38 = .ok (.goto (-34), 3) := by decide +kernel
theorem dMd_hash_41 : decode cMd_hash 41 = .ok (.iload_n 1, 1) := by decide +kernel
theorem dMd_hash_42 : decode cMd_hash 42 = .ok (.iconst 3, 1) := by decide +kernel
theorem dMd_hash_43 : decode cMd_hash 43 = .ok (.irem, 1) := by decide +kernel
theorem dMd_hash_44 : decode cMd_hash 44 = .ok (.ireturn, 1) := by decide +kernel
theorem dMd_fixed_0 : decode cMd_fixed 0 = .ok (.aload_n 0, 1) := by decide +kernel
theorem dMd_fixed_1 : decode cMd_fixed 1 = .ok (.getfield 7, 3) := by decide +kernel
theorem dMd_fixed_4 : decode cMd_fixed 4 = .ok (.iload_n 1, 1) := by decide +kernel
theorem dMd_fixed_5 : decode cMd_fixed 5 = .ok (.iaload, 1) := by decide +kernel
theorem dMd_fixed_6 : decode cMd_fixed 6 = .ok (.ifCond .eq 12, 3) := by decide +kernel
theorem dMd_fixed_9 : decode cMd_fixed 9 = .ok (.aload_n 0, 1) := by decide +kernel
theorem dMd_fixed_10 : decode cMd_fixed 10 = .ok (.getfield 47, 3) := by decide +kernel
theorem dMd_fixed_13 : decode cMd_fixed 13 = .ok (.iload_n 1, 1) := by decide +kernel
theorem dMd_fixed_14 : decode cMd_fixed 14 = .ok (.baload, 1) := by decide +kernel
theorem dMd_fixed_15 : decode cMd_fixed 15 = .ok (.ifCond .eq 7, 3) := by decide +kernel
theorem dMd_fixed_18 : decode cMd_fixed 18 = .ok (.iconst 1, 1) := by decide +kernel
theorem dMd_fixed_19 : decode cMd_fixed 19 = .ok (.goto 4, 3) := by decide +kernel
theorem dMd_fixed_22 : decode cMd_fixed 22 = .ok (.iconst 0, 1) := by decide +kernel
theorem dMd_fixed_23 : decode cMd_fixed 23 = .ok (.ireturn, 1) := by decide +kernel
theorem dMd_isWord_0 : decode cMd_isWord 0 = .ok (.iload_n 2, 1) := by decide +kernel
theorem dMd_isWord_1 : decode cMd_isWord 1 = .ok (.ifCond .lt 17, 3) := by decide +kernel
theorem dMd_isWord_4 : decode cMd_isWord 4 = .ok (.iload_n 2, 1) := by decide +kernel
theorem dMd_isWord_5 : decode cMd_isWord 5 = .ok (.aload_n 0, 1) := by decide +kernel
theorem dMd_isWord_6 : decode cMd_isWord 6 = .ok (.getfield 7, 3) := by decide +kernel
theorem dMd_isWord_9 : decode cMd_isWord 9 = .ok (.iload_n 1, 1) := by decide +kernel
theorem dMd_isWord_10 : decode cMd_isWord 10 = .ok (.iaload, 1) := by decide +kernel
theorem dMd_isWord_11 : decode cMd_isWord 11 = .ok (.if_icmp .ge 7, 3) := by decide +kernel
theorem dMd_isWord_14 : decode cMd_isWord 14 = .ok (.iconst 1, 1) := by decide +kernel
theorem dMd_isWord_15 : decode cMd_isWord 15 = .ok (.goto 4, 3) := by decide +kernel
theorem dMd_isWord_18 : decode cMd_isWord 18 = .ok (.iconst 0, 1) := by decide +kernel
theorem dMd_isWord_19 : decode cMd_isWord 19 = .ok (.ireturn, 1) := by decide +kernel
theorem dMd_image_0 : decode cMd_image 0 = .ok (.aload_n 0, 1) := by decide +kernel
theorem dMd_image_1 : decode cMd_image 1 = .ok (.iload_n 1, 1) := by decide +kernel
theorem dMd_image_2 : decode cMd_image 2 = .ok (.invokestatic 99, 3) := by decide +kernel
theorem dMd_image_5 : decode cMd_image 5 = .ok (.ifCond .ne 7, 3) := by decide +kernel
theorem dMd_image_8 : decode cMd_image 8 = .ok (.iconst 1, 1) := by decide +kernel
theorem dMd_image_9 : decode cMd_image 9 = .ok (.goto 4, 3) := by decide +kernel
theorem dMd_image_12 : decode cMd_image 12 = .ok (.iconst 0, 1) := by decide +kernel
theorem dMd_image_13 : decode cMd_image 13 = .ok (.iload_n 2, 1) := by decide +kernel
theorem dMd_image_14 : decode cMd_image 14 = .ok (.iconst 1, 1) := by decide +kernel
theorem dMd_image_15 : decode cMd_image 15 = .ok (.if_icmp .lt 9, 3) := by decide +kernel
theorem dMd_image_18 : decode cMd_image 18 = .ok (.iload_n 2, 1) := by decide +kernel
theorem dMd_image_19 : decode cMd_image 19 = .ok (.bipush 8, 2) := by decide +kernel
theorem dMd_image_21 : decode cMd_image 21 = .ok (.if_icmp .le 7, 3) := by decide +kernel
theorem dMd_image_24 : decode cMd_image 24 = .ok (.iconst 1, 1) := by decide +kernel
theorem dMd_image_25 : decode cMd_image 25 = .ok (.goto 4, 3) := by decide +kernel
theorem dMd_image_28 : decode cMd_image 28 = .ok (.iconst 0, 1) := by decide +kernel
theorem dMd_image_29 : decode cMd_image 29 = .ok (.iload_n 1, 1) := by decide +kernel
theorem dMd_image_30 : decode cMd_image 30 = .ok (.invokestatic 99, 3) := by decide +kernel
theorem dMd_image_33 : decode cMd_image 33 = .ok (.ifCond .eq 16, 3) := by decide +kernel
theorem dMd_image_36 : decode cMd_image 36 = .ok (.aload_n 0, 1) := by decide +kernel
theorem dMd_image_37 : decode cMd_image 37 = .ok (.getfield 47, 3) := by decide +kernel
theorem dMd_image_40 : decode cMd_image 40 = .ok (.iload_n 1, 1) := by decide +kernel
theorem dMd_image_41 : decode cMd_image 41 = .ok (.baload, 1) := by decide +kernel
theorem dMd_image_42 : decode cMd_image 42 = .ok (.ifCond .eq 7, 3) := by decide +kernel
theorem dMd_image_45 : decode cMd_image 45 = .ok (.iconst 1, 1) := by decide +kernel
theorem dMd_image_46 : decode cMd_image 46 = .ok (.goto 4, 3) := by decide +kernel
theorem dMd_image_49 : decode cMd_image 49 = .ok (.iconst 0, 1) := by decide +kernel
theorem dMd_image_50 : decode cMd_image 50 = .ok (.invokevirtual 103, 3) := by decide +kernel
theorem dMd_image_53 : decode cMd_image 53 = .ok (.ifCond .eq 4, 3) := by decide +kernel
theorem dMd_image_56 : decode cMd_image 56 = .ok (.return_, 1) := by decide +kernel
theorem dMd_image_57 : decode cMd_image 57 = .ok (.aload_n 0, 1) := by decide +kernel
theorem dMd_image_58 : decode cMd_image 58 = .ok (.getfield 7, 3) := by decide +kernel
theorem dMd_image_61 : decode cMd_image 61 = .ok (.iload_n 1, 1) := by decide +kernel
theorem dMd_image_62 : decode cMd_image 62 = .ok (.iload_n 2, 1) := by decide +kernel
theorem dMd_image_63 : decode cMd_image 63 = .ok (.iastore, 1) := by decide +kernel
theorem dMd_image_64 : decode cMd_image 64 = .ok (.aload_n 0, 1) := by decide +kernel
theorem dMd_image_65 : decode cMd_image 65 = .ok (.getfield 16, 3) := by decide +kernel
theorem dMd_image_68 : decode cMd_image 68 = .ok (.iload_n 1, 1) := by decide +kernel
theorem dMd_image_69 : decode cMd_image 69 = .ok (.iconst 0, 1) := by decide +kernel
theorem dMd_image_70 : decode cMd_image 70 = .ok (.iastore, 1) := by decide +kernel
theorem dMd_image_71 : decode cMd_image 71 = .ok (.aload_n 0, 1) := by decide +kernel
theorem dMd_image_72 : decode cMd_image 72 = .ok (.getfield 29, 3) := by decide +kernel
theorem dMd_image_75 : decode cMd_image 75 = .ok (.iload_n 1, 1) := by decide +kernel
theorem dMd_image_76 : decode cMd_image 76 = .ok (.iconst 0, 1) := by decide +kernel
theorem dMd_image_77 : decode cMd_image 77 = .ok (.iastore, 1) := by decide +kernel
theorem dMd_image_78 : decode cMd_image 78 = .ok (.aload_n 0, 1) := by decide +kernel
theorem dMd_image_79 : decode cMd_image 79 = .ok (.getfield 44, 3) := by decide +kernel
theorem dMd_image_82 : decode cMd_image 82 = .ok (.iload_n 1, 1) := by decide +kernel
theorem dMd_image_83 : decode cMd_image 83 = .ok (.iconst 0, 1) := by decide +kernel
theorem dMd_image_84 : decode cMd_image 84 = .ok (.iastore, 1) := by decide +kernel
theorem dMd_image_85 : decode cMd_image 85 = .ok (.return_, 1) := by decide +kernel
theorem dMd_hasNeed_0 : decode cMd_hasNeed 0 = .ok (.iconst 0, 1) := by decide +kernel
theorem dMd_hasNeed_1 : decode cMd_hasNeed 1 = .ok (.istore_n 3, 1) := by decide +kernel
theorem dMd_hasNeed_2 : decode cMd_hasNeed 2 = .ok (.iconst 0, 1) := by decide +kernel
theorem dMd_hasNeed_3 : decode cMd_hasNeed 3 = .ok (.istore 4, 2) := by decide +kernel
theorem dMd_hasNeed_5 : decode cMd_hasNeed 5 = .ok (.iload 4, 2) := by decide +kernel
theorem dMd_hasNeed_7 : decode cMd_hasNeed 7 = .ok (.aload_n 0, 1) := by decide +kernel
theorem dMd_hasNeed_8 : decode cMd_hasNeed 8 = .ok (.getfield 16, 3) := by decide +kernel
theorem dMd_hasNeed_11 : decode cMd_hasNeed 11 = .ok (.iload_n 1, 1) := by decide +kernel
theorem dMd_hasNeed_12 : decode cMd_hasNeed 12 = .ok (.iaload, 1) := by decide +kernel
theorem dMd_hasNeed_13 : decode cMd_hasNeed 13 = .ok (.if_icmp .ge 34, 3) := by decide +kernel
theorem dMd_hasNeed_16 : decode cMd_hasNeed 16 = .ok (.iload_n 3, 1) := by decide +kernel
theorem dMd_hasNeed_17 : decode cMd_hasNeed 17 = .ok (.ifCond .ne 18, 3) := by decide +kernel
theorem dMd_hasNeed_20 : decode cMd_hasNeed 20 = .ok (.aload_n 0, 1) := by decide +kernel
theorem dMd_hasNeed_21 : decode cMd_hasNeed 21 = .ok (.getfield 13, 3) := by decide +kernel
theorem dMd_hasNeed_24 : decode cMd_hasNeed 24 = .ok (.iconst 3, 1) := by decide +kernel
theorem dMd_hasNeed_25 : decode cMd_hasNeed 25 = .ok (.iload_n 1, 1) := by decide +kernel
theorem dMd_hasNeed_26 : decode cMd_hasNeed 26 = .ok (.imul, 1) := by decide +kernel
theorem dMd_hasNeed_27 : decode cMd_hasNeed 27 = .ok (.iload 4, 2) := by decide +kernel
theorem dMd_hasNeed_29 : decode cMd_hasNeed 29 = .ok (.iadd, 1) := by decide +kernel
theorem dMd_hasNeed_30 : decode cMd_hasNeed 30 = .ok (.iaload, 1) := by decide +kernel
theorem dMd_hasNeed_31 : decode cMd_hasNeed 31 = .ok (.iload_n 2, 1) := by decide +kernel
theorem dMd_hasNeed_32 : decode cMd_hasNeed 32 = .ok (.if_icmp .ne 7, 3) := by decide +kernel
theorem dMd_hasNeed_35 : decode cMd_hasNeed 35 = .ok (.iconst 1, 1) := by decide +kernel
theorem dMd_hasNeed_36 : decode cMd_hasNeed 36 = .ok (.goto 4, 3) := by decide +kernel
theorem dMd_hasNeed_39 : decode cMd_hasNeed 39 = .ok (.iconst 0, 1) := by decide +kernel
theorem dMd_hasNeed_40 : decode cMd_hasNeed 40 = .ok (.istore_n 3, 1) := by decide +kernel
theorem dMd_hasNeed_41 : decode cMd_hasNeed 41 = .ok (.iinc 4 1, 3) := by decide +kernel
theorem dMd_hasNeed_44 : decode cMd_hasNeed 44 = .ok (.goto (-39), 3) := by decide +kernel
theorem dMd_hasNeed_47 : decode cMd_hasNeed 47 = .ok (.iload_n 3, 1) := by decide +kernel
theorem dMd_hasNeed_48 : decode cMd_hasNeed 48 = .ok (.ireturn, 1) := by decide +kernel
theorem dMd_need_0 : decode cMd_need 0 = .ok (.iload_n 1, 1) := by decide +kernel
theorem dMd_need_1 : decode cMd_need 1 = .ok (.invokestatic 99, 3) := by decide +kernel
theorem dMd_need_4 : decode cMd_need 4 = .ok (.ifCond .eq 14, 3) := by decide +kernel
theorem dMd_need_7 : decode cMd_need 7 = .ok (.iload_n 2, 1) := by decide +kernel
theorem dMd_need_8 : decode cMd_need 8 = .ok (.invokestatic 99, 3) := by decide +kernel
theorem dMd_need_11 : decode cMd_need 11 = .ok (.ifCond .eq 7, 3) := by decide +kernel
theorem dMd_need_14 : decode cMd_need 14 = .ok (.iconst 1, 1) := by decide +kernel
theorem dMd_need_15 : decode cMd_need 15 = .ok (.goto 4, 3) := by decide +kernel
theorem dMd_need_18 : decode cMd_need 18 = .ok (.iconst 0, 1) := by decide +kernel
theorem dMd_need_19 : decode cMd_need 19 = .ok (.istore_n 3, 1) := by decide +kernel
theorem dMd_need_20 : decode cMd_need 20 = .ok (.aload_n 0, 1) := by decide +kernel
theorem dMd_need_21 : decode cMd_need 21 = .ok (.iload_n 3, 1) := by decide +kernel
theorem dMd_need_22 : decode cMd_need 22 = .ok (.ifCond .ne 7, 3) := by decide +kernel
theorem dMd_need_25 : decode cMd_need 25 = .ok (.iconst 1, 1) := by decide +kernel
theorem dMd_need_26 : decode cMd_need 26 = .ok (.goto 4, 3) := by decide +kernel
theorem dMd_need_29 : decode cMd_need 29 = .ok (.iconst 0, 1) := by decide +kernel
theorem dMd_need_30 : decode cMd_need 30 = .ok (.iload_n 3, 1) := by decide +kernel
theorem dMd_need_31 : decode cMd_need 31 = .ok (.ifCond .eq 21, 3) := by decide +kernel
theorem dMd_need_34 : decode cMd_need 34 = .ok (.iload_n 1, 1) := by decide +kernel
theorem dMd_need_35 : decode cMd_need 35 = .ok (.iload_n 2, 1) := by decide +kernel
theorem dMd_need_36 : decode cMd_need 36 = .ok (.if_icmp .eq 12, 3) := by decide +kernel
theorem dMd_need_39 : decode cMd_need 39 = .ok (.aload_n 0, 1) := by decide +kernel
theorem dMd_need_40 : decode cMd_need 40 = .ok (.iload_n 1, 1) := by decide +kernel
theorem dMd_need_41 : decode cMd_need 41 = .ok (.iload_n 2, 1) := by decide +kernel
theorem dMd_need_42 : decode cMd_need 42 = .ok (.invokevirtual 107, 3) := by decide +kernel
theorem dMd_need_45 : decode cMd_need 45 = .ok (.ifCond .eq 7, 3) := by decide +kernel
theorem dMd_need_48 : decode cMd_need 48 = .ok (.iconst 1, 1) := by decide +kernel
theorem dMd_need_49 : decode cMd_need 49 = .ok (.goto 4, 3) := by decide +kernel
theorem dMd_need_52 : decode cMd_need 52 = .ok (.iconst 0, 1) := by decide +kernel
theorem dMd_need_53 : decode cMd_need 53 = .ok (.iload_n 3, 1) := by decide +kernel
theorem dMd_need_54 : decode cMd_need 54 = .ok (.ifCond .eq 25, 3) := by decide +kernel
theorem dMd_need_57 : decode cMd_need 57 = .ok (.aload_n 0, 1) := by decide +kernel
theorem dMd_need_58 : decode cMd_need 58 = .ok (.iload_n 1, 1) := by decide +kernel
theorem dMd_need_59 : decode cMd_need 59 = .ok (.invokevirtual 111, 3) := by decide +kernel
theorem dMd_need_62 : decode cMd_need 62 = .ok (.ifCond .ne 13, 3) := by decide +kernel
theorem dMd_need_65 : decode cMd_need 65 = .ok (.aload_n 0, 1) := by decide +kernel
theorem dMd_need_66 : decode cMd_need 66 = .ok (.getfield 16, 3) := by decide +kernel
theorem dMd_need_69 : decode cMd_need 69 = .ok (.iload_n 1, 1) := by decide +kernel
theorem dMd_need_70 : decode cMd_need 70 = .ok (.iaload, 1) := by decide +kernel
theorem dMd_need_71 : decode cMd_need 71 = .ok (.iconst 3, 1) := by decide +kernel
theorem dMd_need_72 : decode cMd_need 72 = .ok (.if_icmp .ne 7, 3) := by decide +kernel
theorem dMd_need_75 : decode cMd_need 75 = .ok (.iconst 1, 1) := by decide +kernel
theorem dMd_need_76 : decode cMd_need 76 = .ok (.goto 4, 3) := by decide +kernel
theorem dMd_need_79 : decode cMd_need 79 = .ok (.iconst 0, 1) := by decide +kernel
theorem dMd_need_80 : decode cMd_need 80 = .ok (.invokevirtual 103, 3) := by decide +kernel
theorem dMd_need_83 : decode cMd_need 83 = .ok (.ifCond .eq 5, 3) := by decide +kernel
theorem dMd_need_86 : decode cMd_need 86 = .ok (.iconst 0, 1) := by decide +kernel
theorem dMd_need_87 : decode cMd_need 87 = .ok (.ireturn, 1) := by decide +kernel
theorem dMd_need_88 : decode cMd_need 88 = .ok (.aload_n 0, 1) := by decide +kernel
theorem dMd_need_89 : decode cMd_need 89 = .ok (.getfield 13, 3) := by decide +kernel
theorem dMd_need_92 : decode cMd_need 92 = .ok (.iconst 3, 1) := by decide +kernel
theorem dMd_need_93 : decode cMd_need 93 = .ok (.iload_n 1, 1) := by decide +kernel
theorem dMd_need_94 : decode cMd_need 94 = .ok (.imul, 1) := by decide +kernel
theorem dMd_need_95 : decode cMd_need 95 = .ok (.aload_n 0, 1) := by decide +kernel
theorem dMd_need_96 : decode cMd_need 96 = .ok (.getfield 16, 3) := by decide +kernel
theorem dMd_need_99 : decode cMd_need 99 = .ok (.iload_n 1, 1) := by decide +kernel
theorem dMd_need_100 : decode cMd_need 100 = .ok (.iaload, 1) := by decide +kernel
theorem dMd_need_101 : decode cMd_need 101 = .ok (.iadd, 1) := by decide +kernel
theorem dMd_need_102 : decode cMd_need 102 = .ok (.iload_n 2, 1) := by decide +kernel
theorem dMd_need_103 : decode cMd_need 103 = .ok (.iastore, 1) := by decide +kernel
theorem dMd_need_104 : decode cMd_need 104 = .ok (.aload_n 0, 1) := by decide +kernel
theorem dMd_need_105 : decode cMd_need 105 = .ok (.getfield 16, 3) := by decide +kernel
theorem dMd_need_108 : decode cMd_need 108 = .ok (.iload_n 1, 1) := by decide +kernel
theorem dMd_need_109 : decode cMd_need 109 = .ok (.dup2, 1) := by decide +kernel
theorem dMd_need_110 : decode cMd_need 110 = .ok (.iaload, 1) := by decide +kernel
theorem dMd_need_111 : decode cMd_need 111 = .ok (.iconst 1, 1) := by decide +kernel
theorem dMd_need_112 : decode cMd_need 112 = .ok (.iadd, 1) := by decide +kernel
theorem dMd_need_113 : decode cMd_need 113 = .ok (.iastore, 1) := by decide +kernel
theorem dMd_need_114 : decode cMd_need 114 = .ok (.aload_n 0, 1) := by decide +kernel
theorem dMd_need_115 : decode cMd_need 115 = .ok (.getfield 16, 3) := by decide +kernel
theorem dMd_need_118 : decode cMd_need 118 = .ok (.iload_n 1, 1) := by decide +kernel
theorem dMd_need_119 : decode cMd_need 119 = .ok (.iaload, 1) := by decide +kernel
theorem dMd_need_120 : decode cMd_need 120 = .ok (.ireturn, 1) := by decide +kernel
theorem dMd_hasName_0 : decode cMd_hasName 0 = .ok (.iconst 0, 1) := by decide +kernel
theorem dMd_hasName_1 : decode cMd_hasName 1 = .ok (.istore_n 3, 1) := by decide +kernel
theorem dMd_hasName_2 : decode cMd_hasName 2 = .ok (.iconst 0, 1) := by decide +kernel
theorem dMd_hasName_3 : decode cMd_hasName 3 = .ok (.istore 4, 2) := by decide +kernel
theorem dMd_hasName_5 : decode cMd_hasName 5 = .ok (.iload 4, 2) := by decide +kernel
theorem dMd_hasName_7 : decode cMd_hasName 7 = .ok (.aload_n 0, 1) := by decide +kernel
theorem dMd_hasName_8 : decode cMd_hasName 8 = .ok (.getfield 29, 3) := by decide +kernel
theorem dMd_hasName_11 : decode cMd_hasName 11 = .ok (.iload_n 1, 1) := by decide +kernel
theorem dMd_hasName_12 : decode cMd_hasName 12 = .ok (.iaload, 1) := by decide +kernel
theorem dMd_hasName_13 : decode cMd_hasName 13 = .ok (.if_icmp .ge 35, 3) := by decide +kernel
theorem dMd_hasName_16 : decode cMd_hasName 16 = .ok (.iload_n 3, 1) := by decide +kernel
theorem dMd_hasName_17 : decode cMd_hasName 17 = .ok (.ifCond .ne 19, 3) := by decide +kernel
theorem dMd_hasName_20 : decode cMd_hasName 20 = .ok (.aload_n 0, 1) := by decide +kernel
theorem dMd_hasName_21 : decode cMd_hasName 21 = .ok (.getfield 19, 3) := by decide +kernel
theorem dMd_hasName_24 : decode cMd_hasName 24 = .ok (.bipush 6, 2) := by decide +kernel
theorem dMd_hasName_26 : decode cMd_hasName 26 = .ok (.iload_n 1, 1) := by decide +kernel
theorem dMd_hasName_27 : decode cMd_hasName 27 = .ok (.imul, 1) := by decide +kernel
theorem dMd_hasName_28 : decode cMd_hasName 28 = .ok (.iload 4, 2) := by decide +kernel
theorem dMd_hasName_30 : decode cMd_hasName 30 = .ok (.iadd, 1) := by decide +kernel
theorem dMd_hasName_31 : decode cMd_hasName 31 = .ok (.iaload, 1) := by decide +kernel
theorem dMd_hasName_32 : decode cMd_hasName 32 = .ok (.iload_n 2, 1) := by decide +kernel
theorem dMd_hasName_33 : decode cMd_hasName 33 = .ok (.if_icmp .ne 7, 3) := by decide +kernel
theorem dMd_hasName_36 : decode cMd_hasName 36 = .ok (.iconst 1, 1) := by decide +kernel
theorem dMd_hasName_37 : decode cMd_hasName 37 = .ok (.goto 4, 3) := by decide +kernel
theorem dMd_hasName_40 : decode cMd_hasName 40 = .ok (.iconst 0, 1) := by decide +kernel
theorem dMd_hasName_41 : decode cMd_hasName 41 = .ok (.istore_n 3, 1) := by decide +kernel
theorem dMd_hasName_42 : decode cMd_hasName 42 = .ok (.iinc 4 1, 3) := by decide +kernel
theorem dMd_hasName_45 : decode cMd_hasName 45 = .ok (.goto (-40), 3) := by decide +kernel
theorem dMd_hasName_48 : decode cMd_hasName 48 = .ok (.iload_n 3, 1) := by decide +kernel
theorem dMd_hasName_49 : decode cMd_hasName 49 = .ok (.ireturn, 1) := by decide +kernel
theorem dMd_symbol_0 : decode cMd_symbol 0 = .ok (.iload_n 1, 1) := by decide +kernel
theorem dMd_symbol_1 : decode cMd_symbol 1 = .ok (.invokestatic 99, 3) := by decide +kernel
theorem dMd_symbol_4 : decode cMd_symbol 4 = .ok (.istore 5, 2) := by decide +kernel
theorem dMd_symbol_6 : decode cMd_symbol 6 = .ok (.aload_n 0, 1) := by decide +kernel
theorem dMd_symbol_7 : decode cMd_symbol 7 = .ok (.iload 5, 2) := by decide +kernel
theorem dMd_symbol_9 : decode cMd_symbol 9 = .ok (.ifCond .ne 7, 3) := by decide +kernel
theorem dMd_symbol_12 : decode cMd_symbol 12 = .ok (.iconst 1, 1) := by decide +kernel
theorem dMd_symbol_13 : decode cMd_symbol 13 = .ok (.goto 4, 3) := by decide +kernel
theorem dMd_symbol_16 : decode cMd_symbol 16 = .ok (.iconst 0, 1) := by decide +kernel
theorem dMd_symbol_17 : decode cMd_symbol 17 = .ok (.iload 5, 2) := by decide +kernel
theorem dMd_symbol_19 : decode cMd_symbol 19 = .ok (.ifCond .eq 37, 3) := by decide +kernel
theorem dMd_symbol_22 : decode cMd_symbol 22 = .ok (.iload_n 2, 1) := by decide +kernel
theorem dMd_symbol_23 : decode cMd_symbol 23 = .ok (.invokestatic 114, 3) := by decide +kernel
theorem dMd_symbol_26 : decode cMd_symbol 26 = .ok (.ifCond .eq 26, 3) := by decide +kernel
theorem dMd_symbol_29 : decode cMd_symbol 29 = .ok (.aload_n 0, 1) := by decide +kernel
theorem dMd_symbol_30 : decode cMd_symbol 30 = .ok (.iload_n 1, 1) := by decide +kernel
theorem dMd_symbol_31 : decode cMd_symbol 31 = .ok (.iload_n 2, 1) := by decide +kernel
theorem dMd_symbol_32 : decode cMd_symbol 32 = .ok (.invokevirtual 117, 3) := by decide +kernel
theorem dMd_symbol_35 : decode cMd_symbol 35 = .ok (.ifCond .ne 17, 3) := by decide +kernel
theorem dMd_symbol_38 : decode cMd_symbol 38 = .ok (.iload_n 3, 1) := by decide +kernel
theorem dMd_symbol_39 : decode cMd_symbol 39 = .ok (.iconst (-1), 1) := by decide +kernel
theorem dMd_symbol_40 : decode cMd_symbol 40 = .ok (.if_icmp .eq 16, 3) := by decide +kernel
theorem dMd_symbol_43 : decode cMd_symbol 43 = .ok (.aload_n 0, 1) := by decide +kernel
theorem dMd_symbol_44 : decode cMd_symbol 44 = .ok (.iload_n 1, 1) := by decide +kernel
theorem dMd_symbol_45 : decode cMd_symbol 45 = .ok (.iload_n 3, 1) := by decide +kernel
theorem dMd_symbol_46 : decode cMd_symbol 46 = .ok (.invokevirtual 120, 3) := by decide +kernel
theorem dMd_symbol_49 : decode cMd_symbol 49 = .ok (.ifCond .ne 7, 3) := by decide +kernel
theorem dMd_symbol_52 : decode cMd_symbol 52 = .ok (.iconst 1, 1) := by decide +kernel
theorem dMd_symbol_53 : decode cMd_symbol 53 = .ok (.goto 4, 3) := by decide +kernel
theorem dMd_symbol_56 : decode cMd_symbol 56 = .ok (.iconst 0, 1) := by decide +kernel
theorem dMd_symbol_57 : decode cMd_symbol 57 = .ok (.iload 5, 2) := by decide +kernel
theorem dMd_symbol_59 : decode cMd_symbol 59 = .ok (.ifCond .eq 26, 3) := by decide +kernel
theorem dMd_symbol_62 : decode cMd_symbol 62 = .ok (.aload_n 0, 1) := by decide +kernel
theorem dMd_symbol_63 : decode cMd_symbol 63 = .ok (.iload_n 1, 1) := by decide +kernel
theorem dMd_symbol_64 : decode cMd_symbol 64 = .ok (.invokevirtual 111, 3) := by decide +kernel
theorem dMd_symbol_67 : decode cMd_symbol 67 = .ok (.ifCond .ne 14, 3) := by decide +kernel
theorem dMd_symbol_70 : decode cMd_symbol 70 = .ok (.aload_n 0, 1) := by decide +kernel
theorem dMd_symbol_71 : decode cMd_symbol 71 = .ok (.getfield 29, 3) := by decide +kernel
theorem dMd_symbol_74 : decode cMd_symbol 74 = .ok (.iload_n 1, 1) := by decide +kernel
theorem dMd_symbol_75 : decode cMd_symbol 75 = .ok (.iaload, 1) := by decide +kernel
theorem dMd_symbol_76 : decode cMd_symbol 76 = .ok (.bipush 6, 2) := by decide +kernel
theorem dMd_symbol_78 : decode cMd_symbol 78 = .ok (.if_icmp .ne 7, 3) := by decide +kernel
theorem dMd_symbol_81 : decode cMd_symbol 81 = .ok (.iconst 1, 1) := by decide +kernel
theorem dMd_symbol_82 : decode cMd_symbol 82 = .ok (.goto 4, 3) := by decide +kernel
theorem dMd_symbol_85 : decode cMd_symbol 85 = .ok (.iconst 0, 1) := by decide +kernel
theorem dMd_symbol_86 : decode cMd_symbol 86 = .ok (.invokevirtual 103, 3) := by decide +kernel
theorem dMd_symbol_89 : decode cMd_symbol 89 = .ok (.ifCond .eq 5, 3) := by decide +kernel
theorem dMd_symbol_92 : decode cMd_symbol 92 = .ok (.iconst 0, 1) := by decide +kernel
theorem dMd_symbol_93 : decode cMd_symbol 93 = .ok (.ireturn, 1) := by decide +kernel
theorem dMd_symbol_94 : decode cMd_symbol 94 = .ok (.bipush 6, 2) := by decide +kernel
theorem dMd_symbol_96 : decode cMd_symbol 96 = .ok (.iload_n 1, 1) := by decide +kernel
theorem dMd_symbol_97 : decode cMd_symbol 97 = .ok (.imul, 1) := by decide +kernel
theorem dMd_symbol_98 : decode cMd_symbol 98 = .ok (.aload_n 0, 1) := by decide +kernel
theorem dMd_symbol_99 : decode cMd_symbol 99 = .ok (.getfield 29, 3) := by decide +kernel
theorem dMd_symbol_102 : decode cMd_symbol 102 = .ok (.iload_n 1, 1) := by decide +kernel
theorem dMd_symbol_103 : decode cMd_symbol 103 = .ok (.iaload, 1) := by decide +kernel
theorem dMd_symbol_104 : decode cMd_symbol 104 = .ok (.iadd, 1) := by decide +kernel
theorem dMd_symbol_105 : decode cMd_symbol 105 = .ok (.istore 6, 2) := by decide +kernel
theorem dMd_symbol_107 : decode cMd_symbol 107 = .ok (.aload_n 0, 1) := by decide +kernel
theorem dMd_symbol_108 : decode cMd_symbol 108 = .ok (.getfield 19, 3) := by decide +kernel
theorem dMd_symbol_111 : decode cMd_symbol 111 = .ok (.iload 6, 2) := by decide +kernel
theorem dMd_symbol_113 : decode cMd_symbol 113 = .ok (.iload_n 2, 1) := by decide +kernel
theorem dMd_symbol_114 : decode cMd_symbol 114 = .ok (.iastore, 1) := by decide +kernel
theorem dMd_symbol_115 : decode cMd_symbol 115 = .ok (.aload_n 0, 1) := by decide +kernel
theorem dMd_symbol_116 : decode cMd_symbol 116 = .ok (.getfield 22, 3) := by decide +kernel
theorem dMd_symbol_119 : decode cMd_symbol 119 = .ok (.iload 6, 2) := by decide +kernel
theorem dMd_symbol_121 : decode cMd_symbol 121 = .ok (.iload_n 3, 1) := by decide +kernel
theorem dMd_symbol_122 : decode cMd_symbol 122 = .ok (.iastore, 1) := by decide +kernel
theorem dMd_symbol_123 : decode cMd_symbol 123 = .ok (.aload_n 0, 1) := by decide +kernel
theorem dMd_symbol_124 : decode cMd_symbol 124 = .ok (.getfield 25, 3) := by decide +kernel
theorem dMd_symbol_127 : decode cMd_symbol 127 = .ok (.iload 6, 2) := by decide +kernel
theorem dMd_symbol_129 : decode cMd_symbol 129 = .ok (.iload_n 3, 1) := by decide +kernel
theorem dMd_symbol_130 : decode cMd_symbol 130 = .ok (.iconst (-1), 1) := by decide +kernel
theorem dMd_symbol_131 : decode cMd_symbol 131 = .ok (.if_icmp .ne 12, 3) := by decide +kernel
theorem dMd_symbol_134 : decode cMd_symbol 134 = .ok (.iload 4, 2) := by decide +kernel
theorem dMd_symbol_136 : decode cMd_symbol 136 = .ok (.ifCond .eq 7, 3) := by decide +kernel
theorem dMd_symbol_139 : decode cMd_symbol 139 = .ok (.iconst 1, 1) := by decide +kernel
theorem dMd_symbol_140 : decode cMd_symbol 140 = .ok (.goto 4, 3) := by decide +kernel
theorem dMd_symbol_143 : decode cMd_symbol 143 = .ok (.iconst 0, 1) := by decide +kernel
theorem dMd_symbol_144 : decode cMd_symbol 144 = .ok (.bastore, 1) := by decide +kernel
theorem dMd_symbol_145 : decode cMd_symbol 145 = .ok (.aload_n 0, 1) := by decide +kernel
theorem dMd_symbol_146 : decode cMd_symbol 146 = .ok (.getfield 29, 3) := by decide +kernel
theorem dMd_symbol_149 : decode cMd_symbol 149 = .ok (.iload_n 1, 1) := by decide +kernel
theorem dMd_symbol_150 : decode cMd_symbol 150 = .ok (.dup2, 1) := by decide +kernel
theorem dMd_symbol_151 : decode cMd_symbol 151 = .ok (.iaload, 1) := by decide +kernel
theorem dMd_symbol_152 : decode cMd_symbol 152 = .ok (.iconst 1, 1) := by decide +kernel
theorem dMd_symbol_153 : decode cMd_symbol 153 = .ok (.iadd, 1) := by decide +kernel
theorem dMd_symbol_154 : decode cMd_symbol 154 = .ok (.iastore, 1) := by decide +kernel
theorem dMd_symbol_155 : decode cMd_symbol 155 = .ok (.aload_n 0, 1) := by decide +kernel
theorem dMd_symbol_156 : decode cMd_symbol 156 = .ok (.getfield 29, 3) := by decide +kernel
theorem dMd_symbol_159 : decode cMd_symbol 159 = .ok (.iload_n 1, 1) := by decide +kernel
theorem dMd_symbol_160 : decode cMd_symbol 160 = .ok (.iaload, 1) := by decide +kernel
theorem dMd_symbol_161 : decode cMd_symbol 161 = .ok (.iconst 1, 1) := by decide +kernel
theorem dMd_symbol_162 : decode cMd_symbol 162 = .ok (.isub, 1) := by decide +kernel
theorem dMd_symbol_163 : decode cMd_symbol 163 = .ok (.ireturn, 1) := by decide +kernel
theorem dMd_relocation_0 : decode cMd_relocation 0 = .ok (.iload_n 1, 1) := by decide +kernel
theorem dMd_relocation_1 : decode cMd_relocation 1 = .ok (.invokestatic 99, 3) := by decide +kernel
theorem dMd_relocation_4 : decode cMd_relocation 4 = .ok (.istore 6, 2) := by decide +kernel
theorem dMd_relocation_6 : decode cMd_relocation 6 = .ok (.iload 6, 2) := by decide +kernel
theorem dMd_relocation_8 : decode cMd_relocation 8 = .ok (.ifCond .eq 45, 3) := by decide +kernel
theorem dMd_relocation_11 : decode cMd_relocation 11 = .ok (.iload_n 2, 1) := by decide +kernel
theorem dMd_relocation_12 : decode cMd_relocation 12 = .ok (.ifCond .lt 37, 3) := by decide +kernel
theorem dMd_relocation_15 : decode cMd_relocation 15 = .ok (.iload_n 2, 1) := by decide +kernel
theorem dMd_relocation_16 : decode cMd_relocation 16 = .ok (.iconst 2, 1) := by decide +kernel
theorem dMd_relocation_17 : decode cMd_relocation 17 = .ok (.if_icmp .gt 32, 3) := by decide +kernel
theorem dMd_relocation_20 : decode cMd_relocation 20 = .ok (.aload_n 0, 1) := by decide +kernel
theorem dMd_relocation_21 : decode cMd_relocation 21 = .ok (.iload_n 1, 1) := by decide +kernel
theorem dMd_relocation_22 : decode cMd_relocation 22 = .ok (.iload_n 3, 1) := by decide +kernel
theorem dMd_relocation_23 : decode cMd_relocation 23 = .ok (.invokevirtual 120, 3) := by decide +kernel
theorem dMd_relocation_26 : decode cMd_relocation 26 = .ok (.ifCond .eq 23, 3) := by decide +kernel
theorem dMd_relocation_29 : decode cMd_relocation 29 = .ok (.iload_n 2, 1) := by decide +kernel
theorem dMd_relocation_30 : decode cMd_relocation 30 = .ok (.ifCond .le 23, 3) := by decide +kernel
theorem dMd_relocation_33 : decode cMd_relocation 33 = .ok (.iload 4, 2) := by decide +kernel
theorem dMd_relocation_35 : decode cMd_relocation 35 = .ok (.ifCond .lt 14, 3) := by decide +kernel
theorem dMd_relocation_38 : decode cMd_relocation 38 = .ok (.iload 4, 2) := by decide +kernel
theorem dMd_relocation_40 : decode cMd_relocation 40 = .ok (.aload_n 0, 1) := by decide +kernel
theorem dMd_relocation_41 : decode cMd_relocation 41 = .ok (.getfield 29, 3) := by decide +kernel
theorem dMd_relocation_44 : decode cMd_relocation 44 = .ok (.iload_n 1, 1) := by decide +kernel
theorem dMd_relocation_45 : decode cMd_relocation 45 = .ok (.iaload, 1) := by decide +kernel
theorem dMd_relocation_46 : decode cMd_relocation 46 = .ok (.if_icmp .lt 7, 3) := by decide +kernel
theorem dMd_relocation_49 : decode cMd_relocation 49 = .ok (.iconst 1, 1) := by decide +kernel
theorem dMd_relocation_50 : decode cMd_relocation 50 = .ok (.goto 4, 3) := by decide +kernel
theorem dMd_relocation_53 : decode cMd_relocation 53 = .ok (.iconst 0, 1) := by decide +kernel
theorem dMd_relocation_54 : decode cMd_relocation 54 = .ok (.istore 7, 2) := by decide +kernel
theorem dMd_relocation_56 : decode cMd_relocation 56 = .ok (.aload_n 0, 1) := by decide +kernel
theorem dMd_relocation_57 : decode cMd_relocation 57 = .ok (.iload 6, 2) := by decide +kernel
theorem dMd_relocation_59 : decode cMd_relocation 59 = .ok (.ifCond .ne 7, 3) := by decide +kernel
theorem dMd_relocation_62 : decode cMd_relocation 62 = .ok (.iconst 1, 1) := by decide +kernel
theorem dMd_relocation_63 : decode cMd_relocation 63 = .ok (.goto 4, 3) := by decide +kernel
theorem dMd_relocation_66 : decode cMd_relocation 66 = .ok (.iconst 0, 1) := by decide +kernel
theorem dMd_relocation_67 : decode cMd_relocation 67 = .ok (.iload 7, 2) := by decide +kernel
theorem dMd_relocation_69 : decode cMd_relocation 69 = .ok (.iload 6, 2) := by decide +kernel
theorem dMd_relocation_71 : decode cMd_relocation 71 = .ok (.ifCond .eq 26, 3) := by decide +kernel
theorem dMd_relocation_74 : decode cMd_relocation 74 = .ok (.aload_n 0, 1) := by decide +kernel
theorem dMd_relocation_75 : decode cMd_relocation 75 = .ok (.iload_n 1, 1) := by decide +kernel
theorem dMd_relocation_76 : decode cMd_relocation 76 = .ok (.invokevirtual 111, 3) := by decide +kernel
theorem dMd_relocation_79 : decode cMd_relocation 79 = .ok (.ifCond .ne 14, 3) := by decide +kernel
theorem dMd_relocation_82 : decode cMd_relocation 82 = .ok (.aload_n 0, 1) := by decide +kernel
theorem dMd_relocation_83 : decode cMd_relocation 83 = .ok (.getfield 44, 3) := by decide +kernel
theorem dMd_relocation_86 : decode cMd_relocation 86 = .ok (.iload_n 1, 1) := by decide +kernel
theorem dMd_relocation_87 : decode cMd_relocation 87 = .ok (.iaload, 1) := by decide +kernel
theorem dMd_relocation_88 : decode cMd_relocation 88 = .ok (.bipush 6, 2) := by decide +kernel
theorem dMd_relocation_90 : decode cMd_relocation 90 = .ok (.if_icmp .ne 7, 3) := by decide +kernel
theorem dMd_relocation_93 : decode cMd_relocation 93 = .ok (.iconst 1, 1) := by decide +kernel
theorem dMd_relocation_94 : decode cMd_relocation 94 = .ok (.goto 4, 3) := by decide +kernel
theorem dMd_relocation_97 : decode cMd_relocation 97 = .ok (.iconst 0, 1) := by decide +kernel
theorem dMd_relocation_98 : decode cMd_relocation 98 = .ok (.invokevirtual 103, 3) := by decide +kernel
theorem dMd_relocation_101 : decode cMd_relocation 101 = .ok (.ifCond .eq 5, 3) := by decide +kernel
theorem dMd_relocation_104 : decode cMd_relocation 104 = .ok (.iconst 0, 1) := by decide +kernel
theorem dMd_relocation_105 : decode cMd_relocation 105 = .ok (.ireturn, 1) := by decide +kernel
theorem dMd_relocation_106 : decode cMd_relocation 106 = .ok (.bipush 6, 2) := by decide +kernel
theorem dMd_relocation_108 : decode cMd_relocation 108 = .ok (.iload_n 1, 1) := by decide +kernel
theorem dMd_relocation_109 : decode cMd_relocation 109 = .ok (.imul, 1) := by decide +kernel
theorem dMd_relocation_110 : decode cMd_relocation 110 = .ok (.aload_n 0, 1) := by decide +kernel
theorem dMd_relocation_111 : decode cMd_relocation 111 = .ok (.getfield 44, 3) := by decide +kernel
theorem dMd_relocation_114 : decode cMd_relocation 114 = .ok (.iload_n 1, 1) := by decide +kernel
theorem dMd_relocation_115 : decode cMd_relocation 115 = .ok (.iaload, 1) := by decide +kernel
theorem dMd_relocation_116 : decode cMd_relocation 116 = .ok (.iadd, 1) := by decide +kernel
theorem dMd_relocation_117 : decode cMd_relocation 117 = .ok (.istore 8, 2) := by decide +kernel
theorem dMd_relocation_119 : decode cMd_relocation 119 = .ok (.aload_n 0, 1) := by decide +kernel
theorem dMd_relocation_120 : decode cMd_relocation 120 = .ok (.getfield 32, 3) := by decide +kernel
theorem dMd_relocation_123 : decode cMd_relocation 123 = .ok (.iload 8, 2) := by decide +kernel
theorem dMd_relocation_125 : decode cMd_relocation 125 = .ok (.iload_n 2, 1) := by decide +kernel
theorem dMd_relocation_126 : decode cMd_relocation 126 = .ok (.iastore, 1) := by decide +kernel
theorem dMd_relocation_127 : decode cMd_relocation 127 = .ok (.aload_n 0, 1) := by decide +kernel
theorem dMd_relocation_128 : decode cMd_relocation 128 = .ok (.getfield 35, 3) := by decide +kernel
theorem dMd_relocation_131 : decode cMd_relocation 131 = .ok (.iload 8, 2) := by decide +kernel
theorem dMd_relocation_133 : decode cMd_relocation 133 = .ok (.iload_n 3, 1) := by decide +kernel
theorem dMd_relocation_134 : decode cMd_relocation 134 = .ok (.iastore, 1) := by decide +kernel
theorem dMd_relocation_135 : decode cMd_relocation 135 = .ok (.aload_n 0, 1) := by decide +kernel
theorem dMd_relocation_136 : decode cMd_relocation 136 = .ok (.getfield 38, 3) := by decide +kernel
theorem dMd_relocation_139 : decode cMd_relocation 139 = .ok (.iload 8, 2) := by decide +kernel
theorem dMd_relocation_141 : decode cMd_relocation 141 = .ok (.iload 4, 2) := by decide +kernel
theorem dMd_relocation_143 : decode cMd_relocation 143 = .ok (.iastore, 1) := by decide +kernel
theorem dMd_relocation_144 : decode cMd_relocation 144 = .ok (.aload_n 0, 1) := by decide +kernel
theorem dMd_relocation_145 : decode cMd_relocation 145 = .ok (.getfield 41, 3) := by decide +kernel
theorem dMd_relocation_148 : decode cMd_relocation 148 = .ok (.iload 8, 2) := by decide +kernel
theorem dMd_relocation_150 : decode cMd_relocation 150 = .ok (.iload 5, 2) := by decide +kernel
theorem dMd_relocation_152 : decode cMd_relocation 152 = .ok (.iastore, 1) := by decide +kernel
theorem dMd_relocation_153 : decode cMd_relocation 153 = .ok (.aload_n 0, 1) := by decide +kernel
theorem dMd_relocation_154 : decode cMd_relocation 154 = .ok (.getfield 44, 3) := by decide +kernel
theorem dMd_relocation_157 : decode cMd_relocation 157 = .ok (.iload_n 1, 1) := by decide +kernel
theorem dMd_relocation_158 : decode cMd_relocation 158 = .ok (.dup2, 1) := by decide +kernel
theorem dMd_relocation_159 : decode cMd_relocation 159 = .ok (.iaload, 1) := by decide +kernel
theorem dMd_relocation_160 : decode cMd_relocation 160 = .ok (.iconst 1, 1) := by decide +kernel
theorem dMd_relocation_161 : decode cMd_relocation 161 = .ok (.iadd, 1) := by decide +kernel
theorem dMd_relocation_162 : decode cMd_relocation 162 = .ok (.iastore, 1) := by decide +kernel
theorem dMd_relocation_163 : decode cMd_relocation 163 = .ok (.aload_n 0, 1) := by decide +kernel
theorem dMd_relocation_164 : decode cMd_relocation 164 = .ok (.getfield 44, 3) := by decide +kernel
theorem dMd_relocation_167 : decode cMd_relocation 167 = .ok (.iload_n 1, 1) := by decide +kernel
theorem dMd_relocation_168 : decode cMd_relocation 168 = .ok (.iaload, 1) := by decide +kernel
theorem dMd_relocation_169 : decode cMd_relocation 169 = .ok (.iconst 1, 1) := by decide +kernel
theorem dMd_relocation_170 : decode cMd_relocation 170 = .ok (.isub, 1) := by decide +kernel
theorem dMd_relocation_171 : decode cMd_relocation 171 = .ok (.ireturn, 1) := by decide +kernel
theorem dMd_findClosure_0 : decode cMd_findClosure 0 = .ok (.iconst 0, 1) := by decide +kernel
theorem dMd_findClosure_1 : decode cMd_findClosure 1 = .ok (.istore_n 2, 1) := by decide +kernel
theorem dMd_findClosure_2 : decode cMd_findClosure 2 = .ok (.iload_n 2, 1) := by decide +kernel
theorem dMd_findClosure_3 : decode cMd_findClosure 3 = .ok (.bipush 6, 2) := by decide +kernel
theorem dMd_findClosure_5 : decode cMd_findClosure 5 = .ok (.if_icmp .ge 25, 3) := by decide +kernel
theorem dMd_findClosure_8 : decode cMd_findClosure 8 = .ok (.aload_n 0, 1) := by decide +kernel
theorem dMd_findClosure_9 : decode cMd_findClosure 9 = .ok (.getfield 80, 3) := by decide +kernel
theorem dMd_findClosure_12 : decode cMd_findClosure 12 = .ok (.iload_n 2, 1) := by decide +kernel
theorem dMd_findClosure_13 : decode cMd_findClosure 13 = .ok (.iload_n 2, 1) := by decide +kernel
theorem dMd_findClosure_14 : decode cMd_findClosure 14 = .ok (.iload_n 1, 1) := by decide +kernel
theorem dMd_findClosure_15 : decode cMd_findClosure 15 = .ok (.if_icmp .ne 7, 3) := by decide +kernel
theorem dMd_findClosure_18 : decode cMd_findClosure 18 = .ok (.iconst 1, 1) := by decide +kernel
theorem dMd_findClosure_19 : decode cMd_findClosure 19 = .ok (.goto 4, 3) := by decide +kernel
theorem dMd_findClosure_22 : decode cMd_findClosure 22 = .ok (.iconst 0, 1) := by decide +kernel
theorem dMd_findClosure_23 : decode cMd_findClosure 23 = .ok (.bastore, 1) := by decide +kernel
theorem dMd_findClosure_24 : decode cMd_findClosure 24 = .ok (.iinc 2 1, 3) := by decide +kernel
theorem dMd_findClosure_27 : decode cMd_findClosure 27 = .ok (.goto (-25), 3) := by decide +kernel
theorem dMd_findClosure_30 : decode cMd_findClosure 30 = .ok (.aload_n 0, 1) := by decide +kernel
theorem dMd_findClosure_31 : decode cMd_findClosure 31 = .ok (.getfield 74, 3) := by decide +kernel
theorem dMd_findClosure_34 : decode cMd_findClosure 34 = .ok (.iconst 0, 1) := by decide +kernel
theorem dMd_findClosure_35 : decode cMd_findClosure 35 = .ok (.iload_n 1, 1) := by decide +kernel
theorem dMd_findClosure_36 : decode cMd_findClosure 36 = .ok (.iastore, 1) := by decide +kernel
theorem dMd_findClosure_37 : decode cMd_findClosure 37 = .ok (.aload_n 0, 1) := by decide +kernel
theorem dMd_findClosure_38 : decode cMd_findClosure 38 = .ok (.iconst 1, 1) := by decide +kernel
theorem dMd_findClosure_39 : decode cMd_findClosure 39 = .ok (.putfield 123, 3) := by decide +kernel
theorem dMd_findClosure_42 : decode cMd_findClosure 42 = .ok (.iconst 0, 1) := by decide +kernel
theorem dMd_findClosure_43 : decode cMd_findClosure 43 = .ok (.istore_n 2, 1) := by decide +kernel
theorem dMd_findClosure_44 : decode cMd_findClosure 44 = .ok (.iload_n 2, 1) := by decide +kernel
theorem dMd_findClosure_45 : decode cMd_findClosure 45 = .ok (.aload_n 0, 1) := by decide +kernel
theorem dMd_findClosure_46 : decode cMd_findClosure 46 = .ok (.getfield 123, 3) := by decide +kernel
theorem dMd_findClosure_49 : decode cMd_findClosure 49 = .ok (.if_icmp .ge 88, 3) := by decide +kernel
theorem dMd_findClosure_52 : decode cMd_findClosure 52 = .ok (.aload_n 0, 1) := by decide +kernel
theorem dMd_findClosure_53 : decode cMd_findClosure 53 = .ok (.getfield 74, 3) := by decide +kernel
theorem dMd_findClosure_56 : decode cMd_findClosure 56 = .ok (.iload_n 2, 1) := by decide +kernel
theorem dMd_findClosure_57 : decode cMd_findClosure 57 = .ok (.iaload, 1) := by decide +kernel
theorem dMd_findClosure_58 : decode cMd_findClosure 58 = .ok (.istore_n 3, 1) := by decide +kernel
theorem dMd_findClosure_59 : decode cMd_findClosure 59 = .ok (.iconst 0, 1) := by decide +kernel
theorem dMd_findClosure_60 : decode cMd_findClosure 60 = .ok (.istore 4, 2) := by decide +kernel
theorem dMd_findClosure_62 : decode cMd_findClosure 62 = .ok (.iload 4, 2) := by decide +kernel
theorem dMd_findClosure_64 : decode cMd_findClosure 64 = .ok (.aload_n 0, 1) := by decide +kernel
theorem dMd_findClosure_65 : decode cMd_findClosure 65 = .ok (.getfield 16, 3) := by decide +kernel
theorem dMd_findClosure_68 : decode cMd_findClosure 68 = .ok (.iload_n 3, 1) := by decide +kernel
theorem dMd_findClosure_69 : decode cMd_findClosure 69 = .ok (.iaload, 1) := by decide +kernel
theorem dMd_findClosure_70 : decode cMd_findClosure 70 = .ok (.if_icmp .ge 61, 3) := by decide +kernel
theorem dMd_findClosure_73 : decode cMd_findClosure 73 = .ok (.aload_n 0, 1) := by decide +kernel
theorem dMd_findClosure_74 : decode cMd_findClosure 74 = .ok (.getfield 13, 3) := by decide +kernel
theorem dMd_findClosure_77 : decode cMd_findClosure 77 = .ok (.iconst 3, 1) := by decide +kernel
theorem dMd_findClosure_78 : decode cMd_findClosure 78 = .ok (.iload_n 3, 1) := by decide +kernel
theorem dMd_findClosure_79 : decode cMd_findClosure 79 = .ok (.imul, 1) := by decide +kernel
theorem dMd_findClosure_80 : decode cMd_findClosure 80 = .ok (.iload 4, 2) := by decide +kernel
theorem dMd_findClosure_82 : decode cMd_findClosure 82 = .ok (.iadd, 1) := by decide +kernel
theorem dMd_findClosure_83 : decode cMd_findClosure 83 = .ok (.iaload, 1) := by decide +kernel
theorem dMd_findClosure_84 : decode cMd_findClosure 84 = .ok (.istore 5, 2) := by decide +kernel
theorem dMd_findClosure_86 : decode cMd_findClosure 86 = .ok (.aload_n 0, 1) := by decide +kernel
theorem dMd_findClosure_87 : decode cMd_findClosure 87 = .ok (.getfield 80, 3) := by decide +kernel
theorem dMd_findClosure_90 : decode cMd_findClosure 90 = .ok (.iload 5, 2) := by decide +kernel
theorem dMd_findClosure_92 : decode cMd_findClosure 92 = .ok (.baload, 1) := by decide +kernel
theorem dMd_findClosure_93 : decode cMd_findClosure 93 = .ok (.ifCond .ne 32, 3) := by decide +kernel
theorem dMd_findClosure_96 : decode cMd_findClosure 96 = .ok (.aload_n 0, 1) := by decide +kernel
theorem dMd_findClosure_97 : decode cMd_findClosure 97 = .ok (.getfield 80, 3) := by decide +kernel
theorem dMd_findClosure_100 : decode cMd_findClosure 100 = .ok (.iload 5, 2) := by decide +kernel
theorem dMd_findClosure_102 : decode cMd_findClosure 102 = .ok (.iconst 1, 1) := by decide +kernel
theorem dMd_findClosure_103 : decode cMd_findClosure 103 = .ok (.bastore, 1) := by decide +kernel
theorem dMd_findClosure_104 : decode cMd_findClosure 104 = .ok (.aload_n 0, 1) := by decide +kernel
theorem dMd_findClosure_105 : decode cMd_findClosure 105 = .ok (.getfield 74, 3) := by decide +kernel
theorem dMd_findClosure_108 : decode cMd_findClosure 108 = .ok (.aload_n 0, 1) := by decide +kernel
theorem dMd_findClosure_109 : decode cMd_findClosure 109 = .ok (.getfield 123, 3) := by decide +kernel
theorem dMd_findClosure_112 : decode cMd_findClosure 112 = .ok (.iload 5, 2) := by decide +kernel
theorem dMd_findClosure_114 : decode cMd_findClosure 114 = .ok (.iastore, 1) := by decide +kernel
theorem dMd_findClosure_115 : decode cMd_findClosure 115 = .ok (.aload_n 0, 1) := by decide +kernel
theorem dMd_findClosure_116 : decode cMd_findClosure 116 = .ok (.dup, 1) := by decide +kernel
theorem dMd_findClosure_117 : decode cMd_findClosure 117 = .ok (.getfield 123, 3) := by decide +kernel
theorem dMd_findClosure_120 : decode cMd_findClosure 120 = .ok (.iconst 1, 1) := by decide +kernel
theorem dMd_findClosure_121 : decode cMd_findClosure 121 = .ok (.iadd, 1) := by decide +kernel
theorem dMd_findClosure_122 : decode cMd_findClosure 122 = .ok (.putfield 123, 3) := by decide +kernel
theorem dMd_findClosure_125 : decode cMd_findClosure 125 = .ok (.iinc 4 1, 3) := by decide +kernel
theorem dMd_findClosure_128 : decode cMd_findClosure 128 = .ok (.goto (-66), 3) := by decide +kernel
theorem dMd_findClosure_131 : decode cMd_findClosure 131 = .ok (.iinc 2 1, 3) := by decide +kernel
theorem dMd_findClosure_134 : decode cMd_findClosure 134 = .ok (.goto (-90), 3) := by decide +kernel
theorem dMd_findClosure_137 : decode cMd_findClosure 137 = .ok (.return_, 1) := by decide +kernel
theorem dMd_within_0 : decode cMd_within 0 = .ok (.aload_n 0, 1) := by decide +kernel
theorem dMd_within_1 : decode cMd_within 1 = .ok (.getfield 29, 3) := by decide +kernel
theorem dMd_within_4 : decode cMd_within 4 = .ok (.iload_n 1, 1) := by decide +kernel
theorem dMd_within_5 : decode cMd_within 5 = .ok (.iaload, 1) := by decide +kernel
theorem dMd_within_6 : decode cMd_within 6 = .ok (.iconst 1, 1) := by decide +kernel
theorem dMd_within_7 : decode cMd_within 7 = .ok (.isub, 1) := by decide +kernel
theorem dMd_within_8 : decode cMd_within 8 = .ok (.istore_n 3, 1) := by decide +kernel
theorem dMd_within_9 : decode cMd_within 9 = .ok (.iload_n 3, 1) := by decide +kernel
theorem dMd_within_10 : decode cMd_within 10 = .ok (.ifCond .lt 80, 3) := by decide +kernel
theorem dMd_within_13 : decode cMd_within 13 = .ok (.bipush 6, 2) := by decide +kernel
theorem dMd_within_15 : decode cMd_within 15 = .ok (.iload_n 1, 1) := by decide +kernel
theorem dMd_within_16 : decode cMd_within 16 = .ok (.imul, 1) := by decide +kernel
theorem dMd_within_17 : decode cMd_within 17 = .ok (.iload_n 3, 1) := by decide +kernel
theorem dMd_within_18 : decode cMd_within 18 = .ok (.iadd, 1) := by decide +kernel
theorem dMd_within_19 : decode cMd_within 19 = .ok (.istore 4, 2) := by decide +kernel
theorem dMd_within_21 : decode cMd_within 21 = .ok (.aload_n 0, 1) := by decide +kernel
theorem dMd_within_22 : decode cMd_within 22 = .ok (.getfield 19, 3) := by decide +kernel
theorem dMd_within_25 : decode cMd_within 25 = .ok (.iload 4, 2) := by decide +kernel
theorem dMd_within_27 : decode cMd_within 27 = .ok (.iaload, 1) := by decide +kernel
theorem dMd_within_28 : decode cMd_within 28 = .ok (.invokestatic 126, 3) := by decide +kernel
theorem dMd_within_31 : decode cMd_within 31 = .ok (.iload_n 2, 1) := by decide +kernel
theorem dMd_within_32 : decode cMd_within 32 = .ok (.invokestatic 126, 3) := by decide +kernel
theorem dMd_within_35 : decode cMd_within 35 = .ok (.if_icmp .ne 49, 3) := by decide +kernel
theorem dMd_within_38 : decode cMd_within 38 = .ok (.aload_n 0, 1) := by decide +kernel
theorem dMd_within_39 : decode cMd_within 39 = .ok (.dup, 1) := by decide +kernel
theorem dMd_within_40 : decode cMd_within 40 = .ok (.getfield 130, 3) := by decide +kernel
theorem dMd_within_43 : decode cMd_within 43 = .ok (.iconst 1, 1) := by decide +kernel
theorem dMd_within_44 : decode cMd_within 44 = .ok (.iadd, 1) := by decide +kernel
theorem dMd_within_45 : decode cMd_within 45 = .ok (.putfield 130, 3) := by decide +kernel
theorem dMd_within_48 : decode cMd_within 48 = .ok (.aload_n 0, 1) := by decide +kernel
theorem dMd_within_49 : decode cMd_within 49 = .ok (.getfield 19, 3) := by decide +kernel
theorem dMd_within_52 : decode cMd_within 52 = .ok (.iload 4, 2) := by decide +kernel
theorem dMd_within_54 : decode cMd_within 54 = .ok (.iaload, 1) := by decide +kernel
theorem dMd_within_55 : decode cMd_within 55 = .ok (.iload_n 2, 1) := by decide +kernel
theorem dMd_within_56 : decode cMd_within 56 = .ok (.if_icmp .ne 28, 3) := by decide +kernel
theorem dMd_within_59 : decode cMd_within 59 = .ok (.aload_n 0, 1) := by decide +kernel
theorem dMd_within_60 : decode cMd_within 60 = .ok (.getfield 22, 3) := by decide +kernel
theorem dMd_within_63 : decode cMd_within 63 = .ok (.iload 4, 2) := by decide +kernel
theorem dMd_within_65 : decode cMd_within 65 = .ok (.iaload, 1) := by decide +kernel
theorem dMd_within_66 : decode cMd_within 66 = .ok (.ifCond .lt 18, 3) := by decide +kernel
theorem dMd_within_69 : decode cMd_within 69 = .ok (.aload_n 0, 1) := by decide +kernel
theorem dMd_within_70 : decode cMd_within 70 = .ok (.getfield 50, 3) := by decide +kernel
theorem dMd_within_73 : decode cMd_within 73 = .ok (.iload_n 1, 1) := by decide +kernel
theorem dMd_within_74 : decode cMd_within 74 = .ok (.iaload, 1) := by decide +kernel
theorem dMd_within_75 : decode cMd_within 75 = .ok (.aload_n 0, 1) := by decide +kernel
theorem dMd_within_76 : decode cMd_within 76 = .ok (.getfield 22, 3) := by decide +kernel
theorem dMd_within_79 : decode cMd_within 79 = .ok (.iload 4, 2) := by decide +kernel
theorem dMd_within_81 : decode cMd_within 81 = .ok (.iaload, 1) := by decide +kernel
theorem dMd_within_82 : decode cMd_within 82 = .ok (.iadd, 1) := by decide +kernel
theorem dMd_within_83 : decode cMd_within 83 = .ok (.ireturn, 1) := by decide +kernel
theorem dMd_within_84 : decode cMd_within 84 = .ok (.iinc 3 (-1), 3) := by decide +kernel
theorem dMd_within_87 : decode cMd_within 87 = .ok (.goto (-78), 3) := by decide +kernel
theorem dMd_within_90 : decode cMd_within 90 = .ok (.iconst (-1), 1) := by decide +kernel
theorem dMd_within_91 : decode cMd_within 91 = .ok (.ireturn, 1) := by decide +kernel
theorem dMd_lookUp_0 : decode cMd_lookUp 0 = .ok (.iconst 0, 1) := by decide +kernel
theorem dMd_lookUp_1 : decode cMd_lookUp 1 = .ok (.istore_n 3, 1) := by decide +kernel
theorem dMd_lookUp_2 : decode cMd_lookUp 2 = .ok (.iload_n 3, 1) := by decide +kernel
theorem dMd_lookUp_3 : decode cMd_lookUp 3 = .ok (.aload_n 0, 1) := by decide +kernel
theorem dMd_lookUp_4 : decode cMd_lookUp 4 = .ok (.getfield 133, 3) := by decide +kernel
theorem dMd_lookUp_7 : decode cMd_lookUp 7 = .ok (.if_icmp .ge 40, 3) := by decide +kernel
theorem dMd_lookUp_10 : decode cMd_lookUp 10 = .ok (.aload_n 0, 1) := by decide +kernel
theorem dMd_lookUp_11 : decode cMd_lookUp 11 = .ok (.aload_n 0, 1) := by decide +kernel
theorem dMd_lookUp_12 : decode cMd_lookUp 12 = .ok (.getfield 68, 3) := by decide +kernel
theorem dMd_lookUp_15 : decode cMd_lookUp 15 = .ok (.iload_n 3, 1) := by decide +kernel
theorem dMd_lookUp_16 : decode cMd_lookUp 16 = .ok (.iaload, 1) := by decide +kernel
theorem dMd_lookUp_17 : decode cMd_lookUp 17 = .ok (.iload_n 2, 1) := by decide +kernel
theorem dMd_lookUp_18 : decode cMd_lookUp 18 = .ok (.invokevirtual 136, 3) := by decide +kernel
theorem dMd_lookUp_21 : decode cMd_lookUp 21 = .ok (.istore 4, 2) := by decide +kernel
theorem dMd_lookUp_23 : decode cMd_lookUp 23 = .ok (.iload 4, 2) := by decide +kernel
theorem dMd_lookUp_25 : decode cMd_lookUp 25 = .ok (.ifCond .lt 16, 3) := by decide +kernel
theorem dMd_lookUp_28 : decode cMd_lookUp 28 = .ok (.aload_n 0, 1) := by decide +kernel
theorem dMd_lookUp_29 : decode cMd_lookUp 29 = .ok (.aload_n 0, 1) := by decide +kernel
theorem dMd_lookUp_30 : decode cMd_lookUp 30 = .ok (.getfield 68, 3) := by decide +kernel
theorem dMd_lookUp_33 : decode cMd_lookUp 33 = .ok (.iload_n 3, 1) := by decide +kernel
theorem dMd_lookUp_34 : decode cMd_lookUp 34 = .ok (.iaload, 1) := by decide +kernel
theorem dMd_lookUp_35 : decode cMd_lookUp 35 = .ok (.putfield 140, 3) := by decide +kernel
theorem dMd_lookUp_38 : decode cMd_lookUp 38 = .ok (.iload 4, 2) := by decide +kernel
theorem dMd_lookUp_40 : decode cMd_lookUp 40 = .ok (.ireturn, 1) := by decide +kernel
theorem dMd_lookUp_41 : decode cMd_lookUp 41 = .ok (.iinc 3 1, 3) := by decide +kernel
theorem dMd_lookUp_44 : decode cMd_lookUp 44 = .ok (.goto (-42), 3) := by decide +kernel
theorem dMd_lookUp_47 : decode cMd_lookUp 47 = .ok (.iconst 0, 1) := by decide +kernel
theorem dMd_lookUp_48 : decode cMd_lookUp 48 = .ok (.istore_n 3, 1) := by decide +kernel
theorem dMd_lookUp_49 : decode cMd_lookUp 49 = .ok (.iload_n 3, 1) := by decide +kernel
theorem dMd_lookUp_50 : decode cMd_lookUp 50 = .ok (.aload_n 0, 1) := by decide +kernel
theorem dMd_lookUp_51 : decode cMd_lookUp 51 = .ok (.getfield 56, 3) := by decide +kernel
theorem dMd_lookUp_54 : decode cMd_lookUp 54 = .ok (.iload_n 1, 1) := by decide +kernel
theorem dMd_lookUp_55 : decode cMd_lookUp 55 = .ok (.iaload, 1) := by decide +kernel
theorem dMd_lookUp_56 : decode cMd_lookUp 56 = .ok (.if_icmp .ge 59, 3) := by decide +kernel
theorem dMd_lookUp_59 : decode cMd_lookUp 59 = .ok (.aload_n 0, 1) := by decide +kernel
theorem dMd_lookUp_60 : decode cMd_lookUp 60 = .ok (.getfield 53, 3) := by decide +kernel
theorem dMd_lookUp_63 : decode cMd_lookUp 63 = .ok (.bipush 6, 2) := by decide +kernel
theorem dMd_lookUp_65 : decode cMd_lookUp 65 = .ok (.iload_n 1, 1) := by decide +kernel
theorem dMd_lookUp_66 : decode cMd_lookUp 66 = .ok (.imul, 1) := by decide +kernel
theorem dMd_lookUp_67 : decode cMd_lookUp 67 = .ok (.iload_n 3, 1) := by decide +kernel
theorem dMd_lookUp_68 : decode cMd_lookUp 68 = .ok (.iadd, 1) := by decide +kernel
theorem dMd_lookUp_69 : decode cMd_lookUp 69 = .ok (.iaload, 1) := by decide +kernel
theorem dMd_lookUp_70 : decode cMd_lookUp 70 = .ok (.istore 4, 2) := by decide +kernel
theorem dMd_lookUp_72 : decode cMd_lookUp 72 = .ok (.aload_n 0, 1) := by decide +kernel
theorem dMd_lookUp_73 : decode cMd_lookUp 73 = .ok (.getfield 47, 3) := by decide +kernel
theorem dMd_lookUp_76 : decode cMd_lookUp 76 = .ok (.iload 4, 2) := by decide +kernel
theorem dMd_lookUp_78 : decode cMd_lookUp 78 = .ok (.baload, 1) := by decide +kernel
theorem dMd_lookUp_79 : decode cMd_lookUp 79 = .ok (.ifCond .eq 13, 3) := by decide +kernel
theorem dMd_lookUp_82 : decode cMd_lookUp 82 = .ok (.aload_n 0, 1) := by decide +kernel
theorem dMd_lookUp_83 : decode cMd_lookUp 83 = .ok (.iload 4, 2) := by decide +kernel
theorem dMd_lookUp_85 : decode cMd_lookUp 85 = .ok (.iload_n 2, 1) := by decide +kernel
theorem dMd_lookUp_86 : decode cMd_lookUp 86 = .ok (.invokevirtual 136, 3) := by decide +kernel
theorem dMd_lookUp_89 : decode cMd_lookUp 89 = .ok (.goto 4, 3) := by decide +kernel
theorem dMd_lookUp_92 : decode cMd_lookUp 92 = .ok (.iconst (-1), 1) := by decide +kernel
theorem dMd_lookUp_93 : decode cMd_lookUp 93 = .ok (.istore 5, 2) := by decide +kernel
theorem dMd_lookUp_95 : decode cMd_lookUp 95 = .ok (.iload 5, 2) := by decide +kernel
theorem dMd_lookUp_97 : decode cMd_lookUp 97 = .ok (.ifCond .lt 12, 3) := by decide +kernel
theorem dMd_lookUp_100 : decode cMd_lookUp 100 = .ok (.aload_n 0, 1) := by decide +kernel
theorem dMd_lookUp_101 : decode cMd_lookUp 101 = .ok (.iload 4, 2) := by decide +kernel
theorem dMd_lookUp_103 : decode cMd_lookUp 103 = .ok (.putfield 140, 3) := by decide +kernel
theorem dMd_lookUp_106 : decode cMd_lookUp 106 = .ok (.iload 5, 2) := by decide +kernel
theorem dMd_lookUp_108 : decode cMd_lookUp 108 = .ok (.ireturn, 1) := by decide +kernel
theorem dMd_lookUp_109 : decode cMd_lookUp 109 = .ok (.iinc 3 1, 3) := by decide +kernel
theorem dMd_lookUp_112 : decode cMd_lookUp 112 = .ok (.goto (-63), 3) := by decide +kernel
theorem dMd_lookUp_115 : decode cMd_lookUp 115 = .ok (.iconst (-1), 1) := by decide +kernel
theorem dMd_lookUp_116 : decode cMd_lookUp 116 = .ok (.ireturn, 1) := by decide +kernel
theorem dMd_resolve_0 : decode cMd_resolve 0 = .ok (.bipush 6, 2) := by decide +kernel
theorem dMd_resolve_2 : decode cMd_resolve 2 = .ok (.iload_n 1, 1) := by decide +kernel
theorem dMd_resolve_3 : decode cMd_resolve 3 = .ok (.imul, 1) := by decide +kernel
theorem dMd_resolve_4 : decode cMd_resolve 4 = .ok (.aload_n 0, 1) := by decide +kernel
theorem dMd_resolve_5 : decode cMd_resolve 5 = .ok (.getfield 38, 3) := by decide +kernel
theorem dMd_resolve_8 : decode cMd_resolve 8 = .ok (.bipush 6, 2) := by decide +kernel
theorem dMd_resolve_10 : decode cMd_resolve 10 = .ok (.iload_n 1, 1) := by decide +kernel
theorem dMd_resolve_11 : decode cMd_resolve 11 = .ok (.imul, 1) := by decide +kernel
theorem dMd_resolve_12 : decode cMd_resolve 12 = .ok (.iload_n 2, 1) := by decide +kernel
theorem dMd_resolve_13 : decode cMd_resolve 13 = .ok (.iadd, 1) := by decide +kernel
theorem dMd_resolve_14 : decode cMd_resolve 14 = .ok (.iaload, 1) := by decide +kernel
theorem dMd_resolve_15 : decode cMd_resolve 15 = .ok (.iadd, 1) := by decide +kernel
theorem dMd_resolve_16 : decode cMd_resolve 16 = .ok (.istore_n 3, 1) := by decide +kernel
theorem dMd_resolve_17 : decode cMd_resolve 17 = .ok (.aload_n 0, 1) := by decide +kernel
theorem dMd_resolve_18 : decode cMd_resolve 18 = .ok (.iload_n 1, 1) := by decide +kernel
theorem dMd_resolve_19 : decode cMd_resolve 19 = .ok (.aload_n 0, 1) := by decide +kernel
theorem dMd_resolve_20 : decode cMd_resolve 20 = .ok (.getfield 19, 3) := by decide +kernel
theorem dMd_resolve_23 : decode cMd_resolve 23 = .ok (.iload_n 3, 1) := by decide +kernel
theorem dMd_resolve_24 : decode cMd_resolve 24 = .ok (.iaload, 1) := by decide +kernel
theorem dMd_resolve_25 : decode cMd_resolve 25 = .ok (.invokevirtual 143, 3) := by decide +kernel
theorem dMd_resolve_28 : decode cMd_resolve 28 = .ok (.istore 4, 2) := by decide +kernel
theorem dMd_resolve_30 : decode cMd_resolve 30 = .ok (.iload 4, 2) := by decide +kernel
theorem dMd_resolve_32 : decode cMd_resolve 32 = .ok (.ifCond .ge 18, 3) := by decide +kernel
theorem dMd_resolve_35 : decode cMd_resolve 35 = .ok (.aload_n 0, 1) := by decide +kernel
theorem dMd_resolve_36 : decode cMd_resolve 36 = .ok (.getfield 25, 3) := by decide +kernel
theorem dMd_resolve_39 : decode cMd_resolve 39 = .ok (.iload_n 3, 1) := by decide +kernel
theorem dMd_resolve_40 : decode cMd_resolve 40 = .ok (.baload, 1) := by decide +kernel
theorem dMd_resolve_41 : decode cMd_resolve 41 = .ok (.ifCond .eq 7, 3) := by decide +kernel
theorem dMd_resolve_44 : decode cMd_resolve 44 = .ok (.iconst 0, 1) := by decide +kernel
theorem dMd_resolve_45 : decode cMd_resolve 45 = .ok (.goto 4, 3) := by decide +kernel
theorem dMd_resolve_48 : decode cMd_resolve 48 = .ok (.iconst (-1), 1) := by decide +kernel
theorem dMd_resolve_49 : decode cMd_resolve 49 = .ok (.ireturn, 1) := by decide +kernel
theorem dMd_resolve_50 : decode cMd_resolve 50 = .ok (.aload_n 0, 1) := by decide +kernel
theorem dMd_resolve_51 : decode cMd_resolve 51 = .ok (.getfield 140, 3) := by decide +kernel
theorem dMd_resolve_54 : decode cMd_resolve 54 = .ok (.iload_n 1, 1) := by decide +kernel
theorem dMd_resolve_55 : decode cMd_resolve 55 = .ok (.if_icmp .eq 18, 3) := by decide +kernel
theorem dMd_resolve_58 : decode cMd_resolve 58 = .ok (.aload_n 0, 1) := by decide +kernel
theorem dMd_resolve_59 : decode cMd_resolve 59 = .ok (.getfield 59, 3) := by decide +kernel
theorem dMd_resolve_62 : decode cMd_resolve 62 = .ok (.bipush 6, 2) := by decide +kernel
theorem dMd_resolve_64 : decode cMd_resolve 64 = .ok (.iload_n 1, 1) := by decide +kernel
theorem dMd_resolve_65 : decode cMd_resolve 65 = .ok (.imul, 1) := by decide +kernel
theorem dMd_resolve_66 : decode cMd_resolve 66 = .ok (.aload_n 0, 1) := by decide +kernel
theorem dMd_resolve_67 : decode cMd_resolve 67 = .ok (.getfield 140, 3) := by decide +kernel
theorem dMd_resolve_70 : decode cMd_resolve 70 = .ok (.iadd, 1) := by decide +kernel
theorem dMd_resolve_71 : decode cMd_resolve 71 = .ok (.iconst 1, 1) := by decide +kernel
theorem dMd_resolve_72 : decode cMd_resolve 72 = .ok (.bastore, 1) := by decide +kernel
theorem dMd_resolve_73 : decode cMd_resolve 73 = .ok (.iload 4, 2) := by decide +kernel
theorem dMd_resolve_75 : decode cMd_resolve 75 = .ok (.ireturn, 1) := by decide +kernel
theorem dMd_relocate_0 : decode cMd_relocate 0 = .ok (.bipush 6, 2) := by decide +kernel
theorem dMd_relocate_2 : decode cMd_relocate 2 = .ok (.iload_n 1, 1) := by decide +kernel
theorem dMd_relocate_3 : decode cMd_relocate 3 = .ok (.imul, 1) := by decide +kernel
theorem dMd_relocate_4 : decode cMd_relocate 4 = .ok (.iload_n 2, 1) := by decide +kernel
theorem dMd_relocate_5 : decode cMd_relocate 5 = .ok (.iadd, 1) := by decide +kernel
theorem dMd_relocate_6 : decode cMd_relocate 6 = .ok (.istore 4, 2) := by decide +kernel
theorem dMd_relocate_8 : decode cMd_relocate 8 = .ok (.aload_n 0, 1) := by decide +kernel
theorem dMd_relocate_9 : decode cMd_relocate 9 = .ok (.getfield 50, 3) := by decide +kernel
theorem dMd_relocate_12 : decode cMd_relocate 12 = .ok (.iload_n 1, 1) := by decide +kernel
theorem dMd_relocate_13 : decode cMd_relocate 13 = .ok (.iaload, 1) := by decide +kernel
theorem dMd_relocate_14 : decode cMd_relocate 14 = .ok (.aload_n 0, 1) := by decide +kernel
theorem dMd_relocate_15 : decode cMd_relocate 15 = .ok (.getfield 35, 3) := by decide +kernel
theorem dMd_relocate_18 : decode cMd_relocate 18 = .ok (.iload 4, 2) := by decide +kernel
theorem dMd_relocate_20 : decode cMd_relocate 20 = .ok (.iaload, 1) := by decide +kernel
theorem dMd_relocate_21 : decode cMd_relocate 21 = .ok (.iadd, 1) := by decide +kernel
theorem dMd_relocate_22 : decode cMd_relocate 22 = .ok (.istore 5, 2) := by decide +kernel
theorem dMd_relocate_24 : decode cMd_relocate 24 = .ok (.aload_n 0, 1) := by decide +kernel
theorem dMd_relocate_25 : decode cMd_relocate 25 = .ok (.getfield 32, 3) := by decide +kernel
theorem dMd_relocate_28 : decode cMd_relocate 28 = .ok (.iload 4, 2) := by decide +kernel
theorem dMd_relocate_30 : decode cMd_relocate 30 = .ok (.iaload, 1) := by decide +kernel
theorem dMd_relocate_31 : decode cMd_relocate 31 = .ok (.ifCond .ne 26, 3) := by decide +kernel
theorem dMd_relocate_34 : decode cMd_relocate 34 = .ok (.aload_n 0, 1) := by decide +kernel
theorem dMd_relocate_35 : decode cMd_relocate 35 = .ok (.getfield 71, 3) := by decide +kernel
theorem dMd_relocate_38 : decode cMd_relocate 38 = .ok (.iload 5, 2) := by decide +kernel
theorem dMd_relocate_40 : decode cMd_relocate 40 = .ok (.aload_n 0, 1) := by decide +kernel
theorem dMd_relocate_41 : decode cMd_relocate 41 = .ok (.getfield 50, 3) := by decide +kernel
theorem dMd_relocate_44 : decode cMd_relocate 44 = .ok (.iload_n 1, 1) := by decide +kernel
theorem dMd_relocate_45 : decode cMd_relocate 45 = .ok (.iaload, 1) := by decide +kernel
theorem dMd_relocate_46 : decode cMd_relocate 46 = .ok (.aload_n 0, 1) := by decide +kernel
theorem dMd_relocate_47 : decode cMd_relocate 47 = .ok (.getfield 41, 3) := by decide +kernel
theorem dMd_relocate_50 : decode cMd_relocate 50 = .ok (.iload 4, 2) := by decide +kernel
theorem dMd_relocate_52 : decode cMd_relocate 52 = .ok (.iaload, 1) := by decide +kernel
theorem dMd_relocate_53 : decode cMd_relocate 53 = .ok (.iadd, 1) := by decide +kernel
theorem dMd_relocate_54 : decode cMd_relocate 54 = .ok (.iastore, 1) := by decide +kernel
theorem dMd_relocate_55 : decode cMd_relocate 55 = .ok (.iconst 1, 1) := by decide +kernel
theorem dMd_relocate_56 : decode cMd_relocate 56 = .ok (.ireturn, 1) := by decide +kernel
theorem dMd_relocate_57 : decode cMd_relocate 57 = .ok (.aload_n 0, 1) := by decide +kernel
theorem dMd_relocate_58 : decode cMd_relocate 58 = .ok (.getfield 32, 3) := by decide +kernel
theorem dMd_relocate_61 : decode cMd_relocate 61 = .ok (.iload 4, 2) := by decide +kernel
theorem dMd_relocate_63 : decode cMd_relocate 63 = .ok (.iaload, 1) := by decide +kernel
theorem dMd_relocate_64 : decode cMd_relocate 64 = .ok (.iconst 2, 1) := by decide +kernel
theorem dMd_relocate_65 : decode cMd_relocate 65 = .ok (.if_icmp .ne 19, 3) := by decide +kernel
theorem dMd_relocate_68 : decode cMd_relocate 68 = .ok (.iload_n 3, 1) := by decide +kernel
theorem dMd_relocate_69 : decode cMd_relocate 69 = .ok (.ifCond .eq 15, 3) := by decide +kernel
theorem dMd_relocate_72 : decode cMd_relocate 72 = .ok (.aload_n 0, 1) := by decide +kernel
theorem dMd_relocate_73 : decode cMd_relocate 73 = .ok (.getfield 71, 3) := by decide +kernel
theorem dMd_relocate_76 : decode cMd_relocate 76 = .ok (.iload 5, 2) := by decide +kernel
theorem dMd_relocate_78 : decode cMd_relocate 78 = .ok (.iconst (-1), 1) := by decide +kernel
theorem dMd_relocate_79 : decode cMd_relocate 79 = .ok (.iload_n 2, 1) := by decide +kernel
theorem dMd_relocate_80 : decode cMd_relocate 80 = .ok (.isub, 1) := by decide +kernel
theorem dMd_relocate_81 : decode cMd_relocate 81 = .ok (.iastore, 1) := by decide +kernel
theorem dMd_relocate_82 : decode cMd_relocate 82 = .ok (.iconst 1, 1) := by decide +kernel
theorem dMd_relocate_83 : decode cMd_relocate 83 = .ok (.ireturn, 1) := by decide +kernel
theorem dMd_relocate_84 : decode cMd_relocate 84 = .ok (.aload_n 0, 1) := by decide +kernel
theorem dMd_relocate_85 : decode cMd_relocate 85 = .ok (.iload_n 1, 1) := by decide +kernel
theorem dMd_relocate_86 : decode cMd_relocate 86 = .ok (.iload_n 2, 1) := by decide +kernel
theorem dMd_relocate_87 : decode cMd_relocate 87 = .ok (.invokevirtual 146, 3) := by decide +kernel
theorem dMd_relocate_90 : decode cMd_relocate 90 = .ok (.istore 6, 2) := by decide +kernel
theorem dMd_relocate_92 : decode cMd_relocate 92 = .ok (.iload 6, 2) := by decide +kernel
theorem dMd_relocate_94 : decode cMd_relocate 94 = .ok (.ifCond .ge 5, 3) := by decide +kernel
theorem dMd_relocate_97 : decode cMd_relocate 97 = .ok (.iconst 0, 1) := by decide +kernel
theorem dMd_relocate_98 : decode cMd_relocate 98 = .ok (.ireturn, 1) := by decide +kernel
theorem dMd_relocate_99 : decode cMd_relocate 99 = .ok (.aload_n 0, 1) := by decide +kernel
theorem dMd_relocate_100 : decode cMd_relocate 100 = .ok (.getfield 71, 3) := by decide +kernel
theorem dMd_relocate_103 : decode cMd_relocate 103 = .ok (.iload 5, 2) := by decide +kernel
theorem dMd_relocate_105 : decode cMd_relocate 105 = .ok (.aload_n 0, 1) := by decide +kernel
theorem dMd_relocate_106 : decode cMd_relocate 106 = .ok (.getfield 32, 3) := by decide +kernel
theorem dMd_relocate_109 : decode cMd_relocate 109 = .ok (.iload 4, 2) := by decide +kernel
theorem dMd_relocate_111 : decode cMd_relocate 111 = .ok (.iaload, 1) := by decide +kernel
theorem dMd_relocate_112 : decode cMd_relocate 112 = .ok (.iconst 1, 1) := by decide +kernel
theorem dMd_relocate_113 : decode cMd_relocate 113 = .ok (.if_icmp .ne 16, 3) := by decide +kernel
theorem dMd_relocate_116 : decode cMd_relocate 116 = .ok (.iload 6, 2) := by decide +kernel
theorem dMd_relocate_118 : decode cMd_relocate 118 = .ok (.aload_n 0, 1) := by decide +kernel
theorem dMd_relocate_119 : decode cMd_relocate 119 = .ok (.getfield 41, 3) := by decide +kernel
theorem dMd_relocate_122 : decode cMd_relocate 122 = .ok (.iload 4, 2) := by decide +kernel
theorem dMd_relocate_124 : decode cMd_relocate 124 = .ok (.iaload, 1) := by decide +kernel
theorem dMd_relocate_125 : decode cMd_relocate 125 = .ok (.iadd, 1) := by decide +kernel
theorem dMd_relocate_126 : decode cMd_relocate 126 = .ok (.goto 5, 3) := by decide +kernel
theorem dMd_relocate_129 : decode cMd_relocate 129 = .ok (.iload 6, 2) := by decide +kernel
theorem dMd_relocate_131 : decode cMd_relocate 131 = .ok (.iastore, 1) := by decide +kernel
theorem dMd_relocate_132 : decode cMd_relocate 132 = .ok (.iconst 1, 1) := by decide +kernel
theorem dMd_relocate_133 : decode cMd_relocate 133 = .ok (.ireturn, 1) := by decide +kernel
theorem dMd_isFree_0 : decode cMd_isFree 0 = .ok (.iload_n 1, 1) := by decide +kernel
theorem dMd_isFree_1 : decode cMd_isFree 1 = .ok (.iload_n 2, 1) := by decide +kernel
theorem dMd_isFree_2 : decode cMd_isFree 2 = .ok (.iadd, 1) := by decide +kernel
theorem dMd_isFree_3 : decode cMd_isFree 3 = .ok (.bipush 32, 2) := by decide +kernel
theorem dMd_isFree_5 : decode cMd_isFree 5 = .ok (.if_icmp .gt 7, 3) := by decide +kernel
theorem dMd_isFree_8 : decode cMd_isFree 8 = .ok (.iconst 1, 1) := by decide +kernel
theorem dMd_isFree_9 : decode cMd_isFree 9 = .ok (.goto 4, 3) := by decide +kernel
theorem dMd_isFree_12 : decode cMd_isFree 12 = .ok (.iconst 0, 1) := by decide +kernel
theorem dMd_isFree_13 : decode cMd_isFree 13 = .ok (.istore_n 3, 1) := by decide +kernel
theorem dMd_isFree_14 : decode cMd_isFree 14 = .ok (.iconst 0, 1) := by decide +kernel
theorem dMd_isFree_15 : decode cMd_isFree 15 = .ok (.istore 4, 2) := by decide +kernel
theorem dMd_isFree_17 : decode cMd_isFree 17 = .ok (.iload 4, 2) := by decide +kernel
theorem dMd_isFree_19 : decode cMd_isFree 19 = .ok (.bipush 6, 2) := by decide +kernel
theorem dMd_isFree_21 : decode cMd_isFree 21 = .ok (.if_icmp .ge 61, 3) := by decide +kernel
theorem dMd_isFree_24 : decode cMd_isFree 24 = .ok (.iload_n 3, 1) := by decide +kernel
theorem dMd_isFree_25 : decode cMd_isFree 25 = .ok (.ifCond .eq 49, 3) := by decide +kernel
theorem dMd_isFree_28 : decode cMd_isFree 28 = .ok (.aload_n 0, 1) := by decide +kernel
theorem dMd_isFree_29 : decode cMd_isFree 29 = .ok (.getfield 47, 3) := by decide +kernel
theorem dMd_isFree_32 : decode cMd_isFree 32 = .ok (.iload 4, 2) := by decide +kernel
theorem dMd_isFree_34 : decode cMd_isFree 34 = .ok (.baload, 1) := by decide +kernel
theorem dMd_isFree_35 : decode cMd_isFree 35 = .ok (.ifCond .eq 35, 3) := by decide +kernel
theorem dMd_isFree_38 : decode cMd_isFree 38 = .ok (.iload_n 1, 1) := by decide +kernel
theorem dMd_isFree_39 : decode cMd_isFree 39 = .ok (.iload_n 2, 1) := by decide +kernel
theorem dMd_isFree_40 : decode cMd_isFree 40 = .ok (.iadd, 1) := by decide +kernel
theorem dMd_isFree_41 : decode cMd_isFree 41 = .ok (.aload_n 0, 1) := by decide +kernel
theorem dMd_isFree_42 : decode cMd_isFree 42 = .ok (.getfield 50, 3) := by decide +kernel
theorem dMd_isFree_45 : decode cMd_isFree 45 = .ok (.iload 4, 2) := by decide +kernel
theorem dMd_isFree_47 : decode cMd_isFree 47 = .ok (.iaload, 1) := by decide +kernel
theorem dMd_isFree_48 : decode cMd_isFree 48 = .ok (.if_icmp .le 22, 3) := by decide +kernel
theorem dMd_isFree_51 : decode cMd_isFree 51 = .ok (.aload_n 0, 1) := by decide +kernel
theorem dMd_isFree_52 : decode cMd_isFree 52 = .ok (.getfield 50, 3) := by decide +kernel
theorem dMd_isFree_55 : decode cMd_isFree 55 = .ok (.iload 4, 2) := by decide +kernel
theorem dMd_isFree_57 : decode cMd_isFree 57 = .ok (.iaload, 1) := by decide +kernel
theorem dMd_isFree_58 : decode cMd_isFree 58 = .ok (.aload_n 0, 1) := by decide +kernel
theorem dMd_isFree_59 : decode cMd_isFree 59 = .ok (.getfield 7, 3) := by decide +kernel
theorem dMd_isFree_62 : decode cMd_isFree 62 = .ok (.iload 4, 2) := by decide +kernel
theorem dMd_isFree_64 : decode cMd_isFree 64 = .ok (.iaload, 1) := by decide +kernel
theorem dMd_isFree_65 : decode cMd_isFree 65 = .ok (.iadd, 1) := by decide +kernel
theorem dMd_isFree_66 : decode cMd_isFree 66 = .ok (.iload_n 1, 1) := by decide +kernel
theorem dMd_isFree_67 : decode cMd_isFree 67 = .ok (.if_icmp .gt 7, 3) := by decide +kernel
theorem dMd_isFree_70 : decode cMd_isFree 70 = .ok (.iconst 1, 1) := by decide +kernel
theorem dMd_isFree_71 : decode cMd_isFree 71 = .ok (.goto 4, 3) := by decide +kernel
theorem dMd_isFree_74 : decode cMd_isFree 74 = .ok (.iconst 0, 1) := by decide +kernel
theorem dMd_isFree_75 : decode cMd_isFree 75 = .ok (.istore_n 3, 1) := by decide +kernel
theorem dMd_isFree_76 : decode cMd_isFree 76 = .ok (.iinc 4 1, 3) := by decide +kernel
theorem dMd_isFree_79 : decode cMd_isFree 79 = .ok (.goto (-62), 3) := by decide +kernel
theorem dMd_isFree_82 : decode cMd_isFree 82 = .ok (.iload_n 3, 1) := by decide +kernel
theorem dMd_isFree_83 : decode cMd_isFree 83 = .ok (.ireturn, 1) := by decide +kernel
theorem dMd_loadAll_0 : decode cMd_loadAll 0 = .ok (.iconst 0, 1) := by decide +kernel
theorem dMd_loadAll_1 : decode cMd_loadAll 1 = .ok (.istore_n 1, 1) := by decide +kernel
theorem dMd_loadAll_2 : decode cMd_loadAll 2 = .ok (.iload_n 1, 1) := by decide +kernel
theorem dMd_loadAll_3 : decode cMd_loadAll 3 = .ok (.aload_n 0, 1) := by decide +kernel
theorem dMd_loadAll_4 : decode cMd_loadAll 4 = .ok (.getfield 123, 3) := by decide +kernel
theorem dMd_loadAll_7 : decode cMd_loadAll 7 = .ok (.if_icmp .ge 170, 3) := by decide +kernel
theorem dMd_loadAll_10 : decode cMd_loadAll 10 = .ok (.aload_n 0, 1) := by decide +kernel
theorem dMd_loadAll_11 : decode cMd_loadAll 11 = .ok (.getfield 74, 3) := by decide +kernel
theorem dMd_loadAll_14 : decode cMd_loadAll 14 = .ok (.iload_n 1, 1) := by decide +kernel
theorem dMd_loadAll_15 : decode cMd_loadAll 15 = .ok (.iaload, 1) := by decide +kernel
theorem dMd_loadAll_16 : decode cMd_loadAll 16 = .ok (.istore_n 2, 1) := by decide +kernel
theorem dMd_loadAll_17 : decode cMd_loadAll 17 = .ok (.aload_n 0, 1) := by decide +kernel
theorem dMd_loadAll_18 : decode cMd_loadAll 18 = .ok (.getfield 47, 3) := by decide +kernel
theorem dMd_loadAll_21 : decode cMd_loadAll 21 = .ok (.iload_n 2, 1) := by decide +kernel
theorem dMd_loadAll_22 : decode cMd_loadAll 22 = .ok (.baload, 1) := by decide +kernel
theorem dMd_loadAll_23 : decode cMd_loadAll 23 = .ok (.ifCond .ne 148, 3) := by decide +kernel
theorem dMd_loadAll_26 : decode cMd_loadAll 26 = .ok (.iconst 0, 1) := by decide +kernel
theorem dMd_loadAll_27 : decode cMd_loadAll 27 = .ok (.istore_n 3, 1) := by decide +kernel
theorem dMd_loadAll_28 : decode cMd_loadAll 28 = .ok (.iload_n 3, 1) := by decide +kernel
theorem dMd_loadAll_29 : decode cMd_loadAll 29 = .ok (.bipush 32, 2) := by decide +kernel
theorem dMd_loadAll_31 : decode cMd_loadAll 31 = .ok (.if_icmp .ge 23, 3) := by decide +kernel
theorem dMd_loadAll_34 : decode cMd_loadAll 34 = .ok (.aload_n 0, 1) := by decide +kernel
theorem dMd_loadAll_35 : decode cMd_loadAll 35 = .ok (.iload_n 3, 1) := by decide +kernel
theorem dMd_loadAll_36 : decode cMd_loadAll 36 = .ok (.aload_n 0, 1) := by decide +kernel
theorem dMd_loadAll_37 : decode cMd_loadAll 37 = .ok (.getfield 7, 3) := by decide +kernel
theorem dMd_loadAll_40 : decode cMd_loadAll 40 = .ok (.iload_n 2, 1) := by decide +kernel
theorem dMd_loadAll_41 : decode cMd_loadAll 41 = .ok (.iaload, 1) := by decide +kernel
theorem dMd_loadAll_42 : decode cMd_loadAll 42 = .ok (.invokevirtual 149, 3) := by decide +kernel
theorem dMd_loadAll_45 : decode cMd_loadAll 45 = .ok (.ifCond .ne 9, 3) := by decide +kernel
theorem dMd_loadAll_48 : decode cMd_loadAll 48 = .ok (.iinc 3 1, 3) := by decide +kernel
theorem dMd_loadAll_51 : decode cMd_loadAll 51 = .ok (.goto (-23), 3) := by decide +kernel
theorem dMd_loadAll_54 : decode cMd_loadAll 54 = .ok (.iload_n 3, 1) := by decide +kernel
theorem dMd_loadAll_55 : decode cMd_loadAll 55 = .ok (.bipush 32, 2) := by decide +kernel
theorem dMd_loadAll_57 : decode cMd_loadAll 57 = .ok (.if_icmp .ne 5, 3) := by decide +kernel
theorem dMd_loadAll_60 : decode cMd_loadAll 60 = .ok (.iconst 0, 1) := by decide +kernel
theorem dMd_loadAll_61 : decode cMd_loadAll 61 = .ok (.ireturn, 1) := by decide +kernel
theorem dMd_loadAll_62 : decode cMd_loadAll 62 = .ok (.aload_n 0, 1) := by decide +kernel
theorem dMd_loadAll_63 : decode cMd_loadAll 63 = .ok (.getfield 50, 3) := by decide +kernel
theorem dMd_loadAll_66 : decode cMd_loadAll 66 = .ok (.iload_n 2, 1) := by decide +kernel
theorem dMd_loadAll_67 : decode cMd_loadAll 67 = .ok (.iload_n 3, 1) := by decide +kernel
theorem dMd_loadAll_68 : decode cMd_loadAll 68 = .ok (.iastore, 1) := by decide +kernel
theorem dMd_loadAll_69 : decode cMd_loadAll 69 = .ok (.aload_n 0, 1) := by decide +kernel
theorem dMd_loadAll_70 : decode cMd_loadAll 70 = .ok (.getfield 47, 3) := by decide +kernel
theorem dMd_loadAll_73 : decode cMd_loadAll 73 = .ok (.iload_n 2, 1) := by decide +kernel
theorem dMd_loadAll_74 : decode cMd_loadAll 74 = .ok (.iconst 1, 1) := by decide +kernel
theorem dMd_loadAll_75 : decode cMd_loadAll 75 = .ok (.bastore, 1) := by decide +kernel
theorem dMd_loadAll_76 : decode cMd_loadAll 76 = .ok (.aload_n 0, 1) := by decide +kernel
theorem dMd_loadAll_77 : decode cMd_loadAll 77 = .ok (.getfield 77, 3) := by decide +kernel
theorem dMd_loadAll_80 : decode cMd_loadAll 80 = .ok (.iload_n 2, 1) := by decide +kernel
theorem dMd_loadAll_81 : decode cMd_loadAll 81 = .ok (.iconst 1, 1) := by decide +kernel
theorem dMd_loadAll_82 : decode cMd_loadAll 82 = .ok (.bastore, 1) := by decide +kernel
theorem dMd_loadAll_83 : decode cMd_loadAll 83 = .ok (.aload_n 0, 1) := by decide +kernel
theorem dMd_loadAll_84 : decode cMd_loadAll 84 = .ok (.getfield 56, 3) := by decide +kernel
theorem dMd_loadAll_87 : decode cMd_loadAll 87 = .ok (.iload_n 2, 1) := by decide +kernel
theorem dMd_loadAll_88 : decode cMd_loadAll 88 = .ok (.aload_n 0, 1) := by decide +kernel
theorem dMd_loadAll_89 : decode cMd_loadAll 89 = .ok (.getfield 123, 3) := by decide +kernel
theorem dMd_loadAll_92 : decode cMd_loadAll 92 = .ok (.iastore, 1) := by decide +kernel
theorem dMd_loadAll_93 : decode cMd_loadAll 93 = .ok (.iconst 0, 1) := by decide +kernel
theorem dMd_loadAll_94 : decode cMd_loadAll 94 = .ok (.istore 4, 2) := by decide +kernel
theorem dMd_loadAll_96 : decode cMd_loadAll 96 = .ok (.iload 4, 2) := by decide +kernel
theorem dMd_loadAll_98 : decode cMd_loadAll 98 = .ok (.bipush 6, 2) := by decide +kernel
theorem dMd_loadAll_100 : decode cMd_loadAll 100 = .ok (.if_icmp .ge 41, 3) := by decide +kernel
theorem dMd_loadAll_103 : decode cMd_loadAll 103 = .ok (.aload_n 0, 1) := by decide +kernel
theorem dMd_loadAll_104 : decode cMd_loadAll 104 = .ok (.getfield 53, 3) := by decide +kernel
theorem dMd_loadAll_107 : decode cMd_loadAll 107 = .ok (.bipush 6, 2) := by decide +kernel
theorem dMd_loadAll_109 : decode cMd_loadAll 109 = .ok (.iload_n 2, 1) := by decide +kernel
theorem dMd_loadAll_110 : decode cMd_loadAll 110 = .ok (.imul, 1) := by decide +kernel
theorem dMd_loadAll_111 : decode cMd_loadAll 111 = .ok (.iload 4, 2) := by decide +kernel
theorem dMd_loadAll_113 : decode cMd_loadAll 113 = .ok (.iadd, 1) := by decide +kernel
theorem dMd_loadAll_114 : decode cMd_loadAll 114 = .ok (.aload_n 0, 1) := by decide +kernel
theorem dMd_loadAll_115 : decode cMd_loadAll 115 = .ok (.getfield 74, 3) := by decide +kernel
theorem dMd_loadAll_118 : decode cMd_loadAll 118 = .ok (.iload 4, 2) := by decide +kernel
theorem dMd_loadAll_120 : decode cMd_loadAll 120 = .ok (.iaload, 1) := by decide +kernel
theorem dMd_loadAll_121 : decode cMd_loadAll 121 = .ok (.iastore, 1) := by decide +kernel
theorem dMd_loadAll_122 : decode cMd_loadAll 122 = .ok (.aload_n 0, 1) := by decide +kernel
theorem dMd_loadAll_123 : decode cMd_loadAll 123 = .ok (.getfield 59, 3) := by decide +kernel
theorem dMd_loadAll_126 : decode cMd_loadAll 126 = .ok (.bipush 6, 2) := by decide +kernel
theorem dMd_loadAll_128 : decode cMd_loadAll 128 = .ok (.iload_n 2, 1) := by decide +kernel
theorem dMd_loadAll_129 : decode cMd_loadAll 129 = .ok (.imul, 1) := by decide +kernel
theorem dMd_loadAll_130 : decode cMd_loadAll 130 = .ok (.iload 4, 2) := by decide +kernel
theorem dMd_loadAll_132 : decode cMd_loadAll 132 = .ok (.iadd, 1) := by decide +kernel
theorem dMd_loadAll_133 : decode cMd_loadAll 133 = .ok (.iconst 0, 1) := by decide +kernel
theorem dMd_loadAll_134 : decode cMd_loadAll 134 = .ok (.bastore, 1) := by decide +kernel
theorem dMd_loadAll_135 : decode cMd_loadAll 135 = .ok (.iinc 4 1, 3) := by decide +kernel
theorem dMd_loadAll_138 : decode cMd_loadAll 138 = .ok (.goto (-42), 3) := by decide +kernel
theorem dMd_loadAll_141 : decode cMd_loadAll 141 = .ok (.iload_n 3, 1) := by decide +kernel
theorem dMd_loadAll_142 : decode cMd_loadAll 142 = .ok (.istore 4, 2) := by decide +kernel
theorem dMd_loadAll_144 : decode cMd_loadAll 144 = .ok (.iload 4, 2) := by decide +kernel
theorem dMd_loadAll_146 : decode cMd_loadAll 146 = .ok (.iload_n 3, 1) := by decide +kernel
theorem dMd_loadAll_147 : decode cMd_loadAll 147 = .ok (.aload_n 0, 1) := by decide +kernel
theorem dMd_loadAll_148 : decode cMd_loadAll 148 = .ok (.getfield 7, 3) := by decide +kernel
theorem dMd_loadAll_151 : decode cMd_loadAll 151 = .ok (.iload_n 2, 1) := by decide +kernel
theorem dMd_loadAll_152 : decode cMd_loadAll 152 = .ok (.iaload, 1) := by decide +kernel
theorem dMd_loadAll_153 : decode cMd_loadAll 153 = .ok (.iadd, 1) := by decide +kernel
theorem dMd_loadAll_154 : decode cMd_loadAll 154 = .ok (.if_icmp .ge 17, 3) := by decide +kernel
theorem dMd_loadAll_157 : decode cMd_loadAll 157 = .ok (.aload_n 0, 1) := by decide +kernel
theorem dMd_loadAll_158 : decode cMd_loadAll 158 = .ok (.getfield 71, 3) := by decide +kernel
theorem dMd_loadAll_161 : decode cMd_loadAll 161 = .ok (.iload 4, 2) := by decide +kernel
theorem dMd_loadAll_163 : decode cMd_loadAll 163 = .ok (.iconst 0, 1) := by decide +kernel
theorem dMd_loadAll_164 : decode cMd_loadAll 164 = .ok (.iastore, 1) := by decide +kernel
theorem dMd_loadAll_165 : decode cMd_loadAll 165 = .ok (.iinc 4 1, 3) := by decide +kernel
theorem dMd_loadAll_168 : decode cMd_loadAll 168 = .ok (.goto (-24), 3) := by decide +kernel
theorem dMd_loadAll_171 : decode cMd_loadAll 171 = .ok (.iinc 1 1, 3) := by decide +kernel
theorem dMd_loadAll_174 : decode cMd_loadAll 174 = .ok (.goto (-172), 3) := by decide +kernel
theorem dMd_loadAll_177 : decode cMd_loadAll 177 = .ok (.iconst 1, 1) := by decide +kernel
theorem dMd_loadAll_178 : decode cMd_loadAll 178 = .ok (.ireturn, 1) := by decide +kernel
theorem dMd_isGlobal_0 : decode cMd_isGlobal 0 = .ok (.iconst 0, 1) := by decide +kernel
theorem dMd_isGlobal_1 : decode cMd_isGlobal 1 = .ok (.istore_n 2, 1) := by decide +kernel
theorem dMd_isGlobal_2 : decode cMd_isGlobal 2 = .ok (.iconst 0, 1) := by decide +kernel
theorem dMd_isGlobal_3 : decode cMd_isGlobal 3 = .ok (.istore_n 3, 1) := by decide +kernel
theorem dMd_isGlobal_4 : decode cMd_isGlobal 4 = .ok (.iload_n 3, 1) := by decide +kernel
theorem dMd_isGlobal_5 : decode cMd_isGlobal 5 = .ok (.aload_n 0, 1) := by decide +kernel
theorem dMd_isGlobal_6 : decode cMd_isGlobal 6 = .ok (.getfield 133, 3) := by decide +kernel
theorem dMd_isGlobal_9 : decode cMd_isGlobal 9 = .ok (.if_icmp .ge 29, 3) := by decide +kernel
theorem dMd_isGlobal_12 : decode cMd_isGlobal 12 = .ok (.iload_n 2, 1) := by decide +kernel
theorem dMd_isGlobal_13 : decode cMd_isGlobal 13 = .ok (.ifCond .ne 13, 3) := by decide +kernel
theorem dMd_isGlobal_16 : decode cMd_isGlobal 16 = .ok (.aload_n 0, 1) := by decide +kernel
theorem dMd_isGlobal_17 : decode cMd_isGlobal 17 = .ok (.getfield 68, 3) := by decide +kernel
theorem dMd_isGlobal_20 : decode cMd_isGlobal 20 = .ok (.iload_n 3, 1) := by decide +kernel
theorem dMd_isGlobal_21 : decode cMd_isGlobal 21 = .ok (.iaload, 1) := by decide +kernel
theorem dMd_isGlobal_22 : decode cMd_isGlobal 22 = .ok (.iload_n 1, 1) := by decide +kernel
theorem dMd_isGlobal_23 : decode cMd_isGlobal 23 = .ok (.if_icmp .ne 7, 3) := by decide +kernel
theorem dMd_isGlobal_26 : decode cMd_isGlobal 26 = .ok (.iconst 1, 1) := by decide +kernel
theorem dMd_isGlobal_27 : decode cMd_isGlobal 27 = .ok (.goto 4, 3) := by decide +kernel
theorem dMd_isGlobal_30 : decode cMd_isGlobal 30 = .ok (.iconst 0, 1) := by decide +kernel
theorem dMd_isGlobal_31 : decode cMd_isGlobal 31 = .ok (.istore_n 2, 1) := by decide +kernel
theorem dMd_isGlobal_32 : decode cMd_isGlobal 32 = .ok (.iinc 3 1, 3) := by decide +kernel
theorem dMd_isGlobal_35 : decode cMd_isGlobal 35 = .ok (.goto (-31), 3) := by decide +kernel
theorem dMd_isGlobal_38 : decode cMd_isGlobal 38 = .ok (.iload_n 2, 1) := by decide +kernel
theorem dMd_isGlobal_39 : decode cMd_isGlobal 39 = .ok (.ireturn, 1) := by decide +kernel
theorem dMd_relocateAll_0 : decode cMd_relocateAll 0 = .ok (.iconst 0, 1) := by decide +kernel
theorem dMd_relocateAll_1 : decode cMd_relocateAll 1 = .ok (.istore_n 2, 1) := by decide +kernel
theorem dMd_relocateAll_2 : decode cMd_relocateAll 2 = .ok (.iload_n 2, 1) := by decide +kernel
theorem dMd_relocateAll_3 : decode cMd_relocateAll 3 = .ok (.aload_n 0, 1) := by decide +kernel
theorem dMd_relocateAll_4 : decode cMd_relocateAll 4 = .ok (.getfield 123, 3) := by decide +kernel
theorem dMd_relocateAll_7 : decode cMd_relocateAll 7 = .ok (.if_icmp .ge 58, 3) := by decide +kernel
theorem dMd_relocateAll_10 : decode cMd_relocateAll 10 = .ok (.aload_n 0, 1) := by decide +kernel
theorem dMd_relocateAll_11 : decode cMd_relocateAll 11 = .ok (.getfield 74, 3) := by decide +kernel
theorem dMd_relocateAll_14 : decode cMd_relocateAll 14 = .ok (.iload_n 2, 1) := by decide +kernel
theorem dMd_relocateAll_15 : decode cMd_relocateAll 15 = .ok (.iaload, 1) := by decide +kernel
theorem dMd_relocateAll_16 : decode cMd_relocateAll 16 = .ok (.istore_n 3, 1) := by decide +kernel
theorem dMd_relocateAll_17 : decode cMd_relocateAll 17 = .ok (.iconst 0, 1) := by decide +kernel
theorem dMd_relocateAll_18 : decode cMd_relocateAll 18 = .ok (.istore 4, 2) := by decide +kernel
theorem dMd_relocateAll_20 : decode cMd_relocateAll 20 = .ok (.iload 4, 2) := by decide +kernel
theorem dMd_relocateAll_22 : decode cMd_relocateAll 22 = .ok (.aload_n 0, 1) := by decide +kernel
theorem dMd_relocateAll_23 : decode cMd_relocateAll 23 = .ok (.getfield 44, 3) := by decide +kernel
theorem dMd_relocateAll_26 : decode cMd_relocateAll 26 = .ok (.iload_n 3, 1) := by decide +kernel
theorem dMd_relocateAll_27 : decode cMd_relocateAll 27 = .ok (.iaload, 1) := by decide +kernel
theorem dMd_relocateAll_28 : decode cMd_relocateAll 28 = .ok (.if_icmp .ge 31, 3) := by decide +kernel
theorem dMd_relocateAll_31 : decode cMd_relocateAll 31 = .ok (.aload_n 0, 1) := by decide +kernel
theorem dMd_relocateAll_32 : decode cMd_relocateAll 32 = .ok (.getfield 77, 3) := by decide +kernel
theorem dMd_relocateAll_35 : decode cMd_relocateAll 35 = .ok (.iload_n 3, 1) := by decide +kernel
theorem dMd_relocateAll_36 : decode cMd_relocateAll 36 = .ok (.baload, 1) := by decide +kernel
theorem dMd_relocateAll_37 : decode cMd_relocateAll 37 = .ok (.ifCond .eq 22, 3) := by decide +kernel
theorem dMd_relocateAll_40 : decode cMd_relocateAll 40 = .ok (.aload_n 0, 1) := by decide +kernel
theorem dMd_relocateAll_41 : decode cMd_relocateAll 41 = .ok (.iload_n 3, 1) := by decide +kernel
theorem dMd_relocateAll_42 : decode cMd_relocateAll 42 = .ok (.iload 4, 2) := by decide +kernel
theorem dMd_relocateAll_44 : decode cMd_relocateAll 44 = .ok (.iload_n 1, 1) := by decide +kernel
theorem dMd_relocateAll_45 : decode cMd_relocateAll 45 = .ok (.invokevirtual 152, 3) := by decide +kernel
theorem dMd_relocateAll_48 : decode cMd_relocateAll 48 = .ok (.ifCond .ne 5, 3) := by decide +kernel
theorem dMd_relocateAll_51 : decode cMd_relocateAll 51 = .ok (.iconst 0, 1) := by decide +kernel
theorem dMd_relocateAll_52 : decode cMd_relocateAll 52 = .ok (.ireturn, 1) := by decide +kernel
theorem dMd_relocateAll_53 : decode cMd_relocateAll 53 = .ok (.iinc 4 1, 3) := by decide +kernel
theorem dMd_relocateAll_56 : decode cMd_relocateAll 56 = .ok (.goto (-36), 3) := by decide +kernel
theorem dMd_relocateAll_59 : decode cMd_relocateAll 59 = .ok (.iinc 2 1, 3) := by decide +kernel
theorem dMd_relocateAll_62 : decode cMd_relocateAll 62 = .ok (.goto (-60), 3) := by decide +kernel
theorem dMd_relocateAll_65 : decode cMd_relocateAll 65 = .ok (.iconst 1, 1) := by decide +kernel
theorem dMd_relocateAll_66 : decode cMd_relocateAll 66 = .ok (.ireturn, 1) := by decide +kernel
theorem dMd_note_0 : decode cMd_note 0 = .ok (.aload_n 0, 1) := by decide +kernel
theorem dMd_note_1 : decode cMd_note 1 = .ok (.getfield 92, 3) := by decide +kernel
theorem dMd_note_4 : decode cMd_note 4 = .ok (.aload_n 0, 1) := by decide +kernel
theorem dMd_note_5 : decode cMd_note 5 = .ok (.getfield 156, 3) := by decide +kernel
theorem dMd_note_8 : decode cMd_note 8 = .ok (.bipush 40, 2) := by decide +kernel
theorem dMd_note_10 : decode cMd_note 10 = .ok (.irem, 1) := by decide +kernel
theorem dMd_note_11 : decode cMd_note 11 = .ok (.iload_n 1, 1) := by decide +kernel
theorem dMd_note_12 : decode cMd_note 12 = .ok (.iastore, 1) := by decide +kernel
theorem dMd_note_13 : decode cMd_note 13 = .ok (.aload_n 0, 1) := by decide +kernel
theorem dMd_note_14 : decode cMd_note 14 = .ok (.dup, 1) := by decide +kernel
theorem dMd_note_15 : decode cMd_note 15 = .ok (.getfield 156, 3) := by decide +kernel
theorem dMd_note_18 : decode cMd_note 18 = .ok (.iconst 1, 1) := by decide +kernel
theorem dMd_note_19 : decode cMd_note 19 = .ok (.iadd, 1) := by decide +kernel
theorem dMd_note_20 : decode cMd_note 20 = .ok (.putfield 156, 3) := by decide +kernel
theorem dMd_note_23 : decode cMd_note 23 = .ok (.return_, 1) := by decide +kernel
theorem dMd_beginAll_0 : decode cMd_beginAll 0 = .ok (.iconst 0, 1) := by decide +kernel
theorem dMd_beginAll_1 : decode cMd_beginAll 1 = .ok (.istore_n 2, 1) := by decide +kernel
theorem dMd_beginAll_2 : decode cMd_beginAll 2 = .ok (.iload_n 2, 1) := by decide +kernel
theorem dMd_beginAll_3 : decode cMd_beginAll 3 = .ok (.bipush 6, 2) := by decide +kernel
theorem dMd_beginAll_5 : decode cMd_beginAll 5 = .ok (.if_icmp .ge 29, 3) := by decide +kernel
theorem dMd_beginAll_8 : decode cMd_beginAll 8 = .ok (.aload_n 0, 1) := by decide +kernel
theorem dMd_beginAll_9 : decode cMd_beginAll 9 = .ok (.getfield 80, 3) := by decide +kernel
theorem dMd_beginAll_12 : decode cMd_beginAll 12 = .ok (.iload_n 2, 1) := by decide +kernel
theorem dMd_beginAll_13 : decode cMd_beginAll 13 = .ok (.aload_n 0, 1) := by decide +kernel
theorem dMd_beginAll_14 : decode cMd_beginAll 14 = .ok (.getfield 77, 3) := by decide +kernel
theorem dMd_beginAll_17 : decode cMd_beginAll 17 = .ok (.iload_n 2, 1) := by decide +kernel
theorem dMd_beginAll_18 : decode cMd_beginAll 18 = .ok (.baload, 1) := by decide +kernel
theorem dMd_beginAll_19 : decode cMd_beginAll 19 = .ok (.ifCond .ne 7, 3) := by decide +kernel
theorem dMd_beginAll_22 : decode cMd_beginAll 22 = .ok (.iconst 1, 1) := by decide +kernel
theorem dMd_beginAll_23 : decode cMd_beginAll 23 = .ok (.goto 4, 3) := by decide +kernel
theorem dMd_beginAll_26 : decode cMd_beginAll 26 = .ok (.iconst 0, 1) := by decide +kernel
theorem dMd_beginAll_27 : decode cMd_beginAll 27 = .ok (.bastore, 1) := by decide +kernel
theorem dMd_beginAll_28 : decode cMd_beginAll 28 = .ok (.iinc 2 1, 3) := by decide +kernel
theorem dMd_beginAll_31 : decode cMd_beginAll 31 = .ok (.goto (-29), 3) := by decide +kernel
theorem dMd_beginAll_34 : decode cMd_beginAll 34 = .ok (.iconst 0, 1) := by decide +kernel
theorem dMd_beginAll_35 : decode cMd_beginAll 35 = .ok (.istore_n 2, 1) := by decide +kernel
theorem dMd_beginAll_36 : decode cMd_beginAll 36 = .ok (.aload_n 0, 1) := by decide +kernel
theorem dMd_beginAll_37 : decode cMd_beginAll 37 = .ok (.getfield 83, 3) := by decide +kernel
theorem dMd_beginAll_40 : decode cMd_beginAll 40 = .ok (.iconst 0, 1) := by decide +kernel
theorem dMd_beginAll_41 : decode cMd_beginAll 41 = .ok (.iload_n 1, 1) := by decide +kernel
theorem dMd_beginAll_42 : decode cMd_beginAll 42 = .ok (.iastore, 1) := by decide +kernel
theorem dMd_beginAll_43 : decode cMd_beginAll 43 = .ok (.aload_n 0, 1) := by decide +kernel
theorem dMd_beginAll_44 : decode cMd_beginAll 44 = .ok (.getfield 86, 3) := by decide +kernel
theorem dMd_beginAll_47 : decode cMd_beginAll 47 = .ok (.iconst 0, 1) := by decide +kernel
theorem dMd_beginAll_48 : decode cMd_beginAll 48 = .ok (.iconst 0, 1) := by decide +kernel
theorem dMd_beginAll_49 : decode cMd_beginAll 49 = .ok (.iastore, 1) := by decide +kernel
theorem dMd_beginAll_50 : decode cMd_beginAll 50 = .ok (.aload_n 0, 1) := by decide +kernel
theorem dMd_beginAll_51 : decode cMd_beginAll 51 = .ok (.getfield 80, 3) := by decide +kernel
theorem dMd_beginAll_54 : decode cMd_beginAll 54 = .ok (.iload_n 1, 1) := by decide +kernel
theorem dMd_beginAll_55 : decode cMd_beginAll 55 = .ok (.baload, 1) := by decide +kernel
theorem dMd_beginAll_56 : decode cMd_beginAll 56 = .ok (.ifCond .eq 4, 3) := by decide +kernel
theorem dMd_beginAll_59 : decode cMd_beginAll 59 = .ok (.return_, 1) := by decide +kernel
theorem dMd_beginAll_60 : decode cMd_beginAll 60 = .ok (.aload_n 0, 1) := by decide +kernel
theorem dMd_beginAll_61 : decode cMd_beginAll 61 = .ok (.getfield 80, 3) := by decide +kernel
theorem dMd_beginAll_64 : decode cMd_beginAll 64 = .ok (.iload_n 1, 1) := by decide +kernel
theorem dMd_beginAll_65 : decode cMd_beginAll 65 = .ok (.iconst 1, 1) := by decide +kernel
theorem dMd_beginAll_66 : decode cMd_beginAll 66 = .ok (.bastore, 1) := by decide +kernel
theorem dMd_beginAll_67 : decode cMd_beginAll 67 = .ok (.iload_n 2, 1) := by decide +kernel
theorem dMd_beginAll_68 : decode cMd_beginAll 68 = .ok (.ifCond .lt 112, 3) := by decide +kernel
theorem dMd_beginAll_71 : decode cMd_beginAll 71 = .ok (.aload_n 0, 1) := by decide +kernel
theorem dMd_beginAll_72 : decode cMd_beginAll 72 = .ok (.getfield 83, 3) := by decide +kernel
theorem dMd_beginAll_75 : decode cMd_beginAll 75 = .ok (.iload_n 2, 1) := by decide +kernel
theorem dMd_beginAll_76 : decode cMd_beginAll 76 = .ok (.iaload, 1) := by decide +kernel
theorem dMd_beginAll_77 : decode cMd_beginAll 77 = .ok (.istore_n 3, 1) := by decide +kernel
theorem dMd_beginAll_78 : decode cMd_beginAll 78 = .ok (.aload_n 0, 1) := by decide +kernel
theorem dMd_beginAll_79 : decode cMd_beginAll 79 = .ok (.getfield 86, 3) := by decide +kernel
theorem dMd_beginAll_82 : decode cMd_beginAll 82 = .ok (.iload_n 2, 1) := by decide +kernel
theorem dMd_beginAll_83 : decode cMd_beginAll 83 = .ok (.iaload, 1) := by decide +kernel
theorem dMd_beginAll_84 : decode cMd_beginAll 84 = .ok (.aload_n 0, 1) := by decide +kernel
theorem dMd_beginAll_85 : decode cMd_beginAll 85 = .ok (.getfield 16, 3) := by decide +kernel
theorem dMd_beginAll_88 : decode cMd_beginAll 88 = .ok (.iload_n 3, 1) := by decide +kernel
theorem dMd_beginAll_89 : decode cMd_beginAll 89 = .ok (.iaload, 1) := by decide +kernel
theorem dMd_beginAll_90 : decode cMd_beginAll 90 = .ok (.if_icmp .ge 69, 3) := by decide +kernel
theorem dMd_beginAll_93 : decode cMd_beginAll 93 = .ok (.aload_n 0, 1) := by decide +kernel
theorem dMd_beginAll_94 : decode cMd_beginAll 94 = .ok (.getfield 13, 3) := by decide +kernel
theorem dMd_beginAll_97 : decode cMd_beginAll 97 = .ok (.iconst 3, 1) := by decide +kernel
theorem dMd_beginAll_98 : decode cMd_beginAll 98 = .ok (.iload_n 3, 1) := by decide +kernel
theorem dMd_beginAll_99 : decode cMd_beginAll 99 = .ok (.imul, 1) := by decide +kernel
theorem dMd_beginAll_100 : decode cMd_beginAll 100 = .ok (.aload_n 0, 1) := by decide +kernel
theorem dMd_beginAll_101 : decode cMd_beginAll 101 = .ok (.getfield 86, 3) := by decide +kernel
theorem dMd_beginAll_104 : decode cMd_beginAll 104 = .ok (.iload_n 2, 1) := by decide +kernel
theorem dMd_beginAll_105 : decode cMd_beginAll 105 = .ok (.iaload, 1) := by decide +kernel
theorem dMd_beginAll_106 : decode cMd_beginAll 106 = .ok (.iadd, 1) := by decide +kernel
theorem dMd_beginAll_107 : decode cMd_beginAll 107 = .ok (.iaload, 1) := by decide +kernel
theorem dMd_beginAll_108 : decode cMd_beginAll 108 = .ok (.istore 4, 2) := by decide +kernel
theorem dMd_beginAll_110 : decode cMd_beginAll 110 = .ok (.aload_n 0, 1) := by decide +kernel
theorem dMd_beginAll_111 : decode cMd_beginAll 111 = .ok (.getfield 86, 3) := by decide +kernel
theorem dMd_beginAll_114 : decode cMd_beginAll 114 = .ok (.iload_n 2, 1) := by decide +kernel
theorem dMd_beginAll_115 : decode cMd_beginAll 115 = .ok (.dup2, 1) := by decide +kernel
theorem dMd_beginAll_116 : decode cMd_beginAll 116 = .ok (.iaload, 1) := by decide +kernel
theorem dMd_beginAll_117 : decode cMd_beginAll 117 = .ok (.iconst 1, 1) := by decide +kernel
theorem dMd_beginAll_118 : decode cMd_beginAll 118 = .ok (.iadd, 1) := by decide +kernel
theorem dMd_beginAll_119 : decode cMd_beginAll 119 = .ok (.iastore, 1) := by decide +kernel
theorem dMd_beginAll_120 : decode cMd_beginAll 120 = .ok (.aload_n 0, 1) := by decide +kernel
theorem dMd_beginAll_121 : decode cMd_beginAll 121 = .ok (.getfield 80, 3) := by decide +kernel
theorem dMd_beginAll_124 : decode cMd_beginAll 124 = .ok (.iload 4, 2) := by decide +kernel
theorem dMd_beginAll_126 : decode cMd_beginAll 126 = .ok (.baload, 1) := by decide +kernel
theorem dMd_beginAll_127 : decode cMd_beginAll 127 = .ok (.ifCond .ne 29, 3) := by decide +kernel
theorem dMd_beginAll_130 : decode cMd_beginAll 130 = .ok (.aload_n 0, 1) := by decide +kernel
theorem dMd_beginAll_131 : decode cMd_beginAll 131 = .ok (.getfield 80, 3) := by decide +kernel
theorem dMd_beginAll_134 : decode cMd_beginAll 134 = .ok (.iload 4, 2) := by decide +kernel
theorem dMd_beginAll_136 : decode cMd_beginAll 136 = .ok (.iconst 1, 1) := by decide +kernel
theorem dMd_beginAll_137 : decode cMd_beginAll 137 = .ok (.bastore, 1) := by decide +kernel
theorem dMd_beginAll_138 : decode cMd_beginAll 138 = .ok (.iinc 2 1, 3) := by decide +kernel
theorem dMd_beginAll_141 : decode cMd_beginAll 141 = .ok (.aload_n 0, 1) := by decide +kernel
theorem dMd_beginAll_142 : decode cMd_beginAll 142 = .ok (.getfield 83, 3) := by decide +kernel
theorem dMd_beginAll_145 : decode cMd_beginAll 145 = .ok (.iload_n 2, 1) := by decide +kernel
theorem dMd_beginAll_146 : decode cMd_beginAll 146 = .ok (.iload 4, 2) := by decide +kernel
theorem dMd_beginAll_148 : decode cMd_beginAll 148 = .ok (.iastore, 1) := by decide +kernel
theorem dMd_beginAll_149 : decode cMd_beginAll 149 = .ok (.aload_n 0, 1) := by decide +kernel
theorem dMd_beginAll_150 : decode cMd_beginAll 150 = .ok (.getfield 86, 3) := by decide +kernel
theorem dMd_beginAll_153 : decode cMd_beginAll 153 = .ok (.iload_n 2, 1) := by decide +kernel
theorem dMd_beginAll_154 : decode cMd_beginAll 154 = .ok (.iconst 0, 1) := by decide +kernel
theorem dMd_beginAll_155 : decode cMd_beginAll 155 = .ok (.iastore, 1) := by decide +kernel
theorem dMd_beginAll_156 : decode cMd_beginAll 156 = .ok (.goto 21, 3) := by decide +kernel
theorem dMd_beginAll_159 : decode cMd_beginAll 159 = .ok (.aload_n 0, 1) := by decide +kernel
theorem dMd_beginAll_160 : decode cMd_beginAll 160 = .ok (.getfield 65, 3) := by decide +kernel
theorem dMd_beginAll_163 : decode cMd_beginAll 163 = .ok (.iload_n 3, 1) := by decide +kernel
theorem dMd_beginAll_164 : decode cMd_beginAll 164 = .ok (.aload_n 0, 1) := by decide +kernel
theorem dMd_beginAll_165 : decode cMd_beginAll 165 = .ok (.getfield 156, 3) := by decide +kernel
theorem dMd_beginAll_168 : decode cMd_beginAll 168 = .ok (.iastore, 1) := by decide +kernel
theorem dMd_beginAll_169 : decode cMd_beginAll 169 = .ok (.aload_n 0, 1) := by decide +kernel
theorem dMd_beginAll_170 : decode cMd_beginAll 170 = .ok (.iload_n 3, 1) := by decide +kernel
theorem dMd_beginAll_171 : decode cMd_beginAll 171 = .ok (.invokevirtual 159, 3) := by decide +kernel
theorem dMd_beginAll_174 : decode cMd_beginAll 174 = .ok (.iinc 2 (-1), 3) := by decide +kernel
theorem dMd_beginAll_177 : decode cMd_beginAll 177 = .ok (.goto (-110), 3) := by decide +kernel
theorem dMd_beginAll_180 : decode cMd_beginAll 180 = .ok (.return_, 1) := by decide +kernel
theorem dMd_hasImages_0 : decode cMd_hasImages 0 = .ok (.iconst 1, 1) := by decide +kernel
theorem dMd_hasImages_1 : decode cMd_hasImages 1 = .ok (.istore_n 1, 1) := by decide +kernel
theorem dMd_hasImages_2 : decode cMd_hasImages 2 = .ok (.iconst 0, 1) := by decide +kernel
theorem dMd_hasImages_3 : decode cMd_hasImages 3 = .ok (.istore_n 2, 1) := by decide +kernel
theorem dMd_hasImages_4 : decode cMd_hasImages 4 = .ok (.iload_n 2, 1) := by decide +kernel
theorem dMd_hasImages_5 : decode cMd_hasImages 5 = .ok (.aload_n 0, 1) := by decide +kernel
theorem dMd_hasImages_6 : decode cMd_hasImages 6 = .ok (.getfield 123, 3) := by decide +kernel
theorem dMd_hasImages_9 : decode cMd_hasImages 9 = .ok (.if_icmp .ge 33, 3) := by decide +kernel
theorem dMd_hasImages_12 : decode cMd_hasImages 12 = .ok (.iload_n 1, 1) := by decide +kernel
theorem dMd_hasImages_13 : decode cMd_hasImages 13 = .ok (.ifCond .eq 21, 3) := by decide +kernel
theorem dMd_hasImages_16 : decode cMd_hasImages 16 = .ok (.aload_n 0, 1) := by decide +kernel
theorem dMd_hasImages_17 : decode cMd_hasImages 17 = .ok (.getfield 7, 3) := by decide +kernel
theorem dMd_hasImages_20 : decode cMd_hasImages 20 = .ok (.aload_n 0, 1) := by decide +kernel
theorem dMd_hasImages_21 : decode cMd_hasImages 21 = .ok (.getfield 74, 3) := by decide +kernel
theorem dMd_hasImages_24 : decode cMd_hasImages 24 = .ok (.iload_n 2, 1) := by decide +kernel
theorem dMd_hasImages_25 : decode cMd_hasImages 25 = .ok (.iaload, 1) := by decide +kernel
theorem dMd_hasImages_26 : decode cMd_hasImages 26 = .ok (.iaload, 1) := by decide +kernel
theorem dMd_hasImages_27 : decode cMd_hasImages 27 = .ok (.ifCond .le 7, 3) := by decide +kernel
theorem dMd_hasImages_30 : decode cMd_hasImages 30 = .ok (.iconst 1, 1) := by decide +kernel
theorem dMd_hasImages_31 : decode cMd_hasImages 31 = .ok (.goto 4, 3) := by decide +kernel
theorem dMd_hasImages_34 : decode cMd_hasImages 34 = .ok (.iconst 0, 1) := by decide +kernel
theorem dMd_hasImages_35 : decode cMd_hasImages 35 = .ok (.istore_n 1, 1) := by decide +kernel
theorem dMd_hasImages_36 : decode cMd_hasImages 36 = .ok (.iinc 2 1, 3) := by decide +kernel
theorem dMd_hasImages_39 : decode cMd_hasImages 39 = .ok (.goto (-35), 3) := by decide +kernel
theorem dMd_hasImages_42 : decode cMd_hasImages 42 = .ok (.iload_n 1, 1) := by decide +kernel
theorem dMd_hasImages_43 : decode cMd_hasImages 43 = .ok (.ireturn, 1) := by decide +kernel
theorem dMd_open_0 : decode cMd_open 0 = .ok (.aload_n 0, 1) := by decide +kernel
theorem dMd_open_1 : decode cMd_open 1 = .ok (.iload_n 1, 1) := by decide +kernel
theorem dMd_open_2 : decode cMd_open 2 = .ok (.invokestatic 99, 3) := by decide +kernel
theorem dMd_open_5 : decode cMd_open 5 = .ok (.ifCond .eq 7, 3) := by decide +kernel
theorem dMd_open_8 : decode cMd_open 8 = .ok (.iconst 0, 1) := by decide +kernel
theorem dMd_open_9 : decode cMd_open 9 = .ok (.goto 4, 3) := by decide +kernel
theorem dMd_open_12 : decode cMd_open 12 = .ok (.iconst 1, 1) := by decide +kernel
theorem dMd_open_13 : decode cMd_open 13 = .ok (.putfield 95, 3) := by decide +kernel
theorem dMd_open_16 : decode cMd_open 16 = .ok (.aload_n 0, 1) := by decide +kernel
theorem dMd_open_17 : decode cMd_open 17 = .ok (.getfield 95, 3) := by decide +kernel
theorem dMd_open_20 : decode cMd_open 20 = .ok (.ifCond .le 5, 3) := by decide +kernel
theorem dMd_open_23 : decode cMd_open 23 = .ok (.iconst 0, 1) := by decide +kernel
theorem dMd_open_24 : decode cMd_open 24 = .ok (.ireturn, 1) := by decide +kernel
theorem dMd_open_25 : decode cMd_open 25 = .ok (.aload_n 0, 1) := by decide +kernel
theorem dMd_open_26 : decode cMd_open 26 = .ok (.iload_n 1, 1) := by decide +kernel
theorem dMd_open_27 : decode cMd_open 27 = .ok (.invokevirtual 163, 3) := by decide +kernel
theorem dMd_open_30 : decode cMd_open 30 = .ok (.aload_n 0, 1) := by decide +kernel
theorem dMd_open_31 : decode cMd_open 31 = .ok (.getfield 133, 3) := by decide +kernel
theorem dMd_open_34 : decode cMd_open 34 = .ok (.istore 4, 2) := by decide +kernel
theorem dMd_open_36 : decode cMd_open 36 = .ok (.iconst 0, 1) := by decide +kernel
theorem dMd_open_37 : decode cMd_open 37 = .ok (.istore 5, 2) := by decide +kernel
theorem dMd_open_39 : decode cMd_open 39 = .ok (.iload 5, 2) := by decide +kernel
theorem dMd_open_41 : decode cMd_open 41 = .ok (.bipush 6, 2) := by decide +kernel
theorem dMd_open_43 : decode cMd_open 43 = .ok (.if_icmp .ge 17, 3) := by decide +kernel
theorem dMd_open_46 : decode cMd_open 46 = .ok (.aload_n 0, 1) := by decide +kernel
theorem dMd_open_47 : decode cMd_open 47 = .ok (.getfield 77, 3) := by decide +kernel
theorem dMd_open_50 : decode cMd_open 50 = .ok (.iload 5, 2) := by decide +kernel
theorem dMd_open_52 : decode cMd_open 52 = .ok (.iconst 0, 1) := by decide +kernel
theorem dMd_open_53 : decode cMd_open 53 = .ok (.bastore, 1) := by decide +kernel
theorem dMd_open_54 : decode cMd_open 54 = .ok (.iinc 5 1, 3) := by decide +kernel
theorem dMd_open_57 : decode cMd_open 57 = .ok (.goto (-18), 3) := by decide +kernel
theorem dMd_open_60 : decode cMd_open 60 = .ok (.aload_n 0, 1) := by decide +kernel
theorem dMd_open_61 : decode cMd_open 61 = .ok (.invokevirtual 166, 3) := by decide +kernel
theorem dMd_open_64 : decode cMd_open 64 = .ok (.ifCond .eq 14, 3) := by decide +kernel
theorem dMd_open_67 : decode cMd_open 67 = .ok (.aload_n 0, 1) := by decide +kernel
theorem dMd_open_68 : decode cMd_open 68 = .ok (.invokevirtual 170, 3) := by decide +kernel
theorem dMd_open_71 : decode cMd_open 71 = .ok (.ifCond .eq 7, 3) := by decide +kernel
theorem dMd_open_74 : decode cMd_open 74 = .ok (.iconst 1, 1) := by decide +kernel
theorem dMd_open_75 : decode cMd_open 75 = .ok (.goto 4, 3) := by decide +kernel
theorem dMd_open_78 : decode cMd_open 78 = .ok (.iconst 0, 1) := by decide +kernel
theorem dMd_open_79 : decode cMd_open 79 = .ok (.istore 5, 2) := by decide +kernel
theorem dMd_open_81 : decode cMd_open 81 = .ok (.iconst 0, 1) := by decide +kernel
theorem dMd_open_82 : decode cMd_open 82 = .ok (.istore 6, 2) := by decide +kernel
theorem dMd_open_84 : decode cMd_open 84 = .ok (.iload 6, 2) := by decide +kernel
theorem dMd_open_86 : decode cMd_open 86 = .ok (.aload_n 0, 1) := by decide +kernel
theorem dMd_open_87 : decode cMd_open 87 = .ok (.getfield 123, 3) := by decide +kernel
theorem dMd_open_90 : decode cMd_open 90 = .ok (.if_icmp .ge 58, 3) := by decide +kernel
theorem dMd_open_93 : decode cMd_open 93 = .ok (.iload 5, 2) := by decide +kernel
theorem dMd_open_95 : decode cMd_open 95 = .ok (.ifCond .eq 53, 3) := by decide +kernel
theorem dMd_open_98 : decode cMd_open 98 = .ok (.iload_n 3, 1) := by decide +kernel
theorem dMd_open_99 : decode cMd_open 99 = .ok (.ifCond .eq 49, 3) := by decide +kernel
theorem dMd_open_102 : decode cMd_open 102 = .ok (.aload_n 0, 1) := by decide +kernel
theorem dMd_open_103 : decode cMd_open 103 = .ok (.aload_n 0, 1) := by decide +kernel
theorem dMd_open_104 : decode cMd_open 104 = .ok (.getfield 74, 3) := by decide +kernel
theorem dMd_open_107 : decode cMd_open 107 = .ok (.iload 6, 2) := by decide +kernel
theorem dMd_open_109 : decode cMd_open 109 = .ok (.iaload, 1) := by decide +kernel
theorem dMd_open_110 : decode cMd_open 110 = .ok (.invokevirtual 173, 3) := by decide +kernel
theorem dMd_open_113 : decode cMd_open 113 = .ok (.ifCond .ne 29, 3) := by decide +kernel
theorem dMd_open_116 : decode cMd_open 116 = .ok (.aload_n 0, 1) := by decide +kernel
theorem dMd_open_117 : decode cMd_open 117 = .ok (.getfield 68, 3) := by decide +kernel
theorem dMd_open_120 : decode cMd_open 120 = .ok (.aload_n 0, 1) := by decide +kernel
theorem dMd_open_121 : decode cMd_open 121 = .ok (.getfield 133, 3) := by decide +kernel
theorem dMd_open_124 : decode cMd_open 124 = .ok (.aload_n 0, 1) := by decide +kernel
theorem dMd_open_125 : decode cMd_open 125 = .ok (.getfield 74, 3) := by decide +kernel
theorem dMd_open_128 : decode cMd_open 128 = .ok (.iload 6, 2) := by decide +kernel
theorem dMd_open_130 : decode cMd_open 130 = .ok (.iaload, 1) := by decide +kernel
theorem dMd_open_131 : decode cMd_open 131 = .ok (.iastore, 1) := by decide +kernel
theorem dMd_open_132 : decode cMd_open 132 = .ok (.aload_n 0, 1) := by decide +kernel
theorem dMd_open_133 : decode cMd_open 133 = .ok (.dup, 1) := by decide +kernel
theorem dMd_open_134 : decode cMd_open 134 = .ok (.getfield 133, 3) := by decide +kernel
theorem dMd_open_137 : decode cMd_open 137 = .ok (.iconst 1, 1) := by decide +kernel
theorem dMd_open_138 : decode cMd_open 138 = .ok (.iadd, 1) := by decide +kernel
theorem dMd_open_139 : decode cMd_open 139 = .ok (.putfield 133, 3) := by decide +kernel
theorem dMd_open_142 : decode cMd_open 142 = .ok (.iinc 6 1, 3) := by decide +kernel
theorem dMd_open_145 : decode cMd_open 145 = .ok (.goto (-61), 3) := by decide +kernel
theorem dMd_open_148 : decode cMd_open 148 = .ok (.aload_n 0, 1) := by decide +kernel
theorem dMd_open_149 : decode cMd_open 149 = .ok (.iload 5, 2) := by decide +kernel
theorem dMd_open_151 : decode cMd_open 151 = .ok (.ifCond .ne 7, 3) := by decide +kernel
theorem dMd_open_154 : decode cMd_open 154 = .ok (.iconst 2, 1) := by decide +kernel
theorem dMd_open_155 : decode cMd_open 155 = .ok (.goto 16, 3) := by decide +kernel
theorem dMd_open_158 : decode cMd_open 158 = .ok (.aload_n 0, 1) := by decide +kernel
theorem dMd_open_159 : decode cMd_open 159 = .ok (.iload_n 2, 1) := by decide +kernel
theorem dMd_open_160 : decode cMd_open 160 = .ok (.invokevirtual 176, 3) := by decide +kernel
theorem dMd_open_163 : decode cMd_open 163 = .ok (.ifCond .ne 7, 3) := by decide +kernel
theorem dMd_open_166 : decode cMd_open 166 = .ok (.iconst 3, 1) := by decide +kernel
theorem dMd_open_167 : decode cMd_open 167 = .ok (.goto 4, 3) := by decide +kernel
theorem dMd_open_170 : decode cMd_open 170 = .ok (.iconst 0, 1) := by decide +kernel
theorem dMd_open_171 : decode cMd_open 171 = .ok (.putfield 95, 3) := by decide +kernel
theorem dMd_open_174 : decode cMd_open 174 = .ok (.iconst 0, 1) := by decide +kernel
theorem dMd_open_175 : decode cMd_open 175 = .ok (.istore 6, 2) := by decide +kernel
theorem dMd_open_177 : decode cMd_open 177 = .ok (.iconst 0, 1) := by decide +kernel
theorem dMd_open_178 : decode cMd_open 178 = .ok (.istore 7, 2) := by decide +kernel
theorem dMd_open_180 : decode cMd_open 180 = .ok (.iload 7, 2) := by decide +kernel
theorem dMd_open_182 : decode cMd_open 182 = .ok (.bipush 6, 2) := by decide +kernel
theorem dMd_open_184 : decode cMd_open 184 = .ok (.if_icmp .ge 69, 3) := by decide +kernel
theorem dMd_open_187 : decode cMd_open 187 = .ok (.aload_n 0, 1) := by decide +kernel
theorem dMd_open_188 : decode cMd_open 188 = .ok (.getfield 77, 3) := by decide +kernel
theorem dMd_open_191 : decode cMd_open 191 = .ok (.iload 7, 2) := by decide +kernel
theorem dMd_open_193 : decode cMd_open 193 = .ok (.baload, 1) := by decide +kernel
theorem dMd_open_194 : decode cMd_open 194 = .ok (.ifCond .eq 10, 3) := by decide +kernel
theorem dMd_open_197 : decode cMd_open 197 = .ok (.iload 6, 2) := by decide +kernel
theorem dMd_open_199 : decode cMd_open 199 = .ok (.iconst 1, 1) := by decide +kernel
theorem dMd_open_200 : decode cMd_open 200 = .ok (.iadd, 1) := by decide +kernel
theorem dMd_open_201 : decode cMd_open 201 = .ok (.goto 5, 3) := by decide +kernel
theorem dMd_open_204 : decode cMd_open 204 = .ok (.iload 6, 2) := by decide +kernel
theorem dMd_open_206 : decode cMd_open 206 = .ok (.istore 6, 2) := by decide +kernel
theorem dMd_open_208 : decode cMd_open 208 = .ok (.aload_n 0, 1) := by decide +kernel
theorem dMd_open_209 : decode cMd_open 209 = .ok (.getfield 47, 3) := by decide +kernel
theorem dMd_open_212 : decode cMd_open 212 = .ok (.iload 7, 2) := by decide +kernel
theorem dMd_open_214 : decode cMd_open 214 = .ok (.aload_n 0, 1) := by decide +kernel
theorem dMd_open_215 : decode cMd_open 215 = .ok (.getfield 47, 3) := by decide +kernel
theorem dMd_open_218 : decode cMd_open 218 = .ok (.iload 7, 2) := by decide +kernel
theorem dMd_open_220 : decode cMd_open 220 = .ok (.baload, 1) := by decide +kernel
theorem dMd_open_221 : decode cMd_open 221 = .ok (.ifCond .eq 24, 3) := by decide +kernel
theorem dMd_open_224 : decode cMd_open 224 = .ok (.aload_n 0, 1) := by decide +kernel
theorem dMd_open_225 : decode cMd_open 225 = .ok (.getfield 95, 3) := by decide +kernel
theorem dMd_open_228 : decode cMd_open 228 = .ok (.ifCond .le 13, 3) := by decide +kernel
theorem dMd_open_231 : decode cMd_open 231 = .ok (.aload_n 0, 1) := by decide +kernel
theorem dMd_open_232 : decode cMd_open 232 = .ok (.getfield 77, 3) := by decide +kernel
theorem dMd_open_235 : decode cMd_open 235 = .ok (.iload 7, 2) := by decide +kernel
theorem dMd_open_237 : decode cMd_open 237 = .ok (.baload, 1) := by decide +kernel
theorem dMd_open_238 : decode cMd_open 238 = .ok (.ifCond .ne 7, 3) := by decide +kernel
theorem dMd_open_241 : decode cMd_open 241 = .ok (.iconst 1, 1) := by decide +kernel
theorem dMd_open_242 : decode cMd_open 242 = .ok (.goto 4, 3) := by decide +kernel
theorem dMd_open_245 : decode cMd_open 245 = .ok (.iconst 0, 1) := by decide +kernel
theorem dMd_open_246 : decode cMd_open 246 = .ok (.bastore, 1) := by decide +kernel
theorem dMd_open_247 : decode cMd_open 247 = .ok (.iinc 7 1, 3) := by decide +kernel
theorem dMd_open_250 : decode cMd_open 250 = .ok (.goto (-70), 3) := by decide +kernel
theorem dMd_open_253 : decode cMd_open 253 = .ok (.aload_n 0, 1) := by decide +kernel
theorem dMd_open_254 : decode cMd_open 254 = .ok (.getfield 95, 3) := by decide +kernel
theorem dMd_open_257 : decode cMd_open 257 = .ok (.ifCond .le 11, 3) := by decide +kernel
theorem dMd_open_260 : decode cMd_open 260 = .ok (.aload_n 0, 1) := by decide +kernel
theorem dMd_open_261 : decode cMd_open 261 = .ok (.iload 4, 2) := by decide +kernel
theorem dMd_open_263 : decode cMd_open 263 = .ok (.putfield 133, 3) := by decide +kernel
theorem dMd_open_266 : decode cMd_open 266 = .ok (.iconst 0, 1) := by decide +kernel
theorem dMd_open_267 : decode cMd_open 267 = .ok (.ireturn, 1) := by decide +kernel
theorem dMd_open_268 : decode cMd_open 268 = .ok (.aload_n 0, 1) := by decide +kernel
theorem dMd_open_269 : decode cMd_open 269 = .ok (.iload_n 1, 1) := by decide +kernel
theorem dMd_open_270 : decode cMd_open 270 = .ok (.invokevirtual 180, 3) := by decide +kernel
theorem dMd_open_273 : decode cMd_open 273 = .ok (.aload_n 0, 1) := by decide +kernel
theorem dMd_open_274 : decode cMd_open 274 = .ok (.getfield 62, 3) := by decide +kernel
theorem dMd_open_277 : decode cMd_open 277 = .ok (.iload_n 1, 1) := by decide +kernel
theorem dMd_open_278 : decode cMd_open 278 = .ok (.dup2, 1) := by decide +kernel
theorem dMd_open_279 : decode cMd_open 279 = .ok (.iaload, 1) := by decide +kernel
theorem dMd_open_280 : decode cMd_open 280 = .ok (.iconst 1, 1) := by decide +kernel
theorem dMd_open_281 : decode cMd_open 281 = .ok (.iadd, 1) := by decide +kernel
theorem dMd_open_282 : decode cMd_open 282 = .ok (.iastore, 1) := by decide +kernel
theorem dMd_open_283 : decode cMd_open 283 = .ok (.iload 6, 2) := by decide +kernel
theorem dMd_open_285 : decode cMd_open 285 = .ok (.ireturn, 1) := by decide +kernel
theorem dMd_findKept_0 : decode cMd_findKept 0 = .ok (.iconst 0, 1) := by decide +kernel
theorem dMd_findKept_1 : decode cMd_findKept 1 = .ok (.istore_n 1, 1) := by decide +kernel
theorem dMd_findKept_2 : decode cMd_findKept 2 = .ok (.iload_n 1, 1) := by decide +kernel
theorem dMd_findKept_3 : decode cMd_findKept 3 = .ok (.bipush 6, 2) := by decide +kernel
theorem dMd_findKept_5 : decode cMd_findKept 5 = .ok (.if_icmp .ge 29, 3) := by decide +kernel
theorem dMd_findKept_8 : decode cMd_findKept 8 = .ok (.aload_n 0, 1) := by decide +kernel
theorem dMd_findKept_9 : decode cMd_findKept 9 = .ok (.getfield 89, 3) := by decide +kernel
theorem dMd_findKept_12 : decode cMd_findKept 12 = .ok (.iload_n 1, 1) := by decide +kernel
theorem dMd_findKept_13 : decode cMd_findKept 13 = .ok (.aload_n 0, 1) := by decide +kernel
theorem dMd_findKept_14 : decode cMd_findKept 14 = .ok (.getfield 62, 3) := by decide +kernel
theorem dMd_findKept_17 : decode cMd_findKept 17 = .ok (.iload_n 1, 1) := by decide +kernel
theorem dMd_findKept_18 : decode cMd_findKept 18 = .ok (.iaload, 1) := by decide +kernel
theorem dMd_findKept_19 : decode cMd_findKept 19 = .ok (.ifCond .le 7, 3) := by decide +kernel
theorem dMd_findKept_22 : decode cMd_findKept 22 = .ok (.iconst 1, 1) := by decide +kernel
theorem dMd_findKept_23 : decode cMd_findKept 23 = .ok (.goto 4, 3) := by decide +kernel
theorem dMd_findKept_26 : decode cMd_findKept 26 = .ok (.iconst 0, 1) := by decide +kernel
theorem dMd_findKept_27 : decode cMd_findKept 27 = .ok (.bastore, 1) := by decide +kernel
theorem dMd_findKept_28 : decode cMd_findKept 28 = .ok (.iinc 1 1, 3) := by decide +kernel
theorem dMd_findKept_31 : decode cMd_findKept 31 = .ok (.goto (-29), 3) := by decide +kernel
theorem dMd_findKept_34 : decode cMd_findKept 34 = .ok (.iconst 0, 1) := by decide +kernel
theorem dMd_findKept_35 : decode cMd_findKept 35 = .ok (.istore_n 1, 1) := by decide +kernel
theorem dMd_findKept_36 : decode cMd_findKept 36 = .ok (.iload_n 1, 1) := by decide +kernel
theorem dMd_findKept_37 : decode cMd_findKept 37 = .ok (.bipush 6, 2) := by decide +kernel
theorem dMd_findKept_39 : decode cMd_findKept 39 = .ok (.if_icmp .ge 89, 3) := by decide +kernel
theorem dMd_findKept_42 : decode cMd_findKept 42 = .ok (.iconst 0, 1) := by decide +kernel
theorem dMd_findKept_43 : decode cMd_findKept 43 = .ok (.istore_n 2, 1) := by decide +kernel
theorem dMd_findKept_44 : decode cMd_findKept 44 = .ok (.iload_n 2, 1) := by decide +kernel
theorem dMd_findKept_45 : decode cMd_findKept 45 = .ok (.bipush 6, 2) := by decide +kernel
theorem dMd_findKept_47 : decode cMd_findKept 47 = .ok (.if_icmp .ge 75, 3) := by decide +kernel
theorem dMd_findKept_50 : decode cMd_findKept 50 = .ok (.iconst 0, 1) := by decide +kernel
theorem dMd_findKept_51 : decode cMd_findKept 51 = .ok (.istore_n 3, 1) := by decide +kernel
theorem dMd_findKept_52 : decode cMd_findKept 52 = .ok (.iload_n 3, 1) := by decide +kernel
theorem dMd_findKept_53 : decode cMd_findKept 53 = .ok (.bipush 6, 2) := by decide +kernel
theorem dMd_findKept_55 : decode cMd_findKept 55 = .ok (.if_icmp .ge 61, 3) := by decide +kernel
theorem dMd_findKept_58 : decode cMd_findKept 58 = .ok (.aload_n 0, 1) := by decide +kernel
theorem dMd_findKept_59 : decode cMd_findKept 59 = .ok (.getfield 89, 3) := by decide +kernel
theorem dMd_findKept_62 : decode cMd_findKept 62 = .ok (.iload_n 2, 1) := by decide +kernel
theorem dMd_findKept_63 : decode cMd_findKept 63 = .ok (.baload, 1) := by decide +kernel
theorem dMd_findKept_64 : decode cMd_findKept 64 = .ok (.ifCond .eq 52, 3) := by decide +kernel
theorem dMd_findKept_67 : decode cMd_findKept 67 = .ok (.aload_n 0, 1) := by decide +kernel
theorem dMd_findKept_68 : decode cMd_findKept 68 = .ok (.getfield 89, 3) := by decide +kernel
theorem dMd_findKept_71 : decode cMd_findKept 71 = .ok (.iload_n 3, 1) := by decide +kernel
theorem dMd_findKept_72 : decode cMd_findKept 72 = .ok (.aload_n 0, 1) := by decide +kernel
theorem dMd_findKept_73 : decode cMd_findKept 73 = .ok (.getfield 89, 3) := by decide +kernel
theorem dMd_findKept_76 : decode cMd_findKept 76 = .ok (.iload_n 3, 1) := by decide +kernel
theorem dMd_findKept_77 : decode cMd_findKept 77 = .ok (.baload, 1) := by decide +kernel
theorem dMd_findKept_78 : decode cMd_findKept 78 = .ok (.ifCond .ne 26, 3) := by decide +kernel
theorem dMd_findKept_81 : decode cMd_findKept 81 = .ok (.aload_n 0, 1) := by decide +kernel
theorem dMd_findKept_82 : decode cMd_findKept 82 = .ok (.iload_n 2, 1) := by decide +kernel
theorem dMd_findKept_83 : decode cMd_findKept 83 = .ok (.iload_n 3, 1) := by decide +kernel
theorem dMd_findKept_84 : decode cMd_findKept 84 = .ok (.invokevirtual 107, 3) := by decide +kernel
theorem dMd_findKept_87 : decode cMd_findKept 87 = .ok (.ifCond .ne 17, 3) := by decide +kernel
theorem dMd_findKept_90 : decode cMd_findKept 90 = .ok (.aload_n 0, 1) := by decide +kernel
theorem dMd_findKept_91 : decode cMd_findKept 91 = .ok (.getfield 59, 3) := by decide +kernel
theorem dMd_findKept_94 : decode cMd_findKept 94 = .ok (.bipush 6, 2) := by decide +kernel
theorem dMd_findKept_96 : decode cMd_findKept 96 = .ok (.iload_n 2, 1) := by decide +kernel
theorem dMd_findKept_97 : decode cMd_findKept 97 = .ok (.imul, 1) := by decide +kernel
theorem dMd_findKept_98 : decode cMd_findKept 98 = .ok (.iload_n 3, 1) := by decide +kernel
theorem dMd_findKept_99 : decode cMd_findKept 99 = .ok (.iadd, 1) := by decide +kernel
theorem dMd_findKept_100 : decode cMd_findKept 100 = .ok (.baload, 1) := by decide +kernel
theorem dMd_findKept_101 : decode cMd_findKept 101 = .ok (.ifCond .eq 7, 3) := by decide +kernel
theorem dMd_findKept_104 : decode cMd_findKept 104 = .ok (.iconst 1, 1) := by decide +kernel
theorem dMd_findKept_105 : decode cMd_findKept 105 = .ok (.goto 4, 3) := by decide +kernel
theorem dMd_findKept_108 : decode cMd_findKept 108 = .ok (.iconst 0, 1) := by decide +kernel
theorem dMd_findKept_109 : decode cMd_findKept 109 = .ok (.bastore, 1) := by decide +kernel
theorem dMd_findKept_110 : decode cMd_findKept 110 = .ok (.iinc 3 1, 3) := by decide +kernel
theorem dMd_findKept_113 : decode cMd_findKept 113 = .ok (.goto (-61), 3) := by decide +kernel
theorem dMd_findKept_116 : decode cMd_findKept 116 = .ok (.iinc 2 1, 3) := by decide +kernel
theorem dMd_findKept_119 : decode cMd_findKept 119 = .ok (.goto (-75), 3) := by decide +kernel
theorem dMd_findKept_122 : decode cMd_findKept 122 = .ok (.iinc 1 1, 3) := by decide +kernel
theorem dMd_findKept_125 : decode cMd_findKept 125 = .ok (.goto (-89), 3) := by decide +kernel
theorem dMd_findKept_128 : decode cMd_findKept 128 = .ok (.return_, 1) := by decide +kernel
theorem dMd_latest_0 : decode cMd_latest 0 = .ok (.iconst (-1), 1) := by decide +kernel
theorem dMd_latest_1 : decode cMd_latest 1 = .ok (.istore_n 1, 1) := by decide +kernel
theorem dMd_latest_2 : decode cMd_latest 2 = .ok (.iconst 0, 1) := by decide +kernel
theorem dMd_latest_3 : decode cMd_latest 3 = .ok (.istore_n 2, 1) := by decide +kernel
theorem dMd_latest_4 : decode cMd_latest 4 = .ok (.iload_n 2, 1) := by decide +kernel
theorem dMd_latest_5 : decode cMd_latest 5 = .ok (.bipush 6, 2) := by decide +kernel
theorem dMd_latest_7 : decode cMd_latest 7 = .ok (.if_icmp .ge 62, 3) := by decide +kernel
theorem dMd_latest_10 : decode cMd_latest 10 = .ok (.aload_n 0, 1) := by decide +kernel
theorem dMd_latest_11 : decode cMd_latest 11 = .ok (.getfield 47, 3) := by decide +kernel
theorem dMd_latest_14 : decode cMd_latest 14 = .ok (.iload_n 2, 1) := by decide +kernel
theorem dMd_latest_15 : decode cMd_latest 15 = .ok (.baload, 1) := by decide +kernel
theorem dMd_latest_16 : decode cMd_latest 16 = .ok (.ifCond .eq 16, 3) := by decide +kernel
theorem dMd_latest_19 : decode cMd_latest 19 = .ok (.aload_n 0, 1) := by decide +kernel
theorem dMd_latest_20 : decode cMd_latest 20 = .ok (.getfield 89, 3) := by decide +kernel
theorem dMd_latest_23 : decode cMd_latest 23 = .ok (.iload_n 2, 1) := by decide +kernel
theorem dMd_latest_24 : decode cMd_latest 24 = .ok (.baload, 1) := by decide +kernel
theorem dMd_latest_25 : decode cMd_latest 25 = .ok (.ifCond .ne 7, 3) := by decide +kernel
theorem dMd_latest_28 : decode cMd_latest 28 = .ok (.iconst 1, 1) := by decide +kernel
theorem dMd_latest_29 : decode cMd_latest 29 = .ok (.goto 4, 3) := by decide +kernel
theorem dMd_latest_32 : decode cMd_latest 32 = .ok (.iconst 0, 1) := by decide +kernel
theorem dMd_latest_33 : decode cMd_latest 33 = .ok (.istore_n 3, 1) := by decide +kernel
theorem dMd_latest_34 : decode cMd_latest 34 = .ok (.iload_n 3, 1) := by decide +kernel
theorem dMd_latest_35 : decode cMd_latest 35 = .ok (.ifCond .eq 26, 3) := by decide +kernel
theorem dMd_latest_38 : decode cMd_latest 38 = .ok (.iload_n 1, 1) := by decide +kernel
theorem dMd_latest_39 : decode cMd_latest 39 = .ok (.ifCond .lt 18, 3) := by decide +kernel
theorem dMd_latest_42 : decode cMd_latest 42 = .ok (.aload_n 0, 1) := by decide +kernel
theorem dMd_latest_43 : decode cMd_latest 43 = .ok (.getfield 65, 3) := by decide +kernel
theorem dMd_latest_46 : decode cMd_latest 46 = .ok (.iload_n 2, 1) := by decide +kernel
theorem dMd_latest_47 : decode cMd_latest 47 = .ok (.iaload, 1) := by decide +kernel
theorem dMd_latest_48 : decode cMd_latest 48 = .ok (.aload_n 0, 1) := by decide +kernel
theorem dMd_latest_49 : decode cMd_latest 49 = .ok (.getfield 65, 3) := by decide +kernel
theorem dMd_latest_52 : decode cMd_latest 52 = .ok (.iload_n 1, 1) := by decide +kernel
theorem dMd_latest_53 : decode cMd_latest 53 = .ok (.iaload, 1) := by decide +kernel
theorem dMd_latest_54 : decode cMd_latest 54 = .ok (.if_icmp .le 7, 3) := by decide +kernel
theorem dMd_latest_57 : decode cMd_latest 57 = .ok (.iload_n 2, 1) := by decide +kernel
theorem dMd_latest_58 : decode cMd_latest 58 = .ok (.goto 4, 3) := by decide +kernel
theorem dMd_latest_61 : decode cMd_latest 61 = .ok (.iload_n 1, 1) := by decide +kernel
theorem dMd_latest_62 : decode cMd_latest 62 = .ok (.istore_n 1, 1) := by decide +kernel
theorem dMd_latest_63 : decode cMd_latest 63 = .ok (.iinc 2 1, 3) := by decide +kernel
theorem dMd_latest_66 : decode cMd_latest 66 = .ok (.goto (-62), 3) := by decide +kernel
theorem dMd_latest_69 : decode cMd_latest 69 = .ok (.iload_n 1, 1) := by decide +kernel
theorem dMd_latest_70 : decode cMd_latest 70 = .ok (.ireturn, 1) := by decide +kernel
theorem dMd_close_0 : decode cMd_close 0 = .ok (.aload_n 0, 1) := by decide +kernel
theorem dMd_close_1 : decode cMd_close 1 = .ok (.iload_n 1, 1) := by decide +kernel
theorem dMd_close_2 : decode cMd_close 2 = .ok (.invokestatic 99, 3) := by decide +kernel
theorem dMd_close_5 : decode cMd_close 5 = .ok (.ifCond .ne 7, 3) := by decide +kernel
theorem dMd_close_8 : decode cMd_close 8 = .ok (.iconst 1, 1) := by decide +kernel
theorem dMd_close_9 : decode cMd_close 9 = .ok (.goto 17, 3) := by decide +kernel
theorem dMd_close_12 : decode cMd_close 12 = .ok (.aload_n 0, 1) := by decide +kernel
theorem dMd_close_13 : decode cMd_close 13 = .ok (.getfield 62, 3) := by decide +kernel
theorem dMd_close_16 : decode cMd_close 16 = .ok (.iload_n 1, 1) := by decide +kernel
theorem dMd_close_17 : decode cMd_close 17 = .ok (.iaload, 1) := by decide +kernel
theorem dMd_close_18 : decode cMd_close 18 = .ok (.ifCond .ne 7, 3) := by decide +kernel
theorem dMd_close_21 : decode cMd_close 21 = .ok (.iconst 2, 1) := by decide +kernel
theorem dMd_close_22 : decode cMd_close 22 = .ok (.goto 4, 3) := by decide +kernel
theorem dMd_close_25 : decode cMd_close 25 = .ok (.iconst 0, 1) := by decide +kernel
theorem dMd_close_26 : decode cMd_close 26 = .ok (.putfield 95, 3) := by decide +kernel
theorem dMd_close_29 : decode cMd_close 29 = .ok (.aload_n 0, 1) := by decide +kernel
theorem dMd_close_30 : decode cMd_close 30 = .ok (.getfield 95, 3) := by decide +kernel
theorem dMd_close_33 : decode cMd_close 33 = .ok (.ifCond .le 5, 3) := by decide +kernel
theorem dMd_close_36 : decode cMd_close 36 = .ok (.iconst 0, 1) := by decide +kernel
theorem dMd_close_37 : decode cMd_close 37 = .ok (.ireturn, 1) := by decide +kernel
theorem dMd_close_38 : decode cMd_close 38 = .ok (.aload_n 0, 1) := by decide +kernel
theorem dMd_close_39 : decode cMd_close 39 = .ok (.getfield 62, 3) := by decide +kernel
theorem dMd_close_42 : decode cMd_close 42 = .ok (.iload_n 1, 1) := by decide +kernel
theorem dMd_close_43 : decode cMd_close 43 = .ok (.dup2, 1) := by decide +kernel
theorem dMd_close_44 : decode cMd_close 44 = .ok (.iaload, 1) := by decide +kernel
theorem dMd_close_45 : decode cMd_close 45 = .ok (.iconst 1, 1) := by decide +kernel
theorem dMd_close_46 : decode cMd_close 46 = .ok (.isub, 1) := by decide +kernel
theorem dMd_close_47 : decode cMd_close 47 = .ok (.iastore, 1) := by decide +kernel
theorem dMd_close_48 : decode cMd_close 48 = .ok (.aload_n 0, 1) := by decide +kernel
theorem dMd_close_49 : decode cMd_close 49 = .ok (.invokevirtual 183, 3) := by decide +kernel
theorem dMd_close_52 : decode cMd_close 52 = .ok (.iconst 0, 1) := by decide +kernel
theorem dMd_close_53 : decode cMd_close 53 = .ok (.istore_n 2, 1) := by decide +kernel
theorem dMd_close_54 : decode cMd_close 54 = .ok (.aload_n 0, 1) := by decide +kernel
theorem dMd_close_55 : decode cMd_close 55 = .ok (.invokevirtual 186, 3) := by decide +kernel
theorem dMd_close_58 : decode cMd_close 58 = .ok (.istore_n 3, 1) := by decide +kernel
theorem dMd_close_59 : decode cMd_close 59 = .ok (.iload_n 3, 1) := by decide +kernel
theorem dMd_close_60 : decode cMd_close 60 = .ok (.ifCond .lt 57, 3) := by decide +kernel
theorem dMd_close_63 : decode cMd_close 63 = .ok (.aload_n 0, 1) := by decide +kernel
theorem dMd_close_64 : decode cMd_close 64 = .ok (.iconst (-1), 1) := by decide +kernel
theorem dMd_close_65 : decode cMd_close 65 = .ok (.iload_n 3, 1) := by decide +kernel
theorem dMd_close_66 : decode cMd_close 66 = .ok (.isub, 1) := by decide +kernel
theorem dMd_close_67 : decode cMd_close 67 = .ok (.invokevirtual 159, 3) := by decide +kernel
theorem dMd_close_70 : decode cMd_close 70 = .ok (.iinc 2 1, 3) := by decide +kernel
theorem dMd_close_73 : decode cMd_close 73 = .ok (.aload_n 0, 1) := by decide +kernel
theorem dMd_close_74 : decode cMd_close 74 = .ok (.getfield 47, 3) := by decide +kernel
theorem dMd_close_77 : decode cMd_close 77 = .ok (.iload_n 3, 1) := by decide +kernel
theorem dMd_close_78 : decode cMd_close 78 = .ok (.iconst 0, 1) := by decide +kernel
theorem dMd_close_79 : decode cMd_close 79 = .ok (.bastore, 1) := by decide +kernel
theorem dMd_close_80 : decode cMd_close 80 = .ok (.iconst 0, 1) := by decide +kernel
theorem dMd_close_81 : decode cMd_close 81 = .ok (.istore 4, 2) := by decide +kernel
theorem dMd_close_83 : decode cMd_close 83 = .ok (.iload 4, 2) := by decide +kernel
theorem dMd_close_85 : decode cMd_close 85 = .ok (.bipush 6, 2) := by decide +kernel
theorem dMd_close_87 : decode cMd_close 87 = .ok (.if_icmp .ge 22, 3) := by decide +kernel
theorem dMd_close_90 : decode cMd_close 90 = .ok (.aload_n 0, 1) := by decide +kernel
theorem dMd_close_91 : decode cMd_close 91 = .ok (.getfield 59, 3) := by decide +kernel
theorem dMd_close_94 : decode cMd_close 94 = .ok (.bipush 6, 2) := by decide +kernel
theorem dMd_close_96 : decode cMd_close 96 = .ok (.iload_n 3, 1) := by decide +kernel
theorem dMd_close_97 : decode cMd_close 97 = .ok (.imul, 1) := by decide +kernel
theorem dMd_close_98 : decode cMd_close 98 = .ok (.iload 4, 2) := by decide +kernel
theorem dMd_close_100 : decode cMd_close 100 = .ok (.iadd, 1) := by decide +kernel
theorem dMd_close_101 : decode cMd_close 101 = .ok (.iconst 0, 1) := by decide +kernel
theorem dMd_close_102 : decode cMd_close 102 = .ok (.bastore, 1) := by decide +kernel
theorem dMd_close_103 : decode cMd_close 103 = .ok (.iinc 4 1, 3) := by decide +kernel
theorem dMd_close_106 : decode cMd_close 106 = .ok (.goto (-23), 3) := by decide +kernel
theorem dMd_close_109 : decode cMd_close 109 = .ok (.aload_n 0, 1) := by decide +kernel
theorem dMd_close_110 : decode cMd_close 110 = .ok (.invokevirtual 186, 3) := by decide +kernel
theorem dMd_close_113 : decode cMd_close 113 = .ok (.istore_n 3, 1) := by decide +kernel
theorem dMd_close_114 : decode cMd_close 114 = .ok (.goto (-55), 3) := by decide +kernel
theorem dMd_close_117 : decode cMd_close 117 = .ok (.iconst 0, 1) := by decide +kernel
theorem dMd_close_118 : decode cMd_close 118 = .ok (.istore 4, 2) := by decide +kernel
theorem dMd_close_120 : decode cMd_close 120 = .ok (.iconst 0, 1) := by decide +kernel
theorem dMd_close_121 : decode cMd_close 121 = .ok (.istore 5, 2) := by decide +kernel
theorem dMd_close_123 : decode cMd_close 123 = .ok (.iload 5, 2) := by decide +kernel
theorem dMd_close_125 : decode cMd_close 125 = .ok (.aload_n 0, 1) := by decide +kernel
theorem dMd_close_126 : decode cMd_close 126 = .ok (.getfield 133, 3) := by decide +kernel
theorem dMd_close_129 : decode cMd_close 129 = .ok (.if_icmp .ge 41, 3) := by decide +kernel
theorem dMd_close_132 : decode cMd_close 132 = .ok (.aload_n 0, 1) := by decide +kernel
theorem dMd_close_133 : decode cMd_close 133 = .ok (.getfield 47, 3) := by decide +kernel
theorem dMd_close_136 : decode cMd_close 136 = .ok (.aload_n 0, 1) := by decide +kernel
theorem dMd_close_137 : decode cMd_close 137 = .ok (.getfield 68, 3) := by decide +kernel
theorem dMd_close_140 : decode cMd_close 140 = .ok (.iload 5, 2) := by decide +kernel
theorem dMd_close_142 : decode cMd_close 142 = .ok (.iaload, 1) := by decide +kernel
theorem dMd_close_143 : decode cMd_close 143 = .ok (.baload, 1) := by decide +kernel
theorem dMd_close_144 : decode cMd_close 144 = .ok (.ifCond .eq 20, 3) := by decide +kernel
theorem dMd_close_147 : decode cMd_close 147 = .ok (.aload_n 0, 1) := by decide +kernel
theorem dMd_close_148 : decode cMd_close 148 = .ok (.getfield 68, 3) := by decide +kernel
theorem dMd_close_151 : decode cMd_close 151 = .ok (.iload 4, 2) := by decide +kernel
theorem dMd_close_153 : decode cMd_close 153 = .ok (.aload_n 0, 1) := by decide +kernel
theorem dMd_close_154 : decode cMd_close 154 = .ok (.getfield 68, 3) := by decide +kernel
theorem dMd_close_157 : decode cMd_close 157 = .ok (.iload 5, 2) := by decide +kernel
theorem dMd_close_159 : decode cMd_close 159 = .ok (.iaload, 1) := by decide +kernel
theorem dMd_close_160 : decode cMd_close 160 = .ok (.iastore, 1) := by decide +kernel
theorem dMd_close_161 : decode cMd_close 161 = .ok (.iinc 4 1, 3) := by decide +kernel
theorem dMd_close_164 : decode cMd_close 164 = .ok (.iinc 5 1, 3) := by decide +kernel
theorem dMd_close_167 : decode cMd_close 167 = .ok (.goto (-44), 3) := by decide +kernel
theorem dMd_close_170 : decode cMd_close 170 = .ok (.aload_n 0, 1) := by decide +kernel
theorem dMd_close_171 : decode cMd_close 171 = .ok (.iload 4, 2) := by decide +kernel
theorem dMd_close_173 : decode cMd_close 173 = .ok (.putfield 133, 3) := by decide +kernel
theorem dMd_close_176 : decode cMd_close 176 = .ok (.iload_n 2, 1) := by decide +kernel
theorem dMd_close_177 : decode cMd_close 177 = .ok (.ireturn, 1) := by decide +kernel
theorem dMd_call_0 : decode cMd_call 0 = .ok (.iload_n 1, 1) := by decide +kernel
theorem dMd_call_1 : decode cMd_call 1 = .ok (.invokestatic 99, 3) := by decide +kernel
theorem dMd_call_4 : decode cMd_call 4 = .ok (.ifCond .eq 21, 3) := by decide +kernel
theorem dMd_call_7 : decode cMd_call 7 = .ok (.iload_n 2, 1) := by decide +kernel
theorem dMd_call_8 : decode cMd_call 8 = .ok (.ifCond .lt 17, 3) := by decide +kernel
theorem dMd_call_11 : decode cMd_call 11 = .ok (.iload_n 2, 1) := by decide +kernel
theorem dMd_call_12 : decode cMd_call 12 = .ok (.aload_n 0, 1) := by decide +kernel
theorem dMd_call_13 : decode cMd_call 13 = .ok (.getfield 44, 3) := by decide +kernel
theorem dMd_call_16 : decode cMd_call 16 = .ok (.iload_n 1, 1) := by decide +kernel
theorem dMd_call_17 : decode cMd_call 17 = .ok (.iaload, 1) := by decide +kernel
theorem dMd_call_18 : decode cMd_call 18 = .ok (.if_icmp .ge 7, 3) := by decide +kernel
theorem dMd_call_21 : decode cMd_call 21 = .ok (.iconst 1, 1) := by decide +kernel
theorem dMd_call_22 : decode cMd_call 22 = .ok (.goto 4, 3) := by decide +kernel
theorem dMd_call_25 : decode cMd_call 25 = .ok (.iconst 0, 1) := by decide +kernel
theorem dMd_call_26 : decode cMd_call 26 = .ok (.istore_n 3, 1) := by decide +kernel
theorem dMd_call_27 : decode cMd_call 27 = .ok (.aload_n 0, 1) := by decide +kernel
theorem dMd_call_28 : decode cMd_call 28 = .ok (.iload_n 3, 1) := by decide +kernel
theorem dMd_call_29 : decode cMd_call 29 = .ok (.ifCond .ne 7, 3) := by decide +kernel
theorem dMd_call_32 : decode cMd_call 32 = .ok (.iconst 1, 1) := by decide +kernel
theorem dMd_call_33 : decode cMd_call 33 = .ok (.goto 4, 3) := by decide +kernel
theorem dMd_call_36 : decode cMd_call 36 = .ok (.iconst 0, 1) := by decide +kernel
theorem dMd_call_37 : decode cMd_call 37 = .ok (.iload_n 3, 1) := by decide +kernel
theorem dMd_call_38 : decode cMd_call 38 = .ok (.ifCond .eq 22, 3) := by decide +kernel
theorem dMd_call_41 : decode cMd_call 41 = .ok (.aload_n 0, 1) := by decide +kernel
theorem dMd_call_42 : decode cMd_call 42 = .ok (.getfield 32, 3) := by decide +kernel
theorem dMd_call_45 : decode cMd_call 45 = .ok (.bipush 6, 2) := by decide +kernel
theorem dMd_call_47 : decode cMd_call 47 = .ok (.iload_n 1, 1) := by decide +kernel
theorem dMd_call_48 : decode cMd_call 48 = .ok (.imul, 1) := by decide +kernel
theorem dMd_call_49 : decode cMd_call 49 = .ok (.iload_n 2, 1) := by decide +kernel
theorem dMd_call_50 : decode cMd_call 50 = .ok (.iadd, 1) := by decide +kernel
theorem dMd_call_51 : decode cMd_call 51 = .ok (.iaload, 1) := by decide +kernel
theorem dMd_call_52 : decode cMd_call 52 = .ok (.iconst 2, 1) := by decide +kernel
theorem dMd_call_53 : decode cMd_call 53 = .ok (.if_icmp .eq 7, 3) := by decide +kernel
theorem dMd_call_56 : decode cMd_call 56 = .ok (.iconst 1, 1) := by decide +kernel
theorem dMd_call_57 : decode cMd_call 57 = .ok (.goto 4, 3) := by decide +kernel
theorem dMd_call_60 : decode cMd_call 60 = .ok (.iconst 0, 1) := by decide +kernel
theorem dMd_call_61 : decode cMd_call 61 = .ok (.iload_n 3, 1) := by decide +kernel
theorem dMd_call_62 : decode cMd_call 62 = .ok (.ifCond .eq 16, 3) := by decide +kernel
theorem dMd_call_65 : decode cMd_call 65 = .ok (.aload_n 0, 1) := by decide +kernel
theorem dMd_call_66 : decode cMd_call 66 = .ok (.getfield 47, 3) := by decide +kernel
theorem dMd_call_69 : decode cMd_call 69 = .ok (.iload_n 1, 1) := by decide +kernel
theorem dMd_call_70 : decode cMd_call 70 = .ok (.baload, 1) := by decide +kernel
theorem dMd_call_71 : decode cMd_call 71 = .ok (.ifCond .ne 7, 3) := by decide +kernel
theorem dMd_call_74 : decode cMd_call 74 = .ok (.iconst 1, 1) := by decide +kernel
theorem dMd_call_75 : decode cMd_call 75 = .ok (.goto 4, 3) := by decide +kernel
theorem dMd_call_78 : decode cMd_call 78 = .ok (.iconst 0, 1) := by decide +kernel
theorem dMd_call_79 : decode cMd_call 79 = .ok (.invokevirtual 103, 3) := by decide +kernel
theorem dMd_call_82 : decode cMd_call 82 = .ok (.ifCond .eq 5, 3) := by decide +kernel
theorem dMd_call_85 : decode cMd_call 85 = .ok (.iconst 0, 1) := by decide +kernel
theorem dMd_call_86 : decode cMd_call 86 = .ok (.ireturn, 1) := by decide +kernel
theorem dMd_call_87 : decode cMd_call 87 = .ok (.aload_n 0, 1) := by decide +kernel
theorem dMd_call_88 : decode cMd_call 88 = .ok (.getfield 50, 3) := by decide +kernel
theorem dMd_call_91 : decode cMd_call 91 = .ok (.iload_n 1, 1) := by decide +kernel
theorem dMd_call_92 : decode cMd_call 92 = .ok (.iaload, 1) := by decide +kernel
theorem dMd_call_93 : decode cMd_call 93 = .ok (.aload_n 0, 1) := by decide +kernel
theorem dMd_call_94 : decode cMd_call 94 = .ok (.getfield 35, 3) := by decide +kernel
theorem dMd_call_97 : decode cMd_call 97 = .ok (.bipush 6, 2) := by decide +kernel
theorem dMd_call_99 : decode cMd_call 99 = .ok (.iload_n 1, 1) := by decide +kernel
theorem dMd_call_100 : decode cMd_call 100 = .ok (.imul, 1) := by decide +kernel
theorem dMd_call_101 : decode cMd_call 101 = .ok (.iload_n 2, 1) := by decide +kernel
theorem dMd_call_102 : decode cMd_call 102 = .ok (.iadd, 1) := by decide +kernel
theorem dMd_call_103 : decode cMd_call 103 = .ok (.iaload, 1) := by decide +kernel
theorem dMd_call_104 : decode cMd_call 104 = .ok (.iadd, 1) := by decide +kernel
theorem dMd_call_105 : decode cMd_call 105 = .ok (.istore 4, 2) := by decide +kernel
theorem dMd_call_107 : decode cMd_call 107 = .ok (.aload_n 0, 1) := by decide +kernel
theorem dMd_call_108 : decode cMd_call 108 = .ok (.getfield 71, 3) := by decide +kernel
theorem dMd_call_111 : decode cMd_call 111 = .ok (.iload 4, 2) := by decide +kernel
theorem dMd_call_113 : decode cMd_call 113 = .ok (.iaload, 1) := by decide +kernel
theorem dMd_call_114 : decode cMd_call 114 = .ok (.iconst (-1), 1) := by decide +kernel
theorem dMd_call_115 : decode cMd_call 115 = .ok (.iload_n 2, 1) := by decide +kernel
theorem dMd_call_116 : decode cMd_call 116 = .ok (.isub, 1) := by decide +kernel
theorem dMd_call_117 : decode cMd_call 117 = .ok (.if_icmp .ne 49, 3) := by decide +kernel
theorem dMd_call_120 : decode cMd_call 120 = .ok (.aload_n 0, 1) := by decide +kernel
theorem dMd_call_121 : decode cMd_call 121 = .ok (.iload_n 1, 1) := by decide +kernel
theorem dMd_call_122 : decode cMd_call 122 = .ok (.iload_n 2, 1) := by decide +kernel
theorem dMd_call_123 : decode cMd_call 123 = .ok (.invokevirtual 146, 3) := by decide +kernel
theorem dMd_call_126 : decode cMd_call 126 = .ok (.istore 5, 2) := by decide +kernel
theorem dMd_call_128 : decode cMd_call 128 = .ok (.aload_n 0, 1) := by decide +kernel
theorem dMd_call_129 : decode cMd_call 129 = .ok (.iload 5, 2) := by decide +kernel
theorem dMd_call_131 : decode cMd_call 131 = .ok (.ifCond .ge 7, 3) := by decide +kernel
theorem dMd_call_134 : decode cMd_call 134 = .ok (.iconst 4, 1) := by decide +kernel
theorem dMd_call_135 : decode cMd_call 135 = .ok (.goto 4, 3) := by decide +kernel
theorem dMd_call_138 : decode cMd_call 138 = .ok (.iconst 0, 1) := by decide +kernel
theorem dMd_call_139 : decode cMd_call 139 = .ok (.putfield 95, 3) := by decide +kernel
theorem dMd_call_142 : decode cMd_call 142 = .ok (.aload_n 0, 1) := by decide +kernel
theorem dMd_call_143 : decode cMd_call 143 = .ok (.getfield 71, 3) := by decide +kernel
theorem dMd_call_146 : decode cMd_call 146 = .ok (.iload 4, 2) := by decide +kernel
theorem dMd_call_148 : decode cMd_call 148 = .ok (.iload 5, 2) := by decide +kernel
theorem dMd_call_150 : decode cMd_call 150 = .ok (.ifCond .ge 13, 3) := by decide +kernel
theorem dMd_call_153 : decode cMd_call 153 = .ok (.aload_n 0, 1) := by decide +kernel
theorem dMd_call_154 : decode cMd_call 154 = .ok (.getfield 71, 3) := by decide +kernel
theorem dMd_call_157 : decode cMd_call 157 = .ok (.iload 4, 2) := by decide +kernel
theorem dMd_call_159 : decode cMd_call 159 = .ok (.iaload, 1) := by decide +kernel
theorem dMd_call_160 : decode cMd_call 160 = .ok (.goto 5, 3) := by decide +kernel
theorem dMd_call_163 : decode cMd_call 163 = .ok (.iload 5, 2) := by decide +kernel
theorem dMd_call_165 : decode cMd_call 165 = .ok (.iastore, 1) := by decide +kernel
theorem dMd_call_166 : decode cMd_call 166 = .ok (.aload_n 0, 1) := by decide +kernel
theorem dMd_call_167 : decode cMd_call 167 = .ok (.getfield 95, 3) := by decide +kernel
theorem dMd_call_170 : decode cMd_call 170 = .ok (.ifCond .le 7, 3) := by decide +kernel
theorem dMd_call_173 : decode cMd_call 173 = .ok (.iconst 0, 1) := by decide +kernel
theorem dMd_call_174 : decode cMd_call 174 = .ok (.goto 10, 3) := by decide +kernel
theorem dMd_call_177 : decode cMd_call 177 = .ok (.aload_n 0, 1) := by decide +kernel
theorem dMd_call_178 : decode cMd_call 178 = .ok (.getfield 71, 3) := by decide +kernel
theorem dMd_call_181 : decode cMd_call 181 = .ok (.iload 4, 2) := by decide +kernel
theorem dMd_call_183 : decode cMd_call 183 = .ok (.iaload, 1) := by decide +kernel
theorem dMd_call_184 : decode cMd_call 184 = .ok (.ireturn, 1) := by decide +kernel
theorem dMd_find_0 : decode cMd_find 0 = .ok (.aload_n 0, 1) := by decide +kernel
theorem dMd_find_1 : decode cMd_find 1 = .ok (.iload_n 1, 1) := by decide +kernel
theorem dMd_find_2 : decode cMd_find 2 = .ok (.invokestatic 99, 3) := by decide +kernel
theorem dMd_find_5 : decode cMd_find 5 = .ok (.ifCond .ne 7, 3) := by decide +kernel
theorem dMd_find_8 : decode cMd_find 8 = .ok (.iconst 1, 1) := by decide +kernel
theorem dMd_find_9 : decode cMd_find 9 = .ok (.goto 4, 3) := by decide +kernel
theorem dMd_find_12 : decode cMd_find 12 = .ok (.iconst 0, 1) := by decide +kernel
theorem dMd_find_13 : decode cMd_find 13 = .ok (.iload_n 2, 1) := by decide +kernel
theorem dMd_find_14 : decode cMd_find 14 = .ok (.invokestatic 114, 3) := by decide +kernel
theorem dMd_find_17 : decode cMd_find 17 = .ok (.ifCond .ne 7, 3) := by decide +kernel
theorem dMd_find_20 : decode cMd_find 20 = .ok (.iconst 1, 1) := by decide +kernel
theorem dMd_find_21 : decode cMd_find 21 = .ok (.goto 4, 3) := by decide +kernel
theorem dMd_find_24 : decode cMd_find 24 = .ok (.iconst 0, 1) := by decide +kernel
theorem dMd_find_25 : decode cMd_find 25 = .ok (.iload_n 1, 1) := by decide +kernel
theorem dMd_find_26 : decode cMd_find 26 = .ok (.invokestatic 99, 3) := by decide +kernel
theorem dMd_find_29 : decode cMd_find 29 = .ok (.ifCond .eq 16, 3) := by decide +kernel
theorem dMd_find_32 : decode cMd_find 32 = .ok (.aload_n 0, 1) := by decide +kernel
theorem dMd_find_33 : decode cMd_find 33 = .ok (.getfield 47, 3) := by decide +kernel
theorem dMd_find_36 : decode cMd_find 36 = .ok (.iload_n 1, 1) := by decide +kernel
theorem dMd_find_37 : decode cMd_find 37 = .ok (.baload, 1) := by decide +kernel
theorem dMd_find_38 : decode cMd_find 38 = .ok (.ifCond .ne 7, 3) := by decide +kernel
theorem dMd_find_41 : decode cMd_find 41 = .ok (.iconst 1, 1) := by decide +kernel
theorem dMd_find_42 : decode cMd_find 42 = .ok (.goto 4, 3) := by decide +kernel
theorem dMd_find_45 : decode cMd_find 45 = .ok (.iconst 0, 1) := by decide +kernel
theorem dMd_find_46 : decode cMd_find 46 = .ok (.invokevirtual 103, 3) := by decide +kernel
theorem dMd_find_49 : decode cMd_find 49 = .ok (.ifCond .eq 5, 3) := by decide +kernel
theorem dMd_find_52 : decode cMd_find 52 = .ok (.iconst 0, 1) := by decide +kernel
theorem dMd_find_53 : decode cMd_find 53 = .ok (.ireturn, 1) := by decide +kernel
theorem dMd_find_54 : decode cMd_find 54 = .ok (.aload_n 0, 1) := by decide +kernel
theorem dMd_find_55 : decode cMd_find 55 = .ok (.iload_n 1, 1) := by decide +kernel
theorem dMd_find_56 : decode cMd_find 56 = .ok (.invokevirtual 163, 3) := by decide +kernel
theorem dMd_find_59 : decode cMd_find 59 = .ok (.iconst 0, 1) := by decide +kernel
theorem dMd_find_60 : decode cMd_find 60 = .ok (.istore_n 3, 1) := by decide +kernel
theorem dMd_find_61 : decode cMd_find 61 = .ok (.iload_n 3, 1) := by decide +kernel
theorem dMd_find_62 : decode cMd_find 62 = .ok (.aload_n 0, 1) := by decide +kernel
theorem dMd_find_63 : decode cMd_find 63 = .ok (.getfield 123, 3) := by decide +kernel
theorem dMd_find_66 : decode cMd_find 66 = .ok (.if_icmp .ge 48, 3) := by decide +kernel
theorem dMd_find_69 : decode cMd_find 69 = .ok (.aload_n 0, 1) := by decide +kernel
theorem dMd_find_70 : decode cMd_find 70 = .ok (.getfield 47, 3) := by decide +kernel
theorem dMd_find_73 : decode cMd_find 73 = .ok (.aload_n 0, 1) := by decide +kernel
theorem dMd_find_74 : decode cMd_find 74 = .ok (.getfield 74, 3) := by decide +kernel
theorem dMd_find_77 : decode cMd_find 77 = .ok (.iload_n 3, 1) := by decide +kernel
theorem dMd_find_78 : decode cMd_find 78 = .ok (.iaload, 1) := by decide +kernel
theorem dMd_find_79 : decode cMd_find 79 = .ok (.baload, 1) := by decide +kernel
theorem dMd_find_80 : decode cMd_find 80 = .ok (.ifCond .eq 17, 3) := by decide +kernel
theorem dMd_find_83 : decode cMd_find 83 = .ok (.aload_n 0, 1) := by decide +kernel
theorem dMd_find_84 : decode cMd_find 84 = .ok (.aload_n 0, 1) := by decide +kernel
theorem dMd_find_85 : decode cMd_find 85 = .ok (.getfield 74, 3) := by decide +kernel
theorem dMd_find_88 : decode cMd_find 88 = .ok (.iload_n 3, 1) := by decide +kernel
theorem dMd_find_89 : decode cMd_find 89 = .ok (.iaload, 1) := by decide +kernel
theorem dMd_find_90 : decode cMd_find 90 = .ok (.iload_n 2, 1) := by decide +kernel
theorem dMd_find_91 : decode cMd_find 91 = .ok (.invokevirtual 136, 3) := by decide +kernel
theorem dMd_find_94 : decode cMd_find 94 = .ok (.goto 4, 3) := by decide +kernel
theorem dMd_find_97 : decode cMd_find 97 = .ok (.iconst (-1), 1) := by decide +kernel
theorem dMd_find_98 : decode cMd_find 98 = .ok (.istore 4, 2) := by decide +kernel
theorem dMd_find_100 : decode cMd_find 100 = .ok (.iload 4, 2) := by decide +kernel
theorem dMd_find_102 : decode cMd_find 102 = .ok (.ifCond .lt 6, 3) := by decide +kernel
theorem dMd_find_105 : decode cMd_find 105 = .ok (.iload 4, 2) := by decide +kernel
theorem dMd_find_107 : decode cMd_find 107 = .ok (.ireturn, 1) := by decide +kernel
theorem dMd_find_108 : decode cMd_find 108 = .ok (.iinc 3 1, 3) := by decide +kernel
theorem dMd_find_111 : decode cMd_find 111 = .ok (.goto (-50), 3) := by decide +kernel
theorem dMd_find_114 : decode cMd_find 114 = .ok (.aload_n 0, 1) := by decide +kernel
theorem dMd_find_115 : decode cMd_find 115 = .ok (.iconst 4, 1) := by decide +kernel
theorem dMd_find_116 : decode cMd_find 116 = .ok (.putfield 95, 3) := by decide +kernel
theorem dMd_find_119 : decode cMd_find 119 = .ok (.iconst 0, 1) := by decide +kernel
theorem dMd_find_120 : decode cMd_find 120 = .ok (.ireturn, 1) := by decide +kernel
theorem dMd_isImage_0 : decode cMd_isImage 0 = .ok (.iconst 0, 1) := by decide +kernel
theorem dMd_isImage_1 : decode cMd_isImage 1 = .ok (.istore_n 2, 1) := by decide +kernel
theorem dMd_isImage_2 : decode cMd_isImage 2 = .ok (.iconst 0, 1) := by decide +kernel
theorem dMd_isImage_3 : decode cMd_isImage 3 = .ok (.istore_n 3, 1) := by decide +kernel
theorem dMd_isImage_4 : decode cMd_isImage 4 = .ok (.iload_n 3, 1) := by decide +kernel
theorem dMd_isImage_5 : decode cMd_isImage 5 = .ok (.bipush 6, 2) := by decide +kernel
theorem dMd_isImage_7 : decode cMd_isImage 7 = .ok (.if_icmp .ge 55, 3) := by decide +kernel
theorem dMd_isImage_10 : decode cMd_isImage 10 = .ok (.iload_n 2, 1) := by decide +kernel
theorem dMd_isImage_11 : decode cMd_isImage 11 = .ok (.ifCond .ne 39, 3) := by decide +kernel
theorem dMd_isImage_14 : decode cMd_isImage 14 = .ok (.aload_n 0, 1) := by decide +kernel
theorem dMd_isImage_15 : decode cMd_isImage 15 = .ok (.getfield 47, 3) := by decide +kernel
theorem dMd_isImage_18 : decode cMd_isImage 18 = .ok (.iload_n 3, 1) := by decide +kernel
theorem dMd_isImage_19 : decode cMd_isImage 19 = .ok (.baload, 1) := by decide +kernel
theorem dMd_isImage_20 : decode cMd_isImage 20 = .ok (.ifCond .eq 34, 3) := by decide +kernel
theorem dMd_isImage_23 : decode cMd_isImage 23 = .ok (.iload_n 1, 1) := by decide +kernel
theorem dMd_isImage_24 : decode cMd_isImage 24 = .ok (.aload_n 0, 1) := by decide +kernel
theorem dMd_isImage_25 : decode cMd_isImage 25 = .ok (.getfield 50, 3) := by decide +kernel
theorem dMd_isImage_28 : decode cMd_isImage 28 = .ok (.iload_n 3, 1) := by decide +kernel
theorem dMd_isImage_29 : decode cMd_isImage 29 = .ok (.iaload, 1) := by decide +kernel
theorem dMd_isImage_30 : decode cMd_isImage 30 = .ok (.if_icmp .lt 24, 3) := by decide +kernel
theorem dMd_isImage_33 : decode cMd_isImage 33 = .ok (.iload_n 1, 1) := by decide +kernel
theorem dMd_isImage_34 : decode cMd_isImage 34 = .ok (.aload_n 0, 1) := by decide +kernel
theorem dMd_isImage_35 : decode cMd_isImage 35 = .ok (.getfield 50, 3) := by decide +kernel
theorem dMd_isImage_38 : decode cMd_isImage 38 = .ok (.iload_n 3, 1) := by decide +kernel
theorem dMd_isImage_39 : decode cMd_isImage 39 = .ok (.iaload, 1) := by decide +kernel
theorem dMd_isImage_40 : decode cMd_isImage 40 = .ok (.aload_n 0, 1) := by decide +kernel
theorem dMd_isImage_41 : decode cMd_isImage 41 = .ok (.getfield 7, 3) := by decide +kernel
theorem dMd_isImage_44 : decode cMd_isImage 44 = .ok (.iload_n 3, 1) := by decide +kernel
theorem dMd_isImage_45 : decode cMd_isImage 45 = .ok (.iaload, 1) := by decide +kernel
theorem dMd_isImage_46 : decode cMd_isImage 46 = .ok (.iadd, 1) := by decide +kernel
theorem dMd_isImage_47 : decode cMd_isImage 47 = .ok (.if_icmp .ge 7, 3) := by decide +kernel
theorem dMd_isImage_50 : decode cMd_isImage 50 = .ok (.iconst 1, 1) := by decide +kernel
theorem dMd_isImage_51 : decode cMd_isImage 51 = .ok (.goto 4, 3) := by decide +kernel
theorem dMd_isImage_54 : decode cMd_isImage 54 = .ok (.iconst 0, 1) := by decide +kernel
theorem dMd_isImage_55 : decode cMd_isImage 55 = .ok (.istore_n 2, 1) := by decide +kernel
theorem dMd_isImage_56 : decode cMd_isImage 56 = .ok (.iinc 3 1, 3) := by decide +kernel
theorem dMd_isImage_59 : decode cMd_isImage 59 = .ok (.goto (-55), 3) := by decide +kernel
theorem dMd_isImage_62 : decode cMd_isImage 62 = .ok (.iload_n 2, 1) := by decide +kernel
theorem dMd_isImage_63 : decode cMd_isImage 63 = .ok (.ireturn, 1) := by decide +kernel
theorem dMd_word_0 : decode cMd_word 0 = .ok (.aload_n 0, 1) := by decide +kernel
theorem dMd_word_1 : decode cMd_word 1 = .ok (.iload_n 1, 1) := by decide +kernel
theorem dMd_word_2 : decode cMd_word 2 = .ok (.ifCond .lt 9, 3) := by decide +kernel
theorem dMd_word_5 : decode cMd_word 5 = .ok (.iload_n 1, 1) := by decide +kernel
theorem dMd_word_6 : decode cMd_word 6 = .ok (.bipush 31, 2) := by decide +kernel
theorem dMd_word_8 : decode cMd_word 8 = .ok (.if_icmp .le 7, 3) := by decide +kernel
theorem dMd_word_11 : decode cMd_word 11 = .ok (.iconst 1, 1) := by decide +kernel
theorem dMd_word_12 : decode cMd_word 12 = .ok (.goto 4, 3) := by decide +kernel
theorem dMd_word_15 : decode cMd_word 15 = .ok (.iconst 0, 1) := by decide +kernel
theorem dMd_word_16 : decode cMd_word 16 = .ok (.putfield 95, 3) := by decide +kernel
theorem dMd_word_19 : decode cMd_word 19 = .ok (.aload_n 0, 1) := by decide +kernel
theorem dMd_word_20 : decode cMd_word 20 = .ok (.getfield 95, 3) := by decide +kernel
theorem dMd_word_23 : decode cMd_word 23 = .ok (.ifCond .ne 20, 3) := by decide +kernel
theorem dMd_word_26 : decode cMd_word 26 = .ok (.aload_n 0, 1) := by decide +kernel
theorem dMd_word_27 : decode cMd_word 27 = .ok (.iload_n 1, 1) := by decide +kernel
theorem dMd_word_28 : decode cMd_word 28 = .ok (.invokevirtual 190, 3) := by decide +kernel
theorem dMd_word_31 : decode cMd_word 31 = .ok (.ifCond .eq 12, 3) := by decide +kernel
theorem dMd_word_34 : decode cMd_word 34 = .ok (.aload_n 0, 1) := by decide +kernel
theorem dMd_word_35 : decode cMd_word 35 = .ok (.getfield 71, 3) := by decide +kernel
theorem dMd_word_38 : decode cMd_word 38 = .ok (.iload_n 1, 1) := by decide +kernel
theorem dMd_word_39 : decode cMd_word 39 = .ok (.iaload, 1) := by decide +kernel
theorem dMd_word_40 : decode cMd_word 40 = .ok (.goto 4, 3) := by decide +kernel
theorem dMd_word_43 : decode cMd_word 43 = .ok (.iconst 0, 1) := by decide +kernel
theorem dMd_word_44 : decode cMd_word 44 = .ok (.ireturn, 1) := by decide +kernel
theorem dMd_store_0 : decode cMd_store 0 = .ok (.aload_n 0, 1) := by decide +kernel
theorem dMd_store_1 : decode cMd_store 1 = .ok (.iconst 0, 1) := by decide +kernel
theorem dMd_store_2 : decode cMd_store 2 = .ok (.putfield 95, 3) := by decide +kernel
theorem dMd_store_5 : decode cMd_store 5 = .ok (.aload_n 0, 1) := by decide +kernel
theorem dMd_store_6 : decode cMd_store 6 = .ok (.iload_n 1, 1) := by decide +kernel
theorem dMd_store_7 : decode cMd_store 7 = .ok (.invokevirtual 190, 3) := by decide +kernel
theorem dMd_store_10 : decode cMd_store 10 = .ok (.ifCond .ne 5, 3) := by decide +kernel
theorem dMd_store_13 : decode cMd_store 13 = .ok (.iconst 0, 1) := by decide +kernel
theorem dMd_store_14 : decode cMd_store 14 = .ok (.ireturn, 1) := by decide +kernel
theorem dMd_store_15 : decode cMd_store 15 = .ok (.aload_n 0, 1) := by decide +kernel
theorem dMd_store_16 : decode cMd_store 16 = .ok (.getfield 71, 3) := by decide +kernel
theorem dMd_store_19 : decode cMd_store 19 = .ok (.iload_n 1, 1) := by decide +kernel
theorem dMd_store_20 : decode cMd_store 20 = .ok (.iload_n 2, 1) := by decide +kernel
theorem dMd_store_21 : decode cMd_store 21 = .ok (.iastore, 1) := by decide +kernel
theorem dMd_store_22 : decode cMd_store 22 = .ok (.iconst 1, 1) := by decide +kernel
theorem dMd_store_23 : decode cMd_store 23 = .ok (.ireturn, 1) := by decide +kernel
theorem dMd_base_0 : decode cMd_base 0 = .ok (.aload_n 0, 1) := by decide +kernel
theorem dMd_base_1 : decode cMd_base 1 = .ok (.iconst 0, 1) := by decide +kernel
theorem dMd_base_2 : decode cMd_base 2 = .ok (.putfield 95, 3) := by decide +kernel
theorem dMd_base_5 : decode cMd_base 5 = .ok (.iload_n 1, 1) := by decide +kernel
theorem dMd_base_6 : decode cMd_base 6 = .ok (.invokestatic 99, 3) := by decide +kernel
theorem dMd_base_9 : decode cMd_base 9 = .ok (.ifCond .eq 21, 3) := by decide +kernel
theorem dMd_base_12 : decode cMd_base 12 = .ok (.aload_n 0, 1) := by decide +kernel
theorem dMd_base_13 : decode cMd_base 13 = .ok (.getfield 47, 3) := by decide +kernel
theorem dMd_base_16 : decode cMd_base 16 = .ok (.iload_n 1, 1) := by decide +kernel
theorem dMd_base_17 : decode cMd_base 17 = .ok (.baload, 1) := by decide +kernel
theorem dMd_base_18 : decode cMd_base 18 = .ok (.ifCond .eq 12, 3) := by decide +kernel
theorem dMd_base_21 : decode cMd_base 21 = .ok (.aload_n 0, 1) := by decide +kernel
theorem dMd_base_22 : decode cMd_base 22 = .ok (.getfield 50, 3) := by decide +kernel
theorem dMd_base_25 : decode cMd_base 25 = .ok (.iload_n 1, 1) := by decide +kernel
theorem dMd_base_26 : decode cMd_base 26 = .ok (.iaload, 1) := by decide +kernel
theorem dMd_base_27 : decode cMd_base 27 = .ok (.goto 4, 3) := by decide +kernel
theorem dMd_base_30 : decode cMd_base 30 = .ok (.iconst (-1), 1) := by decide +kernel
theorem dMd_base_31 : decode cMd_base 31 = .ok (.ireturn, 1) := by decide +kernel
theorem dMd_opened_0 : decode cMd_opened 0 = .ok (.aload_n 0, 1) := by decide +kernel
theorem dMd_opened_1 : decode cMd_opened 1 = .ok (.iconst 0, 1) := by decide +kernel
theorem dMd_opened_2 : decode cMd_opened 2 = .ok (.putfield 95, 3) := by decide +kernel
theorem dMd_opened_5 : decode cMd_opened 5 = .ok (.iload_n 1, 1) := by decide +kernel
theorem dMd_opened_6 : decode cMd_opened 6 = .ok (.invokestatic 99, 3) := by decide +kernel
theorem dMd_opened_9 : decode cMd_opened 9 = .ok (.ifCond .eq 12, 3) := by decide +kernel
theorem dMd_opened_12 : decode cMd_opened 12 = .ok (.aload_n 0, 1) := by decide +kernel
theorem dMd_opened_13 : decode cMd_opened 13 = .ok (.getfield 62, 3) := by decide +kernel
theorem dMd_opened_16 : decode cMd_opened 16 = .ok (.iload_n 1, 1) := by decide +kernel
theorem dMd_opened_17 : decode cMd_opened 17 = .ok (.iaload, 1) := by decide +kernel
theorem dMd_opened_18 : decode cMd_opened 18 = .ok (.goto 4, 3) := by decide +kernel
theorem dMd_opened_21 : decode cMd_opened 21 = .ok (.iconst 0, 1) := by decide +kernel
theorem dMd_opened_22 : decode cMd_opened 22 = .ok (.ireturn, 1) := by decide +kernel
theorem dMd_global_0 : decode cMd_global 0 = .ok (.aload_n 0, 1) := by decide +kernel
theorem dMd_global_1 : decode cMd_global 1 = .ok (.iconst 0, 1) := by decide +kernel
theorem dMd_global_2 : decode cMd_global 2 = .ok (.putfield 95, 3) := by decide +kernel
theorem dMd_global_5 : decode cMd_global 5 = .ok (.iload_n 1, 1) := by decide +kernel
theorem dMd_global_6 : decode cMd_global 6 = .ok (.ifCond .lt 20, 3) := by decide +kernel
theorem dMd_global_9 : decode cMd_global 9 = .ok (.iload_n 1, 1) := by decide +kernel
theorem dMd_global_10 : decode cMd_global 10 = .ok (.aload_n 0, 1) := by decide +kernel
theorem dMd_global_11 : decode cMd_global 11 = .ok (.getfield 133, 3) := by decide +kernel
theorem dMd_global_14 : decode cMd_global 14 = .ok (.if_icmp .ge 12, 3) := by decide +kernel
theorem dMd_global_17 : decode cMd_global 17 = .ok (.aload_n 0, 1) := by decide +kernel
theorem dMd_global_18 : decode cMd_global 18 = .ok (.getfield 68, 3) := by decide +kernel
theorem dMd_global_21 : decode cMd_global 21 = .ok (.iload_n 1, 1) := by decide +kernel
theorem dMd_global_22 : decode cMd_global 22 = .ok (.iaload, 1) := by decide +kernel
theorem dMd_global_23 : decode cMd_global 23 = .ok (.goto 4, 3) := by decide +kernel
theorem dMd_global_26 : decode cMd_global 26 = .ok (.iconst (-1), 1) := by decide +kernel
theorem dMd_global_27 : decode cMd_global 27 = .ok (.ireturn, 1) := by decide +kernel
theorem dMd_events_0 : decode cMd_events 0 = .ok (.aload_n 0, 1) := by decide +kernel
theorem dMd_events_1 : decode cMd_events 1 = .ok (.iconst 0, 1) := by decide +kernel
theorem dMd_events_2 : decode cMd_events 2 = .ok (.putfield 95, 3) := by decide +kernel
theorem dMd_events_5 : decode cMd_events 5 = .ok (.aload_n 0, 1) := by decide +kernel
theorem dMd_events_6 : decode cMd_events 6 = .ok (.getfield 156, 3) := by decide +kernel
theorem dMd_events_9 : decode cMd_events 9 = .ok (.ireturn, 1) := by decide +kernel
theorem dMd_event_0 : decode cMd_event 0 = .ok (.aload_n 0, 1) := by decide +kernel
theorem dMd_event_1 : decode cMd_event 1 = .ok (.iload_n 1, 1) := by decide +kernel
theorem dMd_event_2 : decode cMd_event 2 = .ok (.ifCond .lt 17, 3) := by decide +kernel
theorem dMd_event_5 : decode cMd_event 5 = .ok (.iload_n 1, 1) := by decide +kernel
theorem dMd_event_6 : decode cMd_event 6 = .ok (.bipush 39, 2) := by decide +kernel
theorem dMd_event_8 : decode cMd_event 8 = .ok (.if_icmp .gt 11, 3) := by decide +kernel
theorem dMd_event_11 : decode cMd_event 11 = .ok (.iload_n 1, 1) := by decide +kernel
theorem dMd_event_12 : decode cMd_event 12 = .ok (.aload_n 0, 1) := by decide +kernel
theorem dMd_event_13 : decode cMd_event 13 = .ok (.getfield 156, 3) := by decide +kernel
theorem dMd_event_16 : decode cMd_event 16 = .ok (.if_icmp .lt 7, 3) := by decide +kernel
theorem dMd_event_19 : decode cMd_event 19 = .ok (.iconst 1, 1) := by decide +kernel
theorem dMd_event_20 : decode cMd_event 20 = .ok (.goto 4, 3) := by decide +kernel
theorem dMd_event_23 : decode cMd_event 23 = .ok (.iconst 0, 1) := by decide +kernel
theorem dMd_event_24 : decode cMd_event 24 = .ok (.putfield 95, 3) := by decide +kernel
theorem dMd_event_27 : decode cMd_event 27 = .ok (.aload_n 0, 1) := by decide +kernel
theorem dMd_event_28 : decode cMd_event 28 = .ok (.getfield 95, 3) := by decide +kernel
theorem dMd_event_31 : decode cMd_event 31 = .ok (.ifCond .le 7, 3) := by decide +kernel
theorem dMd_event_34 : decode cMd_event 34 = .ok (.iconst 0, 1) := by decide +kernel
theorem dMd_event_35 : decode cMd_event 35 = .ok (.goto 19, 3) := by decide +kernel
theorem dMd_event_38 : decode cMd_event 38 = .ok (.aload_n 0, 1) := by decide +kernel
theorem dMd_event_39 : decode cMd_event 39 = .ok (.getfield 92, 3) := by decide +kernel
theorem dMd_event_42 : decode cMd_event 42 = .ok (.aload_n 0, 1) := by decide +kernel
theorem dMd_event_43 : decode cMd_event 43 = .ok (.getfield 156, 3) := by decide +kernel
theorem dMd_event_46 : decode cMd_event 46 = .ok (.iconst 1, 1) := by decide +kernel
theorem dMd_event_47 : decode cMd_event 47 = .ok (.isub, 1) := by decide +kernel
theorem dMd_event_48 : decode cMd_event 48 = .ok (.iload_n 1, 1) := by decide +kernel
theorem dMd_event_49 : decode cMd_event 49 = .ok (.isub, 1) := by decide +kernel
theorem dMd_event_50 : decode cMd_event 50 = .ok (.bipush 40, 2) := by decide +kernel
theorem dMd_event_52 : decode cMd_event 52 = .ok (.irem, 1) := by decide +kernel
theorem dMd_event_53 : decode cMd_event 53 = .ok (.iaload, 1) := by decide +kernel
theorem dMd_event_54 : decode cMd_event 54 = .ok (.ireturn, 1) := by decide +kernel
theorem dMd_steps_0 : decode cMd_steps 0 = .ok (.aload_n 0, 1) := by decide +kernel
theorem dMd_steps_1 : decode cMd_steps 1 = .ok (.iconst 0, 1) := by decide +kernel
theorem dMd_steps_2 : decode cMd_steps 2 = .ok (.putfield 95, 3) := by decide +kernel
theorem dMd_steps_5 : decode cMd_steps 5 = .ok (.aload_n 0, 1) := by decide +kernel
theorem dMd_steps_6 : decode cMd_steps 6 = .ok (.getfield 130, 3) := by decide +kernel
theorem dMd_steps_9 : decode cMd_steps 9 = .ok (.ireturn, 1) := by decide +kernel
