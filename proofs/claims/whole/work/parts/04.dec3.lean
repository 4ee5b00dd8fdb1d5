theorem dX7_pour_1 : decode cX7_pour 1 = .ok (.invokestatic 77, 3) := by decide +kernel
theorem dX7_pour_4 : decode cX7_pour 4 = .ok (.ifCond .ne 9, 3) := by decide +kernel
theorem dX7_pour_7 : decode cX7_pour 7 = .ok (.aload_n 0, 1) := by decide +kernel
theorem dX7_pour_8 : decode cX7_pour 8 = .ok (.iconst (-1), 1) := by decide +kernel
theorem dX7_pour_9 : decode cX7_pour 9 = .ok (.invokevirtual 81, 3) := by decide +kernel
theorem dX7_pour_12 : decode cX7_pour 12 = .ok (.ireturn, 1) := by decide +kernel
theorem dX7_pour_13 : decode cX7_pour 13 = .ok (.aload_n 0, 1) := by decide +kernel
theorem dX7_pour_14 : decode cX7_pour 14 = .ok (.getfield 25, 3) := by decide +kernel
theorem dX7_pour_17 : decode cX7_pour 17 = .ok (.iload_n 1, 1) := by decide +kernel
theorem dX7_pour_18 : decode cX7_pour 18 = .ok (.iaload, 1) := by decide +kernel
theorem dX7_pour_19 : decode cX7_pour 19 = .ok (.iconst 1, 1) := by decide +kernel
theorem dX7_pour_20 : decode cX7_pour 20 = .ok (.if_icmp .ne 7, 3) := by decide +kernel
theorem dX7_pour_23 : decode cX7_pour 23 = .ok (.iconst 1, 1) := by decide +kernel
theorem dX7_pour_24 : decode cX7_pour 24 = .ok (.goto 4, 3) := by decide +kernel
theorem dX7_pour_27 : decode cX7_pour 27 = .ok (.iconst 0, 1) := by decide +kernel
theorem dX7_pour_28 : decode cX7_pour 28 = .ok (.iload_n 2, 1) := by decide +kernel
theorem dX7_pour_29 : decode cX7_pour 29 = .ok (.if_icmp .ne 5, 3) := by decide +kernel
theorem dX7_pour_32 : decode cX7_pour 32 = .ok (.iconst 0, 1) := by decide +kernel
theorem dX7_pour_33 : decode cX7_pour 33 = .ok (.ireturn, 1) := by decide +kernel
theorem dX7_pour_34 : decode cX7_pour 34 = .ok (.aload_n 0, 1) := by decide +kernel
theorem dX7_pour_35 : decode cX7_pour 35 = .ok (.getfield 25, 3) := by decide +kernel
theorem dX7_pour_38 : decode cX7_pour 38 = .ok (.iload_n 1, 1) := by decide +kernel
theorem dX7_pour_39 : decode cX7_pour 39 = .ok (.iload_n 2, 1) := by decide +kernel
theorem dX7_pour_40 : decode cX7_pour 40 = .ok (.ifCond .eq 7, 3) := by decide +kernel
theorem dX7_pour_43 : decode cX7_pour 43 = .ok (.iconst 1, 1) := by decide +kernel
theorem dX7_pour_44 : decode cX7_pour 44 = .ok (.goto 4, 3) := by decide +kernel
theorem dX7_pour_47 : decode cX7_pour 47 = .ok (.iconst 0, 1) := by decide +kernel
theorem dX7_pour_48 : decode cX7_pour 48 = .ok (.iastore, 1) := by decide +kernel
theorem dX7_pour_49 : decode cX7_pour 49 = .ok (.aload_n 0, 1) := by decide +kernel
theorem dX7_pour_50 : decode cX7_pour 50 = .ok (.getfield 37, 3) := by decide +kernel
theorem dX7_pour_53 : decode cX7_pour 53 = .ok (.iload_n 1, 1) := by decide +kernel
theorem dX7_pour_54 : decode cX7_pour 54 = .ok (.iconst 0, 1) := by decide +kernel
theorem dX7_pour_55 : decode cX7_pour 55 = .ok (.bastore, 1) := by decide +kernel
theorem dX7_pour_56 : decode cX7_pour 56 = .ok (.iconst 1, 1) := by decide +kernel
theorem dX7_pour_57 : decode cX7_pour 57 = .ok (.ireturn, 1) := by decide +kernel
theorem dX7_changes_0 : decode cX7_changes 0 = .ok (.aload_n 0, 1) := by decide +kernel
theorem dX7_changes_1 : decode cX7_changes 1 = .ok (.getfield 31, 3) := by decide +kernel
theorem dX7_changes_4 : decode cX7_changes 4 = .ok (.iload_n 1, 1) := by decide +kernel
theorem dX7_changes_5 : decode cX7_changes 5 = .ok (.iaload, 1) := by decide +kernel
theorem dX7_changes_6 : decode cX7_changes 6 = .ok (.istore_n 3, 1) := by decide +kernel
theorem dX7_changes_7 : decode cX7_changes 7 = .ok (.aload_n 0, 1) := by decide +kernel
theorem dX7_changes_8 : decode cX7_changes 8 = .ok (.getfield 31, 3) := by decide +kernel
theorem dX7_changes_11 : decode cX7_changes 11 = .ok (.iload_n 1, 1) := by decide +kernel
theorem dX7_changes_12 : decode cX7_changes 12 = .ok (.aload_n 0, 1) := by decide +kernel
theorem dX7_changes_13 : decode cX7_changes 13 = .ok (.getfield 31, 3) := by decide +kernel
theorem dX7_changes_16 : decode cX7_changes 16 = .ok (.iload_n 2, 1) := by decide +kernel
theorem dX7_changes_17 : decode cX7_changes 17 = .ok (.iaload, 1) := by decide +kernel
theorem dX7_changes_18 : decode cX7_changes 18 = .ok (.iastore, 1) := by decide +kernel
theorem dX7_changes_19 : decode cX7_changes 19 = .ok (.aload_n 0, 1) := by decide +kernel
theorem dX7_changes_20 : decode cX7_changes 20 = .ok (.getfield 31, 3) := by decide +kernel
theorem dX7_changes_23 : decode cX7_changes 23 = .ok (.iload_n 2, 1) := by decide +kernel
theorem dX7_changes_24 : decode cX7_changes 24 = .ok (.iload_n 3, 1) := by decide +kernel
theorem dX7_changes_25 : decode cX7_changes 25 = .ok (.iastore, 1) := by decide +kernel
theorem dX7_changes_26 : decode cX7_changes 26 = .ok (.return_, 1) := by decide +kernel
set_option maxRecDepth 20000 in
theorem dX7_draws_0 : decode cX7_draws 0 = .ok (.aload_n 0, 1) := by decide +kernel
theorem dX7_draws_1 : decode cX7_draws 1 = .ok (.getfield 37, 3) := by decide +kernel
theorem dX7_draws_4 : decode cX7_draws 4 = .ok (.iload_n 1, 1) := by decide +kernel
theorem dX7_draws_5 : decode cX7_draws 5 = .ok (.baload, 1) := by decide +kernel
theorem dX7_draws_6 : decode cX7_draws 6 = .ok (.ifCond .eq 4, 3) := by decide +kernel
theorem dX7_draws_9 : decode cX7_draws 9 = .ok (.return_, 1) := by decide +kernel
theorem dX7_draws_10 : decode cX7_draws 10 = .ok (.aload_n 0, 1) := by decide +kernel
theorem dX7_draws_11 : decode cX7_draws 11 = .ok (.getfield 37, 3) := by decide +kernel
theorem dX7_draws_14 : decode cX7_draws 14 = .ok (.iload_n 1, 1) := by decide +kernel
theorem dX7_draws_15 : decode cX7_draws 15 = .ok (.iconst 1, 1) := by decide +kernel
theorem dX7_draws_16 : decode cX7_draws 16 = .ok (.bastore, 1) := by decide +kernel
theorem dX7_draws_17 : decode cX7_draws 17 = .ok (.aload_n 0, 1) := by decide +kernel
theorem dX7_draws_18 : decode cX7_draws 18 = .ok (.aload_n 0, 1) := by decide +kernel
theorem dX7_draws_19 : decode cX7_draws 19 = .ok (.getfield 13, 3) := by decide +kernel
theorem dX7_draws_22 : decode cX7_draws 22 = .ok (.iload_n 1, 1) := by decide +kernel
theorem dX7_draws_23 : decode cX7_draws 23 = .ok (.iaload, 1) := by decide +kernel
theorem dX7_draws_24 : decode cX7_draws 24 = .ok (.putfield 71, 3) := by decide +kernel
theorem dX7_draws_27 : decode cX7_draws 27 = .ok (.iconst 0, 1) := by decide +kernel
theorem dX7_draws_28 : decode cX7_draws 28 = .ok (.istore_n 2, 1) := by decide +kernel
theorem dX7_draws_29 : decode cX7_draws 29 = .ok (.iload_n 2, 1) := by decide +kernel
theorem dX7_draws_30 : decode cX7_draws 30 = .ok (.sipush 366, 3) := by decide +kernel
theorem dX7_draws_33 : decode cX7_draws 33 = .ok (.if_icmp .ge 16, 3) := by decide +kernel
theorem dX7_draws_36 : decode cX7_draws 36 = .ok (.aload_n 0, 1) := by decide +kernel
theorem dX7_draws_37 : decode cX7_draws 37 = .ok (.getfield 31, 3) := by decide +kernel
theorem dX7_draws_40 : decode cX7_draws 40 = .ok (.iload_n 2, 1) := by decide +kernel
theorem dX7_draws_41 : decode cX7_draws 41 = .ok (.iload_n 2, 1) := by decide +kernel
theorem dX7_draws_42 : decode cX7_draws 42 = .ok (.iastore, 1) := by decide +kernel
theorem dX7_draws_43 : decode cX7_draws 43 = .ok (.iinc 2 1, 3) := by decide +kernel
theorem dX7_draws_46 : decode cX7_draws 46 = .ok (.goto (-17), 3) := by decide +kernel
theorem dX7_draws_49 : decode cX7_draws 49 = .ok (.iconst 0, 1) := by decide +kernel
theorem dX7_draws_50 : decode cX7_draws 50 = .ok (.istore_n 2, 1) := by decide +kernel
theorem dX7_draws_51 : decode cX7_draws 51 = .ok (.iload_n 2, 1) := by decide +kernel
theorem dX7_draws_52 : decode cX7_draws 52 = .ok (.aload_n 0, 1) := by decide +kernel
theorem dX7_draws_53 : decode cX7_draws 53 = .ok (.getfield 16, 3) := by decide +kernel
theorem dX7_draws_56 : decode cX7_draws 56 = .ok (.iload_n 1, 1) := by decide +kernel
theorem dX7_draws_57 : decode cX7_draws 57 = .ok (.iaload, 1) := by decide +kernel
theorem dX7_draws_58 : decode cX7_draws 58 = .ok (.if_icmp .ge 72, 3) := by decide +kernel
theorem dX7_draws_61 : decode cX7_draws 61 = .ok (.aload_n 0, 1) := by decide +kernel
theorem dX7_draws_62 : decode cX7_draws 62 = .ok (.sipush 366, 3) := by decide +kernel
theorem dX7_draws_65 : decode cX7_draws 65 = .ok (.invokevirtual 85, 3) := by decide +kernel
theorem dX7_draws_68 : decode cX7_draws 68 = .ok (.istore_n 3, 1) := by decide +kernel
theorem dX7_draws_69 : decode cX7_draws 69 = .ok (.iload_n 3, 1) := by decide +kernel
theorem dX7_draws_70 : decode cX7_draws 70 = .ok (.aload_n 0, 1) := by decide +kernel
theorem dX7_draws_71 : decode cX7_draws 71 = .ok (.iconst 2, 1) := by decide +kernel
theorem dX7_draws_72 : decode cX7_draws 72 = .ok (.aload_n 0, 1) := by decide +kernel
theorem dX7_draws_73 : decode cX7_draws 73 = .ok (.getfield 19, 3) := by decide +kernel
theorem dX7_draws_76 : decode cX7_draws 76 = .ok (.iload_n 1, 1) := by decide +kernel
theorem dX7_draws_77 : decode cX7_draws 77 = .ok (.iaload, 1) := by decide +kernel
theorem dX7_draws_78 : decode cX7_draws 78 = .ok (.imul, 1) := by decide +kernel
theorem dX7_draws_79 : decode cX7_draws 79 = .ok (.iconst 1, 1) := by decide +kernel
theorem dX7_draws_80 : decode cX7_draws 80 = .ok (.iadd, 1) := by decide +kernel
theorem dX7_draws_81 : decode cX7_draws 81 = .ok (.invokevirtual 85, 3) := by decide +kernel
theorem dX7_draws_84 : decode cX7_draws 84 = .ok (.iadd, 1) := by decide +kernel
theorem dX7_draws_85 : decode cX7_draws 85 = .ok (.aload_n 0, 1) := by decide +kernel
theorem dX7_draws_86 : decode cX7_draws 86 = .ok (.getfield 19, 3) := by decide +kernel
theorem dX7_draws_89 : decode cX7_draws 89 = .ok (.iload_n 1, 1) := by decide +kernel
theorem dX7_draws_90 : decode cX7_draws 90 = .ok (.iaload, 1) := by decide +kernel
theorem dX7_draws_91 : decode cX7_draws 91 = .ok (.isub, 1) := by decide +kernel
theorem dX7_draws_92 : decode cX7_draws 92 = .ok (.istore 4, 2) := by decide +kernel
theorem dX7_draws_94 : decode cX7_draws 94 = .ok (.aload_n 0, 1) := by decide +kernel
theorem dX7_draws_95 : decode cX7_draws 95 = .ok (.iload_n 3, 1) := by decide +kernel
theorem dX7_draws_96 : decode cX7_draws 96 = .ok (.iload 4, 2) := by decide +kernel
theorem dX7_draws_98 : decode cX7_draws 98 = .ok (.ifCond .ge 7, 3) := by decide +kernel
theorem dX7_draws_101 : decode cX7_draws 101 = .ok (.iconst 0, 1) := by decide +kernel
theorem dX7_draws_102 : decode cX7_draws 102 = .ok (.goto 19, 3) := by decide +kernel
theorem dX7_draws_105 : decode cX7_draws 105 = .ok (.iload 4, 2) := by decide +kernel
theorem dX7_draws_107 : decode cX7_draws 107 = .ok (.sipush 366, 3) := by decide +kernel
theorem dX7_draws_110 : decode cX7_draws 110 = .ok (.if_icmp .lt 9, 3) := by decide +kernel
theorem dX7_draws_113 : decode cX7_draws 113 = .ok (.sipush 365, 3) := by decide +kernel
theorem dX7_draws_116 : decode cX7_draws 116 = .ok (.goto 5, 3) := by decide +kernel
theorem dX7_draws_119 : decode cX7_draws 119 = .ok (.iload 4, 2) := by decide +kernel
theorem dX7_draws_121 : decode cX7_draws 121 = .ok (.invokevirtual 88, 3) := by decide +kernel
theorem dX7_draws_124 : decode cX7_draws 124 = .ok (.iinc 2 1, 3) := by decide +kernel
theorem dX7_draws_127 : decode cX7_draws 127 = .ok (.goto (-76), 3) := by decide +kernel
theorem dX7_draws_130 : decode cX7_draws 130 = .ok (.iconst 0, 1) := by decide +kernel
theorem dX7_draws_131 : decode cX7_draws 131 = .ok (.istore_n 2, 1) := by decide +kernel
theorem dX7_draws_132 : decode cX7_draws 132 = .ok (.iload_n 2, 1) := by decide +kernel
theorem dX7_draws_133 : decode cX7_draws 133 = .ok (.sipush 183, 3) := by decide +kernel
theorem dX7_draws_136 : decode cX7_draws 136 = .ok (.if_icmp .ge 29, 3) := by decide +kernel
theorem dX7_draws_139 : decode cX7_draws 139 = .ok (.aload_n 0, 1) := by decide +kernel
theorem dX7_draws_140 : decode cX7_draws 140 = .ok (.getfield 25, 3) := by decide +kernel
theorem dX7_draws_143 : decode cX7_draws 143 = .ok (.iload_n 1, 1) := by decide +kernel
theorem dX7_draws_144 : decode cX7_draws 144 = .ok (.iaload, 1) := by decide +kernel
theorem dX7_draws_145 : decode cX7_draws 145 = .ok (.iconst 1, 1) := by decide +kernel
theorem dX7_draws_146 : decode cX7_draws 146 = .ok (.if_icmp .ne 19, 3) := by decide +kernel
theorem dX7_draws_149 : decode cX7_draws 149 = .ok (.aload_n 0, 1) := by decide +kernel
theorem dX7_draws_150 : decode cX7_draws 150 = .ok (.iload_n 2, 1) := by decide +kernel
theorem dX7_draws_151 : decode cX7_draws 151 = .ok (.sipush 365, 3) := by decide +kernel
theorem dX7_draws_154 : decode cX7_draws 154 = .ok (.iload_n 2, 1) := by decide +kernel
theorem dX7_draws_155 : decode cX7_draws 155 = .ok (.isub, 1) := by decide +kernel
theorem dX7_draws_156 : decode cX7_draws 156 = .ok (.invokevirtual 88, 3) := by decide +kernel
theorem dX7_draws_159 : decode cX7_draws 159 = .ok (.iinc 2 1, 3) := by decide +kernel
theorem dX7_draws_162 : decode cX7_draws 162 = .ok (.goto (-30), 3) := by decide +kernel
theorem dX7_draws_165 : decode cX7_draws 165 = .ok (.iconst 1, 1) := by decide +kernel
theorem dX7_draws_166 : decode cX7_draws 166 = .ok (.istore_n 2, 1) := by decide +kernel
theorem dX7_draws_167 : decode cX7_draws 167 = .ok (.iload_n 2, 1) := by decide +kernel
theorem dX7_draws_168 : decode cX7_draws 168 = .ok (.sipush 366, 3) := by decide +kernel
theorem dX7_draws_171 : decode cX7_draws 171 = .ok (.if_icmp .gt 100, 3) := by decide +kernel
theorem dX7_draws_174 : decode cX7_draws 174 = .ok (.sipush 366, 3) := by decide +kernel
theorem dX7_draws_177 : decode cX7_draws 177 = .ok (.iload_n 2, 1) := by decide +kernel
theorem dX7_draws_178 : decode cX7_draws 178 = .ok (.isub, 1) := by decide +kernel
theorem dX7_draws_179 : decode cX7_draws 179 = .ok (.iconst 1, 1) := by decide +kernel
theorem dX7_draws_180 : decode cX7_draws 180 = .ok (.iadd, 1) := by decide +kernel
theorem dX7_draws_181 : decode cX7_draws 181 = .ok (.istore_n 3, 1) := by decide +kernel
theorem dX7_draws_182 : decode cX7_draws 182 = .ok (.iload_n 3, 1) := by decide +kernel
theorem dX7_draws_183 : decode cX7_draws 183 = .ok (.iconst 1, 1) := by decide +kernel
theorem dX7_draws_184 : decode cX7_draws 184 = .ok (.isub, 1) := by decide +kernel
theorem dX7_draws_185 : decode cX7_draws 185 = .ok (.aload_n 0, 1) := by decide +kernel
theorem dX7_draws_186 : decode cX7_draws 186 = .ok (.aload_n 0, 1) := by decide +kernel
theorem dX7_draws_187 : decode cX7_draws 187 = .ok (.getfield 22, 3) := by decide +kernel
theorem dX7_draws_190 : decode cX7_draws 190 = .ok (.iload_n 1, 1) := by decide +kernel
theorem dX7_draws_191 : decode cX7_draws 191 = .ok (.iaload, 1) := by decide +kernel
theorem dX7_draws_192 : decode cX7_draws 192 = .ok (.iload_n 3, 1) := by decide +kernel
theorem dX7_draws_193 : decode cX7_draws 193 = .ok (.if_icmp .ge 12, 3) := by decide +kernel
theorem dX7_draws_196 : decode cX7_draws 196 = .ok (.aload_n 0, 1) := by decide +kernel
theorem dX7_draws_197 : decode cX7_draws 197 = .ok (.getfield 22, 3) := by decide +kernel
theorem dX7_draws_200 : decode cX7_draws 200 = .ok (.iload_n 1, 1) := by decide +kernel
theorem dX7_draws_201 : decode cX7_draws 201 = .ok (.iaload, 1) := by decide +kernel
theorem dX7_draws_202 : decode cX7_draws 202 = .ok (.goto 4, 3) := by decide +kernel
theorem dX7_draws_205 : decode cX7_draws 205 = .ok (.iload_n 3, 1) := by decide +kernel
theorem dX7_draws_206 : decode cX7_draws 206 = .ok (.invokevirtual 85, 3) := by decide +kernel
theorem dX7_draws_209 : decode cX7_draws 209 = .ok (.isub, 1) := by decide +kernel
theorem dX7_draws_210 : decode cX7_draws 210 = .ok (.istore 4, 2) := by decide +kernel
theorem dX7_draws_212 : decode cX7_draws 212 = .ok (.aload_n 0, 1) := by decide +kernel
theorem dX7_draws_213 : decode cX7_draws 213 = .ok (.getfield 28, 3) := by decide +kernel
theorem dX7_draws_216 : decode cX7_draws 216 = .ok (.sipush 366, 3) := by decide +kernel
theorem dX7_draws_219 : decode cX7_draws 219 = .ok (.iload_n 1, 1) := by decide +kernel
theorem dX7_draws_220 : decode cX7_draws 220 = .ok (.imul, 1) := by decide +kernel
theorem dX7_draws_221 : decode cX7_draws 221 = .ok (.aload_n 0, 1) := by decide +kernel
theorem dX7_draws_222 : decode cX7_draws 222 = .ok (.getfield 31, 3) := by decide +kernel
theorem dX7_draws_225 : decode cX7_draws 225 = .ok (.iload 4, 2) := by decide +kernel
theorem dX7_draws_227 : decode cX7_draws 227 = .ok (.iaload, 1) := by decide +kernel
theorem dX7_draws_228 : decode cX7_draws 228 = .ok (.iadd, 1) := by decide +kernel
theorem dX7_draws_229 : decode cX7_draws 229 = .ok (.iload_n 2, 1) := by decide +kernel
theorem dX7_draws_230 : decode cX7_draws 230 = .ok (.iastore, 1) := by decide +kernel
theorem dX7_draws_231 : decode cX7_draws 231 = .ok (.iload 4, 2) := by decide +kernel
theorem dX7_draws_233 : decode cX7_draws 233 = .ok (.istore 5, 2) := by decide +kernel
theorem dX7_draws_235 : decode cX7_draws 235 = .ok (.iload 5, 2) := by decide +kernel
theorem dX7_draws_237 : decode cX7_draws 237 = .ok (.iload_n 3, 1) := by decide +kernel
theorem dX7_draws_238 : decode cX7_draws 238 = .ok (.iconst 1, 1) := by decide +kernel
theorem dX7_draws_239 : decode cX7_draws 239 = .ok (.isub, 1) := by decide +kernel
theorem dX7_draws_240 : decode cX7_draws 240 = .ok (.if_icmp .ge 25, 3) := by decide +kernel
theorem dX7_draws_243 : decode cX7_draws 243 = .ok (.aload_n 0, 1) := by decide +kernel
theorem dX7_draws_244 : decode cX7_draws 244 = .ok (.getfield 31, 3) := by decide +kernel
theorem dX7_draws_247 : decode cX7_draws 247 = .ok (.iload 5, 2) := by decide +kernel
theorem dX7_draws_249 : decode cX7_draws 249 = .ok (.aload_n 0, 1) := by decide +kernel
theorem dX7_draws_250 : decode cX7_draws 250 = .ok (.getfield 31, 3) := by decide +kernel
theorem dX7_draws_253 : decode cX7_draws 253 = .ok (.iload 5, 2) := by decide +kernel
theorem dX7_draws_255 : decode cX7_draws 255 = .ok (.iconst 1, 1) := by decide +kernel
theorem dX7_draws_256 : decode cX7_draws 256 = .ok (.iadd, 1) := by decide +kernel
theorem dX7_draws_257 : decode cX7_draws 257 = .ok (.iaload, 1) := by decide +kernel
theorem dX7_draws_258 : decode cX7_draws 258 = .ok (.iastore, 1) := by decide +kernel
theorem dX7_draws_259 : decode cX7_draws 259 = .ok (.iinc 5 1, 3) := by decide +kernel
theorem dX7_draws_262 : decode cX7_draws 262 = .ok (.goto (-27), 3) := by decide +kernel
theorem dX7_draws_265 : decode cX7_draws 265 = .ok (.iinc 2 1, 3) := by decide +kernel
theorem dX7_draws_268 : decode cX7_draws 268 = .ok (.goto (-101), 3) := by decide +kernel
theorem dX7_draws_271 : decode cX7_draws 271 = .ok (.return_, 1) := by decide +kernel
set_option maxRecDepth 20000 in
theorem dX7_numberOf_0 : decode cX7_numberOf 0 = .ok (.aload_n 0, 1) := by decide +kernel
theorem dX7_numberOf_1 : decode cX7_numberOf 1 = .ok (.iload_n 1, 1) := by decide +kernel
theorem dX7_numberOf_2 : decode cX7_numberOf 2 = .ok (.invokevirtual 92, 3) := by decide +kernel
theorem dX7_numberOf_5 : decode cX7_numberOf 5 = .ok (.aload_n 0, 1) := by decide +kernel
theorem dX7_numberOf_6 : decode cX7_numberOf 6 = .ok (.getfield 28, 3) := by decide +kernel
theorem dX7_numberOf_9 : decode cX7_numberOf 9 = .ok (.sipush 366, 3) := by decide +kernel
theorem dX7_numberOf_12 : decode cX7_numberOf 12 = .ok (.iload_n 1, 1) := by decide +kernel
theorem dX7_numberOf_13 : decode cX7_numberOf 13 = .ok (.imul, 1) := by decide +kernel
theorem dX7_numberOf_14 : decode cX7_numberOf 14 = .ok (.iload_n 2, 1) := by decide +kernel
theorem dX7_numberOf_15 : decode cX7_numberOf 15 = .ok (.iadd, 1) := by decide +kernel
theorem dX7_numberOf_16 : decode cX7_numberOf 16 = .ok (.iaload, 1) := by decide +kernel
theorem dX7_numberOf_17 : decode cX7_numberOf 17 = .ok (.ireturn, 1) := by decide +kernel
set_option maxRecDepth 20000 in
theorem dX7_number_0 : decode cX7_number 0 = .ok (.iload_n 1, 1) := by decide +kernel
theorem dX7_number_1 : decode cX7_number 1 = .ok (.invokestatic 77, 3) := by decide +kernel
theorem dX7_number_4 : decode cX7_number 4 = .ok (.ifCond .eq 23, 3) := by decide +kernel
theorem dX7_number_7 : decode cX7_number 7 = .ok (.iload_n 2, 1) := by decide +kernel
theorem dX7_number_8 : decode cX7_number 8 = .ok (.iconst 0, 1) := by decide +kernel
theorem dX7_number_9 : decode cX7_number 9 = .ok (.sipush 365, 3) := by decide +kernel
theorem dX7_number_12 : decode cX7_number 12 = .ok (.invokestatic 96, 3) := by decide +kernel
theorem dX7_number_15 : decode cX7_number 15 = .ok (.ifCond .eq 12, 3) := by decide +kernel
theorem dX7_number_18 : decode cX7_number 18 = .ok (.aload_n 0, 1) := by decide +kernel
theorem dX7_number_19 : decode cX7_number 19 = .ok (.iload_n 1, 1) := by decide +kernel
theorem dX7_number_20 : decode cX7_number 20 = .ok (.iload_n 2, 1) := by decide +kernel
theorem dX7_number_21 : decode cX7_number 21 = .ok (.invokevirtual 100, 3) := by decide +kernel
theorem dX7_number_24 : decode cX7_number 24 = .ok (.goto 8, 3) := by decide +kernel
theorem dX7_number_27 : decode cX7_number 27 = .ok (.aload_n 0, 1) := by decide +kernel
theorem dX7_number_28 : decode cX7_number 28 = .ok (.iconst (-1), 1) := by decide +kernel
theorem dX7_number_29 : decode cX7_number 29 = .ok (.invokevirtual 81, 3) := by decide +kernel
theorem dX7_number_32 : decode cX7_number 32 = .ok (.ireturn, 1) := by decide +kernel
set_option maxRecDepth 20000 in
theorem dX7_dayOf_0 : decode cX7_dayOf 0 = .ok (.iload_n 1, 1) := by decide +kernel
theorem dX7_dayOf_1 : decode cX7_dayOf 1 = .ok (.invokestatic 77, 3) := by decide +kernel
theorem dX7_dayOf_4 : decode cX7_dayOf 4 = .ok (.ifCond .ne 9, 3) := by decide +kernel
theorem dX7_dayOf_7 : decode cX7_dayOf 7 = .ok (.aload_n 0, 1) := by decide +kernel
theorem dX7_dayOf_8 : decode cX7_dayOf 8 = .ok (.iconst (-1), 1) := by decide +kernel
theorem dX7_dayOf_9 : decode cX7_dayOf 9 = .ok (.invokevirtual 81, 3) := by decide +kernel
theorem dX7_dayOf_12 : decode cX7_dayOf 12 = .ok (.ireturn, 1) := by decide +kernel
theorem dX7_dayOf_13 : decode cX7_dayOf 13 = .ok (.iload_n 2, 1) := by decide +kernel
theorem dX7_dayOf_14 : decode cX7_dayOf 14 = .ok (.iconst 1, 1) := by decide +kernel
theorem dX7_dayOf_15 : decode cX7_dayOf 15 = .ok (.sipush 366, 3) := by decide +kernel
theorem dX7_dayOf_18 : decode cX7_dayOf 18 = .ok (.invokestatic 104, 3) := by decide +kernel
theorem dX7_dayOf_21 : decode cX7_dayOf 21 = .ok (.istore_n 3, 1) := by decide +kernel
theorem dX7_dayOf_22 : decode cX7_dayOf 22 = .ok (.iload_n 3, 1) := by decide +kernel
theorem dX7_dayOf_23 : decode cX7_dayOf 23 = .ok (.ifCond .eq 9, 3) := by decide +kernel
theorem dX7_dayOf_26 : decode cX7_dayOf 26 = .ok (.aload_n 0, 1) := by decide +kernel
theorem dX7_dayOf_27 : decode cX7_dayOf 27 = .ok (.iload_n 3, 1) := by decide +kernel
theorem dX7_dayOf_28 : decode cX7_dayOf 28 = .ok (.invokevirtual 81, 3) := by decide +kernel
theorem dX7_dayOf_31 : decode cX7_dayOf 31 = .ok (.ireturn, 1) := by decide +kernel
theorem dX7_dayOf_32 : decode cX7_dayOf 32 = .ok (.bipush (-9), 2) := by decide +kernel
theorem dX7_dayOf_34 : decode cX7_dayOf 34 = .ok (.istore 4, 2) := by decide +kernel
theorem dX7_dayOf_36 : decode cX7_dayOf 36 = .ok (.iconst 0, 1) := by decide +kernel
theorem dX7_dayOf_37 : decode cX7_dayOf 37 = .ok (.istore 5, 2) := by decide +kernel
theorem dX7_dayOf_39 : decode cX7_dayOf 39 = .ok (.iload 5, 2) := by decide +kernel
theorem dX7_dayOf_41 : decode cX7_dayOf 41 = .ok (.sipush 366, 3) := by decide +kernel
theorem dX7_dayOf_44 : decode cX7_dayOf 44 = .ok (.if_icmp .ge 29, 3) := by decide +kernel
theorem dX7_dayOf_47 : decode cX7_dayOf 47 = .ok (.aload_n 0, 1) := by decide +kernel
theorem dX7_dayOf_48 : decode cX7_dayOf 48 = .ok (.iload_n 1, 1) := by decide +kernel
theorem dX7_dayOf_49 : decode cX7_dayOf 49 = .ok (.iload 5, 2) := by decide +kernel
theorem dX7_dayOf_51 : decode cX7_dayOf 51 = .ok (.invokevirtual 100, 3) := by decide +kernel
theorem dX7_dayOf_54 : decode cX7_dayOf 54 = .ok (.iload_n 2, 1) := by decide +kernel
theorem dX7_dayOf_55 : decode cX7_dayOf 55 = .ok (.if_icmp .ne 8, 3) := by decide +kernel
theorem dX7_dayOf_58 : decode cX7_dayOf 58 = .ok (.iload 5, 2) := by decide +kernel
theorem dX7_dayOf_60 : decode cX7_dayOf 60 = .ok (.goto 5, 3) := by decide +kernel
theorem dX7_dayOf_63 : decode cX7_dayOf 63 = .ok (.iload 4, 2) := by decide +kernel
theorem dX7_dayOf_65 : decode cX7_dayOf 65 = .ok (.istore 4, 2) := by decide +kernel
theorem dX7_dayOf_67 : decode cX7_dayOf 67 = .ok (.iinc 5 1, 3) := by decide +kernel
theorem dX7_dayOf_70 : decode cX7_dayOf 70 = .ok (.goto (-31), 3) := by decide +kernel
theorem dX7_dayOf_73 : decode cX7_dayOf 73 = .ok (.iload 4, 2) := by decide +kernel
theorem dX7_dayOf_75 : decode cX7_dayOf 75 = .ok (.ireturn, 1) := by decide +kernel
theorem dX7_firstOf_0 : decode cX7_firstOf 0 = .ok (.iconst 0, 1) := by decide +kernel
theorem dX7_firstOf_1 : decode cX7_firstOf 1 = .ok (.istore_n 2, 1) := by decide +kernel
theorem dX7_firstOf_2 : decode cX7_firstOf 2 = .ok (.iconst 0, 1) := by decide +kernel
theorem dX7_firstOf_3 : decode cX7_firstOf 3 = .ok (.istore_n 3, 1) := by decide +kernel
theorem dX7_firstOf_4 : decode cX7_firstOf 4 = .ok (.iload_n 3, 1) := by decide +kernel
theorem dX7_firstOf_5 : decode cX7_firstOf 5 = .ok (.iload_n 1, 1) := by decide +kernel
theorem dX7_firstOf_6 : decode cX7_firstOf 6 = .ok (.if_icmp .ge 18, 3) := by decide +kernel
theorem dX7_firstOf_9 : decode cX7_firstOf 9 = .ok (.iload_n 2, 1) := by decide +kernel
theorem dX7_firstOf_10 : decode cX7_firstOf 10 = .ok (.aload_n 0, 1) := by decide +kernel
theorem dX7_firstOf_11 : decode cX7_firstOf 11 = .ok (.getfield 34, 3) := by decide +kernel
theorem dX7_firstOf_14 : decode cX7_firstOf 14 = .ok (.iload_n 3, 1) := by decide +kernel
theorem dX7_firstOf_15 : decode cX7_firstOf 15 = .ok (.iaload, 1) := by decide +kernel
theorem dX7_firstOf_16 : decode cX7_firstOf 16 = .ok (.iadd, 1) := by decide +kernel
theorem dX7_firstOf_17 : decode cX7_firstOf 17 = .ok (.istore_n 2, 1) := by decide +kernel
theorem dX7_firstOf_18 : decode cX7_firstOf 18 = .ok (.iinc 3 1, 3) := by decide +kernel
theorem dX7_firstOf_21 : decode cX7_firstOf 21 = .ok (.goto (-17), 3) := by decide +kernel
theorem dX7_firstOf_24 : decode cX7_firstOf 24 = .ok (.iload_n 2, 1) := by decide +kernel
theorem dX7_firstOf_25 : decode cX7_firstOf 25 = .ok (.ireturn, 1) := by decide +kernel
set_option maxRecDepth 20000 in
theorem dX7_monthOf_0 : decode cX7_monthOf 0 = .ok (.iconst 0, 1) := by decide +kernel
theorem dX7_monthOf_1 : decode cX7_monthOf 1 = .ok (.istore_n 2, 1) := by decide +kernel
theorem dX7_monthOf_2 : decode cX7_monthOf 2 = .ok (.aload_n 0, 1) := by decide +kernel
theorem dX7_monthOf_3 : decode cX7_monthOf 3 = .ok (.iload_n 2, 1) := by decide +kernel
theorem dX7_monthOf_4 : decode cX7_monthOf 4 = .ok (.iconst 1, 1) := by decide +kernel
theorem dX7_monthOf_5 : decode cX7_monthOf 5 = .ok (.iadd, 1) := by decide +kernel
theorem dX7_monthOf_6 : decode cX7_monthOf 6 = .ok (.invokevirtual 108, 3) := by decide +kernel
theorem dX7_monthOf_9 : decode cX7_monthOf 9 = .ok (.iload_n 1, 1) := by decide +kernel
theorem dX7_monthOf_10 : decode cX7_monthOf 10 = .ok (.if_icmp .gt 9, 3) := by decide +kernel
theorem dX7_monthOf_13 : decode cX7_monthOf 13 = .ok (.iinc 2 1, 3) := by decide +kernel
theorem dX7_monthOf_16 : decode cX7_monthOf 16 = .ok (.goto (-14), 3) := by decide +kernel
theorem dX7_monthOf_19 : decode cX7_monthOf 19 = .ok (.iload_n 2, 1) := by decide +kernel
theorem dX7_monthOf_20 : decode cX7_monthOf 20 = .ok (.ireturn, 1) := by decide +kernel
set_option maxRecDepth 20000 in
theorem dX7_sumOf_0 : decode cX7_sumOf 0 = .ok (.lconst 0, 1) := by decide +kernel
theorem dX7_sumOf_1 : decode cX7_sumOf 1 = .ok (.lstore_n 3, 1) := by decide +kernel
theorem dX7_sumOf_2 : decode cX7_sumOf 2 = .ok (.aload_n 0, 1) := by decide +kernel
theorem dX7_sumOf_3 : decode cX7_sumOf 3 = .ok (.iload_n 2, 1) := by decide +kernel
theorem dX7_sumOf_4 : decode cX7_sumOf 4 = .ok (.invokevirtual 108, 3) := by decide +kernel
theorem dX7_sumOf_7 : decode cX7_sumOf 7 = .ok (.istore 5, 2) := by decide +kernel
theorem dX7_sumOf_9 : decode cX7_sumOf 9 = .ok (.iload 5, 2) := by decide +kernel
theorem dX7_sumOf_11 : decode cX7_sumOf 11 = .ok (.aload_n 0, 1) := by decide +kernel
theorem dX7_sumOf_12 : decode cX7_sumOf 12 = .ok (.iload_n 2, 1) := by decide +kernel
theorem dX7_sumOf_13 : decode cX7_sumOf 13 = .ok (.invokevirtual 108, 3) := by decide +kernel
theorem dX7_sumOf_16 : decode cX7_sumOf 16 = .ok (.aload_n 0, 1) := by decide +kernel
theorem dX7_sumOf_17 : decode cX7_sumOf 17 = .ok (.getfield 34, 3) := by decide +kernel
theorem dX7_sumOf_20 : decode cX7_sumOf 20 = .ok (.iload_n 2, 1) := by decide +kernel
theorem dX7_sumOf_21 : decode cX7_sumOf 21 = .ok (.iaload, 1) := by decide +kernel
theorem dX7_sumOf_22 : decode cX7_sumOf 22 = .ok (.iadd, 1) := by decide +kernel
theorem dX7_sumOf_23 : decode cX7_sumOf 23 = .ok (.if_icmp .ge 20, 3) := by decide +kernel
theorem dX7_sumOf_26 : decode cX7_sumOf 26 = .ok (.lload_n 3, 1) := by decide +kernel
theorem dX7_sumOf_27 : decode cX7_sumOf 27 = .ok (.aload_n 0, 1) := by decide +kernel
theorem dX7_sumOf_28 : decode cX7_sumOf 28 = .ok (.iload_n 1, 1) := by decide +kernel
theorem dX7_sumOf_29 : decode cX7_sumOf 29 = .ok (.iload 5, 2) := by decide +kernel
theorem dX7_sumOf_31 : decode cX7_sumOf 31 = .ok (.invokevirtual 100, 3) := by decide +kernel
theorem dX7_sumOf_34 : decode cX7_sumOf 34 = .ok (.i2l, 1) := by decide +kernel
theorem dX7_sumOf_35 : decode cX7_sumOf 35 = .ok (.ladd, 1) := by decide +kernel
theorem dX7_sumOf_36 : decode cX7_sumOf 36 = .ok (.lstore_n 3, 1) := by decide +kernel
theorem dX7_sumOf_37 : decode cX7_sumOf 37 = .ok (.iinc 5 1, 3) := by decide +kernel
theorem dX7_sumOf_40 : decode cX7_sumOf 40 = .ok (.goto (-31), 3) := by decide +kernel
theorem dX7_sumOf_43 : decode cX7_sumOf 43 = .ok (.lload_n 3, 1) := by decide +kernel
theorem dX7_sumOf_44 : decode cX7_sumOf 44 = .ok (.lreturn, 1) := by decide +kernel
theorem dX7_lessens_0 : decode cX7_lessens 0 = .ok (.lload_n 1, 1) := by decide +kernel
theorem dX7_lessens_1 : decode cX7_lessens 1 = .ok (.lconst 0, 1) := by decide +kernel
theorem dX7_lessens_2 : decode cX7_lessens 2 = .ok (.lcmp, 1) := by decide +kernel
theorem dX7_lessens_3 : decode cX7_lessens 3 = .ok (.ifCond .ge 8, 3) := by decide +kernel
theorem dX7_lessens_6 : decode cX7_lessens 6 = .ok (.lload_n 1, 1) := by decide +kernel
theorem dX7_lessens_7 : decode cX7_lessens 7 = .ok (.lneg, 1) := by decide +kernel
theorem dX7_lessens_8 : decode cX7_lessens 8 = .ok (.goto 4, 3) := by decide +kernel
theorem dX7_lessens_11 : decode cX7_lessens 11 = .ok (.lload_n 1, 1) := by decide +kernel
theorem dX7_lessens_12 : decode cX7_lessens 12 = .ok (.lstore 5, 2) := by decide +kernel
theorem dX7_lessens_14 : decode cX7_lessens 14 = .ok (.lload_n 3, 1) := by decide +kernel
theorem dX7_lessens_15 : decode cX7_lessens 15 = .ok (.lconst 0, 1) := by decide +kernel
theorem dX7_lessens_16 : decode cX7_lessens 16 = .ok (.lcmp, 1) := by decide +kernel
theorem dX7_lessens_17 : decode cX7_lessens 17 = .ok (.ifCond .ge 8, 3) := by decide +kernel
theorem dX7_lessens_20 : decode cX7_lessens 20 = .ok (.lload_n 3, 1) := by decide +kernel
theorem dX7_lessens_21 : decode cX7_lessens 21 = .ok (.lneg, 1) := by decide +kernel
theorem dX7_lessens_22 : decode cX7_lessens 22 = .ok (.goto 4, 3) := by decide +kernel
theorem dX7_lessens_25 : decode cX7_lessens 25 = .ok (.lload_n 3, 1) := by decide +kernel
theorem dX7_lessens_26 : decode cX7_lessens 26 = .ok (.lstore 7, 2) := by decide +kernel
theorem dX7_lessens_28 : decode cX7_lessens 28 = .ok (.lload 7, 2) := by decide +kernel
theorem dX7_lessens_30 : decode cX7_lessens 30 = .ok (.lconst 0, 1) := by decide +kernel
theorem dX7_lessens_31 : decode cX7_lessens 31 = .ok (.lcmp, 1) := by decide +kernel
theorem dX7_lessens_32 : decode cX7_lessens 32 = .ok (.ifCond .eq 21, 3) := by decide +kernel
theorem dX7_lessens_35 : decode cX7_lessens 35 = .ok (.lload 5, 2) := by decide +kernel
theorem dX7_lessens_37 : decode cX7_lessens 37 = .ok (.lload 7, 2) := by decide +kernel
theorem dX7_lessens_39 : decode cX7_lessens 39 = .ok (.lrem, 1) := by decide +kernel
theorem dX7_lessens_40 : decode cX7_lessens 40 = .ok (.lstore 9, 2) := by decide +kernel
theorem dX7_lessens_42 : decode cX7_lessens 42 = .ok (.lload 7, 2) := by decide +kernel
theorem dX7_lessens_44 : decode cX7_lessens 44 = .ok (.lstore 5, 2) := by decide +kernel
theorem dX7_lessens_46 : decode cX7_lessens 46 = .ok (.lload 9, 2) := by decide +kernel
theorem dX7_lessens_48 : decode cX7_lessens 48 = .ok (.lstore 7, 2) := by decide +kernel
theorem dX7_lessens_50 : decode cX7_lessens 50 = .ok (.goto (-22), 3) := by decide +kernel
theorem dX7_lessens_53 : decode cX7_lessens 53 = .ok (.aload_n 0, 1) := by decide +kernel
theorem dX7_lessens_54 : decode cX7_lessens 54 = .ok (.lload_n 3, 1) := by decide +kernel
theorem dX7_lessens_55 : decode cX7_lessens 55 = .ok (.lconst 0, 1) := by decide +kernel
theorem dX7_lessens_56 : decode cX7_lessens 56 = .ok (.lcmp, 1) := by decide +kernel
theorem dX7_lessens_57 : decode cX7_lessens 57 = .ok (.ifCond .ge 11, 3) := by decide +kernel
theorem dX7_lessens_60 : decode cX7_lessens 60 = .ok (.lload_n 1, 1) := by decide +kernel
theorem dX7_lessens_61 : decode cX7_lessens 61 = .ok (.lneg, 1) := by decide +kernel
theorem dX7_lessens_62 : decode cX7_lessens 62 = .ok (.lload 5, 2) := by decide +kernel
theorem dX7_lessens_64 : decode cX7_lessens 64 = .ok (.ldiv, 1) := by decide +kernel
theorem dX7_lessens_65 : decode cX7_lessens 65 = .ok (.goto 7, 3) := by decide +kernel
theorem dX7_lessens_68 : decode cX7_lessens 68 = .ok (.lload_n 1, 1) := by decide +kernel
theorem dX7_lessens_69 : decode cX7_lessens 69 = .ok (.lload 5, 2) := by decide +kernel
theorem dX7_lessens_71 : decode cX7_lessens 71 = .ok (.ldiv, 1) := by decide +kernel
theorem dX7_lessens_72 : decode cX7_lessens 72 = .ok (.putfield 111, 3) := by decide +kernel
theorem dX7_lessens_75 : decode cX7_lessens 75 = .ok (.aload_n 0, 1) := by decide +kernel
theorem dX7_lessens_76 : decode cX7_lessens 76 = .ok (.lload_n 3, 1) := by decide +kernel
theorem dX7_lessens_77 : decode cX7_lessens 77 = .ok (.lconst 0, 1) := by decide +kernel
theorem dX7_lessens_78 : decode cX7_lessens 78 = .ok (.lcmp, 1) := by decide +kernel
theorem dX7_lessens_79 : decode cX7_lessens 79 = .ok (.ifCond .ge 11, 3) := by decide +kernel
theorem dX7_lessens_82 : decode cX7_lessens 82 = .ok (.lload_n 3, 1) := by decide +kernel
theorem dX7_lessens_83 : decode cX7_lessens 83 = .ok (.lneg, 1) := by decide +kernel
theorem dX7_lessens_84 : decode cX7_lessens 84 = .ok (.lload 5, 2) := by decide +kernel
theorem dX7_lessens_86 : decode cX7_lessens 86 = .ok (.ldiv, 1) := by decide +kernel
theorem dX7_lessens_87 : decode cX7_lessens 87 = .ok (.goto 7, 3) := by decide +kernel
theorem dX7_lessens_90 : decode cX7_lessens 90 = .ok (.lload_n 3, 1) := by decide +kernel
theorem dX7_lessens_91 : decode cX7_lessens 91 = .ok (.lload 5, 2) := by decide +kernel
theorem dX7_lessens_93 : decode cX7_lessens 93 = .ok (.ldiv, 1) := by decide +kernel
theorem dX7_lessens_94 : decode cX7_lessens 94 = .ok (.putfield 115, 3) := by decide +kernel
theorem dX7_lessens_97 : decode cX7_lessens 97 = .ok (.return_, 1) := by decide +kernel
theorem dX7_told_0 : decode cX7_told 0 = .ok (.iload_n 1, 1) := by decide +kernel
theorem dX7_told_1 : decode cX7_told 1 = .ok (.ifCond .ne 10, 3) := by decide +kernel
theorem dX7_told_4 : decode cX7_told 4 = .ok (.aload_n 0, 1) := by decide +kernel
theorem dX7_told_5 : decode cX7_told 5 = .ok (.getfield 111, 3) := by decide +kernel
theorem dX7_told_8 : decode cX7_told 8 = .ok (.goto 7, 3) := by decide +kernel
theorem dX7_told_11 : decode cX7_told 11 = .ok (.aload_n 0, 1) := by decide +kernel
theorem dX7_told_12 : decode cX7_told 12 = .ok (.getfield 115, 3) := by decide +kernel
theorem dX7_told_15 : decode cX7_told 15 = .ok (.lreturn, 1) := by decide +kernel
theorem dX7_isPart_0 : decode cX7_isPart 0 = .ok (.iload_n 0, 1) := by decide +kernel
theorem dX7_isPart_1 : decode cX7_isPart 1 = .ok (.ifCond .eq 8, 3) := by decide +kernel
theorem dX7_isPart_4 : decode cX7_isPart 4 = .ok (.iload_n 0, 1) := by decide +kernel
theorem dX7_isPart_5 : decode cX7_isPart 5 = .ok (.iconst 1, 1) := by decide +kernel
theorem dX7_isPart_6 : decode cX7_isPart 6 = .ok (.if_icmp .ne 7, 3) := by decide +kernel
theorem dX7_isPart_9 : decode cX7_isPart 9 = .ok (.iconst 1, 1) := by decide +kernel
theorem dX7_isPart_10 : decode cX7_isPart 10 = .ok (.goto 4, 3) := by decide +kernel
theorem dX7_isPart_13 : decode cX7_isPart 13 = .ok (.iconst 0, 1) := by decide +kernel
theorem dX7_isPart_14 : decode cX7_isPart 14 = .ok (.ireturn, 1) := by decide +kernel
theorem dX7_isMonth_0 : decode cX7_isMonth 0 = .ok (.iload_n 0, 1) := by decide +kernel
theorem dX7_isMonth_1 : decode cX7_isMonth 1 = .ok (.ifCond .lt 13, 3) := by decide +kernel
theorem dX7_isMonth_4 : decode cX7_isMonth 4 = .ok (.iload_n 0, 1) := by decide +kernel
theorem dX7_isMonth_5 : decode cX7_isMonth 5 = .ok (.bipush 12, 2) := by decide +kernel
theorem dX7_isMonth_7 : decode cX7_isMonth 7 = .ok (.if_icmp .ge 7, 3) := by decide +kernel
theorem dX7_isMonth_10 : decode cX7_isMonth 10 = .ok (.iconst 1, 1) := by decide +kernel
theorem dX7_isMonth_11 : decode cX7_isMonth 11 = .ok (.goto 4, 3) := by decide +kernel
theorem dX7_isMonth_14 : decode cX7_isMonth 14 = .ok (.iconst 0, 1) := by decide +kernel
theorem dX7_isMonth_15 : decode cX7_isMonth 15 = .ok (.ireturn, 1) := by decide +kernel
set_option maxRecDepth 20000 in
theorem dX7_mean_0 : decode cX7_mean 0 = .ok (.iload_n 1, 1) := by decide +kernel
theorem dX7_mean_1 : decode cX7_mean 1 = .ok (.invokestatic 77, 3) := by decide +kernel
theorem dX7_mean_4 : decode cX7_mean 4 = .ok (.ifCond .eq 10, 3) := by decide +kernel
theorem dX7_mean_7 : decode cX7_mean 7 = .ok (.iload_n 2, 1) := by decide +kernel
theorem dX7_mean_8 : decode cX7_mean 8 = .ok (.invokestatic 118, 3) := by decide +kernel
theorem dX7_mean_11 : decode cX7_mean 11 = .ok (.ifCond .ne 9, 3) := by decide +kernel
theorem dX7_mean_14 : decode cX7_mean 14 = .ok (.aload_n 0, 1) := by decide +kernel
theorem dX7_mean_15 : decode cX7_mean 15 = .ok (.iconst (-1), 1) := by decide +kernel
theorem dX7_mean_16 : decode cX7_mean 16 = .ok (.invokevirtual 121, 3) := by decide +kernel
theorem dX7_mean_19 : decode cX7_mean 19 = .ok (.lreturn, 1) := by decide +kernel
theorem dX7_mean_20 : decode cX7_mean 20 = .ok (.iload_n 3, 1) := by decide +kernel
theorem dX7_mean_21 : decode cX7_mean 21 = .ok (.invokestatic 125, 3) := by decide +kernel
theorem dX7_mean_24 : decode cX7_mean 24 = .ok (.ifCond .ne 10, 3) := by decide +kernel
theorem dX7_mean_27 : decode cX7_mean 27 = .ok (.aload_n 0, 1) := by decide +kernel
theorem dX7_mean_28 : decode cX7_mean 28 = .ok (.bipush (-2), 2) := by decide +kernel
theorem dX7_mean_30 : decode cX7_mean 30 = .ok (.invokevirtual 121, 3) := by decide +kernel
theorem dX7_mean_33 : decode cX7_mean 33 = .ok (.lreturn, 1) := by decide +kernel
theorem dX7_mean_34 : decode cX7_mean 34 = .ok (.aload_n 0, 1) := by decide +kernel
theorem dX7_mean_35 : decode cX7_mean 35 = .ok (.aload_n 0, 1) := by decide +kernel
theorem dX7_mean_36 : decode cX7_mean 36 = .ok (.iload_n 1, 1) := by decide +kernel
theorem dX7_mean_37 : decode cX7_mean 37 = .ok (.iload_n 2, 1) := by decide +kernel
theorem dX7_mean_38 : decode cX7_mean 38 = .ok (.invokevirtual 128, 3) := by decide +kernel
theorem dX7_mean_41 : decode cX7_mean 41 = .ok (.aload_n 0, 1) := by decide +kernel
theorem dX7_mean_42 : decode cX7_mean 42 = .ok (.getfield 34, 3) := by decide +kernel
theorem dX7_mean_45 : decode cX7_mean 45 = .ok (.iload_n 2, 1) := by decide +kernel
theorem dX7_mean_46 : decode cX7_mean 46 = .ok (.iaload, 1) := by decide +kernel
theorem dX7_mean_47 : decode cX7_mean 47 = .ok (.i2l, 1) := by decide +kernel
theorem dX7_mean_48 : decode cX7_mean 48 = .ok (.invokevirtual 132, 3) := by decide +kernel
theorem dX7_mean_51 : decode cX7_mean 51 = .ok (.aload_n 0, 1) := by decide +kernel
theorem dX7_mean_52 : decode cX7_mean 52 = .ok (.iload_n 3, 1) := by decide +kernel
theorem dX7_mean_53 : decode cX7_mean 53 = .ok (.invokevirtual 136, 3) := by decide +kernel
theorem dX7_mean_56 : decode cX7_mean 56 = .ok (.lreturn, 1) := by decide +kernel
set_option maxRecDepth 20000 in
theorem dX7_lean_0 : decode cX7_lean 0 = .ok (.iload_n 1, 1) := by decide +kernel
theorem dX7_lean_1 : decode cX7_lean 1 = .ok (.invokestatic 77, 3) := by decide +kernel
theorem dX7_lean_4 : decode cX7_lean 4 = .ok (.ifCond .ne 9, 3) := by decide +kernel
theorem dX7_lean_7 : decode cX7_lean 7 = .ok (.aload_n 0, 1) := by decide +kernel
theorem dX7_lean_8 : decode cX7_lean 8 = .ok (.iconst (-1), 1) := by decide +kernel
theorem dX7_lean_9 : decode cX7_lean 9 = .ok (.invokevirtual 121, 3) := by decide +kernel
theorem dX7_lean_12 : decode cX7_lean 12 = .ok (.lreturn, 1) := by decide +kernel
theorem dX7_lean_13 : decode cX7_lean 13 = .ok (.lconst 0, 1) := by decide +kernel
theorem dX7_lean_14 : decode cX7_lean 14 = .ok (.lstore_n 2, 1) := by decide +kernel
theorem dX7_lean_15 : decode cX7_lean 15 = .ok (.iconst 0, 1) := by decide +kernel
theorem dX7_lean_16 : decode cX7_lean 16 = .ok (.istore 4, 2) := by decide +kernel
theorem dX7_lean_18 : decode cX7_lean 18 = .ok (.iload 4, 2) := by decide +kernel
theorem dX7_lean_20 : decode cX7_lean 20 = .ok (.sipush 366, 3) := by decide +kernel
theorem dX7_lean_23 : decode cX7_lean 23 = .ok (.if_icmp .ge 40, 3) := by decide +kernel
theorem dX7_lean_26 : decode cX7_lean 26 = .ok (.lload_n 2, 1) := by decide +kernel
theorem dX7_lean_27 : decode cX7_lean 27 = .ok (.ldc2_w 139, 3) := by decide +kernel
theorem dX7_lean_30 : decode cX7_lean 30 = .ok (.iload 4, 2) := by decide +kernel
theorem dX7_lean_32 : decode cX7_lean 32 = .ok (.i2l, 1) := by decide +kernel
theorem dX7_lean_33 : decode cX7_lean 33 = .ok (.lmul, 1) := by decide +kernel
theorem dX7_lean_34 : decode cX7_lean 34 = .ok (.ldc2_w 141, 3) := by decide +kernel
theorem dX7_lean_37 : decode cX7_lean 37 = .ok (.lsub, 1) := by decide +kernel
theorem dX7_lean_38 : decode cX7_lean 38 = .ok (.ldc2_w 139, 3) := by decide +kernel
theorem dX7_lean_41 : decode cX7_lean 41 = .ok (.aload_n 0, 1) := by decide +kernel
theorem dX7_lean_42 : decode cX7_lean 42 = .ok (.iload_n 1, 1) := by decide +kernel
theorem dX7_lean_43 : decode cX7_lean 43 = .ok (.iload 4, 2) := by decide +kernel
theorem dX7_lean_45 : decode cX7_lean 45 = .ok (.invokevirtual 100, 3) := by decide +kernel
theorem dX7_lean_48 : decode cX7_lean 48 = .ok (.i2l, 1) := by decide +kernel
theorem dX7_lean_49 : decode cX7_lean 49 = .ok (.lmul, 1) := by decide +kernel
theorem dX7_lean_50 : decode cX7_lean 50 = .ok (.ldc2_w 143, 3) := by decide +kernel
theorem dX7_lean_53 : decode cX7_lean 53 = .ok (.lsub, 1) := by decide +kernel
theorem dX7_lean_54 : decode cX7_lean 54 = .ok (.lmul, 1) := by decide +kernel
theorem dX7_lean_55 : decode cX7_lean 55 = .ok (.ladd, 1) := by decide +kernel
theorem dX7_lean_56 : decode cX7_lean 56 = .ok (.lstore_n 2, 1) := by decide +kernel
theorem dX7_lean_57 : decode cX7_lean 57 = .ok (.iinc 4 1, 3) := by decide +kernel
theorem dX7_lean_60 : decode cX7_lean 60 = .ok (.goto (-42), 3) := by decide +kernel
theorem dX7_lean_63 : decode cX7_lean 63 = .ok (.lload_n 2, 1) := by decide +kernel
theorem dX7_lean_64 : decode cX7_lean 64 = .ok (.lreturn, 1) := by decide +kernel
set_option maxRecDepth 20000 in
theorem dX7_offOf_0 : decode cX7_offOf 0 = .ok (.ldc2_w 139, 3) := by decide +kernel
theorem dX7_offOf_3 : decode cX7_offOf 3 = .ok (.aload_n 0, 1) := by decide +kernel
theorem dX7_offOf_4 : decode cX7_offOf 4 = .ok (.iload_n 1, 1) := by decide +kernel
theorem dX7_offOf_5 : decode cX7_offOf 5 = .ok (.iload_n 2, 1) := by decide +kernel
theorem dX7_offOf_6 : decode cX7_offOf 6 = .ok (.invokevirtual 128, 3) := by decide +kernel
theorem dX7_offOf_9 : decode cX7_offOf 9 = .ok (.lmul, 1) := by decide +kernel
theorem dX7_offOf_10 : decode cX7_offOf 10 = .ok (.ldc2_w 143, 3) := by decide +kernel
theorem dX7_offOf_13 : decode cX7_offOf 13 = .ok (.aload_n 0, 1) := by decide +kernel
theorem dX7_offOf_14 : decode cX7_offOf 14 = .ok (.getfield 34, 3) := by decide +kernel
theorem dX7_offOf_17 : decode cX7_offOf 17 = .ok (.iload_n 2, 1) := by decide +kernel
theorem dX7_offOf_18 : decode cX7_offOf 18 = .ok (.iaload, 1) := by decide +kernel
theorem dX7_offOf_19 : decode cX7_offOf 19 = .ok (.i2l, 1) := by decide +kernel
theorem dX7_offOf_20 : decode cX7_offOf 20 = .ok (.lmul, 1) := by decide +kernel
theorem dX7_offOf_21 : decode cX7_offOf 21 = .ok (.lsub, 1) := by decide +kernel
theorem dX7_offOf_22 : decode cX7_offOf 22 = .ok (.lstore_n 3, 1) := by decide +kernel
theorem dX7_offOf_23 : decode cX7_offOf 23 = .ok (.lload_n 3, 1) := by decide +kernel
theorem dX7_offOf_24 : decode cX7_offOf 24 = .ok (.lconst 0, 1) := by decide +kernel
theorem dX7_offOf_25 : decode cX7_offOf 25 = .ok (.lcmp, 1) := by decide +kernel
theorem dX7_offOf_26 : decode cX7_offOf 26 = .ok (.ifCond .ge 8, 3) := by decide +kernel
theorem dX7_offOf_29 : decode cX7_offOf 29 = .ok (.lload_n 3, 1) := by decide +kernel
theorem dX7_offOf_30 : decode cX7_offOf 30 = .ok (.lneg, 1) := by decide +kernel
theorem dX7_offOf_31 : decode cX7_offOf 31 = .ok (.goto 4, 3) := by decide +kernel
theorem dX7_offOf_34 : decode cX7_offOf 34 = .ok (.lload_n 3, 1) := by decide +kernel
theorem dX7_offOf_35 : decode cX7_offOf 35 = .ok (.lreturn, 1) := by decide +kernel
set_option maxRecDepth 20000 in
theorem dX7_worst_0 : decode cX7_worst 0 = .ok (.iload_n 1, 1) := by decide +kernel
theorem dX7_worst_1 : decode cX7_worst 1 = .ok (.invokestatic 77, 3) := by decide +kernel
theorem dX7_worst_4 : decode cX7_worst 4 = .ok (.ifCond .ne 9, 3) := by decide +kernel
theorem dX7_worst_7 : decode cX7_worst 7 = .ok (.aload_n 0, 1) := by decide +kernel
theorem dX7_worst_8 : decode cX7_worst 8 = .ok (.iconst (-1), 1) := by decide +kernel
theorem dX7_worst_9 : decode cX7_worst 9 = .ok (.invokevirtual 81, 3) := by decide +kernel
theorem dX7_worst_12 : decode cX7_worst 12 = .ok (.ireturn, 1) := by decide +kernel
theorem dX7_worst_13 : decode cX7_worst 13 = .ok (.iconst 0, 1) := by decide +kernel
theorem dX7_worst_14 : decode cX7_worst 14 = .ok (.istore_n 2, 1) := by decide +kernel
theorem dX7_worst_15 : decode cX7_worst 15 = .ok (.iconst 1, 1) := by decide +kernel
theorem dX7_worst_16 : decode cX7_worst 16 = .ok (.istore_n 3, 1) := by decide +kernel
theorem dX7_worst_17 : decode cX7_worst 17 = .ok (.iload_n 3, 1) := by decide +kernel
theorem dX7_worst_18 : decode cX7_worst 18 = .ok (.bipush 12, 2) := by decide +kernel
theorem dX7_worst_20 : decode cX7_worst 20 = .ok (.if_icmp .ge 47, 3) := by decide +kernel
theorem dX7_worst_23 : decode cX7_worst 23 = .ok (.aload_n 0, 1) := by decide +kernel
theorem dX7_worst_24 : decode cX7_worst 24 = .ok (.iload_n 1, 1) := by decide +kernel
theorem dX7_worst_25 : decode cX7_worst 25 = .ok (.iload_n 3, 1) := by decide +kernel
theorem dX7_worst_26 : decode cX7_worst 26 = .ok (.invokevirtual 145, 3) := by decide +kernel
theorem dX7_worst_29 : decode cX7_worst 29 = .ok (.aload_n 0, 1) := by decide +kernel
theorem dX7_worst_30 : decode cX7_worst 30 = .ok (.getfield 34, 3) := by decide +kernel
theorem dX7_worst_33 : decode cX7_worst 33 = .ok (.iload_n 2, 1) := by decide +kernel
theorem dX7_worst_34 : decode cX7_worst 34 = .ok (.iaload, 1) := by decide +kernel
theorem dX7_worst_35 : decode cX7_worst 35 = .ok (.i2l, 1) := by decide +kernel
theorem dX7_worst_36 : decode cX7_worst 36 = .ok (.lmul, 1) := by decide +kernel
theorem dX7_worst_37 : decode cX7_worst 37 = .ok (.aload_n 0, 1) := by decide +kernel
theorem dX7_worst_38 : decode cX7_worst 38 = .ok (.iload_n 1, 1) := by decide +kernel
theorem dX7_worst_39 : decode cX7_worst 39 = .ok (.iload_n 2, 1) := by decide +kernel
theorem dX7_worst_40 : decode cX7_worst 40 = .ok (.invokevirtual 145, 3) := by decide +kernel
theorem dX7_worst_43 : decode cX7_worst 43 = .ok (.aload_n 0, 1) := by decide +kernel
theorem dX7_worst_44 : decode cX7_worst 44 = .ok (.getfield 34, 3) := by decide +kernel
theorem dX7_worst_47 : decode cX7_worst 47 = .ok (.iload_n 3, 1) := by decide +kernel
theorem dX7_worst_48 : decode cX7_worst 48 = .ok (.iaload, 1) := by decide +kernel
theorem dX7_worst_49 : decode cX7_worst 49 = .ok (.i2l, 1) := by decide +kernel
theorem dX7_worst_50 : decode cX7_worst 50 = .ok (.lmul, 1) := by decide +kernel
theorem dX7_worst_51 : decode cX7_worst 51 = .ok (.lcmp, 1) := by decide +kernel
theorem dX7_worst_52 : decode cX7_worst 52 = .ok (.ifCond .le 7, 3) := by decide +kernel
theorem dX7_worst_55 : decode cX7_worst 55 = .ok (.iload_n 3, 1) := by decide +kernel
theorem dX7_worst_56 : decode cX7_worst 56 = .ok (.goto 4, 3) := by decide +kernel
theorem dX7_worst_59 : decode cX7_worst 59 = .ok (.iload_n 2, 1) := by decide +kernel
theorem dX7_worst_60 : decode cX7_worst 60 = .ok (.istore_n 2, 1) := by decide +kernel
theorem dX7_worst_61 : decode cX7_worst 61 = .ok (.iinc 3 1, 3) := by decide +kernel
theorem dX7_worst_64 : decode cX7_worst 64 = .ok (.goto (-47), 3) := by decide +kernel
theorem dX7_worst_67 : decode cX7_worst 67 = .ok (.iload_n 2, 1) := by decide +kernel
theorem dX7_worst_68 : decode cX7_worst 68 = .ok (.ireturn, 1) := by decide +kernel
set_option maxRecDepth 20000 in
theorem dX7_turned_0 : decode cX7_turned 0 = .ok (.iload_n 1, 1) := by decide +kernel
theorem dX7_turned_1 : decode cX7_turned 1 = .ok (.invokestatic 77, 3) := by decide +kernel
theorem dX7_turned_4 : decode cX7_turned 4 = .ok (.ifCond .ne 9, 3) := by decide +kernel
theorem dX7_turned_7 : decode cX7_turned 7 = .ok (.aload_n 0, 1) := by decide +kernel
theorem dX7_turned_8 : decode cX7_turned 8 = .ok (.iconst (-1), 1) := by decide +kernel
theorem dX7_turned_9 : decode cX7_turned 9 = .ok (.invokevirtual 81, 3) := by decide +kernel
theorem dX7_turned_12 : decode cX7_turned 12 = .ok (.ireturn, 1) := by decide +kernel
theorem dX7_turned_13 : decode cX7_turned 13 = .ok (.iconst 0, 1) := by decide +kernel
theorem dX7_turned_14 : decode cX7_turned 14 = .ok (.istore_n 2, 1) := by decide +kernel
theorem dX7_turned_15 : decode cX7_turned 15 = .ok (.iconst 0, 1) := by decide +kernel
theorem dX7_turned_16 : decode cX7_turned 16 = .ok (.istore_n 3, 1) := by decide +kernel
theorem dX7_turned_17 : decode cX7_turned 17 = .ok (.iload_n 3, 1) := by decide +kernel
theorem dX7_turned_18 : decode cX7_turned 18 = .ok (.sipush 366, 3) := by decide +kernel
theorem dX7_turned_21 : decode cX7_turned 21 = .ok (.if_icmp .ge 48, 3) := by decide +kernel
theorem dX7_turned_24 : decode cX7_turned 24 = .ok (.iconst 0, 1) := by decide +kernel
theorem dX7_turned_25 : decode cX7_turned 25 = .ok (.istore 4, 2) := by decide +kernel
theorem dX7_turned_27 : decode cX7_turned 27 = .ok (.iload 4, 2) := by decide +kernel
theorem dX7_turned_29 : decode cX7_turned 29 = .ok (.iload_n 3, 1) := by decide +kernel
theorem dX7_turned_30 : decode cX7_turned 30 = .ok (.if_icmp .ge 33, 3) := by decide +kernel
theorem dX7_turned_33 : decode cX7_turned 33 = .ok (.iload_n 2, 1) := by decide +kernel
theorem dX7_turned_34 : decode cX7_turned 34 = .ok (.aload_n 0, 1) := by decide +kernel
theorem dX7_turned_35 : decode cX7_turned 35 = .ok (.iload_n 1, 1) := by decide +kernel
theorem dX7_turned_36 : decode cX7_turned 36 = .ok (.iload_n 3, 1) := by decide +kernel
theorem dX7_turned_37 : decode cX7_turned 37 = .ok (.invokevirtual 100, 3) := by decide +kernel
theorem dX7_turned_40 : decode cX7_turned 40 = .ok (.aload_n 0, 1) := by decide +kernel
theorem dX7_turned_41 : decode cX7_turned 41 = .ok (.iload_n 1, 1) := by decide +kernel
theorem dX7_turned_42 : decode cX7_turned 42 = .ok (.iload 4, 2) := by decide +kernel
theorem dX7_turned_44 : decode cX7_turned 44 = .ok (.invokevirtual 100, 3) := by decide +kernel
theorem dX7_turned_47 : decode cX7_turned 47 = .ok (.if_icmp .ge 7, 3) := by decide +kernel
theorem dX7_turned_50 : decode cX7_turned 50 = .ok (.iconst 1, 1) := by decide +kernel
theorem dX7_turned_51 : decode cX7_turned 51 = .ok (.goto 4, 3) := by decide +kernel
theorem dX7_turned_54 : decode cX7_turned 54 = .ok (.iconst 0, 1) := by decide +kernel
theorem dX7_turned_55 : decode cX7_turned 55 = .ok (.iadd, 1) := by decide +kernel
theorem dX7_turned_56 : decode cX7_turned 56 = .ok (.istore_n 2, 1) := by decide +kernel
theorem dX7_turned_57 : decode cX7_turned 57 = .ok (.iinc 4 1, 3) := by decide +kernel
theorem dX7_turned_60 : decode cX7_turned 60 = .ok (.goto (-33), 3) := by decide +kernel
theorem dX7_turned_63 : decode cX7_turned 63 = .ok (.iinc 3 1, 3) := by decide +kernel
theorem dX7_turned_66 : decode cX7_turned 66 = .ok (.goto (-49), 3) := by decide +kernel
theorem dX7_turned_69 : decode cX7_turned 69 = .ok (.iload_n 2, 1) := by decide +kernel
theorem dX7_turned_70 : decode cX7_turned 70 = .ok (.ireturn, 1) := by decide +kernel
set_option maxRecDepth 20000 in
theorem dX7_feed_0 : decode cX7_feed 0 = .ok (.iload_n 1, 1) := by decide +kernel
theorem dX7_feed_1 : decode cX7_feed 1 = .ok (.iconst 1, 1) := by decide +kernel
theorem dX7_feed_2 : decode cX7_feed 2 = .ok (.bipush 8, 2) := by decide +kernel
theorem dX7_feed_4 : decode cX7_feed 4 = .ok (.invokestatic 104, 3) := by decide +kernel
theorem dX7_feed_7 : decode cX7_feed 7 = .ok (.istore 4, 2) := by decide +kernel
theorem dX7_feed_9 : decode cX7_feed 9 = .ok (.iload 4, 2) := by decide +kernel
theorem dX7_feed_11 : decode cX7_feed 11 = .ok (.ifCond .ne 18, 3) := by decide +kernel
theorem dX7_feed_14 : decode cX7_feed 14 = .ok (.aload_n 0, 1) := by decide +kernel
theorem dX7_feed_15 : decode cX7_feed 15 = .ok (.getfield 148, 3) := by decide +kernel
theorem dX7_feed_18 : decode cX7_feed 18 = .ok (.iload_n 1, 1) := by decide +kernel
theorem dX7_feed_19 : decode cX7_feed 19 = .ok (.iadd, 1) := by decide +kernel
theorem dX7_feed_20 : decode cX7_feed 20 = .ok (.bipush 14, 2) := by decide +kernel
theorem dX7_feed_22 : decode cX7_feed 22 = .ok (.if_icmp .le 7, 3) := by decide +kernel
theorem dX7_feed_25 : decode cX7_feed 25 = .ok (.bipush (-6), 2) := by decide +kernel
theorem dX7_feed_27 : decode cX7_feed 27 = .ok (.istore 4, 2) := by decide +kernel
theorem dX7_feed_29 : decode cX7_feed 29 = .ok (.iload 4, 2) := by decide +kernel
theorem dX7_feed_31 : decode cX7_feed 31 = .ok (.ifCond .eq 10, 3) := by decide +kernel
theorem dX7_feed_34 : decode cX7_feed 34 = .ok (.aload_n 0, 1) := by decide +kernel
theorem dX7_feed_35 : decode cX7_feed 35 = .ok (.iload 4, 2) := by decide +kernel
theorem dX7_feed_37 : decode cX7_feed 37 = .ok (.invokevirtual 81, 3) := by decide +kernel
theorem dX7_feed_40 : decode cX7_feed 40 = .ok (.ireturn, 1) := by decide +kernel
theorem dX7_feed_41 : decode cX7_feed 41 = .ok (.iconst 0, 1) := by decide +kernel
theorem dX7_feed_42 : decode cX7_feed 42 = .ok (.istore 5, 2) := by decide +kernel
theorem dX7_feed_44 : decode cX7_feed 44 = .ok (.iload 5, 2) := by decide +kernel
theorem dX7_feed_46 : decode cX7_feed 46 = .ok (.iload_n 1, 1) := by decide +kernel
theorem dX7_feed_47 : decode cX7_feed 47 = .ok (.if_icmp .ge 40, 3) := by decide +kernel
theorem dX7_feed_50 : decode cX7_feed 50 = .ok (.aload_n 0, 1) := by decide +kernel
theorem dX7_feed_51 : decode cX7_feed 51 = .ok (.getfield 41, 3) := by decide +kernel
theorem dX7_feed_54 : decode cX7_feed 54 = .ok (.aload_n 0, 1) := by decide +kernel
theorem dX7_feed_55 : decode cX7_feed 55 = .ok (.getfield 148, 3) := by decide +kernel
theorem dX7_feed_58 : decode cX7_feed 58 = .ok (.lload_n 2, 1) := by decide +kernel
theorem dX7_feed_59 : decode cX7_feed 59 = .ok (.bipush 8, 2) := by decide +kernel
theorem dX7_feed_61 : decode cX7_feed 61 = .ok (.iload 5, 2) := by decide +kernel
theorem dX7_feed_63 : decode cX7_feed 63 = .ok (.imul, 1) := by decide +kernel
theorem dX7_feed_64 : decode cX7_feed 64 = .ok (.lshr, 1) := by decide +kernel
theorem dX7_feed_65 : decode cX7_feed 65 = .ok (.ldc2_w 151, 3) := by decide +kernel
theorem dX7_feed_68 : decode cX7_feed 68 = .ok (.land, 1) := by decide +kernel
theorem dX7_feed_69 : decode cX7_feed 69 = .ok (.l2i, 1) := by decide +kernel
theorem dX7_feed_70 : decode cX7_feed 70 = .ok (.iastore, 1) := by decide +kernel
theorem dX7_feed_71 : decode cX7_feed 71 = .ok (.aload_n 0, 1) := by decide +kernel
theorem dX7_feed_72 : decode cX7_feed 72 = .ok (.dup, 1) := by decide +kernel
theorem dX7_feed_73 : decode cX7_feed 73 = .ok (.getfield 148, 3) := by decide +kernel
theorem dX7_feed_76 : decode cX7_feed 76 = .ok (.iconst 1, 1) := by decide +kernel
theorem dX7_feed_77 : decode cX7_feed 77 = .ok (.iadd, 1) := by decide +kernel
theorem dX7_feed_78 : decode cX7_feed 78 = .ok (.putfield 148, 3) := by decide +kernel
theorem dX7_feed_81 : decode cX7_feed 81 = .ok (.iinc 5 1, 3) := by decide +kernel
theorem dX7_feed_84 : decode cX7_feed 84 = .ok (.goto (-40), 3) := by decide +kernel
theorem dX7_feed_87 : decode cX7_feed 87 = .ok (.aload_n 0, 1) := by decide +kernel
theorem dX7_feed_88 : decode cX7_feed 88 = .ok (.getfield 148, 3) := by decide +kernel
theorem dX7_feed_91 : decode cX7_feed 91 = .ok (.ireturn, 1) := by decide +kernel
theorem dX7_sign_0 : decode cX7_sign 0 = .ok (.aload_n 0, 1) := by decide +kernel
theorem dX7_sign_1 : decode cX7_sign 1 = .ok (.getfield 153, 3) := by decide +kernel
theorem dX7_sign_4 : decode cX7_sign 4 = .ok (.aload_n 0, 1) := by decide +kernel
theorem dX7_sign_5 : decode cX7_sign 5 = .ok (.getfield 148, 3) := by decide +kernel
theorem dX7_sign_8 : decode cX7_sign 8 = .ok (.if_icmp .ge 15, 3) := by decide +kernel
theorem dX7_sign_11 : decode cX7_sign 11 = .ok (.aload_n 0, 1) := by decide +kernel
theorem dX7_sign_12 : decode cX7_sign 12 = .ok (.getfield 41, 3) := by decide +kernel
theorem dX7_sign_15 : decode cX7_sign 15 = .ok (.aload_n 0, 1) := by decide +kernel
theorem dX7_sign_16 : decode cX7_sign 16 = .ok (.getfield 153, 3) := by decide +kernel
theorem dX7_sign_19 : decode cX7_sign 19 = .ok (.iaload, 1) := by decide +kernel
theorem dX7_sign_20 : decode cX7_sign 20 = .ok (.goto 4, 3) := by decide +kernel
theorem dX7_sign_23 : decode cX7_sign 23 = .ok (.iconst (-1), 1) := by decide +kernel
theorem dX7_sign_24 : decode cX7_sign 24 = .ok (.ireturn, 1) := by decide +kernel
set_option maxRecDepth 20000 in
theorem dX7_number__0 : decode cX7_number_ 0 = .ok (.aload_n 0, 1) := by decide +kernel
theorem dX7_number__1 : decode cX7_number_ 1 = .ok (.invokevirtual 156, 3) := by decide +kernel
theorem dX7_number__4 : decode cX7_number_ 4 = .ok (.bipush 48, 2) := by decide +kernel
theorem dX7_number__6 : decode cX7_number_ 6 = .ok (.bipush 57, 2) := by decide +kernel
theorem dX7_number__8 : decode cX7_number_ 8 = .ok (.invokestatic 96, 3) := by decide +kernel
theorem dX7_number__11 : decode cX7_number_ 11 = .ok (.ifCond .ne 5, 3) := by decide +kernel
theorem dX7_number__14 : decode cX7_number_ 14 = .ok (.iconst (-1), 1) := by decide +kernel
theorem dX7_number__15 : decode cX7_number_ 15 = .ok (.ireturn, 1) := by decide +kernel
theorem dX7_number__16 : decode cX7_number_ 16 = .ok (.iconst 0, 1) := by decide +kernel
theorem dX7_number__17 : decode cX7_number_ 17 = .ok (.istore_n 2, 1) := by decide +kernel
theorem dX7_number__18 : decode cX7_number_ 18 = .ok (.iconst 0, 1) := by decide +kernel
theorem dX7_number__19 : decode cX7_number_ 19 = .ok (.istore_n 3, 1) := by decide +kernel
theorem dX7_number__20 : decode cX7_number_ 20 = .ok (.iload_n 3, 1) := by decide +kernel
theorem dX7_number__21 : decode cX7_number_ 21 = .ok (.iload_n 1, 1) := by decide +kernel
theorem dX7_number__22 : decode cX7_number_ 22 = .ok (.if_icmp .ge 46, 3) := by decide +kernel
theorem dX7_number__25 : decode cX7_number_ 25 = .ok (.aload_n 0, 1) := by decide +kernel
theorem dX7_number__26 : decode cX7_number_ 26 = .ok (.invokevirtual 156, 3) := by decide +kernel
theorem dX7_number__29 : decode cX7_number_ 29 = .ok (.bipush 48, 2) := by decide +kernel
theorem dX7_number__31 : decode cX7_number_ 31 = .ok (.bipush 57, 2) := by decide +kernel
theorem dX7_number__33 : decode cX7_number_ 33 = .ok (.invokestatic 96, 3) := by decide +kernel
theorem dX7_number__36 : decode cX7_number_ 36 = .ok (.ifCond .eq 32, 3) := by decide +kernel
theorem dX7_number__39 : decode cX7_number_ 39 = .ok (.bipush 10, 2) := by decide +kernel
theorem dX7_number__41 : decode cX7_number_ 41 = .ok (.iload_n 2, 1) := by decide +kernel
theorem dX7_number__42 : decode cX7_number_ 42 = .ok (.imul, 1) := by decide +kernel
theorem dX7_number__43 : decode cX7_number_ 43 = .ok (.aload_n 0, 1) := by decide +kernel
theorem dX7_number__44 : decode cX7_number_ 44 = .ok (.invokevirtual 156, 3) := by decide +kernel
theorem dX7_number__47 : decode cX7_number_ 47 = .ok (.iadd, 1) := by decide +kernel
theorem dX7_number__48 : decode cX7_number_ 48 = .ok (.bipush 48, 2) := by decide +kernel
theorem dX7_number__50 : decode cX7_number_ 50 = .ok (.isub, 1) := by decide +kernel
theorem dX7_number__51 : decode cX7_number_ 51 = .ok (.istore_n 2, 1) := by decide +kernel
theorem dX7_number__52 : decode cX7_number_ 52 = .ok (.aload_n 0, 1) := by decide +kernel
theorem dX7_number__53 : decode cX7_number_ 53 = .ok (.dup, 1) := by decide +kernel
theorem dX7_number__54 : decode cX7_number_ 54 = .ok (.getfield 153, 3) := by decide +kernel
theorem dX7_number__57 : decode cX7_number_ 57 = .ok (.iconst 1, 1) := by decide +kernel
theorem dX7_number__58 : decode cX7_number_ 58 = .ok (.iadd, 1) := by decide +kernel
theorem dX7_number__59 : decode cX7_number_ 59 = .ok (.putfield 153, 3) := by decide +kernel
theorem dX7_number__62 : decode cX7_number_ 62 = .ok (.iinc 3 1, 3) := by decide +kernel
theorem dX7_number__65 : decode cX7_number_ 65 = .ok (.goto (-45), 3) := by decide +kernel
theorem dX7_number__68 : decode cX7_number_ 68 = .ok (.iload_n 2, 1) := by decide +kernel
theorem dX7_number__69 : decode cX7_number_ 69 = .ok (.ireturn, 1) := by decide +kernel
set_option maxRecDepth 20000 in
theorem dX7_reads_0 : decode cX7_reads 0 = .ok (.aload_n 0, 1) := by decide +kernel
theorem dX7_reads_1 : decode cX7_reads 1 = .ok (.iconst 0, 1) := by decide +kernel
theorem dX7_reads_2 : decode cX7_reads 2 = .ok (.putfield 153, 3) := by decide +kernel
theorem dX7_reads_5 : decode cX7_reads 5 = .ok (.aload_n 0, 1) := by decide +kernel
theorem dX7_reads_6 : decode cX7_reads 6 = .ok (.invokevirtual 156, 3) := by decide +kernel
theorem dX7_reads_9 : decode cX7_reads 9 = .ok (.istore_n 1, 1) := by decide +kernel
theorem dX7_reads_10 : decode cX7_reads 10 = .ok (.iload_n 1, 1) := by decide +kernel
theorem dX7_reads_11 : decode cX7_reads 11 = .ok (.bipush 115, 2) := by decide +kernel
theorem dX7_reads_13 : decode cX7_reads 13 = .ok (.if_icmp .ne 7, 3) := by decide +kernel
theorem dX7_reads_16 : decode cX7_reads 16 = .ok (.iconst 0, 1) := by decide +kernel
theorem dX7_reads_17 : decode cX7_reads 17 = .ok (.goto 54, 3) := by decide +kernel
theorem dX7_reads_20 : decode cX7_reads 20 = .ok (.iload_n 1, 1) := by decide +kernel
theorem dX7_reads_21 : decode cX7_reads 21 = .ok (.bipush 97, 2) := by decide +kernel
theorem dX7_reads_23 : decode cX7_reads 23 = .ok (.if_icmp .ne 7, 3) := by decide +kernel
theorem dX7_reads_26 : decode cX7_reads 26 = .ok (.iconst 1, 1) := by decide +kernel
theorem dX7_reads_27 : decode cX7_reads 27 = .ok (.goto 44, 3) := by decide +kernel
theorem dX7_reads_30 : decode cX7_reads 30 = .ok (.iload_n 1, 1) := by decide +kernel
theorem dX7_reads_31 : decode cX7_reads 31 = .ok (.bipush 110, 2) := by decide +kernel
theorem dX7_reads_33 : decode cX7_reads 33 = .ok (.if_icmp .ne 7, 3) := by decide +kernel
theorem dX7_reads_36 : decode cX7_reads 36 = .ok (.iconst 2, 1) := by decide +kernel
theorem dX7_reads_37 : decode cX7_reads 37 = .ok (.goto 34, 3) := by decide +kernel
theorem dX7_reads_40 : decode cX7_reads 40 = .ok (.iload_n 1, 1) := by decide +kernel
theorem dX7_reads_41 : decode cX7_reads 41 = .ok (.bipush 102, 2) := by decide +kernel
theorem dX7_reads_43 : decode cX7_reads 43 = .ok (.if_icmp .ne 7, 3) := by decide +kernel
theorem dX7_reads_46 : decode cX7_reads 46 = .ok (.iconst 3, 1) := by decide +kernel
theorem dX7_reads_47 : decode cX7_reads 47 = .ok (.goto 24, 3) := by decide +kernel
theorem dX7_reads_50 : decode cX7_reads 50 = .ok (.iload_n 1, 1) := by decide +kernel
theorem dX7_reads_51 : decode cX7_reads 51 = .ok (.bipush 99, 2) := by decide +kernel
theorem dX7_reads_53 : decode cX7_reads 53 = .ok (.if_icmp .ne 7, 3) := by decide +kernel
theorem dX7_reads_56 : decode cX7_reads 56 = .ok (.iconst 4, 1) := by decide +kernel
theorem dX7_reads_57 : decode cX7_reads 57 = .ok (.goto 14, 3) := by decide +kernel
theorem dX7_reads_60 : decode cX7_reads 60 = .ok (.iload_n 1, 1) := by decide +kernel
theorem dX7_reads_61 : decode cX7_reads 61 = .ok (.bipush 108, 2) := by decide +kernel
theorem dX7_reads_63 : decode cX7_reads 63 = .ok (.if_icmp .ne 7, 3) := by decide +kernel
theorem dX7_reads_66 : decode cX7_reads 66 = .ok (.iconst 5, 1) := by decide +kernel
theorem dX7_reads_67 : decode cX7_reads 67 = .ok (.goto 4, 3) := by decide +kernel
theorem dX7_reads_70 : decode cX7_reads 70 = .ok (.iconst (-1), 1) := by decide +kernel
theorem dX7_reads_71 : decode cX7_reads 71 = .ok (.istore_n 2, 1) := by decide +kernel
theorem dX7_reads_72 : decode cX7_reads 72 = .ok (.iload_n 2, 1) := by decide +kernel
theorem dX7_reads_73 : decode cX7_reads 73 = .ok (.ifCond .ge 5, 3) := by decide +kernel
theorem dX7_reads_76 : decode cX7_reads 76 = .ok (.iconst 0, 1) := by decide +kernel
theorem dX7_reads_77 : decode cX7_reads 77 = .ok (.ireturn, 1) := by decide +kernel
theorem dX7_reads_78 : decode cX7_reads 78 = .ok (.aload_n 0, 1) := by decide +kernel
theorem dX7_reads_79 : decode cX7_reads 79 = .ok (.dup, 1) := by decide +kernel
theorem dX7_reads_80 : decode cX7_reads 80 = .ok (.getfield 153, 3) := by decide +kernel
theorem dX7_reads_83 : decode cX7_reads 83 = .ok (.iconst 1, 1) := by decide +kernel
theorem dX7_reads_84 : decode cX7_reads 84 = .ok (.iadd, 1) := by decide +kernel
theorem dX7_reads_85 : decode cX7_reads 85 = .ok (.putfield 153, 3) := by decide +kernel
theorem dX7_reads_88 : decode cX7_reads 88 = .ok (.aload_n 0, 1) := by decide +kernel
theorem dX7_reads_89 : decode cX7_reads 89 = .ok (.getfield 153, 3) := by decide +kernel
theorem dX7_reads_92 : decode cX7_reads 92 = .ok (.istore_n 3, 1) := by decide +kernel
theorem dX7_reads_93 : decode cX7_reads 93 = .ok (.aload_n 0, 1) := by decide +kernel
theorem dX7_reads_94 : decode cX7_reads 94 = .ok (.iconst 3, 1) := by decide +kernel
theorem dX7_reads_95 : decode cX7_reads 95 = .ok (.invokevirtual 160, 3) := by decide +kernel
theorem dX7_reads_98 : decode cX7_reads 98 = .ok (.istore 4, 2) := by decide +kernel
theorem dX7_reads_100 : decode cX7_reads 100 = .ok (.iload 4, 2) := by decide +kernel
theorem dX7_reads_102 : decode cX7_reads 102 = .ok (.ifCond .ge 5, 3) := by decide +kernel
theorem dX7_reads_105 : decode cX7_reads 105 = .ok (.iconst 0, 1) := by decide +kernel
theorem dX7_reads_106 : decode cX7_reads 106 = .ok (.ireturn, 1) := by decide +kernel
theorem dX7_reads_107 : decode cX7_reads 107 = .ok (.iload 4, 2) := by decide +kernel
theorem dX7_reads_109 : decode cX7_reads 109 = .ok (.sipush 365, 3) := by decide +kernel
theorem dX7_reads_112 : decode cX7_reads 112 = .ok (.if_icmp .le 10, 3) := by decide +kernel
theorem dX7_reads_115 : decode cX7_reads 115 = .ok (.aload_n 0, 1) := by decide +kernel
theorem dX7_reads_116 : decode cX7_reads 116 = .ok (.iload_n 3, 1) := by decide +kernel
theorem dX7_reads_117 : decode cX7_reads 117 = .ok (.putfield 153, 3) := by decide +kernel
theorem dX7_reads_120 : decode cX7_reads 120 = .ok (.iconst 0, 1) := by decide +kernel
theorem dX7_reads_121 : decode cX7_reads 121 = .ok (.ireturn, 1) := by decide +kernel
theorem dX7_reads_122 : decode cX7_reads 122 = .ok (.aload_n 0, 1) := by decide +kernel
theorem dX7_reads_123 : decode cX7_reads 123 = .ok (.invokevirtual 156, 3) := by decide +kernel
theorem dX7_reads_126 : decode cX7_reads 126 = .ok (.bipush 44, 2) := by decide +kernel
theorem dX7_reads_128 : decode cX7_reads 128 = .ok (.if_icmp .eq 5, 3) := by decide +kernel
theorem dX7_reads_131 : decode cX7_reads 131 = .ok (.iconst 0, 1) := by decide +kernel
theorem dX7_reads_132 : decode cX7_reads 132 = .ok (.ireturn, 1) := by decide +kernel
theorem dX7_reads_133 : decode cX7_reads 133 = .ok (.aload_n 0, 1) := by decide +kernel
theorem dX7_reads_134 : decode cX7_reads 134 = .ok (.dup, 1) := by decide +kernel
theorem dX7_reads_135 : decode cX7_reads 135 = .ok (.getfield 153, 3) := by decide +kernel
theorem dX7_reads_138 : decode cX7_reads 138 = .ok (.iconst 1, 1) := by decide +kernel
theorem dX7_reads_139 : decode cX7_reads 139 = .ok (.iadd, 1) := by decide +kernel
theorem dX7_reads_140 : decode cX7_reads 140 = .ok (.putfield 153, 3) := by decide +kernel
theorem dX7_reads_143 : decode cX7_reads 143 = .ok (.aload_n 0, 1) := by decide +kernel
theorem dX7_reads_144 : decode cX7_reads 144 = .ok (.iconst 4, 1) := by decide +kernel
theorem dX7_reads_145 : decode cX7_reads 145 = .ok (.invokevirtual 160, 3) := by decide +kernel
theorem dX7_reads_148 : decode cX7_reads 148 = .ok (.istore 5, 2) := by decide +kernel
theorem dX7_reads_150 : decode cX7_reads 150 = .ok (.iload 5, 2) := by decide +kernel
theorem dX7_reads_152 : decode cX7_reads 152 = .ok (.ifCond .lt 14, 3) := by decide +kernel
theorem dX7_reads_155 : decode cX7_reads 155 = .ok (.aload_n 0, 1) := by decide +kernel
theorem dX7_reads_156 : decode cX7_reads 156 = .ok (.getfield 153, 3) := by decide +kernel
theorem dX7_reads_159 : decode cX7_reads 159 = .ok (.aload_n 0, 1) := by decide +kernel
theorem dX7_reads_160 : decode cX7_reads 160 = .ok (.getfield 148, 3) := by decide +kernel
theorem dX7_reads_163 : decode cX7_reads 163 = .ok (.if_icmp .ge 5, 3) := by decide +kernel
theorem dX7_reads_166 : decode cX7_reads 166 = .ok (.iconst 0, 1) := by decide +kernel
theorem dX7_reads_167 : decode cX7_reads 167 = .ok (.ireturn, 1) := by decide +kernel
theorem dX7_reads_168 : decode cX7_reads 168 = .ok (.aload_n 0, 1) := by decide +kernel
theorem dX7_reads_169 : decode cX7_reads 169 = .ok (.getfield 44, 3) := by decide +kernel
theorem dX7_reads_172 : decode cX7_reads 172 = .ok (.aload_n 0, 1) := by decide +kernel
theorem dX7_reads_173 : decode cX7_reads 173 = .ok (.getfield 163, 3) := by decide +kernel
theorem dX7_reads_176 : decode cX7_reads 176 = .ok (.iload_n 2, 1) := by decide +kernel
theorem dX7_reads_177 : decode cX7_reads 177 = .ok (.iastore, 1) := by decide +kernel
theorem dX7_reads_178 : decode cX7_reads 178 = .ok (.aload_n 0, 1) := by decide +kernel
theorem dX7_reads_179 : decode cX7_reads 179 = .ok (.getfield 47, 3) := by decide +kernel
theorem dX7_reads_182 : decode cX7_reads 182 = .ok (.aload_n 0, 1) := by decide +kernel
theorem dX7_reads_183 : decode cX7_reads 183 = .ok (.getfield 163, 3) := by decide +kernel
theorem dX7_reads_186 : decode cX7_reads 186 = .ok (.iload 4, 2) := by decide +kernel
theorem dX7_reads_188 : decode cX7_reads 188 = .ok (.iastore, 1) := by decide +kernel
theorem dX7_reads_189 : decode cX7_reads 189 = .ok (.aload_n 0, 1) := by decide +kernel
theorem dX7_reads_190 : decode cX7_reads 190 = .ok (.getfield 50, 3) := by decide +kernel
theorem dX7_reads_193 : decode cX7_reads 193 = .ok (.aload_n 0, 1) := by decide +kernel
theorem dX7_reads_194 : decode cX7_reads 194 = .ok (.getfield 163, 3) := by decide +kernel
theorem dX7_reads_197 : decode cX7_reads 197 = .ok (.iload 5, 2) := by decide +kernel
theorem dX7_reads_199 : decode cX7_reads 199 = .ok (.iastore, 1) := by decide +kernel
theorem dX7_reads_200 : decode cX7_reads 200 = .ok (.iconst 1, 1) := by decide +kernel
theorem dX7_reads_201 : decode cX7_reads 201 = .ok (.ireturn, 1) := by decide +kernel
set_option maxRecDepth 20000 in
theorem dX7_man_0 : decode cX7_man 0 = .ok (.aload_n 0, 1) := by decide +kernel
theorem dX7_man_1 : decode cX7_man 1 = .ok (.getfield 163, 3) := by decide +kernel
theorem dX7_man_4 : decode cX7_man 4 = .ok (.bipush 60, 2) := by decide +kernel
theorem dX7_man_6 : decode cX7_man 6 = .ok (.if_icmp .ne 10, 3) := by decide +kernel
theorem dX7_man_9 : decode cX7_man 9 = .ok (.aload_n 0, 1) := by decide +kernel
theorem dX7_man_10 : decode cX7_man 10 = .ok (.bipush (-6), 2) := by decide +kernel
theorem dX7_man_12 : decode cX7_man 12 = .ok (.invokevirtual 81, 3) := by decide +kernel
theorem dX7_man_15 : decode cX7_man 15 = .ok (.ireturn, 1) := by decide +kernel
theorem dX7_man_16 : decode cX7_man 16 = .ok (.aload_n 0, 1) := by decide +kernel
theorem dX7_man_17 : decode cX7_man 17 = .ok (.invokevirtual 166, 3) := by decide +kernel
theorem dX7_man_20 : decode cX7_man 20 = .ok (.istore_n 1, 1) := by decide +kernel
theorem dX7_man_21 : decode cX7_man 21 = .ok (.aload_n 0, 1) := by decide +kernel
theorem dX7_man_22 : decode cX7_man 22 = .ok (.iconst 0, 1) := by decide +kernel
theorem dX7_man_23 : decode cX7_man 23 = .ok (.putfield 148, 3) := by decide +kernel
theorem dX7_man_26 : decode cX7_man 26 = .ok (.iload_n 1, 1) := by decide +kernel
theorem dX7_man_27 : decode cX7_man 27 = .ok (.ifCond .ne 11, 3) := by decide +kernel
theorem dX7_man_30 : decode cX7_man 30 = .ok (.bipush (-20), 2) := by decide +kernel
theorem dX7_man_32 : decode cX7_man 32 = .ok (.aload_n 0, 1) := by decide +kernel
theorem dX7_man_33 : decode cX7_man 33 = .ok (.getfield 153, 3) := by decide +kernel
theorem dX7_man_36 : decode cX7_man 36 = .ok (.isub, 1) := by decide +kernel
theorem dX7_man_37 : decode cX7_man 37 = .ok (.ireturn, 1) := by decide +kernel
theorem dX7_man_38 : decode cX7_man 38 = .ok (.aload_n 0, 1) := by decide +kernel
theorem dX7_man_39 : decode cX7_man 39 = .ok (.dup, 1) := by decide +kernel
theorem dX7_man_40 : decode cX7_man 40 = .ok (.getfield 163, 3) := by decide +kernel
theorem dX7_man_43 : decode cX7_man 43 = .ok (.iconst 1, 1) := by decide +kernel
theorem dX7_man_44 : decode cX7_man 44 = .ok (.iadd, 1) := by decide +kernel
theorem dX7_man_45 : decode cX7_man 45 = .ok (.putfield 163, 3) := by decide +kernel
theorem dX7_man_48 : decode cX7_man 48 = .ok (.aload_n 0, 1) := by decide +kernel
theorem dX7_man_49 : decode cX7_man 49 = .ok (.getfield 163, 3) := by decide +kernel
theorem dX7_man_52 : decode cX7_man 52 = .ok (.iconst 1, 1) := by decide +kernel
theorem dX7_man_53 : decode cX7_man 53 = .ok (.isub, 1) := by decide +kernel
theorem dX7_man_54 : decode cX7_man 54 = .ok (.ireturn, 1) := by decide +kernel
theorem dX7_isMan_0 : decode cX7_isMan 0 = .ok (.iload_n 1, 1) := by decide +kernel
theorem dX7_isMan_1 : decode cX7_isMan 1 = .ok (.ifCond .lt 15, 3) := by decide +kernel
theorem dX7_isMan_4 : decode cX7_isMan 4 = .ok (.iload_n 1, 1) := by decide +kernel
theorem dX7_isMan_5 : decode cX7_isMan 5 = .ok (.aload_n 0, 1) := by decide +kernel
theorem dX7_isMan_6 : decode cX7_isMan 6 = .ok (.getfield 163, 3) := by decide +kernel
theorem dX7_isMan_9 : decode cX7_isMan 9 = .ok (.if_icmp .ge 7, 3) := by decide +kernel
theorem dX7_isMan_12 : decode cX7_isMan 12 = .ok (.iconst 1, 1) := by decide +kernel
theorem dX7_isMan_13 : decode cX7_isMan 13 = .ok (.goto 4, 3) := by decide +kernel
theorem dX7_isMan_16 : decode cX7_isMan 16 = .ok (.iconst 0, 1) := by decide +kernel
theorem dX7_isMan_17 : decode cX7_isMan 17 = .ok (.ireturn, 1) := by decide +kernel
set_option maxRecDepth 20000 in
theorem dX7_manOf_0 : decode cX7_manOf 0 = .ok (.aload_n 0, 1) := by decide +kernel
theorem dX7_manOf_1 : decode cX7_manOf 1 = .ok (.iload_n 1, 1) := by decide +kernel
theorem dX7_manOf_2 : decode cX7_manOf 2 = .ok (.invokevirtual 170, 3) := by decide +kernel
theorem dX7_manOf_5 : decode cX7_manOf 5 = .ok (.ifCond .ne 9, 3) := by decide +kernel
theorem dX7_manOf_8 : decode cX7_manOf 8 = .ok (.aload_n 0, 1) := by decide +kernel
theorem dX7_manOf_9 : decode cX7_manOf 9 = .ok (.iconst (-1), 1) := by decide +kernel
theorem dX7_manOf_10 : decode cX7_manOf 10 = .ok (.invokevirtual 81, 3) := by decide +kernel
theorem dX7_manOf_13 : decode cX7_manOf 13 = .ok (.ireturn, 1) := by decide +kernel
theorem dX7_manOf_14 : decode cX7_manOf 14 = .ok (.iload_n 2, 1) := by decide +kernel
theorem dX7_manOf_15 : decode cX7_manOf 15 = .ok (.tableswitch 46 0 2 #[25, 32, 39], 25) := by decide +kernel
theorem dX7_manOf_40 : decode cX7_manOf 40 = .ok (.aload_n 0, 1) := by decide +kernel
theorem dX7_manOf_41 : decode cX7_manOf 41 = .ok (.getfield 44, 3) := by decide +kernel
theorem dX7_manOf_44 : decode cX7_manOf 44 = .ok (.iload_n 1, 1) := by decide +kernel
theorem dX7_manOf_45 : decode cX7_manOf 45 = .ok (.iaload, 1) := by decide +kernel
theorem dX7_manOf_46 : decode cX7_manOf 46 = .ok (.ireturn, 1) := by decide +kernel
theorem dX7_manOf_47 : decode cX7_manOf 47 = .ok (.aload_n 0, 1) := by decide +kernel
theorem dX7_manOf_48 : decode cX7_manOf 48 = .ok (.getfield 47, 3) := by decide +kernel
theorem dX7_manOf_51 : decode cX7_manOf 51 = .ok (.iload_n 1, 1) := by decide +kernel
theorem dX7_manOf_52 : decode cX7_manOf 52 = .ok (.iaload, 1) := by decide +kernel
theorem dX7_manOf_53 : decode cX7_manOf 53 = .ok (.ireturn, 1) := by decide +kernel
theorem dX7_manOf_54 : decode cX7_manOf 54 = .ok (.aload_n 0, 1) := by decide +kernel
theorem dX7_manOf_55 : decode cX7_manOf 55 = .ok (.getfield 50, 3) := by decide +kernel
theorem dX7_manOf_58 : decode cX7_manOf 58 = .ok (.iload_n 1, 1) := by decide +kernel
theorem dX7_manOf_59 : decode cX7_manOf 59 = .ok (.iaload, 1) := by decide +kernel
theorem dX7_manOf_60 : decode cX7_manOf 60 = .ok (.ireturn, 1) := by decide +kernel
theorem dX7_manOf_61 : decode cX7_manOf 61 = .ok (.aload_n 0, 1) := by decide +kernel
theorem dX7_manOf_62 : decode cX7_manOf 62 = .ok (.bipush (-2), 2) := by decide +kernel
theorem dX7_manOf_64 : decode cX7_manOf 64 = .ok (.invokevirtual 81, 3) := by decide +kernel
theorem dX7_manOf_67 : decode cX7_manOf 67 = .ok (.ireturn, 1) := by decide +kernel
set_option maxRecDepth 20000 in
theorem dX7_cut_0 : decode cX7_cut 0 = .ok (.iload_n 1, 1) := by decide +kernel
theorem dX7_cut_1 : decode cX7_cut 1 = .ok (.iconst 0, 1) := by decide +kernel
theorem dX7_cut_2 : decode cX7_cut 2 = .ok (.sipush 366, 3) := by decide +kernel
theorem dX7_cut_5 : decode cX7_cut 5 = .ok (.invokestatic 104, 3) := by decide +kernel
theorem dX7_cut_8 : decode cX7_cut 8 = .ok (.istore_n 2, 1) := by decide +kernel
theorem dX7_cut_9 : decode cX7_cut 9 = .ok (.iload_n 2, 1) := by decide +kernel
theorem dX7_cut_10 : decode cX7_cut 10 = .ok (.ifCond .eq 9, 3) := by decide +kernel
theorem dX7_cut_13 : decode cX7_cut 13 = .ok (.aload_n 0, 1) := by decide +kernel
theorem dX7_cut_14 : decode cX7_cut 14 = .ok (.iload_n 2, 1) := by decide +kernel
theorem dX7_cut_15 : decode cX7_cut 15 = .ok (.invokevirtual 81, 3) := by decide +kernel
theorem dX7_cut_18 : decode cX7_cut 18 = .ok (.ireturn, 1) := by decide +kernel
theorem dX7_cut_19 : decode cX7_cut 19 = .ok (.aload_n 0, 1) := by decide +kernel
theorem dX7_cut_20 : decode cX7_cut 20 = .ok (.getfield 59, 3) := by decide +kernel
theorem dX7_cut_23 : decode cX7_cut 23 = .ok (.istore_n 3, 1) := by decide +kernel
theorem dX7_cut_24 : decode cX7_cut 24 = .ok (.aload_n 0, 1) := by decide +kernel
theorem dX7_cut_25 : decode cX7_cut 25 = .ok (.iload_n 1, 1) := by decide +kernel
theorem dX7_cut_26 : decode cX7_cut 26 = .ok (.putfield 59, 3) := by decide +kernel
theorem dX7_cut_29 : decode cX7_cut 29 = .ok (.iload_n 3, 1) := by decide +kernel
theorem dX7_cut_30 : decode cX7_cut 30 = .ok (.ireturn, 1) := by decide +kernel
set_option maxRecDepth 20000 in
theorem dX7_law_0 : decode cX7_law 0 = .ok (.iload_n 1, 1) := by decide +kernel
theorem dX7_law_1 : decode cX7_law 1 = .ok (.iconst 0, 1) := by decide +kernel
theorem dX7_law_2 : decode cX7_law 2 = .ok (.iconst 4, 1) := by decide +kernel
theorem dX7_law_3 : decode cX7_law 3 = .ok (.invokestatic 96, 3) := by decide +kernel
theorem dX7_law_6 : decode cX7_law 6 = .ok (.ifCond .ne 9, 3) := by decide +kernel
theorem dX7_law_9 : decode cX7_law 9 = .ok (.aload_n 0, 1) := by decide +kernel
theorem dX7_law_10 : decode cX7_law 10 = .ok (.iconst (-1), 1) := by decide +kernel
theorem dX7_law_11 : decode cX7_law 11 = .ok (.invokevirtual 81, 3) := by decide +kernel
theorem dX7_law_14 : decode cX7_law 14 = .ok (.ireturn, 1) := by decide +kernel
theorem dX7_law_15 : decode cX7_law 15 = .ok (.iload_n 2, 1) := by decide +kernel
theorem dX7_law_16 : decode cX7_law 16 = .ok (.iconst 0, 1) := by decide +kernel
theorem dX7_law_17 : decode cX7_law 17 = .ok (.aload_n 0, 1) := by decide +kernel
theorem dX7_law_18 : decode cX7_law 18 = .ok (.getfield 56, 3) := by decide +kernel
theorem dX7_law_21 : decode cX7_law 21 = .ok (.iload_n 1, 1) := by decide +kernel
theorem dX7_law_22 : decode cX7_law 22 = .ok (.iaload, 1) := by decide +kernel
theorem dX7_law_23 : decode cX7_law 23 = .ok (.invokestatic 104, 3) := by decide +kernel
theorem dX7_law_26 : decode cX7_law 26 = .ok (.istore_n 3, 1) := by decide +kernel
theorem dX7_law_27 : decode cX7_law 27 = .ok (.iload_n 3, 1) := by decide +kernel
theorem dX7_law_28 : decode cX7_law 28 = .ok (.ifCond .eq 9, 3) := by decide +kernel
theorem dX7_law_31 : decode cX7_law 31 = .ok (.aload_n 0, 1) := by decide +kernel
theorem dX7_law_32 : decode cX7_law 32 = .ok (.iload_n 3, 1) := by decide +kernel
theorem dX7_law_33 : decode cX7_law 33 = .ok (.invokevirtual 81, 3) := by decide +kernel
theorem dX7_law_36 : decode cX7_law 36 = .ok (.ireturn, 1) := by decide +kernel
theorem dX7_law_37 : decode cX7_law 37 = .ok (.aload_n 0, 1) := by decide +kernel
theorem dX7_law_38 : decode cX7_law 38 = .ok (.getfield 53, 3) := by decide +kernel
theorem dX7_law_41 : decode cX7_law 41 = .ok (.iload_n 1, 1) := by decide +kernel
theorem dX7_law_42 : decode cX7_law 42 = .ok (.iaload, 1) := by decide +kernel
theorem dX7_law_43 : decode cX7_law 43 = .ok (.istore 4, 2) := by decide +kernel
theorem dX7_law_45 : decode cX7_law 45 = .ok (.aload_n 0, 1) := by decide +kernel
theorem dX7_law_46 : decode cX7_law 46 = .ok (.getfield 53, 3) := by decide +kernel
theorem dX7_law_49 : decode cX7_law 49 = .ok (.iload_n 1, 1) := by decide +kernel
theorem dX7_law_50 : decode cX7_law 50 = .ok (.iload_n 2, 1) := by decide +kernel
theorem dX7_law_51 : decode cX7_law 51 = .ok (.iastore, 1) := by decide +kernel
theorem dX7_law_52 : decode cX7_law 52 = .ok (.iload 4, 2) := by decide +kernel
theorem dX7_law_54 : decode cX7_law 54 = .ok (.ireturn, 1) := by decide +kernel
set_option maxRecDepth 20000 in
theorem dX7_isCalled_0 : decode cX7_isCalled 0 = .ok (.aload_n 0, 1) := by decide +kernel
theorem dX7_isCalled_1 : decode cX7_isCalled 1 = .ok (.iload_n 1, 1) := by decide +kernel
theorem dX7_isCalled_2 : decode cX7_isCalled 2 = .ok (.aload_n 0, 1) := by decide +kernel
theorem dX7_isCalled_3 : decode cX7_isCalled 3 = .ok (.getfield 47, 3) := by decide +kernel
theorem dX7_isCalled_6 : decode cX7_isCalled 6 = .ok (.iload_n 2, 1) := by decide +kernel
theorem dX7_isCalled_7 : decode cX7_isCalled 7 = .ok (.iaload, 1) := by decide +kernel
theorem dX7_isCalled_8 : decode cX7_isCalled 8 = .ok (.invokevirtual 100, 3) := by decide +kernel
theorem dX7_isCalled_11 : decode cX7_isCalled 11 = .ok (.aload_n 0, 1) := by decide +kernel
theorem dX7_isCalled_12 : decode cX7_isCalled 12 = .ok (.getfield 59, 3) := by decide +kernel
theorem dX7_isCalled_15 : decode cX7_isCalled 15 = .ok (.if_icmp .gt 7, 3) := by decide +kernel
theorem dX7_isCalled_18 : decode cX7_isCalled 18 = .ok (.iconst 1, 1) := by decide +kernel
theorem dX7_isCalled_19 : decode cX7_isCalled 19 = .ok (.goto 4, 3) := by decide +kernel
theorem dX7_isCalled_22 : decode cX7_isCalled 22 = .ok (.iconst 0, 1) := by decide +kernel
theorem dX7_isCalled_23 : decode cX7_isCalled 23 = .ok (.ireturn, 1) := by decide +kernel
set_option maxRecDepth 20000 in
theorem dX7_servedAs_0 : decode cX7_servedAs 0 = .ok (.aload_n 0, 1) := by decide +kernel
theorem dX7_servedAs_1 : decode cX7_servedAs 1 = .ok (.iload_n 1, 1) := by decide +kernel
theorem dX7_servedAs_2 : decode cX7_servedAs 2 = .ok (.iload_n 2, 1) := by decide +kernel
theorem dX7_servedAs_3 : decode cX7_servedAs 3 = .ok (.invokevirtual 173, 3) := by decide +kernel
theorem dX7_servedAs_6 : decode cX7_servedAs 6 = .ok (.istore_n 3, 1) := by decide +kernel
theorem dX7_servedAs_7 : decode cX7_servedAs 7 = .ok (.aload_n 0, 1) := by decide +kernel
theorem dX7_servedAs_8 : decode cX7_servedAs 8 = .ok (.getfield 44, 3) := by decide +kernel
theorem dX7_servedAs_11 : decode cX7_servedAs 11 = .ok (.iload_n 2, 1) := by decide +kernel
theorem dX7_servedAs_12 : decode cX7_servedAs 12 = .ok (.iaload, 1) := by decide +kernel
theorem dX7_servedAs_13 : decode cX7_servedAs 13 = .ok (.tableswitch 69 0 4 #[35, 45, 47, 49, 59], 35) := by decide +kernel
theorem dX7_servedAs_48 : decode cX7_servedAs 48 = .ok (.iload_n 3, 1) := by decide +kernel
theorem dX7_servedAs_49 : decode cX7_servedAs 49 = .ok (.ifCond .eq 7, 3) := by decide +kernel
theorem dX7_servedAs_52 : decode cX7_servedAs 52 = .ok (.iconst 1, 1) := by decide +kernel
theorem dX7_servedAs_53 : decode cX7_servedAs 53 = .ok (.goto 4, 3) := by decide +kernel
theorem dX7_servedAs_56 : decode cX7_servedAs 56 = .ok (.iconst 0, 1) := by decide +kernel
theorem dX7_servedAs_57 : decode cX7_servedAs 57 = .ok (.ireturn, 1) := by decide +kernel
theorem dX7_servedAs_58 : decode cX7_servedAs 58 = .ok (.iconst 1, 1) := by decide +kernel
theorem dX7_servedAs_59 : decode cX7_servedAs 59 = .ok (.ireturn, 1) := by decide +kernel
theorem dX7_servedAs_60 : decode cX7_servedAs 60 = .ok (.iconst 0, 1) := by decide +kernel
theorem dX7_servedAs_61 : decode cX7_servedAs 61 = .ok (.ireturn, 1) := by decide +kernel
theorem dX7_servedAs_62 : decode cX7_servedAs 62 = .ok (.iload_n 3, 1) := by decide +kernel
theorem dX7_servedAs_63 : decode cX7_servedAs 63 = .ok (.ifCond .eq 7, 3) := by decide +kernel
theorem dX7_servedAs_66 : decode cX7_servedAs 66 = .ok (.iconst 3, 1) := by decide +kernel
theorem dX7_servedAs_67 : decode cX7_servedAs 67 = .ok (.goto 4, 3) := by decide +kernel
theorem dX7_servedAs_70 : decode cX7_servedAs 70 = .ok (.iconst 0, 1) := by decide +kernel
theorem dX7_servedAs_71 : decode cX7_servedAs 71 = .ok (.ireturn, 1) := by decide +kernel
theorem dX7_servedAs_72 : decode cX7_servedAs 72 = .ok (.iload_n 3, 1) := by decide +kernel
theorem dX7_servedAs_73 : decode cX7_servedAs 73 = .ok (.ifCond .eq 7, 3) := by decide +kernel
theorem dX7_servedAs_76 : decode cX7_servedAs 76 = .ok (.iconst 2, 1) := by decide +kernel
theorem dX7_servedAs_77 : decode cX7_servedAs 77 = .ok (.goto 4, 3) := by decide +kernel
theorem dX7_servedAs_80 : decode cX7_servedAs 80 = .ok (.iconst 1, 1) := by decide +kernel
theorem dX7_servedAs_81 : decode cX7_servedAs 81 = .ok (.ireturn, 1) := by decide +kernel
theorem dX7_servedAs_82 : decode cX7_servedAs 82 = .ok (.iload_n 3, 1) := by decide +kernel
theorem dX7_servedAs_83 : decode cX7_servedAs 83 = .ok (.ifCond .eq 23, 3) := by decide +kernel
theorem dX7_servedAs_86 : decode cX7_servedAs 86 = .ok (.aload_n 0, 1) := by decide +kernel
theorem dX7_servedAs_87 : decode cX7_servedAs 87 = .ok (.iload_n 1, 1) := by decide +kernel
theorem dX7_servedAs_88 : decode cX7_servedAs 88 = .ok (.aload_n 0, 1) := by decide +kernel
theorem dX7_servedAs_89 : decode cX7_servedAs 89 = .ok (.getfield 47, 3) := by decide +kernel
theorem dX7_servedAs_92 : decode cX7_servedAs 92 = .ok (.iload_n 2, 1) := by decide +kernel
theorem dX7_servedAs_93 : decode cX7_servedAs 93 = .ok (.iaload, 1) := by decide +kernel
theorem dX7_servedAs_94 : decode cX7_servedAs 94 = .ok (.invokevirtual 100, 3) := by decide +kernel
theorem dX7_servedAs_97 : decode cX7_servedAs 97 = .ok (.iconst 2, 1) := by decide +kernel
theorem dX7_servedAs_98 : decode cX7_servedAs 98 = .ok (.irem, 1) := by decide +kernel
theorem dX7_servedAs_99 : decode cX7_servedAs 99 = .ok (.ifCond .ne 7, 3) := by decide +kernel
theorem dX7_servedAs_102 : decode cX7_servedAs 102 = .ok (.iconst 1, 1) := by decide +kernel
