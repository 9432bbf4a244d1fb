theorem d_M_init_0 : decode b_M_init 0 = .ok (.aload_n 0, 1) := by decide +kernel
theorem d_M_init_1 : decode b_M_init 1 = .ok (.invokespecial 1, 3) := by decide +kernel
theorem d_M_init_4 : decode b_M_init 4 = .ok (.aload_n 0, 1) := by decide +kernel
theorem d_M_init_5 : decode b_M_init 5 = .ok (.sipush 150, 3) := by decide +kernel
theorem d_M_init_8 : decode b_M_init 8 = .ok (.newarray .int, 2) := by decide +kernel
theorem d_M_init_10 : decode b_M_init 10 = .ok (.putfield 7, 3) := by decide +kernel
theorem d_M_init_13 : decode b_M_init 13 = .ok (.aload_n 0, 1) := by decide +kernel
theorem d_M_init_14 : decode b_M_init 14 = .ok (.sipush 150, 3) := by decide +kernel
theorem d_M_init_17 : decode b_M_init 17 = .ok (.newarray .int, 2) := by decide +kernel
theorem d_M_init_19 : decode b_M_init 19 = .ok (.putfield 13, 3) := by decide +kernel
theorem d_M_init_22 : decode b_M_init 22 = .ok (.aload_n 0, 1) := by decide +kernel
theorem d_M_init_23 : decode b_M_init 23 = .ok (.sipush 150, 3) := by decide +kernel
theorem d_M_init_26 : decode b_M_init 26 = .ok (.newarray .boolean, 2) := by decide +kernel
theorem d_M_init_28 : decode b_M_init 28 = .ok (.putfield 16, 3) := by decide +kernel
theorem d_M_init_31 : decode b_M_init 31 = .ok (.aload_n 0, 1) := by decide +kernel
theorem d_M_init_32 : decode b_M_init 32 = .ok (.sipush 150, 3) := by decide +kernel
theorem d_M_init_35 : decode b_M_init 35 = .ok (.newarray .int, 2) := by decide +kernel
theorem d_M_init_37 : decode b_M_init 37 = .ok (.putfield 20, 3) := by decide +kernel
theorem d_M_init_40 : decode b_M_init 40 = .ok (.aload_n 0, 1) := by decide +kernel
theorem d_M_init_41 : decode b_M_init 41 = .ok (.bipush 6, 2) := by decide +kernel
theorem d_M_init_43 : decode b_M_init 43 = .ok (.newarray .boolean, 2) := by decide +kernel
theorem d_M_init_45 : decode b_M_init 45 = .ok (.putfield 23, 3) := by decide +kernel
theorem d_M_init_48 : decode b_M_init 48 = .ok (.aload_n 0, 1) := by decide +kernel
theorem d_M_init_49 : decode b_M_init 49 = .ok (.bipush 30, 2) := by decide +kernel
theorem d_M_init_51 : decode b_M_init 51 = .ok (.newarray .int, 2) := by decide +kernel
theorem d_M_init_53 : decode b_M_init 53 = .ok (.putfield 26, 3) := by decide +kernel
theorem d_M_init_56 : decode b_M_init 56 = .ok (.aload_n 0, 1) := by decide +kernel
theorem d_M_init_57 : decode b_M_init 57 = .ok (.bipush 30, 2) := by decide +kernel
theorem d_M_init_59 : decode b_M_init 59 = .ok (.newarray .int, 2) := by decide +kernel
theorem d_M_init_61 : decode b_M_init 61 = .ok (.putfield 29, 3) := by decide +kernel
theorem d_M_init_64 : decode b_M_init 64 = .ok (.aload_n 0, 1) := by decide +kernel
theorem d_M_init_65 : decode b_M_init 65 = .ok (.bipush 30, 2) := by decide +kernel
theorem d_M_init_67 : decode b_M_init 67 = .ok (.newarray .int, 2) := by decide +kernel
theorem d_M_init_69 : decode b_M_init 69 = .ok (.putfield 32, 3) := by decide +kernel
theorem d_M_init_72 : decode b_M_init 72 = .ok (.aload_n 0, 1) := by decide +kernel
theorem d_M_init_73 : decode b_M_init 73 = .ok (.bipush 30, 2) := by decide +kernel
theorem d_M_init_75 : decode b_M_init 75 = .ok (.newarray .int, 2) := by decide +kernel
theorem d_M_init_77 : decode b_M_init 77 = .ok (.putfield 35, 3) := by decide +kernel
theorem d_M_init_80 : decode b_M_init 80 = .ok (.aload_n 0, 1) := by decide +kernel
theorem d_M_init_81 : decode b_M_init 81 = .ok (.sipush 4500, 3) := by decide +kernel
theorem d_M_init_84 : decode b_M_init 84 = .ok (.newarray .int, 2) := by decide +kernel
theorem d_M_init_86 : decode b_M_init 86 = .ok (.putfield 38, 3) := by decide +kernel
theorem d_M_init_89 : decode b_M_init 89 = .ok (.aload_n 0, 1) := by decide +kernel
theorem d_M_init_90 : decode b_M_init 90 = .ok (.sipush 4600, 3) := by decide +kernel
theorem d_M_init_93 : decode b_M_init 93 = .ok (.newarray .int, 2) := by decide +kernel
theorem d_M_init_95 : decode b_M_init 95 = .ok (.putfield 41, 3) := by decide +kernel
theorem d_M_init_98 : decode b_M_init 98 = .ok (.aload_n 0, 1) := by decide +kernel
theorem d_M_init_99 : decode b_M_init 99 = .ok (.sipush 4600, 3) := by decide +kernel
theorem d_M_init_102 : decode b_M_init 102 = .ok (.newarray .int, 2) := by decide +kernel
theorem d_M_init_104 : decode b_M_init 104 = .ok (.putfield 44, 3) := by decide +kernel
theorem d_M_init_107 : decode b_M_init 107 = .ok (.aload_n 0, 1) := by decide +kernel
theorem d_M_init_108 : decode b_M_init 108 = .ok (.sipush 4600, 3) := by decide +kernel
theorem d_M_init_111 : decode b_M_init 111 = .ok (.newarray .int, 2) := by decide +kernel
theorem d_M_init_113 : decode b_M_init 113 = .ok (.putfield 47, 3) := by decide +kernel
theorem d_M_init_116 : decode b_M_init 116 = .ok (.aload_n 0, 1) := by decide +kernel
theorem d_M_init_117 : decode b_M_init 117 = .ok (.sipush 4600, 3) := by decide +kernel
theorem d_M_init_120 : decode b_M_init 120 = .ok (.newarray .int, 2) := by decide +kernel
theorem d_M_init_122 : decode b_M_init 122 = .ok (.putfield 50, 3) := by decide +kernel
theorem d_M_init_125 : decode b_M_init 125 = .ok (.aload_n 0, 1) := by decide +kernel
theorem d_M_init_126 : decode b_M_init 126 = .ok (.sipush 4600, 3) := by decide +kernel
theorem d_M_init_129 : decode b_M_init 129 = .ok (.newarray .int, 2) := by decide +kernel
theorem d_M_init_131 : decode b_M_init 131 = .ok (.putfield 53, 3) := by decide +kernel
theorem d_M_init_134 : decode b_M_init 134 = .ok (.aload_n 0, 1) := by decide +kernel
theorem d_M_init_135 : decode b_M_init 135 = .ok (.sipush 4500, 3) := by decide +kernel
theorem d_M_init_138 : decode b_M_init 138 = .ok (.newarray .int, 2) := by decide +kernel
theorem d_M_init_140 : decode b_M_init 140 = .ok (.putfield 56, 3) := by decide +kernel
theorem d_M_init_143 : decode b_M_init 143 = .ok (.aload_n 0, 1) := by decide +kernel
theorem d_M_init_144 : decode b_M_init 144 = .ok (.sipush 4500, 3) := by decide +kernel
theorem d_M_init_147 : decode b_M_init 147 = .ok (.newarray .int, 2) := by decide +kernel
theorem d_M_init_149 : decode b_M_init 149 = .ok (.putfield 59, 3) := by decide +kernel
theorem d_M_init_152 : decode b_M_init 152 = .ok (.aload_n 0, 1) := by decide +kernel
theorem d_M_init_153 : decode b_M_init 153 = .ok (.sipush 4500, 3) := by decide +kernel
theorem d_M_init_156 : decode b_M_init 156 = .ok (.newarray .boolean, 2) := by decide +kernel
theorem d_M_init_158 : decode b_M_init 158 = .ok (.putfield 62, 3) := by decide +kernel
theorem d_M_init_161 : decode b_M_init 161 = .ok (.aload_n 0, 1) := by decide +kernel
theorem d_M_init_162 : decode b_M_init 162 = .ok (.sipush 4600, 3) := by decide +kernel
theorem d_M_init_165 : decode b_M_init 165 = .ok (.newarray .int, 2) := by decide +kernel
theorem d_M_init_167 : decode b_M_init 167 = .ok (.putfield 65, 3) := by decide +kernel
theorem d_M_init_170 : decode b_M_init 170 = .ok (.aload_n 0, 1) := by decide +kernel
theorem d_M_init_171 : decode b_M_init 171 = .ok (.sipush 4600, 3) := by decide +kernel
theorem d_M_init_174 : decode b_M_init 174 = .ok (.newarray .int, 2) := by decide +kernel
theorem d_M_init_176 : decode b_M_init 176 = .ok (.putfield 68, 3) := by decide +kernel
theorem d_M_init_179 : decode b_M_init 179 = .ok (.aload_n 0, 1) := by decide +kernel
theorem d_M_init_180 : decode b_M_init 180 = .ok (.sipush 4600, 3) := by decide +kernel
theorem d_M_init_183 : decode b_M_init 183 = .ok (.newarray .int, 2) := by decide +kernel
theorem d_M_init_185 : decode b_M_init 185 = .ok (.putfield 71, 3) := by decide +kernel
theorem d_M_init_188 : decode b_M_init 188 = .ok (.aload_n 0, 1) := by decide +kernel
theorem d_M_init_189 : decode b_M_init 189 = .ok (.bipush 10, 2) := by decide +kernel
theorem d_M_init_191 : decode b_M_init 191 = .ok (.newarray .int, 2) := by decide +kernel
theorem d_M_init_193 : decode b_M_init 193 = .ok (.putfield 74, 3) := by decide +kernel
theorem d_M_init_196 : decode b_M_init 196 = .ok (.aload_n 0, 1) := by decide +kernel
theorem d_M_init_197 : decode b_M_init 197 = .ok (.bipush 10, 2) := by decide +kernel
theorem d_M_init_199 : decode b_M_init 199 = .ok (.newarray .int, 2) := by decide +kernel
theorem d_M_init_201 : decode b_M_init 201 = .ok (.putfield 77, 3) := by decide +kernel
theorem d_M_init_204 : decode b_M_init 204 = .ok (.aload_n 0, 1) := by decide +kernel
theorem d_M_init_205 : decode b_M_init 205 = .ok (.iload_n 1, 1) := by decide +kernel
theorem d_M_init_206 : decode b_M_init 206 = .ok (.iconst 1, 1) := by decide +kernel
theorem d_M_init_207 : decode b_M_init 207 = .ok (.if_icmp .ge 7, 3) := by decide +kernel
theorem d_M_init_210 : decode b_M_init 210 = .ok (.iconst 1, 1) := by decide +kernel
theorem d_M_init_211 : decode b_M_init 211 = .ok (.goto 15, 3) := by decide +kernel
theorem d_M_init_214 : decode b_M_init 214 = .ok (.iload_n 1, 1) := by decide +kernel
theorem d_M_init_215 : decode b_M_init 215 = .ok (.bipush 50, 2) := by decide +kernel
theorem d_M_init_217 : decode b_M_init 217 = .ok (.if_icmp .le 8, 3) := by decide +kernel
theorem d_M_init_220 : decode b_M_init 220 = .ok (.bipush 50, 2) := by decide +kernel
theorem d_M_init_222 : decode b_M_init 222 = .ok (.goto 4, 3) := by decide +kernel
theorem d_M_init_225 : decode b_M_init 225 = .ok (.iload_n 1, 1) := by decide +kernel
theorem d_M_init_226 : decode b_M_init 226 = .ok (.putfield 80, 3) := by decide +kernel
theorem d_M_init_229 : decode b_M_init 229 = .ok (.aload_n 0, 1) := by decide +kernel
theorem d_M_init_230 : decode b_M_init 230 = .ok (.iload_n 2, 1) := by decide +kernel
theorem d_M_init_231 : decode b_M_init 231 = .ok (.iconst 1, 1) := by decide +kernel
theorem d_M_init_232 : decode b_M_init 232 = .ok (.if_icmp .ge 7, 3) := by decide +kernel
theorem d_M_init_235 : decode b_M_init 235 = .ok (.iconst 1, 1) := by decide +kernel
theorem d_M_init_236 : decode b_M_init 236 = .ok (.goto 15, 3) := by decide +kernel
theorem d_M_init_239 : decode b_M_init 239 = .ok (.iload_n 2, 1) := by decide +kernel
theorem d_M_init_240 : decode b_M_init 240 = .ok (.bipush 100, 2) := by decide +kernel
theorem d_M_init_242 : decode b_M_init 242 = .ok (.if_icmp .le 8, 3) := by decide +kernel
theorem d_M_init_245 : decode b_M_init 245 = .ok (.bipush 100, 2) := by decide +kernel
theorem d_M_init_247 : decode b_M_init 247 = .ok (.goto 4, 3) := by decide +kernel
theorem d_M_init_250 : decode b_M_init 250 = .ok (.iload_n 2, 1) := by decide +kernel
theorem d_M_init_251 : decode b_M_init 251 = .ok (.putfield 84, 3) := by decide +kernel
theorem d_M_init_254 : decode b_M_init 254 = .ok (.aload_n 0, 1) := by decide +kernel
theorem d_M_init_255 : decode b_M_init 255 = .ok (.iload_n 3, 1) := by decide +kernel
theorem d_M_init_256 : decode b_M_init 256 = .ok (.ifCond .ge 7, 3) := by decide +kernel
theorem d_M_init_259 : decode b_M_init 259 = .ok (.iconst 0, 1) := by decide +kernel
theorem d_M_init_260 : decode b_M_init 260 = .ok (.goto 15, 3) := by decide +kernel
theorem d_M_init_263 : decode b_M_init 263 = .ok (.iload_n 3, 1) := by decide +kernel
theorem d_M_init_264 : decode b_M_init 264 = .ok (.ldc 87, 2) := by decide +kernel
theorem d_M_init_266 : decode b_M_init 266 = .ok (.if_icmp .le 8, 3) := by decide +kernel
theorem d_M_init_269 : decode b_M_init 269 = .ok (.ldc 87, 2) := by decide +kernel
theorem d_M_init_271 : decode b_M_init 271 = .ok (.goto 4, 3) := by decide +kernel
theorem d_M_init_274 : decode b_M_init 274 = .ok (.iload_n 3, 1) := by decide +kernel
theorem d_M_init_275 : decode b_M_init 275 = .ok (.putfield 88, 3) := by decide +kernel
theorem d_M_init_278 : decode b_M_init 278 = .ok (.iconst 0, 1) := by decide +kernel
theorem d_M_init_279 : decode b_M_init 279 = .ok (.istore 4, 2) := by decide +kernel
theorem d_M_init_281 : decode b_M_init 281 = .ok (.iload 4, 2) := by decide +kernel
theorem d_M_init_283 : decode b_M_init 283 = .ok (.bipush 10, 2) := by decide +kernel
theorem d_M_init_285 : decode b_M_init 285 = .ok (.if_icmp .ge 17, 3) := by decide +kernel
theorem d_M_init_288 : decode b_M_init 288 = .ok (.aload_n 0, 1) := by decide +kernel
theorem d_M_init_289 : decode b_M_init 289 = .ok (.getfield 74, 3) := by decide +kernel
theorem d_M_init_292 : decode b_M_init 292 = .ok (.iload 4, 2) := by decide +kernel
theorem d_M_init_294 : decode b_M_init 294 = .ok (.iconst (-1), 1) := by decide +kernel
theorem d_M_init_295 : decode b_M_init 295 = .ok (.iastore, 1) := by decide +kernel
theorem d_M_init_296 : decode b_M_init 296 = .ok (.iinc 4 1, 3) := by decide +kernel
theorem d_M_init_299 : decode b_M_init 299 = .ok (.goto (-18), 3) := by decide +kernel
theorem d_M_init_302 : decode b_M_init 302 = .ok (.return_, 1) := by decide +kernel
theorem d_M_thrown_0 : decode b_M_thrown 0 = .ok (.aload_n 0, 1) := by decide +kernel
theorem d_M_thrown_1 : decode b_M_thrown 1 = .ok (.getfield 91, 3) := by decide +kernel
theorem d_M_thrown_4 : decode b_M_thrown 4 = .ok (.ireturn, 1) := by decide +kernel
theorem d_M_record_0 : decode b_M_record 0 = .ok (.aload_n 0, 1) := by decide +kernel
theorem d_M_record_1 : decode b_M_record 1 = .ok (.iconst 0, 1) := by decide +kernel
theorem d_M_record_2 : decode b_M_record 2 = .ok (.putfield 91, 3) := by decide +kernel
theorem d_M_record_5 : decode b_M_record 5 = .ok (.iload_n 1, 1) := by decide +kernel
theorem d_M_record_6 : decode b_M_record 6 = .ok (.iconst 0, 1) := by decide +kernel
theorem d_M_record_7 : decode b_M_record 7 = .ok (.bipush 9, 2) := by decide +kernel
theorem d_M_record_9 : decode b_M_record 9 = .ok (.invokestatic 94, 3) := by decide +kernel
theorem d_M_record_12 : decode b_M_record 12 = .ok (.ifCond .eq 11, 3) := by decide +kernel
theorem d_M_record_15 : decode b_M_record 15 = .ok (.aload_n 0, 1) := by decide +kernel
theorem d_M_record_16 : decode b_M_record 16 = .ok (.iload_n 2, 1) := by decide +kernel
theorem d_M_record_17 : decode b_M_record 17 = .ok (.invokevirtual 104, 3) := by decide +kernel
theorem d_M_record_20 : decode b_M_record 20 = .ok (.ifCond .ne 6, 3) := by decide +kernel
theorem d_M_record_23 : decode b_M_record 23 = .ok (.bipush (-2), 2) := by decide +kernel
theorem d_M_record_25 : decode b_M_record 25 = .ok (.ireturn, 1) := by decide +kernel
theorem d_M_record_26 : decode b_M_record 26 = .ok (.aload_n 0, 1) := by decide +kernel
theorem d_M_record_27 : decode b_M_record 27 = .ok (.getfield 98, 3) := by decide +kernel
theorem d_M_record_30 : decode b_M_record 30 = .ok (.sipush 150, 3) := by decide +kernel
theorem d_M_record_33 : decode b_M_record 33 = .ok (.if_icmp .ne 6, 3) := by decide +kernel
theorem d_M_record_36 : decode b_M_record 36 = .ok (.bipush (-4), 2) := by decide +kernel
theorem d_M_record_38 : decode b_M_record 38 = .ok (.ireturn, 1) := by decide +kernel
theorem d_M_record_39 : decode b_M_record 39 = .ok (.aload_n 0, 1) := by decide +kernel
theorem d_M_record_40 : decode b_M_record 40 = .ok (.getfield 7, 3) := by decide +kernel
theorem d_M_record_43 : decode b_M_record 43 = .ok (.aload_n 0, 1) := by decide +kernel
theorem d_M_record_44 : decode b_M_record 44 = .ok (.getfield 98, 3) := by decide +kernel
theorem d_M_record_47 : decode b_M_record 47 = .ok (.iload_n 1, 1) := by decide +kernel
theorem d_M_record_48 : decode b_M_record 48 = .ok (.iastore, 1) := by decide +kernel
theorem d_M_record_49 : decode b_M_record 49 = .ok (.aload_n 0, 1) := by decide +kernel
theorem d_M_record_50 : decode b_M_record 50 = .ok (.aload_n 0, 1) := by decide +kernel
theorem d_M_record_51 : decode b_M_record 51 = .ok (.getfield 98, 3) := by decide +kernel
theorem d_M_record_54 : decode b_M_record 54 = .ok (.iload_n 2, 1) := by decide +kernel
theorem d_M_record_55 : decode b_M_record 55 = .ok (.iconst 0, 1) := by decide +kernel
theorem d_M_record_56 : decode b_M_record 56 = .ok (.invokevirtual 108, 3) := by decide +kernel
theorem d_M_record_59 : decode b_M_record 59 = .ok (.aload_n 0, 1) := by decide +kernel
theorem d_M_record_60 : decode b_M_record 60 = .ok (.dup, 1) := by decide +kernel
theorem d_M_record_61 : decode b_M_record 61 = .ok (.getfield 98, 3) := by decide +kernel
theorem d_M_record_64 : decode b_M_record 64 = .ok (.iconst 1, 1) := by decide +kernel
theorem d_M_record_65 : decode b_M_record 65 = .ok (.iadd, 1) := by decide +kernel
theorem d_M_record_66 : decode b_M_record 66 = .ok (.putfield 98, 3) := by decide +kernel
theorem d_M_record_69 : decode b_M_record 69 = .ok (.aload_n 0, 1) := by decide +kernel
theorem d_M_record_70 : decode b_M_record 70 = .ok (.getfield 98, 3) := by decide +kernel
theorem d_M_record_73 : decode b_M_record 73 = .ok (.iconst 1, 1) := by decide +kernel
theorem d_M_record_74 : decode b_M_record 74 = .ok (.isub, 1) := by decide +kernel
theorem d_M_record_75 : decode b_M_record 75 = .ok (.ireturn, 1) := by decide +kernel
theorem d_M_in_0 : decode b_M_in 0 = .ok (.iload_n 0, 1) := by decide +kernel
theorem d_M_in_1 : decode b_M_in 1 = .ok (.iload_n 1, 1) := by decide +kernel
theorem d_M_in_2 : decode b_M_in 2 = .ok (.if_icmp .lt 12, 3) := by decide +kernel
theorem d_M_in_5 : decode b_M_in 5 = .ok (.iload_n 0, 1) := by decide +kernel
theorem d_M_in_6 : decode b_M_in 6 = .ok (.iload_n 2, 1) := by decide +kernel
theorem d_M_in_7 : decode b_M_in 7 = .ok (.if_icmp .gt 7, 3) := by decide +kernel
theorem d_M_in_10 : decode b_M_in 10 = .ok (.iconst 1, 1) := by decide +kernel
theorem d_M_in_11 : decode b_M_in 11 = .ok (.goto 4, 3) := by decide +kernel
theorem d_M_in_14 : decode b_M_in 14 = .ok (.iconst 0, 1) := by decide +kernel
theorem d_M_in_15 : decode b_M_in 15 = .ok (.ireturn, 1) := by decide +kernel
theorem d_M_isDay_0 : decode b_M_isDay 0 = .ok (.iload_n 1, 1) := by decide +kernel
theorem d_M_isDay_1 : decode b_M_isDay 1 = .ok (.iconst 0, 1) := by decide +kernel
theorem d_M_isDay_2 : decode b_M_isDay 2 = .ok (.ldc 87, 2) := by decide +kernel
theorem d_M_isDay_4 : decode b_M_isDay 4 = .ok (.invokestatic 94, 3) := by decide +kernel
theorem d_M_isDay_7 : decode b_M_isDay 7 = .ok (.ifCond .eq 16, 3) := by decide +kernel
theorem d_M_isDay_10 : decode b_M_isDay 10 = .ok (.iload_n 1, 1) := by decide +kernel
theorem d_M_isDay_11 : decode b_M_isDay 11 = .ok (.aload_n 0, 1) := by decide +kernel
theorem d_M_isDay_12 : decode b_M_isDay 12 = .ok (.getfield 84, 3) := by decide +kernel
theorem d_M_isDay_15 : decode b_M_isDay 15 = .ok (.irem, 1) := by decide +kernel
theorem d_M_isDay_16 : decode b_M_isDay 16 = .ok (.ifCond .ne 7, 3) := by decide +kernel
theorem d_M_isDay_19 : decode b_M_isDay 19 = .ok (.iconst 1, 1) := by decide +kernel
theorem d_M_isDay_20 : decode b_M_isDay 20 = .ok (.goto 4, 3) := by decide +kernel
theorem d_M_isDay_23 : decode b_M_isDay 23 = .ok (.iconst 0, 1) := by decide +kernel
theorem d_M_isDay_24 : decode b_M_isDay 24 = .ok (.ireturn, 1) := by decide +kernel
theorem d_M_act_0 : decode b_M_act 0 = .ok (.aload_n 0, 1) := by decide +kernel
theorem d_M_act_1 : decode b_M_act 1 = .ok (.dup, 1) := by decide +kernel
theorem d_M_act_2 : decode b_M_act 2 = .ok (.getfield 101, 3) := by decide +kernel
theorem d_M_act_5 : decode b_M_act 5 = .ok (.iconst 1, 1) := by decide +kernel
theorem d_M_act_6 : decode b_M_act 6 = .ok (.iadd, 1) := by decide +kernel
theorem d_M_act_7 : decode b_M_act 7 = .ok (.putfield 101, 3) := by decide +kernel
theorem d_M_act_10 : decode b_M_act 10 = .ok (.aload_n 0, 1) := by decide +kernel
theorem d_M_act_11 : decode b_M_act 11 = .ok (.getfield 13, 3) := by decide +kernel
theorem d_M_act_14 : decode b_M_act 14 = .ok (.iload_n 1, 1) := by decide +kernel
theorem d_M_act_15 : decode b_M_act 15 = .ok (.iload_n 2, 1) := by decide +kernel
theorem d_M_act_16 : decode b_M_act 16 = .ok (.iastore, 1) := by decide +kernel
theorem d_M_act_17 : decode b_M_act 17 = .ok (.aload_n 0, 1) := by decide +kernel
theorem d_M_act_18 : decode b_M_act 18 = .ok (.getfield 16, 3) := by decide +kernel
theorem d_M_act_21 : decode b_M_act 21 = .ok (.iload_n 1, 1) := by decide +kernel
theorem d_M_act_22 : decode b_M_act 22 = .ok (.iload_n 3, 1) := by decide +kernel
theorem d_M_act_23 : decode b_M_act 23 = .ok (.bastore, 1) := by decide +kernel
theorem d_M_act_24 : decode b_M_act 24 = .ok (.aload_n 0, 1) := by decide +kernel
theorem d_M_act_25 : decode b_M_act 25 = .ok (.getfield 20, 3) := by decide +kernel
theorem d_M_act_28 : decode b_M_act 28 = .ok (.iload_n 1, 1) := by decide +kernel
theorem d_M_act_29 : decode b_M_act 29 = .ok (.aload_n 0, 1) := by decide +kernel
theorem d_M_act_30 : decode b_M_act 30 = .ok (.getfield 101, 3) := by decide +kernel
theorem d_M_act_33 : decode b_M_act 33 = .ok (.iastore, 1) := by decide +kernel
theorem d_M_act_34 : decode b_M_act 34 = .ok (.return_, 1) := by decide +kernel
theorem d_M_change_0 : decode b_M_change 0 = .ok (.aload_n 0, 1) := by decide +kernel
theorem d_M_change_1 : decode b_M_change 1 = .ok (.iconst 0, 1) := by decide +kernel
theorem d_M_change_2 : decode b_M_change 2 = .ok (.putfield 91, 3) := by decide +kernel
theorem d_M_change_5 : decode b_M_change 5 = .ok (.aload_n 0, 1) := by decide +kernel
theorem d_M_change_6 : decode b_M_change 6 = .ok (.iload_n 1, 1) := by decide +kernel
theorem d_M_change_7 : decode b_M_change 7 = .ok (.invokevirtual 112, 3) := by decide +kernel
theorem d_M_change_10 : decode b_M_change 10 = .ok (.ifCond .ne 5, 3) := by decide +kernel
theorem d_M_change_13 : decode b_M_change 13 = .ok (.iconst (-1), 1) := by decide +kernel
theorem d_M_change_14 : decode b_M_change 14 = .ok (.ireturn, 1) := by decide +kernel
theorem d_M_change_15 : decode b_M_change 15 = .ok (.aload_n 0, 1) := by decide +kernel
theorem d_M_change_16 : decode b_M_change 16 = .ok (.iload_n 2, 1) := by decide +kernel
theorem d_M_change_17 : decode b_M_change 17 = .ok (.invokevirtual 104, 3) := by decide +kernel
theorem d_M_change_20 : decode b_M_change 20 = .ok (.ifCond .ne 6, 3) := by decide +kernel
theorem d_M_change_23 : decode b_M_change 23 = .ok (.bipush (-2), 2) := by decide +kernel
theorem d_M_change_25 : decode b_M_change 25 = .ok (.ireturn, 1) := by decide +kernel
theorem d_M_change_26 : decode b_M_change 26 = .ok (.iload_n 2, 1) := by decide +kernel
theorem d_M_change_27 : decode b_M_change 27 = .ok (.aload_n 0, 1) := by decide +kernel
theorem d_M_change_28 : decode b_M_change 28 = .ok (.getfield 13, 3) := by decide +kernel
theorem d_M_change_31 : decode b_M_change 31 = .ok (.iload_n 1, 1) := by decide +kernel
theorem d_M_change_32 : decode b_M_change 32 = .ok (.iaload, 1) := by decide +kernel
theorem d_M_change_33 : decode b_M_change 33 = .ok (.if_icmp .ge 6, 3) := by decide +kernel
theorem d_M_change_36 : decode b_M_change 36 = .ok (.bipush (-3), 2) := by decide +kernel
theorem d_M_change_38 : decode b_M_change 38 = .ok (.ireturn, 1) := by decide +kernel
theorem d_M_change_39 : decode b_M_change 39 = .ok (.aload_n 0, 1) := by decide +kernel
theorem d_M_change_40 : decode b_M_change 40 = .ok (.iload_n 1, 1) := by decide +kernel
theorem d_M_change_41 : decode b_M_change 41 = .ok (.iload_n 2, 1) := by decide +kernel
theorem d_M_change_42 : decode b_M_change 42 = .ok (.iconst 0, 1) := by decide +kernel
theorem d_M_change_43 : decode b_M_change 43 = .ok (.invokevirtual 108, 3) := by decide +kernel
theorem d_M_change_46 : decode b_M_change 46 = .ok (.iconst 1, 1) := by decide +kernel
theorem d_M_change_47 : decode b_M_change 47 = .ok (.ireturn, 1) := by decide +kernel
theorem d_M_isRecord_0 : decode b_M_isRecord 0 = .ok (.iload_n 1, 1) := by decide +kernel
theorem d_M_isRecord_1 : decode b_M_isRecord 1 = .ok (.iconst 0, 1) := by decide +kernel
theorem d_M_isRecord_2 : decode b_M_isRecord 2 = .ok (.aload_n 0, 1) := by decide +kernel
theorem d_M_isRecord_3 : decode b_M_isRecord 3 = .ok (.getfield 98, 3) := by decide +kernel
theorem d_M_isRecord_6 : decode b_M_isRecord 6 = .ok (.iconst 1, 1) := by decide +kernel
theorem d_M_isRecord_7 : decode b_M_isRecord 7 = .ok (.isub, 1) := by decide +kernel
theorem d_M_isRecord_8 : decode b_M_isRecord 8 = .ok (.invokestatic 94, 3) := by decide +kernel
theorem d_M_isRecord_11 : decode b_M_isRecord 11 = .ok (.ireturn, 1) := by decide +kernel
theorem d_M_delete_0 : decode b_M_delete 0 = .ok (.aload_n 0, 1) := by decide +kernel
theorem d_M_delete_1 : decode b_M_delete 1 = .ok (.iconst 0, 1) := by decide +kernel
theorem d_M_delete_2 : decode b_M_delete 2 = .ok (.putfield 91, 3) := by decide +kernel
theorem d_M_delete_5 : decode b_M_delete 5 = .ok (.aload_n 0, 1) := by decide +kernel
theorem d_M_delete_6 : decode b_M_delete 6 = .ok (.iload_n 1, 1) := by decide +kernel
theorem d_M_delete_7 : decode b_M_delete 7 = .ok (.invokevirtual 112, 3) := by decide +kernel
theorem d_M_delete_10 : decode b_M_delete 10 = .ok (.ifCond .ne 5, 3) := by decide +kernel
theorem d_M_delete_13 : decode b_M_delete 13 = .ok (.iconst (-1), 1) := by decide +kernel
theorem d_M_delete_14 : decode b_M_delete 14 = .ok (.ireturn, 1) := by decide +kernel
theorem d_M_delete_15 : decode b_M_delete 15 = .ok (.aload_n 0, 1) := by decide +kernel
theorem d_M_delete_16 : decode b_M_delete 16 = .ok (.iload_n 2, 1) := by decide +kernel
theorem d_M_delete_17 : decode b_M_delete 17 = .ok (.invokevirtual 104, 3) := by decide +kernel
theorem d_M_delete_20 : decode b_M_delete 20 = .ok (.ifCond .ne 6, 3) := by decide +kernel
theorem d_M_delete_23 : decode b_M_delete 23 = .ok (.bipush (-2), 2) := by decide +kernel
theorem d_M_delete_25 : decode b_M_delete 25 = .ok (.ireturn, 1) := by decide +kernel
theorem d_M_delete_26 : decode b_M_delete 26 = .ok (.aload_n 0, 1) := by decide +kernel
theorem d_M_delete_27 : decode b_M_delete 27 = .ok (.getfield 16, 3) := by decide +kernel
theorem d_M_delete_30 : decode b_M_delete 30 = .ok (.iload_n 1, 1) := by decide +kernel
theorem d_M_delete_31 : decode b_M_delete 31 = .ok (.baload, 1) := by decide +kernel
theorem d_M_delete_32 : decode b_M_delete 32 = .ok (.ifCond .ne 13, 3) := by decide +kernel
theorem d_M_delete_35 : decode b_M_delete 35 = .ok (.iload_n 2, 1) := by decide +kernel
theorem d_M_delete_36 : decode b_M_delete 36 = .ok (.aload_n 0, 1) := by decide +kernel
theorem d_M_delete_37 : decode b_M_delete 37 = .ok (.getfield 13, 3) := by decide +kernel
theorem d_M_delete_40 : decode b_M_delete 40 = .ok (.iload_n 1, 1) := by decide +kernel
theorem d_M_delete_41 : decode b_M_delete 41 = .ok (.iaload, 1) := by decide +kernel
theorem d_M_delete_42 : decode b_M_delete 42 = .ok (.if_icmp .ge 6, 3) := by decide +kernel
theorem d_M_delete_45 : decode b_M_delete 45 = .ok (.bipush (-3), 2) := by decide +kernel
theorem d_M_delete_47 : decode b_M_delete 47 = .ok (.ireturn, 1) := by decide +kernel
theorem d_M_delete_48 : decode b_M_delete 48 = .ok (.aload_n 0, 1) := by decide +kernel
theorem d_M_delete_49 : decode b_M_delete 49 = .ok (.iload_n 1, 1) := by decide +kernel
theorem d_M_delete_50 : decode b_M_delete 50 = .ok (.iload_n 2, 1) := by decide +kernel
theorem d_M_delete_51 : decode b_M_delete 51 = .ok (.iconst 1, 1) := by decide +kernel
theorem d_M_delete_52 : decode b_M_delete 52 = .ok (.invokevirtual 108, 3) := by decide +kernel
theorem d_M_delete_55 : decode b_M_delete 55 = .ok (.iconst 1, 1) := by decide +kernel
theorem d_M_delete_56 : decode b_M_delete 56 = .ok (.ireturn, 1) := by decide +kernel
theorem d_M_form_0 : decode b_M_form 0 = .ok (.aload_n 0, 1) := by decide +kernel
theorem d_M_form_1 : decode b_M_form 1 = .ok (.iconst 0, 1) := by decide +kernel
theorem d_M_form_2 : decode b_M_form 2 = .ok (.putfield 91, 3) := by decide +kernel
theorem d_M_form_5 : decode b_M_form 5 = .ok (.iload_n 1, 1) := by decide +kernel
theorem d_M_form_6 : decode b_M_form 6 = .ok (.iconst 0, 1) := by decide +kernel
theorem d_M_form_7 : decode b_M_form 7 = .ok (.iconst 5, 1) := by decide +kernel
theorem d_M_form_8 : decode b_M_form 8 = .ok (.invokestatic 94, 3) := by decide +kernel
theorem d_M_form_11 : decode b_M_form 11 = .ok (.ifCond .ne 6, 3) := by decide +kernel
theorem d_M_form_14 : decode b_M_form 14 = .ok (.bipush (-2), 2) := by decide +kernel
theorem d_M_form_16 : decode b_M_form 16 = .ok (.ireturn, 1) := by decide +kernel
theorem d_M_form_17 : decode b_M_form 17 = .ok (.aload_n 0, 1) := by decide +kernel
theorem d_M_form_18 : decode b_M_form 18 = .ok (.getfield 23, 3) := by decide +kernel
theorem d_M_form_21 : decode b_M_form 21 = .ok (.iload_n 1, 1) := by decide +kernel
theorem d_M_form_22 : decode b_M_form 22 = .ok (.iload_n 2, 1) := by decide +kernel
theorem d_M_form_23 : decode b_M_form 23 = .ok (.bastore, 1) := by decide +kernel
theorem d_M_form_24 : decode b_M_form 24 = .ok (.iconst 1, 1) := by decide +kernel
theorem d_M_form_25 : decode b_M_form 25 = .ok (.ireturn, 1) := by decide +kernel
theorem d_M_list_0 : decode b_M_list 0 = .ok (.aload_n 0, 1) := by decide +kernel
theorem d_M_list_1 : decode b_M_list 1 = .ok (.iconst 0, 1) := by decide +kernel
theorem d_M_list_2 : decode b_M_list 2 = .ok (.putfield 91, 3) := by decide +kernel
theorem d_M_list_5 : decode b_M_list 5 = .ok (.iload_n 1, 1) := by decide +kernel
theorem d_M_list_6 : decode b_M_list 6 = .ok (.iconst 0, 1) := by decide +kernel
theorem d_M_list_7 : decode b_M_list 7 = .ok (.bipush 9, 2) := by decide +kernel
theorem d_M_list_9 : decode b_M_list 9 = .ok (.invokestatic 94, 3) := by decide +kernel
theorem d_M_list_12 : decode b_M_list 12 = .ok (.ifCond .ne 5, 3) := by decide +kernel
theorem d_M_list_15 : decode b_M_list 15 = .ok (.iconst (-1), 1) := by decide +kernel
theorem d_M_list_16 : decode b_M_list 16 = .ok (.ireturn, 1) := by decide +kernel
theorem d_M_list_17 : decode b_M_list 17 = .ok (.iload 6, 2) := by decide +kernel
theorem d_M_list_19 : decode b_M_list 19 = .ok (.iconst 0, 1) := by decide +kernel
theorem d_M_list_20 : decode b_M_list 20 = .ok (.ldc 130, 2) := by decide +kernel
theorem d_M_list_22 : decode b_M_list 22 = .ok (.invokestatic 94, 3) := by decide +kernel
theorem d_M_list_25 : decode b_M_list 25 = .ok (.ifCond .ne 6, 3) := by decide +kernel
theorem d_M_list_28 : decode b_M_list 28 = .ok (.bipush (-2), 2) := by decide +kernel
theorem d_M_list_30 : decode b_M_list 30 = .ok (.ireturn, 1) := by decide +kernel
theorem d_M_list_31 : decode b_M_list 31 = .ok (.aload_n 0, 1) := by decide +kernel
theorem d_M_list_32 : decode b_M_list 32 = .ok (.iload_n 3, 1) := by decide +kernel
theorem d_M_list_33 : decode b_M_list 33 = .ok (.invokevirtual 104, 3) := by decide +kernel
theorem d_M_list_36 : decode b_M_list 36 = .ok (.ifCond .eq 18, 3) := by decide +kernel
theorem d_M_list_39 : decode b_M_list 39 = .ok (.aload_n 0, 1) := by decide +kernel
theorem d_M_list_40 : decode b_M_list 40 = .ok (.iload 4, 2) := by decide +kernel
theorem d_M_list_42 : decode b_M_list 42 = .ok (.invokevirtual 104, 3) := by decide +kernel
theorem d_M_list_45 : decode b_M_list 45 = .ok (.ifCond .eq 9, 3) := by decide +kernel
theorem d_M_list_48 : decode b_M_list 48 = .ok (.iload_n 3, 1) := by decide +kernel
theorem d_M_list_49 : decode b_M_list 49 = .ok (.iload 4, 2) := by decide +kernel
theorem d_M_list_51 : decode b_M_list 51 = .ok (.if_icmp .le 6, 3) := by decide +kernel
theorem d_M_list_54 : decode b_M_list 54 = .ok (.bipush (-11), 2) := by decide +kernel
theorem d_M_list_56 : decode b_M_list 56 = .ok (.ireturn, 1) := by decide +kernel
theorem d_M_list_57 : decode b_M_list 57 = .ok (.aload_n 0, 1) := by decide +kernel
theorem d_M_list_58 : decode b_M_list 58 = .ok (.iload_n 2, 1) := by decide +kernel
theorem d_M_list_59 : decode b_M_list 59 = .ok (.invokevirtual 131, 3) := by decide +kernel
theorem d_M_list_62 : decode b_M_list 62 = .ok (.ifCond .ne 6, 3) := by decide +kernel
theorem d_M_list_65 : decode b_M_list 65 = .ok (.bipush (-12), 2) := by decide +kernel
theorem d_M_list_67 : decode b_M_list 67 = .ok (.ireturn, 1) := by decide +kernel
theorem d_M_list_68 : decode b_M_list 68 = .ok (.iload 5, 2) := by decide +kernel
theorem d_M_list_70 : decode b_M_list 70 = .ok (.iconst (-1), 1) := by decide +kernel
theorem d_M_list_71 : decode b_M_list 71 = .ok (.bipush 9, 2) := by decide +kernel
theorem d_M_list_73 : decode b_M_list 73 = .ok (.invokestatic 94, 3) := by decide +kernel
theorem d_M_list_76 : decode b_M_list 76 = .ok (.ifCond .ne 6, 3) := by decide +kernel
theorem d_M_list_79 : decode b_M_list 79 = .ok (.bipush (-13), 2) := by decide +kernel
theorem d_M_list_81 : decode b_M_list 81 = .ok (.ireturn, 1) := by decide +kernel
theorem d_M_list_82 : decode b_M_list 82 = .ok (.iconst 0, 1) := by decide +kernel
theorem d_M_list_83 : decode b_M_list 83 = .ok (.istore 7, 2) := by decide +kernel
theorem d_M_list_85 : decode b_M_list 85 = .ok (.iconst 0, 1) := by decide +kernel
theorem d_M_list_86 : decode b_M_list 86 = .ok (.istore 8, 2) := by decide +kernel
theorem d_M_list_88 : decode b_M_list 88 = .ok (.iload 8, 2) := by decide +kernel
theorem d_M_list_90 : decode b_M_list 90 = .ok (.aload_n 0, 1) := by decide +kernel
theorem d_M_list_91 : decode b_M_list 91 = .ok (.getfield 98, 3) := by decide +kernel
theorem d_M_list_94 : decode b_M_list 94 = .ok (.if_icmp .ge 54, 3) := by decide +kernel
theorem d_M_list_97 : decode b_M_list 97 = .ok (.iload 7, 2) := by decide +kernel
theorem d_M_list_99 : decode b_M_list 99 = .ok (.ifCond .ne 36, 3) := by decide +kernel
theorem d_M_list_102 : decode b_M_list 102 = .ok (.aload_n 0, 1) := by decide +kernel
theorem d_M_list_103 : decode b_M_list 103 = .ok (.getfield 13, 3) := by decide +kernel
theorem d_M_list_106 : decode b_M_list 106 = .ok (.iload 8, 2) := by decide +kernel
theorem d_M_list_108 : decode b_M_list 108 = .ok (.iaload, 1) := by decide +kernel
theorem d_M_list_109 : decode b_M_list 109 = .ok (.iload_n 3, 1) := by decide +kernel
theorem d_M_list_110 : decode b_M_list 110 = .ok (.iload 4, 2) := by decide +kernel
theorem d_M_list_112 : decode b_M_list 112 = .ok (.invokestatic 94, 3) := by decide +kernel
theorem d_M_list_115 : decode b_M_list 115 = .ok (.ifCond .eq 24, 3) := by decide +kernel
theorem d_M_list_118 : decode b_M_list 118 = .ok (.iload 5, 2) := by decide +kernel
theorem d_M_list_120 : decode b_M_list 120 = .ok (.ifCond .lt 15, 3) := by decide +kernel
theorem d_M_list_123 : decode b_M_list 123 = .ok (.aload_n 0, 1) := by decide +kernel
theorem d_M_list_124 : decode b_M_list 124 = .ok (.getfield 7, 3) := by decide +kernel
theorem d_M_list_127 : decode b_M_list 127 = .ok (.iload 8, 2) := by decide +kernel
theorem d_M_list_129 : decode b_M_list 129 = .ok (.iaload, 1) := by decide +kernel
theorem d_M_list_130 : decode b_M_list 130 = .ok (.iload 5, 2) := by decide +kernel
theorem d_M_list_132 : decode b_M_list 132 = .ok (.if_icmp .ne 7, 3) := by decide +kernel
theorem d_M_list_135 : decode b_M_list 135 = .ok (.iconst 1, 1) := by decide +kernel
theorem d_M_list_136 : decode b_M_list 136 = .ok (.goto 4, 3) := by decide +kernel
theorem d_M_list_139 : decode b_M_list 139 = .ok (.iconst 0, 1) := by decide +kernel
theorem d_M_list_140 : decode b_M_list 140 = .ok (.istore 7, 2) := by decide +kernel
theorem d_M_list_142 : decode b_M_list 142 = .ok (.iinc 8 1, 3) := by decide +kernel
theorem d_M_list_145 : decode b_M_list 145 = .ok (.goto (-57), 3) := by decide +kernel
theorem d_M_list_148 : decode b_M_list 148 = .ok (.iload 7, 2) := by decide +kernel
theorem d_M_list_150 : decode b_M_list 150 = .ok (.ifCond .ne 6, 3) := by decide +kernel
theorem d_M_list_153 : decode b_M_list 153 = .ok (.bipush (-14), 2) := by decide +kernel
theorem d_M_list_155 : decode b_M_list 155 = .ok (.ireturn, 1) := by decide +kernel
theorem d_M_list_156 : decode b_M_list 156 = .ok (.aload_n 0, 1) := by decide +kernel
theorem d_M_list_157 : decode b_M_list 157 = .ok (.getfield 115, 3) := by decide +kernel
theorem d_M_list_160 : decode b_M_list 160 = .ok (.bipush 30, 2) := by decide +kernel
theorem d_M_list_162 : decode b_M_list 162 = .ok (.if_icmp .ne 6, 3) := by decide +kernel
theorem d_M_list_165 : decode b_M_list 165 = .ok (.bipush (-4), 2) := by decide +kernel
theorem d_M_list_167 : decode b_M_list 167 = .ok (.ireturn, 1) := by decide +kernel
theorem d_M_list_168 : decode b_M_list 168 = .ok (.aload_n 0, 1) := by decide +kernel
theorem d_M_list_169 : decode b_M_list 169 = .ok (.getfield 26, 3) := by decide +kernel
theorem d_M_list_172 : decode b_M_list 172 = .ok (.aload_n 0, 1) := by decide +kernel
theorem d_M_list_173 : decode b_M_list 173 = .ok (.getfield 115, 3) := by decide +kernel
theorem d_M_list_176 : decode b_M_list 176 = .ok (.aload_n 0, 1) := by decide +kernel
theorem d_M_list_177 : decode b_M_list 177 = .ok (.iload_n 3, 1) := by decide +kernel
theorem d_M_list_178 : decode b_M_list 178 = .ok (.iload 4, 2) := by decide +kernel
theorem d_M_list_180 : decode b_M_list 180 = .ok (.iload 5, 2) := by decide +kernel
theorem d_M_list_182 : decode b_M_list 182 = .ok (.invokevirtual 134, 3) := by decide +kernel
theorem d_M_list_185 : decode b_M_list 185 = .ok (.iastore, 1) := by decide +kernel
theorem d_M_list_186 : decode b_M_list 186 = .ok (.aload_n 0, 1) := by decide +kernel
theorem d_M_list_187 : decode b_M_list 187 = .ok (.getfield 29, 3) := by decide +kernel
theorem d_M_list_190 : decode b_M_list 190 = .ok (.aload_n 0, 1) := by decide +kernel
theorem d_M_list_191 : decode b_M_list 191 = .ok (.getfield 115, 3) := by decide +kernel
theorem d_M_list_194 : decode b_M_list 194 = .ok (.aload_n 0, 1) := by decide +kernel
theorem d_M_list_195 : decode b_M_list 195 = .ok (.getfield 101, 3) := by decide +kernel
theorem d_M_list_198 : decode b_M_list 198 = .ok (.iastore, 1) := by decide +kernel
theorem d_M_list_199 : decode b_M_list 199 = .ok (.aload_n 0, 1) := by decide +kernel
theorem d_M_list_200 : decode b_M_list 200 = .ok (.getfield 32, 3) := by decide +kernel
theorem d_M_list_203 : decode b_M_list 203 = .ok (.aload_n 0, 1) := by decide +kernel
theorem d_M_list_204 : decode b_M_list 204 = .ok (.getfield 115, 3) := by decide +kernel
theorem d_M_list_207 : decode b_M_list 207 = .ok (.iload_n 2, 1) := by decide +kernel
theorem d_M_list_208 : decode b_M_list 208 = .ok (.iastore, 1) := by decide +kernel
theorem d_M_list_209 : decode b_M_list 209 = .ok (.aload_n 0, 1) := by decide +kernel
theorem d_M_list_210 : decode b_M_list 210 = .ok (.getfield 35, 3) := by decide +kernel
theorem d_M_list_213 : decode b_M_list 213 = .ok (.aload_n 0, 1) := by decide +kernel
theorem d_M_list_214 : decode b_M_list 214 = .ok (.getfield 115, 3) := by decide +kernel
theorem d_M_list_217 : decode b_M_list 217 = .ok (.iload_n 1, 1) := by decide +kernel
theorem d_M_list_218 : decode b_M_list 218 = .ok (.iastore, 1) := by decide +kernel
theorem d_M_list_219 : decode b_M_list 219 = .ok (.aload_n 0, 1) := by decide +kernel
theorem d_M_list_220 : decode b_M_list 220 = .ok (.dup, 1) := by decide +kernel
theorem d_M_list_221 : decode b_M_list 221 = .ok (.getfield 115, 3) := by decide +kernel
theorem d_M_list_224 : decode b_M_list 224 = .ok (.iconst 1, 1) := by decide +kernel
theorem d_M_list_225 : decode b_M_list 225 = .ok (.iadd, 1) := by decide +kernel
theorem d_M_list_226 : decode b_M_list 226 = .ok (.putfield 115, 3) := by decide +kernel
theorem d_M_list_229 : decode b_M_list 229 = .ok (.aload_n 0, 1) := by decide +kernel
theorem d_M_list_230 : decode b_M_list 230 = .ok (.iload_n 1, 1) := by decide +kernel
theorem d_M_list_231 : decode b_M_list 231 = .ok (.aload_n 0, 1) := by decide +kernel
theorem d_M_list_232 : decode b_M_list 232 = .ok (.aload_n 0, 1) := by decide +kernel
theorem d_M_list_233 : decode b_M_list 233 = .ok (.getfield 115, 3) := by decide +kernel
theorem d_M_list_236 : decode b_M_list 236 = .ok (.iconst 1, 1) := by decide +kernel
theorem d_M_list_237 : decode b_M_list 237 = .ok (.isub, 1) := by decide +kernel
theorem d_M_list_238 : decode b_M_list 238 = .ok (.iconst 0, 1) := by decide +kernel
theorem d_M_list_239 : decode b_M_list 239 = .ok (.iload 6, 2) := by decide +kernel
theorem d_M_list_241 : decode b_M_list 241 = .ok (.invokevirtual 138, 3) := by decide +kernel
theorem d_M_list_244 : decode b_M_list 244 = .ok (.invokevirtual 141, 3) := by decide +kernel
theorem d_M_list_247 : decode b_M_list 247 = .ok (.ireturn, 1) := by decide +kernel
theorem d_M_isHeld_0 : decode b_M_isHeld 0 = .ok (.iload_n 1, 1) := by decide +kernel
theorem d_M_isHeld_1 : decode b_M_isHeld 1 = .ok (.iconst 0, 1) := by decide +kernel
theorem d_M_isHeld_2 : decode b_M_isHeld 2 = .ok (.iconst 5, 1) := by decide +kernel
theorem d_M_isHeld_3 : decode b_M_isHeld 3 = .ok (.invokestatic 94, 3) := by decide +kernel
theorem d_M_isHeld_6 : decode b_M_isHeld 6 = .ok (.ifCond .eq 16, 3) := by decide +kernel
theorem d_M_isHeld_9 : decode b_M_isHeld 9 = .ok (.aload_n 0, 1) := by decide +kernel
theorem d_M_isHeld_10 : decode b_M_isHeld 10 = .ok (.getfield 23, 3) := by decide +kernel
theorem d_M_isHeld_13 : decode b_M_isHeld 13 = .ok (.iload_n 1, 1) := by decide +kernel
theorem d_M_isHeld_14 : decode b_M_isHeld 14 = .ok (.baload, 1) := by decide +kernel
theorem d_M_isHeld_15 : decode b_M_isHeld 15 = .ok (.ifCond .eq 7, 3) := by decide +kernel
theorem d_M_isHeld_18 : decode b_M_isHeld 18 = .ok (.iconst 1, 1) := by decide +kernel
theorem d_M_isHeld_19 : decode b_M_isHeld 19 = .ok (.goto 4, 3) := by decide +kernel
theorem d_M_isHeld_22 : decode b_M_isHeld 22 = .ok (.iconst 0, 1) := by decide +kernel
theorem d_M_isHeld_23 : decode b_M_isHeld 23 = .ok (.ireturn, 1) := by decide +kernel
theorem d_M_gather_0 : decode b_M_gather 0 = .ok (.sipush 150, 3) := by decide +kernel
theorem d_M_gather_3 : decode b_M_gather 3 = .ok (.aload_n 0, 1) := by decide +kernel
theorem d_M_gather_4 : decode b_M_gather 4 = .ok (.getfield 115, 3) := by decide +kernel
theorem d_M_gather_7 : decode b_M_gather 7 = .ok (.imul, 1) := by decide +kernel
theorem d_M_gather_8 : decode b_M_gather 8 = .ok (.istore 4, 2) := by decide +kernel
theorem d_M_gather_10 : decode b_M_gather 10 = .ok (.iconst 0, 1) := by decide +kernel
theorem d_M_gather_11 : decode b_M_gather 11 = .ok (.istore 5, 2) := by decide +kernel
theorem d_M_gather_13 : decode b_M_gather 13 = .ok (.iconst 0, 1) := by decide +kernel
theorem d_M_gather_14 : decode b_M_gather 14 = .ok (.istore 6, 2) := by decide +kernel
theorem d_M_gather_16 : decode b_M_gather 16 = .ok (.iload 6, 2) := by decide +kernel
theorem d_M_gather_18 : decode b_M_gather 18 = .ok (.aload_n 0, 1) := by decide +kernel
theorem d_M_gather_19 : decode b_M_gather 19 = .ok (.getfield 98, 3) := by decide +kernel
theorem d_M_gather_22 : decode b_M_gather 22 = .ok (.if_icmp .ge 114, 3) := by decide +kernel
theorem d_M_gather_25 : decode b_M_gather 25 = .ok (.aload_n 0, 1) := by decide +kernel
theorem d_M_gather_26 : decode b_M_gather 26 = .ok (.getfield 13, 3) := by decide +kernel
theorem d_M_gather_29 : decode b_M_gather 29 = .ok (.iload 6, 2) := by decide +kernel
theorem d_M_gather_31 : decode b_M_gather 31 = .ok (.iaload, 1) := by decide +kernel
theorem d_M_gather_32 : decode b_M_gather 32 = .ok (.iload_n 1, 1) := by decide +kernel
theorem d_M_gather_33 : decode b_M_gather 33 = .ok (.iload_n 2, 1) := by decide +kernel
theorem d_M_gather_34 : decode b_M_gather 34 = .ok (.invokestatic 94, 3) := by decide +kernel
theorem d_M_gather_37 : decode b_M_gather 37 = .ok (.ifCond .eq 93, 3) := by decide +kernel
theorem d_M_gather_40 : decode b_M_gather 40 = .ok (.iload_n 3, 1) := by decide +kernel
theorem d_M_gather_41 : decode b_M_gather 41 = .ok (.ifCond .lt 17, 3) := by decide +kernel
theorem d_M_gather_44 : decode b_M_gather 44 = .ok (.aload_n 0, 1) := by decide +kernel
theorem d_M_gather_45 : decode b_M_gather 45 = .ok (.getfield 7, 3) := by decide +kernel
theorem d_M_gather_48 : decode b_M_gather 48 = .ok (.iload 6, 2) := by decide +kernel
theorem d_M_gather_50 : decode b_M_gather 50 = .ok (.iaload, 1) := by decide +kernel
theorem d_M_gather_51 : decode b_M_gather 51 = .ok (.iload_n 3, 1) := by decide +kernel
theorem d_M_gather_52 : decode b_M_gather 52 = .ok (.if_icmp .eq 6, 3) := by decide +kernel
theorem d_M_gather_55 : decode b_M_gather 55 = .ok (.goto 75, 3) := by decide +kernel
theorem d_M_gather_58 : decode b_M_gather 58 = .ok (.iload 4, 2) := by decide +kernel
theorem d_M_gather_60 : decode b_M_gather 60 = .ok (.iload 5, 2) := by decide +kernel
theorem d_M_gather_62 : decode b_M_gather 62 = .ok (.iadd, 1) := by decide +kernel
theorem d_M_gather_63 : decode b_M_gather 63 = .ok (.istore 7, 2) := by decide +kernel
theorem d_M_gather_65 : decode b_M_gather 65 = .ok (.iload 7, 2) := by decide +kernel
theorem d_M_gather_67 : decode b_M_gather 67 = .ok (.iload 4, 2) := by decide +kernel
theorem d_M_gather_69 : decode b_M_gather 69 = .ok (.if_icmp .le 49, 3) := by decide +kernel
theorem d_M_gather_72 : decode b_M_gather 72 = .ok (.aload_n 0, 1) := by decide +kernel
theorem d_M_gather_73 : decode b_M_gather 73 = .ok (.getfield 13, 3) := by decide +kernel
theorem d_M_gather_76 : decode b_M_gather 76 = .ok (.aload_n 0, 1) := by decide +kernel
theorem d_M_gather_77 : decode b_M_gather 77 = .ok (.getfield 38, 3) := by decide +kernel
theorem d_M_gather_80 : decode b_M_gather 80 = .ok (.iload 7, 2) := by decide +kernel
theorem d_M_gather_82 : decode b_M_gather 82 = .ok (.iconst 1, 1) := by decide +kernel
theorem d_M_gather_83 : decode b_M_gather 83 = .ok (.isub, 1) := by decide +kernel
theorem d_M_gather_84 : decode b_M_gather 84 = .ok (.iaload, 1) := by decide +kernel
theorem d_M_gather_85 : decode b_M_gather 85 = .ok (.iaload, 1) := by decide +kernel
theorem d_M_gather_86 : decode b_M_gather 86 = .ok (.aload_n 0, 1) := by decide +kernel
theorem d_M_gather_87 : decode b_M_gather 87 = .ok (.getfield 13, 3) := by decide +kernel
theorem d_M_gather_90 : decode b_M_gather 90 = .ok (.iload 6, 2) := by decide +kernel
theorem d_M_gather_92 : decode b_M_gather 92 = .ok (.iaload, 1) := by decide +kernel
theorem d_M_gather_93 : decode b_M_gather 93 = .ok (.if_icmp .le 25, 3) := by decide +kernel
theorem d_M_gather_96 : decode b_M_gather 96 = .ok (.aload_n 0, 1) := by decide +kernel
theorem d_M_gather_97 : decode b_M_gather 97 = .ok (.getfield 38, 3) := by decide +kernel
theorem d_M_gather_100 : decode b_M_gather 100 = .ok (.iload 7, 2) := by decide +kernel
theorem d_M_gather_102 : decode b_M_gather 102 = .ok (.aload_n 0, 1) := by decide +kernel
theorem d_M_gather_103 : decode b_M_gather 103 = .ok (.getfield 38, 3) := by decide +kernel
theorem d_M_gather_106 : decode b_M_gather 106 = .ok (.iload 7, 2) := by decide +kernel
theorem d_M_gather_108 : decode b_M_gather 108 = .ok (.iconst 1, 1) := by decide +kernel
theorem d_M_gather_109 : decode b_M_gather 109 = .ok (.isub, 1) := by decide +kernel
theorem d_M_gather_110 : decode b_M_gather 110 = .ok (.iaload, 1) := by decide +kernel
theorem d_M_gather_111 : decode b_M_gather 111 = .ok (.iastore, 1) := by decide +kernel
theorem d_M_gather_112 : decode b_M_gather 112 = .ok (.iinc 7 (-1), 3) := by decide +kernel
theorem d_M_gather_115 : decode b_M_gather 115 = .ok (.goto (-50), 3) := by decide +kernel
theorem d_M_gather_118 : decode b_M_gather 118 = .ok (.aload_n 0, 1) := by decide +kernel
theorem d_M_gather_119 : decode b_M_gather 119 = .ok (.getfield 38, 3) := by decide +kernel
theorem d_M_gather_122 : decode b_M_gather 122 = .ok (.iload 7, 2) := by decide +kernel
theorem d_M_gather_124 : decode b_M_gather 124 = .ok (.iload 6, 2) := by decide +kernel
theorem d_M_gather_126 : decode b_M_gather 126 = .ok (.iastore, 1) := by decide +kernel
theorem d_M_gather_127 : decode b_M_gather 127 = .ok (.iinc 5 1, 3) := by decide +kernel
theorem d_M_gather_130 : decode b_M_gather 130 = .ok (.iinc 6 1, 3) := by decide +kernel
theorem d_M_gather_133 : decode b_M_gather 133 = .ok (.goto (-117), 3) := by decide +kernel
theorem d_M_gather_136 : decode b_M_gather 136 = .ok (.iload 5, 2) := by decide +kernel
theorem d_M_gather_138 : decode b_M_gather 138 = .ok (.ireturn, 1) := by decide +kernel
theorem d_M_makePage_0 : decode b_M_makePage 0 = .ok (.aload_n 0, 1) := by decide +kernel
theorem d_M_makePage_1 : decode b_M_makePage 1 = .ok (.getfield 118, 3) := by decide +kernel
theorem d_M_makePage_4 : decode b_M_makePage 4 = .ok (.istore 4, 2) := by decide +kernel
theorem d_M_makePage_6 : decode b_M_makePage 6 = .ok (.aload_n 0, 1) := by decide +kernel
theorem d_M_makePage_7 : decode b_M_makePage 7 = .ok (.getfield 41, 3) := by decide +kernel
theorem d_M_makePage_10 : decode b_M_makePage 10 = .ok (.iload 4, 2) := by decide +kernel
theorem d_M_makePage_12 : decode b_M_makePage 12 = .ok (.iload_n 1, 1) := by decide +kernel
theorem d_M_makePage_13 : decode b_M_makePage 13 = .ok (.iastore, 1) := by decide +kernel
theorem d_M_makePage_14 : decode b_M_makePage 14 = .ok (.aload_n 0, 1) := by decide +kernel
theorem d_M_makePage_15 : decode b_M_makePage 15 = .ok (.getfield 44, 3) := by decide +kernel
theorem d_M_makePage_18 : decode b_M_makePage 18 = .ok (.iload 4, 2) := by decide +kernel
theorem d_M_makePage_20 : decode b_M_makePage 20 = .ok (.iload_n 2, 1) := by decide +kernel
theorem d_M_makePage_21 : decode b_M_makePage 21 = .ok (.iastore, 1) := by decide +kernel
theorem d_M_makePage_22 : decode b_M_makePage 22 = .ok (.aload_n 0, 1) := by decide +kernel
theorem d_M_makePage_23 : decode b_M_makePage 23 = .ok (.getfield 50, 3) := by decide +kernel
theorem d_M_makePage_26 : decode b_M_makePage 26 = .ok (.iload 4, 2) := by decide +kernel
theorem d_M_makePage_28 : decode b_M_makePage 28 = .ok (.aload_n 0, 1) := by decide +kernel
theorem d_M_makePage_29 : decode b_M_makePage 29 = .ok (.getfield 121, 3) := by decide +kernel
theorem d_M_makePage_32 : decode b_M_makePage 32 = .ok (.iastore, 1) := by decide +kernel
theorem d_M_makePage_33 : decode b_M_makePage 33 = .ok (.iload_n 2, 1) := by decide +kernel
theorem d_M_makePage_34 : decode b_M_makePage 34 = .ok (.aload_n 0, 1) := by decide +kernel
theorem d_M_makePage_35 : decode b_M_makePage 35 = .ok (.getfield 80, 3) := by decide +kernel
theorem d_M_makePage_38 : decode b_M_makePage 38 = .ok (.iadd, 1) := by decide +kernel
theorem d_M_makePage_39 : decode b_M_makePage 39 = .ok (.aload_n 0, 1) := by decide +kernel
theorem d_M_makePage_40 : decode b_M_makePage 40 = .ok (.getfield 26, 3) := by decide +kernel
theorem d_M_makePage_43 : decode b_M_makePage 43 = .ok (.iload_n 1, 1) := by decide +kernel
theorem d_M_makePage_44 : decode b_M_makePage 44 = .ok (.iaload, 1) := by decide +kernel
theorem d_M_makePage_45 : decode b_M_makePage 45 = .ok (.if_icmp .ge 12, 3) := by decide +kernel
theorem d_M_makePage_48 : decode b_M_makePage 48 = .ok (.iload_n 2, 1) := by decide +kernel
theorem d_M_makePage_49 : decode b_M_makePage 49 = .ok (.aload_n 0, 1) := by decide +kernel
theorem d_M_makePage_50 : decode b_M_makePage 50 = .ok (.getfield 80, 3) := by decide +kernel
theorem d_M_makePage_53 : decode b_M_makePage 53 = .ok (.iadd, 1) := by decide +kernel
theorem d_M_makePage_54 : decode b_M_makePage 54 = .ok (.goto 9, 3) := by decide +kernel
theorem d_M_makePage_57 : decode b_M_makePage 57 = .ok (.aload_n 0, 1) := by decide +kernel
theorem d_M_makePage_58 : decode b_M_makePage 58 = .ok (.getfield 26, 3) := by decide +kernel
theorem d_M_makePage_61 : decode b_M_makePage 61 = .ok (.iload_n 1, 1) := by decide +kernel
theorem d_M_makePage_62 : decode b_M_makePage 62 = .ok (.iaload, 1) := by decide +kernel
theorem d_M_makePage_63 : decode b_M_makePage 63 = .ok (.istore 5, 2) := by decide +kernel
theorem d_M_makePage_65 : decode b_M_makePage 65 = .ok (.iload_n 2, 1) := by decide +kernel
theorem d_M_makePage_66 : decode b_M_makePage 66 = .ok (.istore 6, 2) := by decide +kernel
theorem d_M_makePage_68 : decode b_M_makePage 68 = .ok (.iload 6, 2) := by decide +kernel
theorem d_M_makePage_70 : decode b_M_makePage 70 = .ok (.iload 5, 2) := by decide +kernel
theorem d_M_makePage_72 : decode b_M_makePage 72 = .ok (.if_icmp .ge 106, 3) := by decide +kernel
theorem d_M_makePage_75 : decode b_M_makePage 75 = .ok (.aload_n 0, 1) := by decide +kernel
theorem d_M_makePage_76 : decode b_M_makePage 76 = .ok (.getfield 38, 3) := by decide +kernel
theorem d_M_makePage_79 : decode b_M_makePage 79 = .ok (.sipush 150, 3) := by decide +kernel
theorem d_M_makePage_82 : decode b_M_makePage 82 = .ok (.iload_n 1, 1) := by decide +kernel
theorem d_M_makePage_83 : decode b_M_makePage 83 = .ok (.imul, 1) := by decide +kernel
theorem d_M_makePage_84 : decode b_M_makePage 84 = .ok (.iload 6, 2) := by decide +kernel
theorem d_M_makePage_86 : decode b_M_makePage 86 = .ok (.iadd, 1) := by decide +kernel
theorem d_M_makePage_87 : decode b_M_makePage 87 = .ok (.iaload, 1) := by decide +kernel
theorem d_M_makePage_88 : decode b_M_makePage 88 = .ok (.istore 7, 2) := by decide +kernel
theorem d_M_makePage_90 : decode b_M_makePage 90 = .ok (.aload_n 0, 1) := by decide +kernel
theorem d_M_makePage_91 : decode b_M_makePage 91 = .ok (.getfield 20, 3) := by decide +kernel
theorem d_M_makePage_94 : decode b_M_makePage 94 = .ok (.iload 7, 2) := by decide +kernel
theorem d_M_makePage_96 : decode b_M_makePage 96 = .ok (.iaload, 1) := by decide +kernel
theorem d_M_makePage_97 : decode b_M_makePage 97 = .ok (.aload_n 0, 1) := by decide +kernel
theorem d_M_makePage_98 : decode b_M_makePage 98 = .ok (.getfield 29, 3) := by decide +kernel
theorem d_M_makePage_101 : decode b_M_makePage 101 = .ok (.iload_n 1, 1) := by decide +kernel
theorem d_M_makePage_102 : decode b_M_makePage 102 = .ok (.iaload, 1) := by decide +kernel
theorem d_M_makePage_103 : decode b_M_makePage 103 = .ok (.if_icmp .le 16, 3) := by decide +kernel
theorem d_M_makePage_106 : decode b_M_makePage 106 = .ok (.aload_n 0, 1) := by decide +kernel
theorem d_M_makePage_107 : decode b_M_makePage 107 = .ok (.dup, 1) := by decide +kernel
theorem d_M_makePage_108 : decode b_M_makePage 108 = .ok (.getfield 124, 3) := by decide +kernel
theorem d_M_makePage_111 : decode b_M_makePage 111 = .ok (.iconst 1, 1) := by decide +kernel
theorem d_M_makePage_112 : decode b_M_makePage 112 = .ok (.iadd, 1) := by decide +kernel
theorem d_M_makePage_113 : decode b_M_makePage 113 = .ok (.putfield 124, 3) := by decide +kernel
theorem d_M_makePage_116 : decode b_M_makePage 116 = .ok (.goto 56, 3) := by decide +kernel
theorem d_M_makePage_119 : decode b_M_makePage 119 = .ok (.aload_n 0, 1) := by decide +kernel
theorem d_M_makePage_120 : decode b_M_makePage 120 = .ok (.getfield 56, 3) := by decide +kernel
theorem d_M_makePage_123 : decode b_M_makePage 123 = .ok (.aload_n 0, 1) := by decide +kernel
theorem d_M_makePage_124 : decode b_M_makePage 124 = .ok (.getfield 121, 3) := by decide +kernel
theorem d_M_makePage_127 : decode b_M_makePage 127 = .ok (.iload 7, 2) := by decide +kernel
theorem d_M_makePage_129 : decode b_M_makePage 129 = .ok (.iastore, 1) := by decide +kernel
theorem d_M_makePage_130 : decode b_M_makePage 130 = .ok (.aload_n 0, 1) := by decide +kernel
theorem d_M_makePage_131 : decode b_M_makePage 131 = .ok (.getfield 59, 3) := by decide +kernel
theorem d_M_makePage_134 : decode b_M_makePage 134 = .ok (.aload_n 0, 1) := by decide +kernel
theorem d_M_makePage_135 : decode b_M_makePage 135 = .ok (.getfield 121, 3) := by decide +kernel
theorem d_M_makePage_138 : decode b_M_makePage 138 = .ok (.aload_n 0, 1) := by decide +kernel
theorem d_M_makePage_139 : decode b_M_makePage 139 = .ok (.getfield 13, 3) := by decide +kernel
theorem d_M_makePage_142 : decode b_M_makePage 142 = .ok (.iload 7, 2) := by decide +kernel
theorem d_M_makePage_144 : decode b_M_makePage 144 = .ok (.iaload, 1) := by decide +kernel
theorem d_M_makePage_145 : decode b_M_makePage 145 = .ok (.iastore, 1) := by decide +kernel
theorem d_M_makePage_146 : decode b_M_makePage 146 = .ok (.aload_n 0, 1) := by decide +kernel
theorem d_M_makePage_147 : decode b_M_makePage 147 = .ok (.getfield 62, 3) := by decide +kernel
theorem d_M_makePage_150 : decode b_M_makePage 150 = .ok (.aload_n 0, 1) := by decide +kernel
theorem d_M_makePage_151 : decode b_M_makePage 151 = .ok (.getfield 121, 3) := by decide +kernel
theorem d_M_makePage_154 : decode b_M_makePage 154 = .ok (.aload_n 0, 1) := by decide +kernel
theorem d_M_makePage_155 : decode b_M_makePage 155 = .ok (.getfield 16, 3) := by decide +kernel
theorem d_M_makePage_158 : decode b_M_makePage 158 = .ok (.iload 7, 2) := by decide +kernel
theorem d_M_makePage_160 : decode b_M_makePage 160 = .ok (.baload, 1) := by decide +kernel
theorem d_M_makePage_161 : decode b_M_makePage 161 = .ok (.bastore, 1) := by decide +kernel
theorem d_M_makePage_162 : decode b_M_makePage 162 = .ok (.aload_n 0, 1) := by decide +kernel
theorem d_M_makePage_163 : decode b_M_makePage 163 = .ok (.dup, 1) := by decide +kernel
theorem d_M_makePage_164 : decode b_M_makePage 164 = .ok (.getfield 121, 3) := by decide +kernel
theorem d_M_makePage_167 : decode b_M_makePage 167 = .ok (.iconst 1, 1) := by decide +kernel
theorem d_M_makePage_168 : decode b_M_makePage 168 = .ok (.iadd, 1) := by decide +kernel
theorem d_M_makePage_169 : decode b_M_makePage 169 = .ok (.putfield 121, 3) := by decide +kernel
theorem d_M_makePage_172 : decode b_M_makePage 172 = .ok (.iinc 6 1, 3) := by decide +kernel
theorem d_M_makePage_175 : decode b_M_makePage 175 = .ok (.goto (-107), 3) := by decide +kernel
theorem d_M_makePage_178 : decode b_M_makePage 178 = .ok (.aload_n 0, 1) := by decide +kernel
theorem d_M_makePage_179 : decode b_M_makePage 179 = .ok (.getfield 47, 3) := by decide +kernel
theorem d_M_makePage_182 : decode b_M_makePage 182 = .ok (.iload 4, 2) := by decide +kernel
theorem d_M_makePage_184 : decode b_M_makePage 184 = .ok (.aload_n 0, 1) := by decide +kernel
theorem d_M_makePage_185 : decode b_M_makePage 185 = .ok (.getfield 121, 3) := by decide +kernel
theorem d_M_makePage_188 : decode b_M_makePage 188 = .ok (.aload_n 0, 1) := by decide +kernel
theorem d_M_makePage_189 : decode b_M_makePage 189 = .ok (.getfield 50, 3) := by decide +kernel
theorem d_M_makePage_192 : decode b_M_makePage 192 = .ok (.iload 4, 2) := by decide +kernel
theorem d_M_makePage_194 : decode b_M_makePage 194 = .ok (.iaload, 1) := by decide +kernel
theorem d_M_makePage_195 : decode b_M_makePage 195 = .ok (.isub, 1) := by decide +kernel
theorem d_M_makePage_196 : decode b_M_makePage 196 = .ok (.iastore, 1) := by decide +kernel
theorem d_M_makePage_197 : decode b_M_makePage 197 = .ok (.aload_n 0, 1) := by decide +kernel
theorem d_M_makePage_198 : decode b_M_makePage 198 = .ok (.getfield 53, 3) := by decide +kernel
theorem d_M_makePage_201 : decode b_M_makePage 201 = .ok (.iload 4, 2) := by decide +kernel
theorem d_M_makePage_203 : decode b_M_makePage 203 = .ok (.iconst (-1), 1) := by decide +kernel
theorem d_M_makePage_204 : decode b_M_makePage 204 = .ok (.iastore, 1) := by decide +kernel
theorem d_M_makePage_205 : decode b_M_makePage 205 = .ok (.iload 5, 2) := by decide +kernel
theorem d_M_makePage_207 : decode b_M_makePage 207 = .ok (.aload_n 0, 1) := by decide +kernel
theorem d_M_makePage_208 : decode b_M_makePage 208 = .ok (.getfield 26, 3) := by decide +kernel
theorem d_M_makePage_211 : decode b_M_makePage 211 = .ok (.iload_n 1, 1) := by decide +kernel
theorem d_M_makePage_212 : decode b_M_makePage 212 = .ok (.iaload, 1) := by decide +kernel
theorem d_M_makePage_213 : decode b_M_makePage 213 = .ok (.if_icmp .ge 55, 3) := by decide +kernel
theorem d_M_makePage_216 : decode b_M_makePage 216 = .ok (.aload_n 0, 1) := by decide +kernel
theorem d_M_makePage_217 : decode b_M_makePage 217 = .ok (.getfield 53, 3) := by decide +kernel
theorem d_M_makePage_220 : decode b_M_makePage 220 = .ok (.iload 4, 2) := by decide +kernel
theorem d_M_makePage_222 : decode b_M_makePage 222 = .ok (.aload_n 0, 1) := by decide +kernel
theorem d_M_makePage_223 : decode b_M_makePage 223 = .ok (.getfield 127, 3) := by decide +kernel
theorem d_M_makePage_226 : decode b_M_makePage 226 = .ok (.iastore, 1) := by decide +kernel
theorem d_M_makePage_227 : decode b_M_makePage 227 = .ok (.aload_n 0, 1) := by decide +kernel
theorem d_M_makePage_228 : decode b_M_makePage 228 = .ok (.getfield 65, 3) := by decide +kernel
theorem d_M_makePage_231 : decode b_M_makePage 231 = .ok (.aload_n 0, 1) := by decide +kernel
theorem d_M_makePage_232 : decode b_M_makePage 232 = .ok (.getfield 127, 3) := by decide +kernel
theorem d_M_makePage_235 : decode b_M_makePage 235 = .ok (.iload 4, 2) := by decide +kernel
theorem d_M_makePage_237 : decode b_M_makePage 237 = .ok (.iastore, 1) := by decide +kernel
theorem d_M_makePage_238 : decode b_M_makePage 238 = .ok (.aload_n 0, 1) := by decide +kernel
theorem d_M_makePage_239 : decode b_M_makePage 239 = .ok (.getfield 68, 3) := by decide +kernel
theorem d_M_makePage_242 : decode b_M_makePage 242 = .ok (.aload_n 0, 1) := by decide +kernel
theorem d_M_makePage_243 : decode b_M_makePage 243 = .ok (.getfield 127, 3) := by decide +kernel
theorem d_M_makePage_246 : decode b_M_makePage 246 = .ok (.iload_n 3, 1) := by decide +kernel
theorem d_M_makePage_247 : decode b_M_makePage 247 = .ok (.iastore, 1) := by decide +kernel
theorem d_M_makePage_248 : decode b_M_makePage 248 = .ok (.aload_n 0, 1) := by decide +kernel
theorem d_M_makePage_249 : decode b_M_makePage 249 = .ok (.getfield 71, 3) := by decide +kernel
theorem d_M_makePage_252 : decode b_M_makePage 252 = .ok (.aload_n 0, 1) := by decide +kernel
theorem d_M_makePage_253 : decode b_M_makePage 253 = .ok (.getfield 127, 3) := by decide +kernel
theorem d_M_makePage_256 : decode b_M_makePage 256 = .ok (.iconst (-1), 1) := by decide +kernel
theorem d_M_makePage_257 : decode b_M_makePage 257 = .ok (.iastore, 1) := by decide +kernel
theorem d_M_makePage_258 : decode b_M_makePage 258 = .ok (.aload_n 0, 1) := by decide +kernel
theorem d_M_makePage_259 : decode b_M_makePage 259 = .ok (.dup, 1) := by decide +kernel
theorem d_M_makePage_260 : decode b_M_makePage 260 = .ok (.getfield 127, 3) := by decide +kernel
theorem d_M_makePage_263 : decode b_M_makePage 263 = .ok (.iconst 1, 1) := by decide +kernel
theorem d_M_makePage_264 : decode b_M_makePage 264 = .ok (.iadd, 1) := by decide +kernel
theorem d_M_makePage_265 : decode b_M_makePage 265 = .ok (.putfield 127, 3) := by decide +kernel
theorem d_M_makePage_268 : decode b_M_makePage 268 = .ok (.aload_n 0, 1) := by decide +kernel
theorem d_M_makePage_269 : decode b_M_makePage 269 = .ok (.dup, 1) := by decide +kernel
theorem d_M_makePage_270 : decode b_M_makePage 270 = .ok (.getfield 118, 3) := by decide +kernel
theorem d_M_makePage_273 : decode b_M_makePage 273 = .ok (.iconst 1, 1) := by decide +kernel
theorem d_M_makePage_274 : decode b_M_makePage 274 = .ok (.iadd, 1) := by decide +kernel
theorem d_M_makePage_275 : decode b_M_makePage 275 = .ok (.putfield 118, 3) := by decide +kernel
theorem d_M_makePage_278 : decode b_M_makePage 278 = .ok (.iload 4, 2) := by decide +kernel
theorem d_M_makePage_280 : decode b_M_makePage 280 = .ok (.ireturn, 1) := by decide +kernel
theorem d_M_answer_0 : decode b_M_answer 0 = .ok (.aload_n 0, 1) := by decide +kernel
theorem d_M_answer_1 : decode b_M_answer 1 = .ok (.getfield 74, 3) := by decide +kernel
theorem d_M_answer_4 : decode b_M_answer 4 = .ok (.iload_n 1, 1) := by decide +kernel
theorem d_M_answer_5 : decode b_M_answer 5 = .ok (.iload_n 2, 1) := by decide +kernel
theorem d_M_answer_6 : decode b_M_answer 6 = .ok (.iastore, 1) := by decide +kernel
theorem d_M_answer_7 : decode b_M_answer 7 = .ok (.aload_n 0, 1) := by decide +kernel
theorem d_M_answer_8 : decode b_M_answer 8 = .ok (.getfield 77, 3) := by decide +kernel
theorem d_M_answer_11 : decode b_M_answer 11 = .ok (.iload_n 1, 1) := by decide +kernel
theorem d_M_answer_12 : decode b_M_answer 12 = .ok (.dup2, 1) := by decide +kernel
theorem d_M_answer_13 : decode b_M_answer 13 = .ok (.iaload, 1) := by decide +kernel
theorem d_M_answer_14 : decode b_M_answer 14 = .ok (.aload_n 0, 1) := by decide +kernel
theorem d_M_answer_15 : decode b_M_answer 15 = .ok (.getfield 47, 3) := by decide +kernel
theorem d_M_answer_18 : decode b_M_answer 18 = .ok (.iload_n 2, 1) := by decide +kernel
theorem d_M_answer_19 : decode b_M_answer 19 = .ok (.iaload, 1) := by decide +kernel
theorem d_M_answer_20 : decode b_M_answer 20 = .ok (.iadd, 1) := by decide +kernel
theorem d_M_answer_21 : decode b_M_answer 21 = .ok (.iastore, 1) := by decide +kernel
theorem d_M_answer_22 : decode b_M_answer 22 = .ok (.aload_n 0, 1) := by decide +kernel
theorem d_M_answer_23 : decode b_M_answer 23 = .ok (.getfield 47, 3) := by decide +kernel
theorem d_M_answer_26 : decode b_M_answer 26 = .ok (.iload_n 2, 1) := by decide +kernel
theorem d_M_answer_27 : decode b_M_answer 27 = .ok (.iaload, 1) := by decide +kernel
theorem d_M_answer_28 : decode b_M_answer 28 = .ok (.ireturn, 1) := by decide +kernel
theorem d_M_resume_0 : decode b_M_resume 0 = .ok (.aload_n 0, 1) := by decide +kernel
theorem d_M_resume_1 : decode b_M_resume 1 = .ok (.iconst 0, 1) := by decide +kernel
theorem d_M_resume_2 : decode b_M_resume 2 = .ok (.putfield 91, 3) := by decide +kernel
theorem d_M_resume_5 : decode b_M_resume 5 = .ok (.iload_n 1, 1) := by decide +kernel
theorem d_M_resume_6 : decode b_M_resume 6 = .ok (.iconst 0, 1) := by decide +kernel
theorem d_M_resume_7 : decode b_M_resume 7 = .ok (.bipush 9, 2) := by decide +kernel
theorem d_M_resume_9 : decode b_M_resume 9 = .ok (.invokestatic 94, 3) := by decide +kernel
theorem d_M_resume_12 : decode b_M_resume 12 = .ok (.ifCond .ne 5, 3) := by decide +kernel
theorem d_M_resume_15 : decode b_M_resume 15 = .ok (.iconst (-1), 1) := by decide +kernel
theorem d_M_resume_16 : decode b_M_resume 16 = .ok (.ireturn, 1) := by decide +kernel
theorem d_M_resume_17 : decode b_M_resume 17 = .ok (.iload_n 3, 1) := by decide +kernel
theorem d_M_resume_18 : decode b_M_resume 18 = .ok (.iconst 0, 1) := by decide +kernel
theorem d_M_resume_19 : decode b_M_resume 19 = .ok (.ldc 130, 2) := by decide +kernel
theorem d_M_resume_21 : decode b_M_resume 21 = .ok (.invokestatic 94, 3) := by decide +kernel
theorem d_M_resume_24 : decode b_M_resume 24 = .ok (.ifCond .ne 6, 3) := by decide +kernel
theorem d_M_resume_27 : decode b_M_resume 27 = .ok (.bipush (-2), 2) := by decide +kernel
theorem d_M_resume_29 : decode b_M_resume 29 = .ok (.ireturn, 1) := by decide +kernel
theorem d_M_resume_30 : decode b_M_resume 30 = .ok (.iload_n 2, 1) := by decide +kernel
theorem d_M_resume_31 : decode b_M_resume 31 = .ok (.iconst 0, 1) := by decide +kernel
theorem d_M_resume_32 : decode b_M_resume 32 = .ok (.aload_n 0, 1) := by decide +kernel
theorem d_M_resume_33 : decode b_M_resume 33 = .ok (.getfield 127, 3) := by decide +kernel
theorem d_M_resume_36 : decode b_M_resume 36 = .ok (.iconst 1, 1) := by decide +kernel
theorem d_M_resume_37 : decode b_M_resume 37 = .ok (.isub, 1) := by decide +kernel
theorem d_M_resume_38 : decode b_M_resume 38 = .ok (.invokestatic 94, 3) := by decide +kernel
theorem d_M_resume_41 : decode b_M_resume 41 = .ok (.ifCond .ne 6, 3) := by decide +kernel
theorem d_M_resume_44 : decode b_M_resume 44 = .ok (.bipush (-15), 2) := by decide +kernel
theorem d_M_resume_46 : decode b_M_resume 46 = .ok (.ireturn, 1) := by decide +kernel
theorem d_M_resume_47 : decode b_M_resume 47 = .ok (.aload_n 0, 1) := by decide +kernel
theorem d_M_resume_48 : decode b_M_resume 48 = .ok (.getfield 65, 3) := by decide +kernel
theorem d_M_resume_51 : decode b_M_resume 51 = .ok (.iload_n 2, 1) := by decide +kernel
theorem d_M_resume_52 : decode b_M_resume 52 = .ok (.iaload, 1) := by decide +kernel
theorem d_M_resume_53 : decode b_M_resume 53 = .ok (.istore 4, 2) := by decide +kernel
theorem d_M_resume_55 : decode b_M_resume 55 = .ok (.aload_n 0, 1) := by decide +kernel
theorem d_M_resume_56 : decode b_M_resume 56 = .ok (.getfield 35, 3) := by decide +kernel
theorem d_M_resume_59 : decode b_M_resume 59 = .ok (.aload_n 0, 1) := by decide +kernel
theorem d_M_resume_60 : decode b_M_resume 60 = .ok (.getfield 41, 3) := by decide +kernel
theorem d_M_resume_63 : decode b_M_resume 63 = .ok (.iload 4, 2) := by decide +kernel
theorem d_M_resume_65 : decode b_M_resume 65 = .ok (.iaload, 1) := by decide +kernel
theorem d_M_resume_66 : decode b_M_resume 66 = .ok (.iaload, 1) := by decide +kernel
theorem d_M_resume_67 : decode b_M_resume 67 = .ok (.iload_n 1, 1) := by decide +kernel
theorem d_M_resume_68 : decode b_M_resume 68 = .ok (.if_icmp .ne 18, 3) := by decide +kernel
theorem d_M_resume_71 : decode b_M_resume 71 = .ok (.iload_n 3, 1) := by decide +kernel
theorem d_M_resume_72 : decode b_M_resume 72 = .ok (.aload_n 0, 1) := by decide +kernel
theorem d_M_resume_73 : decode b_M_resume 73 = .ok (.getfield 68, 3) := by decide +kernel
theorem d_M_resume_76 : decode b_M_resume 76 = .ok (.iload_n 2, 1) := by decide +kernel
theorem d_M_resume_77 : decode b_M_resume 77 = .ok (.iaload, 1) := by decide +kernel
theorem d_M_resume_78 : decode b_M_resume 78 = .ok (.isub, 1) := by decide +kernel
theorem d_M_resume_79 : decode b_M_resume 79 = .ok (.aload_n 0, 1) := by decide +kernel
theorem d_M_resume_80 : decode b_M_resume 80 = .ok (.getfield 88, 3) := by decide +kernel
theorem d_M_resume_83 : decode b_M_resume 83 = .ok (.if_icmp .le 6, 3) := by decide +kernel
theorem d_M_resume_86 : decode b_M_resume 86 = .ok (.bipush (-15), 2) := by decide +kernel
theorem d_M_resume_88 : decode b_M_resume 88 = .ok (.ireturn, 1) := by decide +kernel
theorem d_M_resume_89 : decode b_M_resume 89 = .ok (.aload_n 0, 1) := by decide +kernel
theorem d_M_resume_90 : decode b_M_resume 90 = .ok (.getfield 71, 3) := by decide +kernel
theorem d_M_resume_93 : decode b_M_resume 93 = .ok (.iload_n 2, 1) := by decide +kernel
theorem d_M_resume_94 : decode b_M_resume 94 = .ok (.iaload, 1) := by decide +kernel
theorem d_M_resume_95 : decode b_M_resume 95 = .ok (.ifCond .ge 33, 3) := by decide +kernel
theorem d_M_resume_98 : decode b_M_resume 98 = .ok (.aload_n 0, 1) := by decide +kernel
theorem d_M_resume_99 : decode b_M_resume 99 = .ok (.getfield 71, 3) := by decide +kernel
theorem d_M_resume_102 : decode b_M_resume 102 = .ok (.iload_n 2, 1) := by decide +kernel
theorem d_M_resume_103 : decode b_M_resume 103 = .ok (.aload_n 0, 1) := by decide +kernel
theorem d_M_resume_104 : decode b_M_resume 104 = .ok (.aload_n 0, 1) := by decide +kernel
theorem d_M_resume_105 : decode b_M_resume 105 = .ok (.getfield 41, 3) := by decide +kernel
theorem d_M_resume_108 : decode b_M_resume 108 = .ok (.iload 4, 2) := by decide +kernel
theorem d_M_resume_110 : decode b_M_resume 110 = .ok (.iaload, 1) := by decide +kernel
theorem d_M_resume_111 : decode b_M_resume 111 = .ok (.aload_n 0, 1) := by decide +kernel
theorem d_M_resume_112 : decode b_M_resume 112 = .ok (.getfield 44, 3) := by decide +kernel
theorem d_M_resume_115 : decode b_M_resume 115 = .ok (.iload 4, 2) := by decide +kernel
theorem d_M_resume_117 : decode b_M_resume 117 = .ok (.iaload, 1) := by decide +kernel
theorem d_M_resume_118 : decode b_M_resume 118 = .ok (.aload_n 0, 1) := by decide +kernel
theorem d_M_resume_119 : decode b_M_resume 119 = .ok (.getfield 80, 3) := by decide +kernel
theorem d_M_resume_122 : decode b_M_resume 122 = .ok (.iadd, 1) := by decide +kernel
theorem d_M_resume_123 : decode b_M_resume 123 = .ok (.iload_n 3, 1) := by decide +kernel
theorem d_M_resume_124 : decode b_M_resume 124 = .ok (.invokevirtual 138, 3) := by decide +kernel
theorem d_M_resume_127 : decode b_M_resume 127 = .ok (.iastore, 1) := by decide +kernel
theorem d_M_resume_128 : decode b_M_resume 128 = .ok (.aload_n 0, 1) := by decide +kernel
theorem d_M_resume_129 : decode b_M_resume 129 = .ok (.iload_n 1, 1) := by decide +kernel
theorem d_M_resume_130 : decode b_M_resume 130 = .ok (.aload_n 0, 1) := by decide +kernel
theorem d_M_resume_131 : decode b_M_resume 131 = .ok (.getfield 71, 3) := by decide +kernel
theorem d_M_resume_134 : decode b_M_resume 134 = .ok (.iload_n 2, 1) := by decide +kernel
theorem d_M_resume_135 : decode b_M_resume 135 = .ok (.iaload, 1) := by decide +kernel
theorem d_M_resume_136 : decode b_M_resume 136 = .ok (.invokevirtual 141, 3) := by decide +kernel
theorem d_M_resume_139 : decode b_M_resume 139 = .ok (.ireturn, 1) := by decide +kernel
theorem d_M_token_0 : decode b_M_token 0 = .ok (.aload_n 0, 1) := by decide +kernel
theorem d_M_token_1 : decode b_M_token 1 = .ok (.iconst 0, 1) := by decide +kernel
theorem d_M_token_2 : decode b_M_token 2 = .ok (.putfield 91, 3) := by decide +kernel
theorem d_M_token_5 : decode b_M_token 5 = .ok (.iload_n 1, 1) := by decide +kernel
theorem d_M_token_6 : decode b_M_token 6 = .ok (.iconst 0, 1) := by decide +kernel
theorem d_M_token_7 : decode b_M_token 7 = .ok (.bipush 9, 2) := by decide +kernel
theorem d_M_token_9 : decode b_M_token 9 = .ok (.invokestatic 94, 3) := by decide +kernel
theorem d_M_token_12 : decode b_M_token 12 = .ok (.ifCond .eq 26, 3) := by decide +kernel
theorem d_M_token_15 : decode b_M_token 15 = .ok (.aload_n 0, 1) := by decide +kernel
theorem d_M_token_16 : decode b_M_token 16 = .ok (.getfield 74, 3) := by decide +kernel
theorem d_M_token_19 : decode b_M_token 19 = .ok (.iload_n 1, 1) := by decide +kernel
theorem d_M_token_20 : decode b_M_token 20 = .ok (.iaload, 1) := by decide +kernel
theorem d_M_token_21 : decode b_M_token 21 = .ok (.ifCond .lt 17, 3) := by decide +kernel
theorem d_M_token_24 : decode b_M_token 24 = .ok (.aload_n 0, 1) := by decide +kernel
theorem d_M_token_25 : decode b_M_token 25 = .ok (.getfield 53, 3) := by decide +kernel
theorem d_M_token_28 : decode b_M_token 28 = .ok (.aload_n 0, 1) := by decide +kernel
theorem d_M_token_29 : decode b_M_token 29 = .ok (.getfield 74, 3) := by decide +kernel
theorem d_M_token_32 : decode b_M_token 32 = .ok (.iload_n 1, 1) := by decide +kernel
theorem d_M_token_33 : decode b_M_token 33 = .ok (.iaload, 1) := by decide +kernel
theorem d_M_token_34 : decode b_M_token 34 = .ok (.iaload, 1) := by decide +kernel
theorem d_M_token_35 : decode b_M_token 35 = .ok (.goto 4, 3) := by decide +kernel
theorem d_M_token_38 : decode b_M_token 38 = .ok (.iconst (-1), 1) := by decide +kernel
theorem d_M_token_39 : decode b_M_token 39 = .ok (.ireturn, 1) := by decide +kernel
theorem d_M_row_0 : decode b_M_row 0 = .ok (.iload_n 1, 1) := by decide +kernel
theorem d_M_row_1 : decode b_M_row 1 = .ok (.iconst 0, 1) := by decide +kernel
theorem d_M_row_2 : decode b_M_row 2 = .ok (.bipush 9, 2) := by decide +kernel
theorem d_M_row_4 : decode b_M_row 4 = .ok (.invokestatic 94, 3) := by decide +kernel
theorem d_M_row_7 : decode b_M_row 7 = .ok (.ifCond .eq 25, 3) := by decide +kernel
theorem d_M_row_10 : decode b_M_row 10 = .ok (.aload_n 0, 1) := by decide +kernel
theorem d_M_row_11 : decode b_M_row 11 = .ok (.getfield 74, 3) := by decide +kernel
theorem d_M_row_14 : decode b_M_row 14 = .ok (.iload_n 1, 1) := by decide +kernel
theorem d_M_row_15 : decode b_M_row 15 = .ok (.iaload, 1) := by decide +kernel
theorem d_M_row_16 : decode b_M_row 16 = .ok (.ifCond .lt 16, 3) := by decide +kernel
theorem d_M_row_19 : decode b_M_row 19 = .ok (.iload_n 3, 1) := by decide +kernel
theorem d_M_row_20 : decode b_M_row 20 = .ok (.iconst 0, 1) := by decide +kernel
theorem d_M_row_21 : decode b_M_row 21 = .ok (.iconst 3, 1) := by decide +kernel
theorem d_M_row_22 : decode b_M_row 22 = .ok (.invokestatic 94, 3) := by decide +kernel
theorem d_M_row_25 : decode b_M_row 25 = .ok (.ifCond .eq 7, 3) := by decide +kernel
theorem d_M_row_28 : decode b_M_row 28 = .ok (.iconst 1, 1) := by decide +kernel
theorem d_M_row_29 : decode b_M_row 29 = .ok (.goto 4, 3) := by decide +kernel
theorem d_M_row_32 : decode b_M_row 32 = .ok (.iconst 0, 1) := by decide +kernel
theorem d_M_row_33 : decode b_M_row 33 = .ok (.istore 4, 2) := by decide +kernel
theorem d_M_row_35 : decode b_M_row 35 = .ok (.aload_n 0, 1) := by decide +kernel
theorem d_M_row_36 : decode b_M_row 36 = .ok (.iload 4, 2) := by decide +kernel
theorem d_M_row_38 : decode b_M_row 38 = .ok (.ifCond .eq 28, 3) := by decide +kernel
theorem d_M_row_41 : decode b_M_row 41 = .ok (.iload_n 2, 1) := by decide +kernel
theorem d_M_row_42 : decode b_M_row 42 = .ok (.iconst 0, 1) := by decide +kernel
theorem d_M_row_43 : decode b_M_row 43 = .ok (.aload_n 0, 1) := by decide +kernel
theorem d_M_row_44 : decode b_M_row 44 = .ok (.getfield 47, 3) := by decide +kernel
theorem d_M_row_47 : decode b_M_row 47 = .ok (.aload_n 0, 1) := by decide +kernel
theorem d_M_row_48 : decode b_M_row 48 = .ok (.getfield 74, 3) := by decide +kernel
theorem d_M_row_51 : decode b_M_row 51 = .ok (.iload_n 1, 1) := by decide +kernel
theorem d_M_row_52 : decode b_M_row 52 = .ok (.iaload, 1) := by decide +kernel
theorem d_M_row_53 : decode b_M_row 53 = .ok (.iaload, 1) := by decide +kernel
theorem d_M_row_54 : decode b_M_row 54 = .ok (.iconst 1, 1) := by decide +kernel
theorem d_M_row_55 : decode b_M_row 55 = .ok (.isub, 1) := by decide +kernel
theorem d_M_row_56 : decode b_M_row 56 = .ok (.invokestatic 94, 3) := by decide +kernel
theorem d_M_row_59 : decode b_M_row 59 = .ok (.ifCond .eq 7, 3) := by decide +kernel
theorem d_M_row_62 : decode b_M_row 62 = .ok (.iconst 0, 1) := by decide +kernel
theorem d_M_row_63 : decode b_M_row 63 = .ok (.goto 4, 3) := by decide +kernel
theorem d_M_row_66 : decode b_M_row 66 = .ok (.iconst 1, 1) := by decide +kernel
theorem d_M_row_67 : decode b_M_row 67 = .ok (.putfield 91, 3) := by decide +kernel
theorem d_M_row_70 : decode b_M_row 70 = .ok (.aload_n 0, 1) := by decide +kernel
theorem d_M_row_71 : decode b_M_row 71 = .ok (.getfield 91, 3) := by decide +kernel
theorem d_M_row_74 : decode b_M_row 74 = .ok (.ifCond .le 5, 3) := by decide +kernel
theorem d_M_row_77 : decode b_M_row 77 = .ok (.iconst 0, 1) := by decide +kernel
theorem d_M_row_78 : decode b_M_row 78 = .ok (.ireturn, 1) := by decide +kernel
theorem d_M_row_79 : decode b_M_row 79 = .ok (.aload_n 0, 1) := by decide +kernel
theorem d_M_row_80 : decode b_M_row 80 = .ok (.getfield 74, 3) := by decide +kernel
theorem d_M_row_83 : decode b_M_row 83 = .ok (.iload_n 1, 1) := by decide +kernel
theorem d_M_row_84 : decode b_M_row 84 = .ok (.iaload, 1) := by decide +kernel
theorem d_M_row_85 : decode b_M_row 85 = .ok (.istore 5, 2) := by decide +kernel
theorem d_M_row_87 : decode b_M_row 87 = .ok (.aload_n 0, 1) := by decide +kernel
theorem d_M_row_88 : decode b_M_row 88 = .ok (.getfield 50, 3) := by decide +kernel
theorem d_M_row_91 : decode b_M_row 91 = .ok (.iload 5, 2) := by decide +kernel
theorem d_M_row_93 : decode b_M_row 93 = .ok (.iaload, 1) := by decide +kernel
theorem d_M_row_94 : decode b_M_row 94 = .ok (.iload_n 2, 1) := by decide +kernel
theorem d_M_row_95 : decode b_M_row 95 = .ok (.iadd, 1) := by decide +kernel
theorem d_M_row_96 : decode b_M_row 96 = .ok (.istore 6, 2) := by decide +kernel
theorem d_M_row_98 : decode b_M_row 98 = .ok (.iload_n 3, 1) := by decide +kernel
theorem d_M_row_99 : decode b_M_row 99 = .ok (.ifCond .ne 13, 3) := by decide +kernel
theorem d_M_row_102 : decode b_M_row 102 = .ok (.aload_n 0, 1) := by decide +kernel
theorem d_M_row_103 : decode b_M_row 103 = .ok (.getfield 56, 3) := by decide +kernel
theorem d_M_row_106 : decode b_M_row 106 = .ok (.iload 6, 2) := by decide +kernel
theorem d_M_row_108 : decode b_M_row 108 = .ok (.iaload, 1) := by decide +kernel
theorem d_M_row_109 : decode b_M_row 109 = .ok (.goto 53, 3) := by decide +kernel
theorem d_M_row_112 : decode b_M_row 112 = .ok (.iload_n 3, 1) := by decide +kernel
theorem d_M_row_113 : decode b_M_row 113 = .ok (.iconst 1, 1) := by decide +kernel
theorem d_M_row_114 : decode b_M_row 114 = .ok (.if_icmp .ne 13, 3) := by decide +kernel
theorem d_M_row_117 : decode b_M_row 117 = .ok (.aload_n 0, 1) := by decide +kernel
theorem d_M_row_118 : decode b_M_row 118 = .ok (.getfield 59, 3) := by decide +kernel
theorem d_M_row_121 : decode b_M_row 121 = .ok (.iload 6, 2) := by decide +kernel
theorem d_M_row_123 : decode b_M_row 123 = .ok (.iaload, 1) := by decide +kernel
theorem d_M_row_124 : decode b_M_row 124 = .ok (.goto 38, 3) := by decide +kernel
theorem d_M_row_127 : decode b_M_row 127 = .ok (.iload_n 3, 1) := by decide +kernel
theorem d_M_row_128 : decode b_M_row 128 = .ok (.iconst 2, 1) := by decide +kernel
theorem d_M_row_129 : decode b_M_row 129 = .ok (.if_icmp .ne 21, 3) := by decide +kernel
theorem d_M_row_132 : decode b_M_row 132 = .ok (.aload_n 0, 1) := by decide +kernel
theorem d_M_row_133 : decode b_M_row 133 = .ok (.getfield 62, 3) := by decide +kernel
theorem d_M_row_136 : decode b_M_row 136 = .ok (.iload 6, 2) := by decide +kernel
theorem d_M_row_138 : decode b_M_row 138 = .ok (.baload, 1) := by decide +kernel
theorem d_M_row_139 : decode b_M_row 139 = .ok (.ifCond .eq 7, 3) := by decide +kernel
theorem d_M_row_142 : decode b_M_row 142 = .ok (.iconst 1, 1) := by decide +kernel
theorem d_M_row_143 : decode b_M_row 143 = .ok (.goto 19, 3) := by decide +kernel
theorem d_M_row_146 : decode b_M_row 146 = .ok (.iconst 0, 1) := by decide +kernel
theorem d_M_row_147 : decode b_M_row 147 = .ok (.goto 15, 3) := by decide +kernel
theorem d_M_row_150 : decode b_M_row 150 = .ok (.aload_n 0, 1) := by decide +kernel
theorem d_M_row_151 : decode b_M_row 151 = .ok (.getfield 32, 3) := by decide +kernel
theorem d_M_row_154 : decode b_M_row 154 = .ok (.aload_n 0, 1) := by decide +kernel
theorem d_M_row_155 : decode b_M_row 155 = .ok (.getfield 41, 3) := by decide +kernel
theorem d_M_row_158 : decode b_M_row 158 = .ok (.iload 5, 2) := by decide +kernel
theorem d_M_row_160 : decode b_M_row 160 = .ok (.iaload, 1) := by decide +kernel
theorem d_M_row_161 : decode b_M_row 161 = .ok (.iaload, 1) := by decide +kernel
theorem d_M_row_162 : decode b_M_row 162 = .ok (.ireturn, 1) := by decide +kernel
theorem d_M_get_0 : decode b_M_get 0 = .ok (.aload_n 0, 1) := by decide +kernel
theorem d_M_get_1 : decode b_M_get 1 = .ok (.iconst 0, 1) := by decide +kernel
theorem d_M_get_2 : decode b_M_get 2 = .ok (.putfield 91, 3) := by decide +kernel
theorem d_M_get_5 : decode b_M_get 5 = .ok (.aload_n 0, 1) := by decide +kernel
theorem d_M_get_6 : decode b_M_get 6 = .ok (.iload_n 2, 1) := by decide +kernel
theorem d_M_get_7 : decode b_M_get 7 = .ok (.invokevirtual 131, 3) := by decide +kernel
theorem d_M_get_10 : decode b_M_get 10 = .ok (.ifCond .ne 6, 3) := by decide +kernel
theorem d_M_get_13 : decode b_M_get 13 = .ok (.bipush (-12), 2) := by decide +kernel
theorem d_M_get_15 : decode b_M_get 15 = .ok (.ireturn, 1) := by decide +kernel
theorem d_M_get_16 : decode b_M_get 16 = .ok (.aload_n 0, 1) := by decide +kernel
theorem d_M_get_17 : decode b_M_get 17 = .ok (.iload_n 1, 1) := by decide +kernel
theorem d_M_get_18 : decode b_M_get 18 = .ok (.invokevirtual 112, 3) := by decide +kernel
theorem d_M_get_21 : decode b_M_get 21 = .ok (.ifCond .ne 6, 3) := by decide +kernel
theorem d_M_get_24 : decode b_M_get 24 = .ok (.bipush (-16), 2) := by decide +kernel
theorem d_M_get_26 : decode b_M_get 26 = .ok (.ireturn, 1) := by decide +kernel
theorem d_M_get_27 : decode b_M_get 27 = .ok (.aload_n 0, 1) := by decide +kernel
theorem d_M_get_28 : decode b_M_get 28 = .ok (.getfield 16, 3) := by decide +kernel
theorem d_M_get_31 : decode b_M_get 31 = .ok (.iload_n 1, 1) := by decide +kernel
theorem d_M_get_32 : decode b_M_get 32 = .ok (.baload, 1) := by decide +kernel
theorem d_M_get_33 : decode b_M_get 33 = .ok (.ifCond .eq 15, 3) := by decide +kernel
theorem d_M_get_36 : decode b_M_get 36 = .ok (.bipush (-20), 2) := by decide +kernel
theorem d_M_get_38 : decode b_M_get 38 = .ok (.aload_n 0, 1) := by decide +kernel
theorem d_M_get_39 : decode b_M_get 39 = .ok (.getfield 13, 3) := by decide +kernel
theorem d_M_get_42 : decode b_M_get 42 = .ok (.iload_n 1, 1) := by decide +kernel
theorem d_M_get_43 : decode b_M_get 43 = .ok (.iaload, 1) := by decide +kernel
theorem d_M_get_44 : decode b_M_get 44 = .ok (.isub, 1) := by decide +kernel
theorem d_M_get_45 : decode b_M_get 45 = .ok (.goto 9, 3) := by decide +kernel
theorem d_M_get_48 : decode b_M_get 48 = .ok (.aload_n 0, 1) := by decide +kernel
theorem d_M_get_49 : decode b_M_get 49 = .ok (.getfield 13, 3) := by decide +kernel
theorem d_M_get_52 : decode b_M_get 52 = .ok (.iload_n 1, 1) := by decide +kernel
theorem d_M_get_53 : decode b_M_get 53 = .ok (.iaload, 1) := by decide +kernel
theorem d_M_get_54 : decode b_M_get 54 = .ok (.ireturn, 1) := by decide +kernel
theorem d_M_counted_0 : decode b_M_counted 0 = .ok (.aload_n 0, 1) := by decide +kernel
theorem d_M_counted_1 : decode b_M_counted 1 = .ok (.iconst 0, 1) := by decide +kernel
theorem d_M_counted_2 : decode b_M_counted 2 = .ok (.putfield 91, 3) := by decide +kernel
theorem d_M_counted_5 : decode b_M_counted 5 = .ok (.iload_n 1, 1) := by decide +kernel
theorem d_M_counted_6 : decode b_M_counted 6 = .ok (.iconst 0, 1) := by decide +kernel
theorem d_M_counted_7 : decode b_M_counted 7 = .ok (.bipush 9, 2) := by decide +kernel
theorem d_M_counted_9 : decode b_M_counted 9 = .ok (.invokestatic 94, 3) := by decide +kernel
theorem d_M_counted_12 : decode b_M_counted 12 = .ok (.ifCond .eq 12, 3) := by decide +kernel
theorem d_M_counted_15 : decode b_M_counted 15 = .ok (.aload_n 0, 1) := by decide +kernel
theorem d_M_counted_16 : decode b_M_counted 16 = .ok (.getfield 77, 3) := by decide +kernel
theorem d_M_counted_19 : decode b_M_counted 19 = .ok (.iload_n 1, 1) := by decide +kernel
theorem d_M_counted_20 : decode b_M_counted 20 = .ok (.iaload, 1) := by decide +kernel
theorem d_M_counted_21 : decode b_M_counted 21 = .ok (.goto 4, 3) := by decide +kernel
theorem d_M_counted_24 : decode b_M_counted 24 = .ok (.iconst (-1), 1) := by decide +kernel
theorem d_M_counted_25 : decode b_M_counted 25 = .ok (.ireturn, 1) := by decide +kernel
theorem d_M_passed_0 : decode b_M_passed 0 = .ok (.aload_n 0, 1) := by decide +kernel
theorem d_M_passed_1 : decode b_M_passed 1 = .ok (.iconst 0, 1) := by decide +kernel
theorem d_M_passed_2 : decode b_M_passed 2 = .ok (.putfield 91, 3) := by decide +kernel
theorem d_M_passed_5 : decode b_M_passed 5 = .ok (.aload_n 0, 1) := by decide +kernel
theorem d_M_passed_6 : decode b_M_passed 6 = .ok (.getfield 124, 3) := by decide +kernel
theorem d_M_passed_9 : decode b_M_passed 9 = .ok (.ireturn, 1) := by decide +kernel
theorem d_M_about_0 : decode b_M_about 0 = .ok (.aload_n 0, 1) := by decide +kernel
theorem d_M_about_1 : decode b_M_about 1 = .ok (.iconst 0, 1) := by decide +kernel
theorem d_M_about_2 : decode b_M_about 2 = .ok (.putfield 91, 3) := by decide +kernel
theorem d_M_about_5 : decode b_M_about 5 = .ok (.iload_n 1, 1) := by decide +kernel
theorem d_M_about_6 : decode b_M_about 6 = .ok (.iconst 0, 1) := by decide +kernel
theorem d_M_about_7 : decode b_M_about 7 = .ok (.aload_n 0, 1) := by decide +kernel
theorem d_M_about_8 : decode b_M_about 8 = .ok (.getfield 127, 3) := by decide +kernel
theorem d_M_about_11 : decode b_M_about 11 = .ok (.iconst 1, 1) := by decide +kernel
theorem d_M_about_12 : decode b_M_about 12 = .ok (.isub, 1) := by decide +kernel
theorem d_M_about_13 : decode b_M_about 13 = .ok (.invokestatic 94, 3) := by decide +kernel
theorem d_M_about_16 : decode b_M_about 16 = .ok (.ifCond .ne 5, 3) := by decide +kernel
theorem d_M_about_19 : decode b_M_about 19 = .ok (.iconst (-1), 1) := by decide +kernel
theorem d_M_about_20 : decode b_M_about 20 = .ok (.ireturn, 1) := by decide +kernel
theorem d_M_about_21 : decode b_M_about 21 = .ok (.aload_n 0, 1) := by decide +kernel
theorem d_M_about_22 : decode b_M_about 22 = .ok (.getfield 65, 3) := by decide +kernel
theorem d_M_about_25 : decode b_M_about 25 = .ok (.iload_n 1, 1) := by decide +kernel
theorem d_M_about_26 : decode b_M_about 26 = .ok (.iaload, 1) := by decide +kernel
theorem d_M_about_27 : decode b_M_about 27 = .ok (.istore_n 3, 1) := by decide +kernel
theorem d_M_about_28 : decode b_M_about 28 = .ok (.aload_n 0, 1) := by decide +kernel
theorem d_M_about_29 : decode b_M_about 29 = .ok (.getfield 41, 3) := by decide +kernel
theorem d_M_about_32 : decode b_M_about 32 = .ok (.iload_n 3, 1) := by decide +kernel
theorem d_M_about_33 : decode b_M_about 33 = .ok (.iaload, 1) := by decide +kernel
theorem d_M_about_34 : decode b_M_about 34 = .ok (.istore 4, 2) := by decide +kernel
theorem d_M_about_36 : decode b_M_about 36 = .ok (.iload_n 2, 1) := by decide +kernel
theorem d_M_about_37 : decode b_M_about 37 = .ok (.tableswitch 62 0 2 #[27, 35, 42], 27) := by decide +kernel
theorem d_M_about_64 : decode b_M_about 64 = .ok (.aload_n 0, 1) := by decide +kernel
theorem d_M_about_65 : decode b_M_about 65 = .ok (.getfield 35, 3) := by decide +kernel
theorem d_M_about_68 : decode b_M_about 68 = .ok (.iload 4, 2) := by decide +kernel
theorem d_M_about_70 : decode b_M_about 70 = .ok (.iaload, 1) := by decide +kernel
theorem d_M_about_71 : decode b_M_about 71 = .ok (.ireturn, 1) := by decide +kernel
theorem d_M_about_72 : decode b_M_about 72 = .ok (.aload_n 0, 1) := by decide +kernel
theorem d_M_about_73 : decode b_M_about 73 = .ok (.getfield 68, 3) := by decide +kernel
theorem d_M_about_76 : decode b_M_about 76 = .ok (.iload_n 1, 1) := by decide +kernel
theorem d_M_about_77 : decode b_M_about 77 = .ok (.iaload, 1) := by decide +kernel
theorem d_M_about_78 : decode b_M_about 78 = .ok (.ireturn, 1) := by decide +kernel
theorem d_M_about_79 : decode b_M_about 79 = .ok (.aload_n 0, 1) := by decide +kernel
theorem d_M_about_80 : decode b_M_about 80 = .ok (.getfield 26, 3) := by decide +kernel
theorem d_M_about_83 : decode b_M_about 83 = .ok (.iload 4, 2) := by decide +kernel
theorem d_M_about_85 : decode b_M_about 85 = .ok (.iaload, 1) := by decide +kernel
theorem d_M_about_86 : decode b_M_about 86 = .ok (.aload_n 0, 1) := by decide +kernel
theorem d_M_about_87 : decode b_M_about 87 = .ok (.getfield 44, 3) := by decide +kernel
theorem d_M_about_90 : decode b_M_about 90 = .ok (.iload_n 3, 1) := by decide +kernel
theorem d_M_about_91 : decode b_M_about 91 = .ok (.iaload, 1) := by decide +kernel
theorem d_M_about_92 : decode b_M_about 92 = .ok (.isub, 1) := by decide +kernel
theorem d_M_about_93 : decode b_M_about 93 = .ok (.aload_n 0, 1) := by decide +kernel
theorem d_M_about_94 : decode b_M_about 94 = .ok (.getfield 80, 3) := by decide +kernel
theorem d_M_about_97 : decode b_M_about 97 = .ok (.isub, 1) := by decide +kernel
theorem d_M_about_98 : decode b_M_about 98 = .ok (.ireturn, 1) := by decide +kernel
theorem d_M_about_99 : decode b_M_about 99 = .ok (.iconst (-1), 1) := by decide +kernel
theorem d_M_about_100 : decode b_M_about 100 = .ok (.ireturn, 1) := by decide +kernel
