theorem dX9_init_0 : decode cX9_init 0 = .ok (.aload_n 0, 1) := by decide +kernel
theorem dX9_init_1 : decode cX9_init 1 = .ok (.invokespecial 1, 3) := by decide +kernel
theorem dX9_init_4 : decode cX9_init 4 = .ok (.aload_n 0, 1) := by decide +kernel
theorem dX9_init_5 : decode cX9_init 5 = .ok (.sipush 128, 3) := by decide +kernel
theorem dX9_init_8 : decode cX9_init 8 = .ok (.newarray .short, 2) := by decide +kernel
theorem dX9_init_10 : decode cX9_init 10 = .ok (.putfield 7, 3) := by decide +kernel
theorem dX9_init_13 : decode cX9_init 13 = .ok (.aload_n 0, 1) := by decide +kernel
theorem dX9_init_14 : decode cX9_init 14 = .ok (.sipush 128, 3) := by decide +kernel
theorem dX9_init_17 : decode cX9_init 17 = .ok (.newarray .short, 2) := by decide +kernel
theorem dX9_init_19 : decode cX9_init 19 = .ok (.putfield 13, 3) := by decide +kernel
theorem dX9_init_22 : decode cX9_init 22 = .ok (.aload_n 0, 1) := by decide +kernel
theorem dX9_init_23 : decode cX9_init 23 = .ok (.iconst 2, 1) := by decide +kernel
theorem dX9_init_24 : decode cX9_init 24 = .ok (.newarray .int, 2) := by decide +kernel
theorem dX9_init_26 : decode cX9_init 26 = .ok (.putfield 16, 3) := by decide +kernel
theorem dX9_init_29 : decode cX9_init 29 = .ok (.aload_n 0, 1) := by decide +kernel
theorem dX9_init_30 : decode cX9_init 30 = .ok (.iconst 2, 1) := by decide +kernel
theorem dX9_init_31 : decode cX9_init 31 = .ok (.newarray .boolean, 2) := by decide +kernel
theorem dX9_init_33 : decode cX9_init 33 = .ok (.putfield 20, 3) := by decide +kernel
theorem dX9_init_36 : decode cX9_init 36 = .ok (.aload_n 0, 1) := by decide +kernel
theorem dX9_init_37 : decode cX9_init 37 = .ok (.iconst 2, 1) := by decide +kernel
theorem dX9_init_38 : decode cX9_init 38 = .ok (.newarray .int, 2) := by decide +kernel
theorem dX9_init_40 : decode cX9_init 40 = .ok (.putfield 24, 3) := by decide +kernel
theorem dX9_init_43 : decode cX9_init 43 = .ok (.aload_n 0, 1) := by decide +kernel
theorem dX9_init_44 : decode cX9_init 44 = .ok (.iconst 2, 1) := by decide +kernel
theorem dX9_init_45 : decode cX9_init 45 = .ok (.newarray .int, 2) := by decide +kernel
theorem dX9_init_47 : decode cX9_init 47 = .ok (.putfield 27, 3) := by decide +kernel
theorem dX9_init_50 : decode cX9_init 50 = .ok (.aload_n 0, 1) := by decide +kernel
theorem dX9_init_51 : decode cX9_init 51 = .ok (.iconst 2, 1) := by decide +kernel
theorem dX9_init_52 : decode cX9_init 52 = .ok (.newarray .boolean, 2) := by decide +kernel
theorem dX9_init_54 : decode cX9_init 54 = .ok (.putfield 30, 3) := by decide +kernel
theorem dX9_init_57 : decode cX9_init 57 = .ok (.aload_n 0, 1) := by decide +kernel
theorem dX9_init_58 : decode cX9_init 58 = .ok (.bipush 16, 2) := by decide +kernel
theorem dX9_init_60 : decode cX9_init 60 = .ok (.newarray .boolean, 2) := by decide +kernel
theorem dX9_init_62 : decode cX9_init 62 = .ok (.putfield 33, 3) := by decide +kernel
theorem dX9_init_65 : decode cX9_init 65 = .ok (.aload_n 0, 1) := by decide +kernel
theorem dX9_init_66 : decode cX9_init 66 = .ok (.bipush 16, 2) := by decide +kernel
theorem dX9_init_68 : decode cX9_init 68 = .ok (.newarray .boolean, 2) := by decide +kernel
theorem dX9_init_70 : decode cX9_init 70 = .ok (.putfield 36, 3) := by decide +kernel
theorem dX9_init_73 : decode cX9_init 73 = .ok (.aload_n 0, 1) := by decide +kernel
theorem dX9_init_74 : decode cX9_init 74 = .ok (.bipush 16, 2) := by decide +kernel
theorem dX9_init_76 : decode cX9_init 76 = .ok (.newarray .boolean, 2) := by decide +kernel
theorem dX9_init_78 : decode cX9_init 78 = .ok (.putfield 39, 3) := by decide +kernel
theorem dX9_init_81 : decode cX9_init 81 = .ok (.aload_n 0, 1) := by decide +kernel
theorem dX9_init_82 : decode cX9_init 82 = .ok (.bipush 16, 2) := by decide +kernel
theorem dX9_init_84 : decode cX9_init 84 = .ok (.newarray .boolean, 2) := by decide +kernel
theorem dX9_init_86 : decode cX9_init 86 = .ok (.putfield 42, 3) := by decide +kernel
theorem dX9_init_89 : decode cX9_init 89 = .ok (.aload_n 0, 1) := by decide +kernel
theorem dX9_init_90 : decode cX9_init 90 = .ok (.bipush 16, 2) := by decide +kernel
theorem dX9_init_92 : decode cX9_init 92 = .ok (.newarray .short, 2) := by decide +kernel
theorem dX9_init_94 : decode cX9_init 94 = .ok (.putfield 45, 3) := by decide +kernel
theorem dX9_init_97 : decode cX9_init 97 = .ok (.aload_n 0, 1) := by decide +kernel
theorem dX9_init_98 : decode cX9_init 98 = .ok (.bipush 16, 2) := by decide +kernel
theorem dX9_init_100 : decode cX9_init 100 = .ok (.newarray .float, 2) := by decide +kernel
theorem dX9_init_102 : decode cX9_init 102 = .ok (.putfield 48, 3) := by decide +kernel
theorem dX9_init_105 : decode cX9_init 105 = .ok (.aload_n 0, 1) := by decide +kernel
theorem dX9_init_106 : decode cX9_init 106 = .ok (.bipush 16, 2) := by decide +kernel
theorem dX9_init_108 : decode cX9_init 108 = .ok (.newarray .int, 2) := by decide +kernel
theorem dX9_init_110 : decode cX9_init 110 = .ok (.putfield 52, 3) := by decide +kernel
theorem dX9_init_113 : decode cX9_init 113 = .ok (.aload_n 0, 1) := by decide +kernel
theorem dX9_init_114 : decode cX9_init 114 = .ok (.bipush 16, 2) := by decide +kernel
theorem dX9_init_116 : decode cX9_init 116 = .ok (.newarray .int, 2) := by decide +kernel
theorem dX9_init_118 : decode cX9_init 118 = .ok (.putfield 55, 3) := by decide +kernel
theorem dX9_init_121 : decode cX9_init 121 = .ok (.aload_n 0, 1) := by decide +kernel
theorem dX9_init_122 : decode cX9_init 122 = .ok (.bipush 16, 2) := by decide +kernel
theorem dX9_init_124 : decode cX9_init 124 = .ok (.newarray .int, 2) := by decide +kernel
theorem dX9_init_126 : decode cX9_init 126 = .ok (.putfield 58, 3) := by decide +kernel
theorem dX9_init_129 : decode cX9_init 129 = .ok (.aload_n 0, 1) := by decide +kernel
theorem dX9_init_130 : decode cX9_init 130 = .ok (.bipush 16, 2) := by decide +kernel
theorem dX9_init_132 : decode cX9_init 132 = .ok (.newarray .boolean, 2) := by decide +kernel
theorem dX9_init_134 : decode cX9_init 134 = .ok (.putfield 61, 3) := by decide +kernel
theorem dX9_init_137 : decode cX9_init 137 = .ok (.aload_n 0, 1) := by decide +kernel
theorem dX9_init_138 : decode cX9_init 138 = .ok (.bipush 16, 2) := by decide +kernel
theorem dX9_init_140 : decode cX9_init 140 = .ok (.newarray .int, 2) := by decide +kernel
theorem dX9_init_142 : decode cX9_init 142 = .ok (.putfield 64, 3) := by decide +kernel
theorem dX9_init_145 : decode cX9_init 145 = .ok (.aload_n 0, 1) := by decide +kernel
theorem dX9_init_146 : decode cX9_init 146 = .ok (.iconst 4, 1) := by decide +kernel
theorem dX9_init_147 : decode cX9_init 147 = .ok (.newarray .int, 2) := by decide +kernel
theorem dX9_init_149 : decode cX9_init 149 = .ok (.putfield 67, 3) := by decide +kernel
theorem dX9_init_152 : decode cX9_init 152 = .ok (.aload_n 0, 1) := by decide +kernel
theorem dX9_init_153 : decode cX9_init 153 = .ok (.iconst 4, 1) := by decide +kernel
theorem dX9_init_154 : decode cX9_init 154 = .ok (.newarray .int, 2) := by decide +kernel
theorem dX9_init_156 : decode cX9_init 156 = .ok (.putfield 70, 3) := by decide +kernel
theorem dX9_init_159 : decode cX9_init 159 = .ok (.aload_n 0, 1) := by decide +kernel
theorem dX9_init_160 : decode cX9_init 160 = .ok (.iconst 4, 1) := by decide +kernel
theorem dX9_init_161 : decode cX9_init 161 = .ok (.newarray .int, 2) := by decide +kernel
theorem dX9_init_163 : decode cX9_init 163 = .ok (.putfield 73, 3) := by decide +kernel
theorem dX9_init_166 : decode cX9_init 166 = .ok (.aload_n 0, 1) := by decide +kernel
theorem dX9_init_167 : decode cX9_init 167 = .ok (.iconst 4, 1) := by decide +kernel
theorem dX9_init_168 : decode cX9_init 168 = .ok (.newarray .int, 2) := by decide +kernel
theorem dX9_init_170 : decode cX9_init 170 = .ok (.putfield 76, 3) := by decide +kernel
theorem dX9_init_173 : decode cX9_init 173 = .ok (.aload_n 0, 1) := by decide +kernel
theorem dX9_init_174 : decode cX9_init 174 = .ok (.iconst 4, 1) := by decide +kernel
theorem dX9_init_175 : decode cX9_init 175 = .ok (.newarray .int, 2) := by decide +kernel
theorem dX9_init_177 : decode cX9_init 177 = .ok (.putfield 79, 3) := by decide +kernel
theorem dX9_init_180 : decode cX9_init 180 = .ok (.aload_n 0, 1) := by decide +kernel
theorem dX9_init_181 : decode cX9_init 181 = .ok (.iconst 4, 1) := by decide +kernel
theorem dX9_init_182 : decode cX9_init 182 = .ok (.newarray .int, 2) := by decide +kernel
theorem dX9_init_184 : decode cX9_init 184 = .ok (.putfield 82, 3) := by decide +kernel
theorem dX9_init_187 : decode cX9_init 187 = .ok (.aload_n 0, 1) := by decide +kernel
theorem dX9_init_188 : decode cX9_init 188 = .ok (.iconst 4, 1) := by decide +kernel
theorem dX9_init_189 : decode cX9_init 189 = .ok (.newarray .int, 2) := by decide +kernel
theorem dX9_init_191 : decode cX9_init 191 = .ok (.putfield 85, 3) := by decide +kernel
theorem dX9_init_194 : decode cX9_init 194 = .ok (.aload_n 0, 1) := by decide +kernel
theorem dX9_init_195 : decode cX9_init 195 = .ok (.iconst 4, 1) := by decide +kernel
theorem dX9_init_196 : decode cX9_init 196 = .ok (.newarray .int, 2) := by decide +kernel
theorem dX9_init_198 : decode cX9_init 198 = .ok (.putfield 88, 3) := by decide +kernel
theorem dX9_init_201 : decode cX9_init 201 = .ok (.aload_n 0, 1) := by decide +kernel
theorem dX9_init_202 : decode cX9_init 202 = .ok (.iconst 4, 1) := by decide +kernel
theorem dX9_init_203 : decode cX9_init 203 = .ok (.newarray .int, 2) := by decide +kernel
theorem dX9_init_205 : decode cX9_init 205 = .ok (.putfield 91, 3) := by decide +kernel
theorem dX9_init_208 : decode cX9_init 208 = .ok (.aload_n 0, 1) := by decide +kernel
theorem dX9_init_209 : decode cX9_init 209 = .ok (.iconst 4, 1) := by decide +kernel
theorem dX9_init_210 : decode cX9_init 210 = .ok (.newarray .boolean, 2) := by decide +kernel
theorem dX9_init_212 : decode cX9_init 212 = .ok (.putfield 94, 3) := by decide +kernel
theorem dX9_init_215 : decode cX9_init 215 = .ok (.aload_n 0, 1) := by decide +kernel
theorem dX9_init_216 : decode cX9_init 216 = .ok (.iconst 4, 1) := by decide +kernel
theorem dX9_init_217 : decode cX9_init 217 = .ok (.newarray .int, 2) := by decide +kernel
theorem dX9_init_219 : decode cX9_init 219 = .ok (.putfield 97, 3) := by decide +kernel
theorem dX9_init_222 : decode cX9_init 222 = .ok (.aload_n 0, 1) := by decide +kernel
theorem dX9_init_223 : decode cX9_init 223 = .ok (.iconst 4, 1) := by decide +kernel
theorem dX9_init_224 : decode cX9_init 224 = .ok (.newarray .int, 2) := by decide +kernel
theorem dX9_init_226 : decode cX9_init 226 = .ok (.putfield 100, 3) := by decide +kernel
theorem dX9_init_229 : decode cX9_init 229 = .ok (.aload_n 0, 1) := by decide +kernel
theorem dX9_init_230 : decode cX9_init 230 = .ok (.iconst 4, 1) := by decide +kernel
theorem dX9_init_231 : decode cX9_init 231 = .ok (.newarray .int, 2) := by decide +kernel
theorem dX9_init_233 : decode cX9_init 233 = .ok (.putfield 103, 3) := by decide +kernel
theorem dX9_init_236 : decode cX9_init 236 = .ok (.aload_n 0, 1) := by decide +kernel
theorem dX9_init_237 : decode cX9_init 237 = .ok (.iconst 2, 1) := by decide +kernel
theorem dX9_init_238 : decode cX9_init 238 = .ok (.newarray .int, 2) := by decide +kernel
theorem dX9_init_240 : decode cX9_init 240 = .ok (.putfield 106, 3) := by decide +kernel
theorem dX9_init_243 : decode cX9_init 243 = .ok (.aload_n 0, 1) := by decide +kernel
theorem dX9_init_244 : decode cX9_init 244 = .ok (.iconst 2, 1) := by decide +kernel
theorem dX9_init_245 : decode cX9_init 245 = .ok (.newarray .int, 2) := by decide +kernel
theorem dX9_init_247 : decode cX9_init 247 = .ok (.putfield 109, 3) := by decide +kernel
theorem dX9_init_250 : decode cX9_init 250 = .ok (.aload_n 0, 1) := by decide +kernel
theorem dX9_init_251 : decode cX9_init 251 = .ok (.iconst 2, 1) := by decide +kernel
theorem dX9_init_252 : decode cX9_init 252 = .ok (.newarray .int, 2) := by decide +kernel
theorem dX9_init_254 : decode cX9_init 254 = .ok (.putfield 112, 3) := by decide +kernel
theorem dX9_init_257 : decode cX9_init 257 = .ok (.aload_n 0, 1) := by decide +kernel
theorem dX9_init_258 : decode cX9_init 258 = .ok (.iconst 2, 1) := by decide +kernel
theorem dX9_init_259 : decode cX9_init 259 = .ok (.newarray .int, 2) := by decide +kernel
theorem dX9_init_261 : decode cX9_init 261 = .ok (.putfield 115, 3) := by decide +kernel
theorem dX9_init_264 : decode cX9_init 264 = .ok (.iconst 0, 1) := by decide +kernel
theorem dX9_init_265 : decode cX9_init 265 = .ok (.istore_n 1, 1) := by decide +kernel
theorem dX9_init_266 : decode cX9_init 266 = .ok (.iload_n 1, 1) := by decide +kernel
theorem dX9_init_267 : decode cX9_init 267 = .ok (.iconst 2, 1) := by decide +kernel
theorem dX9_init_268 : decode cX9_init 268 = .ok (.if_icmp .ge 37, 3) := by decide +kernel
theorem dX9_init_271 : decode cX9_init 271 = .ok (.aload_n 0, 1) := by decide +kernel
theorem dX9_init_272 : decode cX9_init 272 = .ok (.getfield 16, 3) := by decide +kernel
theorem dX9_init_275 : decode cX9_init 275 = .ok (.iload_n 1, 1) := by decide +kernel
theorem dX9_init_276 : decode cX9_init 276 = .ok (.iconst (-1), 1) := by decide +kernel
theorem dX9_init_277 : decode cX9_init 277 = .ok (.iastore, 1) := by decide +kernel
theorem dX9_init_278 : decode cX9_init 278 = .ok (.aload_n 0, 1) := by decide +kernel
theorem dX9_init_279 : decode cX9_init 279 = .ok (.getfield 20, 3) := by decide +kernel
theorem dX9_init_282 : decode cX9_init 282 = .ok (.iload_n 1, 1) := by decide +kernel
theorem dX9_init_283 : decode cX9_init 283 = .ok (.iconst 1, 1) := by decide +kernel
theorem dX9_init_284 : decode cX9_init 284 = .ok (.bastore, 1) := by decide +kernel
theorem dX9_init_285 : decode cX9_init 285 = .ok (.aload_n 0, 1) := by decide +kernel
theorem dX9_init_286 : decode cX9_init 286 = .ok (.getfield 106, 3) := by decide +kernel
theorem dX9_init_289 : decode cX9_init 289 = .ok (.iload_n 1, 1) := by decide +kernel
theorem dX9_init_290 : decode cX9_init 290 = .ok (.iconst (-1), 1) := by decide +kernel
theorem dX9_init_291 : decode cX9_init 291 = .ok (.iastore, 1) := by decide +kernel
theorem dX9_init_292 : decode cX9_init 292 = .ok (.aload_n 0, 1) := by decide +kernel
theorem dX9_init_293 : decode cX9_init 293 = .ok (.getfield 109, 3) := by decide +kernel
theorem dX9_init_296 : decode cX9_init 296 = .ok (.iload_n 1, 1) := by decide +kernel
theorem dX9_init_297 : decode cX9_init 297 = .ok (.iconst (-1), 1) := by decide +kernel
theorem dX9_init_298 : decode cX9_init 298 = .ok (.iastore, 1) := by decide +kernel
theorem dX9_init_299 : decode cX9_init 299 = .ok (.iinc 1 1, 3) := by decide +kernel
theorem dX9_init_302 : decode cX9_init 302 = .ok (.goto (-36), 3) := by decide +kernel
theorem dX9_init_305 : decode cX9_init 305 = .ok (.iconst 0, 1) := by decide +kernel
theorem dX9_init_306 : decode cX9_init 306 = .ok (.istore_n 1, 1) := by decide +kernel
theorem dX9_init_307 : decode cX9_init 307 = .ok (.iload_n 1, 1) := by decide +kernel
theorem dX9_init_308 : decode cX9_init 308 = .ok (.iconst 4, 1) := by decide +kernel
theorem dX9_init_309 : decode cX9_init 309 = .ok (.if_icmp .ge 23, 3) := by decide +kernel
theorem dX9_init_312 : decode cX9_init 312 = .ok (.aload_n 0, 1) := by decide +kernel
theorem dX9_init_313 : decode cX9_init 313 = .ok (.getfield 91, 3) := by decide +kernel
theorem dX9_init_316 : decode cX9_init 316 = .ok (.iload_n 1, 1) := by decide +kernel
theorem dX9_init_317 : decode cX9_init 317 = .ok (.iconst (-1), 1) := by decide +kernel
theorem dX9_init_318 : decode cX9_init 318 = .ok (.iastore, 1) := by decide +kernel
theorem dX9_init_319 : decode cX9_init 319 = .ok (.aload_n 0, 1) := by decide +kernel
theorem dX9_init_320 : decode cX9_init 320 = .ok (.getfield 70, 3) := by decide +kernel
theorem dX9_init_323 : decode cX9_init 323 = .ok (.iload_n 1, 1) := by decide +kernel
theorem dX9_init_324 : decode cX9_init 324 = .ok (.iconst (-1), 1) := by decide +kernel
theorem dX9_init_325 : decode cX9_init 325 = .ok (.iastore, 1) := by decide +kernel
theorem dX9_init_326 : decode cX9_init 326 = .ok (.iinc 1 1, 3) := by decide +kernel
theorem dX9_init_329 : decode cX9_init 329 = .ok (.goto (-22), 3) := by decide +kernel
theorem dX9_init_332 : decode cX9_init 332 = .ok (.return_, 1) := by decide +kernel
theorem dX9_thrown_0 : decode cX9_thrown 0 = .ok (.aload_n 0, 1) := by decide +kernel
theorem dX9_thrown_1 : decode cX9_thrown 1 = .ok (.getfield 118, 3) := by decide +kernel
theorem dX9_thrown_4 : decode cX9_thrown 4 = .ok (.ireturn, 1) := by decide +kernel
theorem dX9_isCrossing_0 : decode cX9_isCrossing 0 = .ok (.iload_n 0, 1) := by decide +kernel
theorem dX9_isCrossing_1 : decode cX9_isCrossing 1 = .ok (.ifCond .eq 8, 3) := by decide +kernel
theorem dX9_isCrossing_4 : decode cX9_isCrossing 4 = .ok (.iload_n 0, 1) := by decide +kernel
theorem dX9_isCrossing_5 : decode cX9_isCrossing 5 = .ok (.iconst 1, 1) := by decide +kernel
theorem dX9_isCrossing_6 : decode cX9_isCrossing 6 = .ok (.if_icmp .ne 7, 3) := by decide +kernel
theorem dX9_isCrossing_9 : decode cX9_isCrossing 9 = .ok (.iconst 1, 1) := by decide +kernel
theorem dX9_isCrossing_10 : decode cX9_isCrossing 10 = .ok (.goto 4, 3) := by decide +kernel
theorem dX9_isCrossing_13 : decode cX9_isCrossing 13 = .ok (.iconst 0, 1) := by decide +kernel
theorem dX9_isCrossing_14 : decode cX9_isCrossing 14 = .ok (.ireturn, 1) := by decide +kernel
theorem dX9_isPhase_0 : decode cX9_isPhase 0 = .ok (.iload_n 0, 1) := by decide +kernel
theorem dX9_isPhase_1 : decode cX9_isPhase 1 = .ok (.invokestatic 122, 3) := by decide +kernel
theorem dX9_isPhase_4 : decode cX9_isPhase 4 = .ok (.ifCond .eq 17, 3) := by decide +kernel
theorem dX9_isPhase_7 : decode cX9_isPhase 7 = .ok (.iload_n 1, 1) := by decide +kernel
theorem dX9_isPhase_8 : decode cX9_isPhase 8 = .ok (.ifCond .lt 13, 3) := by decide +kernel
theorem dX9_isPhase_11 : decode cX9_isPhase 11 = .ok (.iload_n 1, 1) := by decide +kernel
theorem dX9_isPhase_12 : decode cX9_isPhase 12 = .ok (.bipush 8, 2) := by decide +kernel
theorem dX9_isPhase_14 : decode cX9_isPhase 14 = .ok (.if_icmp .ge 7, 3) := by decide +kernel
theorem dX9_isPhase_17 : decode cX9_isPhase 17 = .ok (.iconst 1, 1) := by decide +kernel
theorem dX9_isPhase_18 : decode cX9_isPhase 18 = .ok (.goto 4, 3) := by decide +kernel
theorem dX9_isPhase_21 : decode cX9_isPhase 21 = .ok (.iconst 0, 1) := by decide +kernel
theorem dX9_isPhase_22 : decode cX9_isPhase 22 = .ok (.ireturn, 1) := by decide +kernel
theorem dX9_sideOf_0 : decode cX9_sideOf 0 = .ok (.iload_n 0, 1) := by decide +kernel
theorem dX9_sideOf_1 : decode cX9_sideOf 1 = .ok (.iconst 4, 1) := by decide +kernel
theorem dX9_sideOf_2 : decode cX9_sideOf 2 = .ok (.irem, 1) := by decide +kernel
theorem dX9_sideOf_3 : decode cX9_sideOf 3 = .ok (.iconst 2, 1) := by decide +kernel
theorem dX9_sideOf_4 : decode cX9_sideOf 4 = .ok (.if_icmp .ge 7, 3) := by decide +kernel
theorem dX9_sideOf_7 : decode cX9_sideOf 7 = .ok (.iconst 0, 1) := by decide +kernel
theorem dX9_sideOf_8 : decode cX9_sideOf 8 = .ok (.goto 4, 3) := by decide +kernel
theorem dX9_sideOf_11 : decode cX9_sideOf 11 = .ok (.iconst 1, 1) := by decide +kernel
theorem dX9_sideOf_12 : decode cX9_sideOf 12 = .ok (.ireturn, 1) := by decide +kernel
theorem dX9_entry_0 : decode cX9_entry 0 = .ok (.aload_n 0, 1) := by decide +kernel
theorem dX9_entry_1 : decode cX9_entry 1 = .ok (.getfield 13, 3) := by decide +kernel
theorem dX9_entry_4 : decode cX9_entry 4 = .ok (.bipush 64, 2) := by decide +kernel
theorem dX9_entry_6 : decode cX9_entry 6 = .ok (.iload_n 1, 1) := by decide +kernel
theorem dX9_entry_7 : decode cX9_entry 7 = .ok (.imul, 1) := by decide +kernel
theorem dX9_entry_8 : decode cX9_entry 8 = .ok (.bipush 8, 2) := by decide +kernel
theorem dX9_entry_10 : decode cX9_entry 10 = .ok (.iload_n 2, 1) := by decide +kernel
theorem dX9_entry_11 : decode cX9_entry 11 = .ok (.imul, 1) := by decide +kernel
theorem dX9_entry_12 : decode cX9_entry 12 = .ok (.iadd, 1) := by decide +kernel
theorem dX9_entry_13 : decode cX9_entry 13 = .ok (.iload_n 3, 1) := by decide +kernel
theorem dX9_entry_14 : decode cX9_entry 14 = .ok (.iadd, 1) := by decide +kernel
theorem dX9_entry_15 : decode cX9_entry 15 = .ok (.saload, 1) := by decide +kernel
theorem dX9_entry_16 : decode cX9_entry 16 = .ok (.ireturn, 1) := by decide +kernel
theorem dX9_ringOf_0 : decode cX9_ringOf 0 = .ok (.iconst 2, 1) := by decide +kernel
theorem dX9_ringOf_1 : decode cX9_ringOf 1 = .ok (.iload_n 0, 1) := by decide +kernel
theorem dX9_ringOf_2 : decode cX9_ringOf 2 = .ok (.imul, 1) := by decide +kernel
theorem dX9_ringOf_3 : decode cX9_ringOf 3 = .ok (.iload_n 1, 1) := by decide +kernel
theorem dX9_ringOf_4 : decode cX9_ringOf 4 = .ok (.iconst 4, 1) := by decide +kernel
theorem dX9_ringOf_5 : decode cX9_ringOf 5 = .ok (.if_icmp .ge 7, 3) := by decide +kernel
theorem dX9_ringOf_8 : decode cX9_ringOf 8 = .ok (.iconst 0, 1) := by decide +kernel
theorem dX9_ringOf_9 : decode cX9_ringOf 9 = .ok (.goto 4, 3) := by decide +kernel
theorem dX9_ringOf_12 : decode cX9_ringOf 12 = .ok (.iconst 1, 1) := by decide +kernel
theorem dX9_ringOf_13 : decode cX9_ringOf 13 = .ok (.iadd, 1) := by decide +kernel
theorem dX9_ringOf_14 : decode cX9_ringOf 14 = .ok (.ireturn, 1) := by decide +kernel
theorem dX9_isGreen_0 : decode cX9_isGreen 0 = .ok (.aload_n 0, 1) := by decide +kernel
theorem dX9_isGreen_1 : decode cX9_isGreen 1 = .ok (.getfield 67, 3) := by decide +kernel
theorem dX9_isGreen_4 : decode cX9_isGreen 4 = .ok (.iload_n 1, 1) := by decide +kernel
theorem dX9_isGreen_5 : decode cX9_isGreen 5 = .ok (.iload_n 2, 1) := by decide +kernel
theorem dX9_isGreen_6 : decode cX9_isGreen 6 = .ok (.invokestatic 126, 3) := by decide +kernel
theorem dX9_isGreen_9 : decode cX9_isGreen 9 = .ok (.iaload, 1) := by decide +kernel
theorem dX9_isGreen_10 : decode cX9_isGreen 10 = .ok (.iconst 1, 1) := by decide +kernel
theorem dX9_isGreen_11 : decode cX9_isGreen 11 = .ok (.if_icmp .ne 21, 3) := by decide +kernel
theorem dX9_isGreen_14 : decode cX9_isGreen 14 = .ok (.aload_n 0, 1) := by decide +kernel
theorem dX9_isGreen_15 : decode cX9_isGreen 15 = .ok (.getfield 70, 3) := by decide +kernel
theorem dX9_isGreen_18 : decode cX9_isGreen 18 = .ok (.iload_n 1, 1) := by decide +kernel
theorem dX9_isGreen_19 : decode cX9_isGreen 19 = .ok (.iload_n 2, 1) := by decide +kernel
theorem dX9_isGreen_20 : decode cX9_isGreen 20 = .ok (.invokestatic 126, 3) := by decide +kernel
theorem dX9_isGreen_23 : decode cX9_isGreen 23 = .ok (.iaload, 1) := by decide +kernel
theorem dX9_isGreen_24 : decode cX9_isGreen 24 = .ok (.iload_n 2, 1) := by decide +kernel
theorem dX9_isGreen_25 : decode cX9_isGreen 25 = .ok (.if_icmp .ne 7, 3) := by decide +kernel
theorem dX9_isGreen_28 : decode cX9_isGreen 28 = .ok (.iconst 1, 1) := by decide +kernel
theorem dX9_isGreen_29 : decode cX9_isGreen 29 = .ok (.goto 4, 3) := by decide +kernel
theorem dX9_isGreen_32 : decode cX9_isGreen 32 = .ok (.iconst 0, 1) := by decide +kernel
theorem dX9_isGreen_33 : decode cX9_isGreen 33 = .ok (.ireturn, 1) := by decide +kernel
theorem dX9_failed_0 : decode cX9_failed 0 = .ok (.aload_n 0, 1) := by decide +kernel
theorem dX9_failed_1 : decode cX9_failed 1 = .ok (.getfield 45, 3) := by decide +kernel
theorem dX9_failed_4 : decode cX9_failed 4 = .ok (.bipush 8, 2) := by decide +kernel
theorem dX9_failed_6 : decode cX9_failed 6 = .ok (.iload_n 1, 1) := by decide +kernel
theorem dX9_failed_7 : decode cX9_failed 7 = .ok (.imul, 1) := by decide +kernel
theorem dX9_failed_8 : decode cX9_failed 8 = .ok (.iload_n 2, 1) := by decide +kernel
theorem dX9_failed_9 : decode cX9_failed 9 = .ok (.iadd, 1) := by decide +kernel
theorem dX9_failed_10 : decode cX9_failed 10 = .ok (.saload, 1) := by decide +kernel
theorem dX9_failed_11 : decode cX9_failed 11 = .ok (.bipush 60, 2) := by decide +kernel
theorem dX9_failed_13 : decode cX9_failed 13 = .ok (.if_icmp .lt 7, 3) := by decide +kernel
theorem dX9_failed_16 : decode cX9_failed 16 = .ok (.iconst 1, 1) := by decide +kernel
theorem dX9_failed_17 : decode cX9_failed 17 = .ok (.goto 4, 3) := by decide +kernel
theorem dX9_failed_20 : decode cX9_failed 20 = .ok (.iconst 0, 1) := by decide +kernel
theorem dX9_failed_21 : decode cX9_failed 21 = .ok (.ireturn, 1) := by decide +kernel
theorem dX9_runs_0 : decode cX9_runs 0 = .ok (.aload_n 0, 1) := by decide +kernel
theorem dX9_runs_1 : decode cX9_runs 1 = .ok (.getfield 20, 3) := by decide +kernel
theorem dX9_runs_4 : decode cX9_runs 4 = .ok (.iload_n 1, 1) := by decide +kernel
theorem dX9_runs_5 : decode cX9_runs 5 = .ok (.baload, 1) := by decide +kernel
theorem dX9_runs_6 : decode cX9_runs 6 = .ok (.ifCond .ne 16, 3) := by decide +kernel
theorem dX9_runs_9 : decode cX9_runs 9 = .ok (.aload_n 0, 1) := by decide +kernel
theorem dX9_runs_10 : decode cX9_runs 10 = .ok (.getfield 24, 3) := by decide +kernel
theorem dX9_runs_13 : decode cX9_runs 13 = .ok (.iload_n 1, 1) := by decide +kernel
theorem dX9_runs_14 : decode cX9_runs 14 = .ok (.iaload, 1) := by decide +kernel
theorem dX9_runs_15 : decode cX9_runs 15 = .ok (.ifCond .ne 7, 3) := by decide +kernel
theorem dX9_runs_18 : decode cX9_runs 18 = .ok (.iconst 1, 1) := by decide +kernel
theorem dX9_runs_19 : decode cX9_runs 19 = .ok (.goto 4, 3) := by decide +kernel
theorem dX9_runs_22 : decode cX9_runs 22 = .ok (.iconst 0, 1) := by decide +kernel
theorem dX9_runs_23 : decode cX9_runs 23 = .ok (.ireturn, 1) := by decide +kernel
theorem dX9_put_0 : decode cX9_put 0 = .ok (.aload_n 0, 1) := by decide +kernel
theorem dX9_put_1 : decode cX9_put 1 = .ok (.iconst 0, 1) := by decide +kernel
theorem dX9_put_2 : decode cX9_put 2 = .ok (.putfield 118, 3) := by decide +kernel
theorem dX9_put_5 : decode cX9_put 5 = .ok (.iload_n 1, 1) := by decide +kernel
theorem dX9_put_6 : decode cX9_put 6 = .ok (.iload_n 2, 1) := by decide +kernel
theorem dX9_put_7 : decode cX9_put 7 = .ok (.invokestatic 130, 3) := by decide +kernel
theorem dX9_put_10 : decode cX9_put 10 = .ok (.ifCond .eq 25, 3) := by decide +kernel
theorem dX9_put_13 : decode cX9_put 13 = .ok (.iload_n 3, 1) := by decide +kernel
theorem dX9_put_14 : decode cX9_put 14 = .ok (.ifCond .lt 21, 3) := by decide +kernel
theorem dX9_put_17 : decode cX9_put 17 = .ok (.iload_n 3, 1) := by decide +kernel
theorem dX9_put_18 : decode cX9_put 18 = .ok (.bipush 7, 2) := by decide +kernel
theorem dX9_put_20 : decode cX9_put 20 = .ok (.if_icmp .gt 15, 3) := by decide +kernel
theorem dX9_put_23 : decode cX9_put 23 = .ok (.iload 4, 2) := by decide +kernel
theorem dX9_put_25 : decode cX9_put 25 = .ok (.ifCond .lt 10, 3) := by decide +kernel
theorem dX9_put_28 : decode cX9_put 28 = .ok (.iload 4, 2) := by decide +kernel
theorem dX9_put_30 : decode cX9_put 30 = .ok (.bipush 99, 2) := by decide +kernel
theorem dX9_put_32 : decode cX9_put 32 = .ok (.if_icmp .le 5, 3) := by decide +kernel
theorem dX9_put_35 : decode cX9_put 35 = .ok (.iconst 0, 1) := by decide +kernel
theorem dX9_put_36 : decode cX9_put 36 = .ok (.ireturn, 1) := by decide +kernel
theorem dX9_put_37 : decode cX9_put 37 = .ok (.aload_n 0, 1) := by decide +kernel
theorem dX9_put_38 : decode cX9_put 38 = .ok (.getfield 7, 3) := by decide +kernel
theorem dX9_put_41 : decode cX9_put 41 = .ok (.bipush 64, 2) := by decide +kernel
theorem dX9_put_43 : decode cX9_put 43 = .ok (.iload_n 1, 1) := by decide +kernel
theorem dX9_put_44 : decode cX9_put 44 = .ok (.imul, 1) := by decide +kernel
theorem dX9_put_45 : decode cX9_put 45 = .ok (.bipush 8, 2) := by decide +kernel
theorem dX9_put_47 : decode cX9_put 47 = .ok (.iload_n 2, 1) := by decide +kernel
theorem dX9_put_48 : decode cX9_put 48 = .ok (.imul, 1) := by decide +kernel
theorem dX9_put_49 : decode cX9_put 49 = .ok (.iadd, 1) := by decide +kernel
theorem dX9_put_50 : decode cX9_put 50 = .ok (.iload_n 3, 1) := by decide +kernel
theorem dX9_put_51 : decode cX9_put 51 = .ok (.iadd, 1) := by decide +kernel
theorem dX9_put_52 : decode cX9_put 52 = .ok (.iload 4, 2) := by decide +kernel
theorem dX9_put_54 : decode cX9_put 54 = .ok (.i2s, 1) := by decide +kernel
theorem dX9_put_55 : decode cX9_put 55 = .ok (.sastore, 1) := by decide +kernel
theorem dX9_put_56 : decode cX9_put 56 = .ok (.iconst 1, 1) := by decide +kernel
theorem dX9_put_57 : decode cX9_put 57 = .ok (.ireturn, 1) := by decide +kernel
theorem dX9_isWrong_0 : decode cX9_isWrong 0 = .ok (.aload_n 0, 1) := by decide +kernel
theorem dX9_isWrong_1 : decode cX9_isWrong 1 = .ok (.getfield 7, 3) := by decide +kernel
theorem dX9_isWrong_4 : decode cX9_isWrong 4 = .ok (.iload_n 1, 1) := by decide +kernel
theorem dX9_isWrong_5 : decode cX9_isWrong 5 = .ok (.iload_n 2, 1) := by decide +kernel
theorem dX9_isWrong_6 : decode cX9_isWrong 6 = .ok (.iadd, 1) := by decide +kernel
theorem dX9_isWrong_7 : decode cX9_isWrong 7 = .ok (.saload, 1) := by decide +kernel
theorem dX9_isWrong_8 : decode cX9_isWrong 8 = .ok (.istore_n 3, 1) := by decide +kernel
theorem dX9_isWrong_9 : decode cX9_isWrong 9 = .ok (.aload_n 0, 1) := by decide +kernel
theorem dX9_isWrong_10 : decode cX9_isWrong 10 = .ok (.getfield 7, 3) := by decide +kernel
theorem dX9_isWrong_13 : decode cX9_isWrong 13 = .ok (.iload_n 1, 1) := by decide +kernel
theorem dX9_isWrong_14 : decode cX9_isWrong 14 = .ok (.iconst 5, 1) := by decide +kernel
theorem dX9_isWrong_15 : decode cX9_isWrong 15 = .ok (.iadd, 1) := by decide +kernel
theorem dX9_isWrong_16 : decode cX9_isWrong 16 = .ok (.saload, 1) := by decide +kernel
theorem dX9_isWrong_17 : decode cX9_isWrong 17 = .ok (.istore 4, 2) := by decide +kernel
theorem dX9_isWrong_19 : decode cX9_isWrong 19 = .ok (.iload_n 2, 1) := by decide +kernel
theorem dX9_isWrong_20 : decode cX9_isWrong 20 = .ok (.tableswitch 163 0 6 #[44, 56, 68, 90, 107, 118, 130], 44) := by decide +kernel
theorem dX9_isWrong_64 : decode cX9_isWrong 64 = .ok (.iload_n 3, 1) := by decide +kernel
theorem dX9_isWrong_65 : decode cX9_isWrong 65 = .ok (.bipush 30, 2) := by decide +kernel
theorem dX9_isWrong_67 : decode cX9_isWrong 67 = .ok (.if_icmp .le 7, 3) := by decide +kernel
theorem dX9_isWrong_70 : decode cX9_isWrong 70 = .ok (.iconst 1, 1) := by decide +kernel
theorem dX9_isWrong_71 : decode cX9_isWrong 71 = .ok (.goto 4, 3) := by decide +kernel
theorem dX9_isWrong_74 : decode cX9_isWrong 74 = .ok (.iconst 0, 1) := by decide +kernel
theorem dX9_isWrong_75 : decode cX9_isWrong 75 = .ok (.ireturn, 1) := by decide +kernel
theorem dX9_isWrong_76 : decode cX9_isWrong 76 = .ok (.iload_n 3, 1) := by decide +kernel
theorem dX9_isWrong_77 : decode cX9_isWrong 77 = .ok (.bipush 10, 2) := by decide +kernel
theorem dX9_isWrong_79 : decode cX9_isWrong 79 = .ok (.if_icmp .le 7, 3) := by decide +kernel
theorem dX9_isWrong_82 : decode cX9_isWrong 82 = .ok (.iconst 1, 1) := by decide +kernel
theorem dX9_isWrong_83 : decode cX9_isWrong 83 = .ok (.goto 4, 3) := by decide +kernel
theorem dX9_isWrong_86 : decode cX9_isWrong 86 = .ok (.iconst 0, 1) := by decide +kernel
theorem dX9_isWrong_87 : decode cX9_isWrong 87 = .ok (.ireturn, 1) := by decide +kernel
theorem dX9_isWrong_88 : decode cX9_isWrong 88 = .ok (.iload_n 3, 1) := by decide +kernel
theorem dX9_isWrong_89 : decode cX9_isWrong 89 = .ok (.aload_n 0, 1) := by decide +kernel
theorem dX9_isWrong_90 : decode cX9_isWrong 90 = .ok (.getfield 7, 3) := by decide +kernel
theorem dX9_isWrong_93 : decode cX9_isWrong 93 = .ok (.iload_n 1, 1) := by decide +kernel
theorem dX9_isWrong_94 : decode cX9_isWrong 94 = .ok (.saload, 1) := by decide +kernel
theorem dX9_isWrong_95 : decode cX9_isWrong 95 = .ok (.if_icmp .lt 9, 3) := by decide +kernel
theorem dX9_isWrong_98 : decode cX9_isWrong 98 = .ok (.iload_n 3, 1) := by decide +kernel
theorem dX9_isWrong_99 : decode cX9_isWrong 99 = .ok (.bipush 60, 2) := by decide +kernel
theorem dX9_isWrong_101 : decode cX9_isWrong 101 = .ok (.if_icmp .le 7, 3) := by decide +kernel
theorem dX9_isWrong_104 : decode cX9_isWrong 104 = .ok (.iconst 1, 1) := by decide +kernel
theorem dX9_isWrong_105 : decode cX9_isWrong 105 = .ok (.goto 4, 3) := by decide +kernel
theorem dX9_isWrong_108 : decode cX9_isWrong 108 = .ok (.iconst 0, 1) := by decide +kernel
theorem dX9_isWrong_109 : decode cX9_isWrong 109 = .ok (.ireturn, 1) := by decide +kernel
theorem dX9_isWrong_110 : decode cX9_isWrong 110 = .ok (.iload_n 3, 1) := by decide +kernel
theorem dX9_isWrong_111 : decode cX9_isWrong 111 = .ok (.iconst 3, 1) := by decide +kernel
theorem dX9_isWrong_112 : decode cX9_isWrong 112 = .ok (.if_icmp .lt 9, 3) := by decide +kernel
theorem dX9_isWrong_115 : decode cX9_isWrong 115 = .ok (.iload_n 3, 1) := by decide +kernel
theorem dX9_isWrong_116 : decode cX9_isWrong 116 = .ok (.bipush 6, 2) := by decide +kernel
theorem dX9_isWrong_118 : decode cX9_isWrong 118 = .ok (.if_icmp .le 7, 3) := by decide +kernel
theorem dX9_isWrong_121 : decode cX9_isWrong 121 = .ok (.iconst 1, 1) := by decide +kernel
theorem dX9_isWrong_122 : decode cX9_isWrong 122 = .ok (.goto 4, 3) := by decide +kernel
theorem dX9_isWrong_125 : decode cX9_isWrong 125 = .ok (.iconst 0, 1) := by decide +kernel
theorem dX9_isWrong_126 : decode cX9_isWrong 126 = .ok (.ireturn, 1) := by decide +kernel
theorem dX9_isWrong_127 : decode cX9_isWrong 127 = .ok (.iload_n 3, 1) := by decide +kernel
theorem dX9_isWrong_128 : decode cX9_isWrong 128 = .ok (.iconst 4, 1) := by decide +kernel
theorem dX9_isWrong_129 : decode cX9_isWrong 129 = .ok (.if_icmp .le 7, 3) := by decide +kernel
theorem dX9_isWrong_132 : decode cX9_isWrong 132 = .ok (.iconst 1, 1) := by decide +kernel
theorem dX9_isWrong_133 : decode cX9_isWrong 133 = .ok (.goto 4, 3) := by decide +kernel
theorem dX9_isWrong_136 : decode cX9_isWrong 136 = .ok (.iconst 0, 1) := by decide +kernel
theorem dX9_isWrong_137 : decode cX9_isWrong 137 = .ok (.ireturn, 1) := by decide +kernel
theorem dX9_isWrong_138 : decode cX9_isWrong 138 = .ok (.iload_n 3, 1) := by decide +kernel
theorem dX9_isWrong_139 : decode cX9_isWrong 139 = .ok (.bipush 20, 2) := by decide +kernel
theorem dX9_isWrong_141 : decode cX9_isWrong 141 = .ok (.if_icmp .le 7, 3) := by decide +kernel
theorem dX9_isWrong_144 : decode cX9_isWrong 144 = .ok (.iconst 1, 1) := by decide +kernel
theorem dX9_isWrong_145 : decode cX9_isWrong 145 = .ok (.goto 4, 3) := by decide +kernel
theorem dX9_isWrong_148 : decode cX9_isWrong 148 = .ok (.iconst 0, 1) := by decide +kernel
theorem dX9_isWrong_149 : decode cX9_isWrong 149 = .ok (.ireturn, 1) := by decide +kernel
theorem dX9_isWrong_150 : decode cX9_isWrong 150 = .ok (.iload 4, 2) := by decide +kernel
theorem dX9_isWrong_152 : decode cX9_isWrong 152 = .ok (.ifCond .ne 15, 3) := by decide +kernel
theorem dX9_isWrong_155 : decode cX9_isWrong 155 = .ok (.iload_n 3, 1) := by decide +kernel
theorem dX9_isWrong_156 : decode cX9_isWrong 156 = .ok (.ifCond .eq 7, 3) := by decide +kernel
theorem dX9_isWrong_159 : decode cX9_isWrong 159 = .ok (.iconst 1, 1) := by decide +kernel
theorem dX9_isWrong_160 : decode cX9_isWrong 160 = .ok (.goto 22, 3) := by decide +kernel
theorem dX9_isWrong_163 : decode cX9_isWrong 163 = .ok (.iconst 0, 1) := by decide +kernel
theorem dX9_isWrong_164 : decode cX9_isWrong 164 = .ok (.goto 18, 3) := by decide +kernel
theorem dX9_isWrong_167 : decode cX9_isWrong 167 = .ok (.iload_n 3, 1) := by decide +kernel
theorem dX9_isWrong_168 : decode cX9_isWrong 168 = .ok (.ifCond .eq 9, 3) := by decide +kernel
theorem dX9_isWrong_171 : decode cX9_isWrong 171 = .ok (.iload_n 3, 1) := by decide +kernel
theorem dX9_isWrong_172 : decode cX9_isWrong 172 = .ok (.bipush 20, 2) := by decide +kernel
theorem dX9_isWrong_174 : decode cX9_isWrong 174 = .ok (.if_icmp .le 7, 3) := by decide +kernel
theorem dX9_isWrong_177 : decode cX9_isWrong 177 = .ok (.iconst 1, 1) := by decide +kernel
theorem dX9_isWrong_178 : decode cX9_isWrong 178 = .ok (.goto 4, 3) := by decide +kernel
theorem dX9_isWrong_181 : decode cX9_isWrong 181 = .ok (.iconst 0, 1) := by decide +kernel
theorem dX9_isWrong_182 : decode cX9_isWrong 182 = .ok (.ireturn, 1) := by decide +kernel
theorem dX9_isWrong_183 : decode cX9_isWrong 183 = .ok (.iload_n 3, 1) := by decide +kernel
theorem dX9_isWrong_184 : decode cX9_isWrong 184 = .ok (.iconst 3, 1) := by decide +kernel
theorem dX9_isWrong_185 : decode cX9_isWrong 185 = .ok (.if_icmp .gt 13, 3) := by decide +kernel
theorem dX9_isWrong_188 : decode cX9_isWrong 188 = .ok (.iload_n 3, 1) := by decide +kernel
theorem dX9_isWrong_189 : decode cX9_isWrong 189 = .ok (.iconst 3, 1) := by decide +kernel
theorem dX9_isWrong_190 : decode cX9_isWrong 190 = .ok (.if_icmp .ne 12, 3) := by decide +kernel
theorem dX9_isWrong_193 : decode cX9_isWrong 193 = .ok (.iload 4, 2) := by decide +kernel
theorem dX9_isWrong_195 : decode cX9_isWrong 195 = .ok (.ifCond .ne 7, 3) := by decide +kernel
theorem dX9_isWrong_198 : decode cX9_isWrong 198 = .ok (.iconst 1, 1) := by decide +kernel
theorem dX9_isWrong_199 : decode cX9_isWrong 199 = .ok (.goto 4, 3) := by decide +kernel
theorem dX9_isWrong_202 : decode cX9_isWrong 202 = .ok (.iconst 0, 1) := by decide +kernel
theorem dX9_isWrong_203 : decode cX9_isWrong 203 = .ok (.ireturn, 1) := by decide +kernel
theorem dX9_wrongPlace_0 : decode cX9_wrongPlace 0 = .ok (.iconst 0, 1) := by decide +kernel
theorem dX9_wrongPlace_1 : decode cX9_wrongPlace 1 = .ok (.istore_n 2, 1) := by decide +kernel
theorem dX9_wrongPlace_2 : decode cX9_wrongPlace 2 = .ok (.iconst 0, 1) := by decide +kernel
theorem dX9_wrongPlace_3 : decode cX9_wrongPlace 3 = .ok (.istore_n 3, 1) := by decide +kernel
theorem dX9_wrongPlace_4 : decode cX9_wrongPlace 4 = .ok (.iconst 0, 1) := by decide +kernel
theorem dX9_wrongPlace_5 : decode cX9_wrongPlace 5 = .ok (.istore 4, 2) := by decide +kernel
theorem dX9_wrongPlace_7 : decode cX9_wrongPlace 7 = .ok (.iload 4, 2) := by decide +kernel
theorem dX9_wrongPlace_9 : decode cX9_wrongPlace 9 = .ok (.bipush 8, 2) := by decide +kernel
theorem dX9_wrongPlace_11 : decode cX9_wrongPlace 11 = .ok (.if_icmp .ge 85, 3) := by decide +kernel
theorem dX9_wrongPlace_14 : decode cX9_wrongPlace 14 = .ok (.bipush 64, 2) := by decide +kernel
theorem dX9_wrongPlace_16 : decode cX9_wrongPlace 16 = .ok (.iload_n 1, 1) := by decide +kernel
theorem dX9_wrongPlace_17 : decode cX9_wrongPlace 17 = .ok (.imul, 1) := by decide +kernel
theorem dX9_wrongPlace_18 : decode cX9_wrongPlace 18 = .ok (.bipush 8, 2) := by decide +kernel
theorem dX9_wrongPlace_20 : decode cX9_wrongPlace 20 = .ok (.iload 4, 2) := by decide +kernel
theorem dX9_wrongPlace_22 : decode cX9_wrongPlace 22 = .ok (.imul, 1) := by decide +kernel
theorem dX9_wrongPlace_23 : decode cX9_wrongPlace 23 = .ok (.iadd, 1) := by decide +kernel
theorem dX9_wrongPlace_24 : decode cX9_wrongPlace 24 = .ok (.istore 5, 2) := by decide +kernel
theorem dX9_wrongPlace_26 : decode cX9_wrongPlace 26 = .ok (.aload_n 0, 1) := by decide +kernel
theorem dX9_wrongPlace_27 : decode cX9_wrongPlace 27 = .ok (.getfield 7, 3) := by decide +kernel
theorem dX9_wrongPlace_30 : decode cX9_wrongPlace 30 = .ok (.iload 5, 2) := by decide +kernel
theorem dX9_wrongPlace_32 : decode cX9_wrongPlace 32 = .ok (.saload, 1) := by decide +kernel
theorem dX9_wrongPlace_33 : decode cX9_wrongPlace 33 = .ok (.ifCond .ne 6, 3) := by decide +kernel
theorem dX9_wrongPlace_36 : decode cX9_wrongPlace 36 = .ok (.goto 54, 3) := by decide +kernel
theorem dX9_wrongPlace_39 : decode cX9_wrongPlace 39 = .ok (.iconst 0, 1) := by decide +kernel
theorem dX9_wrongPlace_40 : decode cX9_wrongPlace 40 = .ok (.istore 6, 2) := by decide +kernel
theorem dX9_wrongPlace_42 : decode cX9_wrongPlace 42 = .ok (.iload 6, 2) := by decide +kernel
theorem dX9_wrongPlace_44 : decode cX9_wrongPlace 44 = .ok (.bipush 8, 2) := by decide +kernel
theorem dX9_wrongPlace_46 : decode cX9_wrongPlace 46 = .ok (.if_icmp .ge 29, 3) := by decide +kernel
theorem dX9_wrongPlace_49 : decode cX9_wrongPlace 49 = .ok (.aload_n 0, 1) := by decide +kernel
theorem dX9_wrongPlace_50 : decode cX9_wrongPlace 50 = .ok (.iload 5, 2) := by decide +kernel
theorem dX9_wrongPlace_52 : decode cX9_wrongPlace 52 = .ok (.iload 6, 2) := by decide +kernel
theorem dX9_wrongPlace_54 : decode cX9_wrongPlace 54 = .ok (.invokevirtual 134, 3) := by decide +kernel
theorem dX9_wrongPlace_57 : decode cX9_wrongPlace 57 = .ok (.ifCond .eq 12, 3) := by decide +kernel
theorem dX9_wrongPlace_60 : decode cX9_wrongPlace 60 = .ok (.bipush 8, 2) := by decide +kernel
theorem dX9_wrongPlace_62 : decode cX9_wrongPlace 62 = .ok (.iload 4, 2) := by decide +kernel
theorem dX9_wrongPlace_64 : decode cX9_wrongPlace 64 = .ok (.imul, 1) := by decide +kernel
theorem dX9_wrongPlace_65 : decode cX9_wrongPlace 65 = .ok (.iload 6, 2) := by decide +kernel
theorem dX9_wrongPlace_67 : decode cX9_wrongPlace 67 = .ok (.iadd, 1) := by decide +kernel
theorem dX9_wrongPlace_68 : decode cX9_wrongPlace 68 = .ok (.ireturn, 1) := by decide +kernel
theorem dX9_wrongPlace_69 : decode cX9_wrongPlace 69 = .ok (.iinc 6 1, 3) := by decide +kernel
theorem dX9_wrongPlace_72 : decode cX9_wrongPlace 72 = .ok (.goto (-30), 3) := by decide +kernel
theorem dX9_wrongPlace_75 : decode cX9_wrongPlace 75 = .ok (.iload 4, 2) := by decide +kernel
theorem dX9_wrongPlace_77 : decode cX9_wrongPlace 77 = .ok (.invokestatic 137, 3) := by decide +kernel
theorem dX9_wrongPlace_80 : decode cX9_wrongPlace 80 = .ok (.ifCond .ne 8, 3) := by decide +kernel
theorem dX9_wrongPlace_83 : decode cX9_wrongPlace 83 = .ok (.iconst 1, 1) := by decide +kernel
theorem dX9_wrongPlace_84 : decode cX9_wrongPlace 84 = .ok (.istore_n 2, 1) := by decide +kernel
theorem dX9_wrongPlace_85 : decode cX9_wrongPlace 85 = .ok (.goto 5, 3) := by decide +kernel
theorem dX9_wrongPlace_88 : decode cX9_wrongPlace 88 = .ok (.iconst 1, 1) := by decide +kernel
theorem dX9_wrongPlace_89 : decode cX9_wrongPlace 89 = .ok (.istore_n 3, 1) := by decide +kernel
theorem dX9_wrongPlace_90 : decode cX9_wrongPlace 90 = .ok (.iinc 4 1, 3) := by decide +kernel
theorem dX9_wrongPlace_93 : decode cX9_wrongPlace 93 = .ok (.goto (-86), 3) := by decide +kernel
theorem dX9_wrongPlace_96 : decode cX9_wrongPlace 96 = .ok (.iload_n 2, 1) := by decide +kernel
theorem dX9_wrongPlace_97 : decode cX9_wrongPlace 97 = .ok (.ifCond .ne 8, 3) := by decide +kernel
theorem dX9_wrongPlace_100 : decode cX9_wrongPlace 100 = .ok (.bipush 64, 2) := by decide +kernel
theorem dX9_wrongPlace_102 : decode cX9_wrongPlace 102 = .ok (.goto 13, 3) := by decide +kernel
theorem dX9_wrongPlace_105 : decode cX9_wrongPlace 105 = .ok (.iload_n 3, 1) := by decide +kernel
theorem dX9_wrongPlace_106 : decode cX9_wrongPlace 106 = .ok (.ifCond .ne 8, 3) := by decide +kernel
theorem dX9_wrongPlace_109 : decode cX9_wrongPlace 109 = .ok (.bipush 65, 2) := by decide +kernel
theorem dX9_wrongPlace_111 : decode cX9_wrongPlace 111 = .ok (.goto 4, 3) := by decide +kernel
theorem dX9_wrongPlace_114 : decode cX9_wrongPlace 114 = .ok (.iconst (-1), 1) := by decide +kernel
theorem dX9_wrongPlace_115 : decode cX9_wrongPlace 115 = .ok (.ireturn, 1) := by decide +kernel
theorem dX9_enact_0 : decode cX9_enact 0 = .ok (.aload_n 0, 1) := by decide +kernel
theorem dX9_enact_1 : decode cX9_enact 1 = .ok (.iload_n 1, 1) := by decide +kernel
theorem dX9_enact_2 : decode cX9_enact 2 = .ok (.invokestatic 122, 3) := by decide +kernel
theorem dX9_enact_5 : decode cX9_enact 5 = .ok (.ifCond .eq 7, 3) := by decide +kernel
theorem dX9_enact_8 : decode cX9_enact 8 = .ok (.iconst 0, 1) := by decide +kernel
theorem dX9_enact_9 : decode cX9_enact 9 = .ok (.goto 4, 3) := by decide +kernel
theorem dX9_enact_12 : decode cX9_enact 12 = .ok (.iconst 1, 1) := by decide +kernel
theorem dX9_enact_13 : decode cX9_enact 13 = .ok (.putfield 118, 3) := by decide +kernel
theorem dX9_enact_16 : decode cX9_enact 16 = .ok (.aload_n 0, 1) := by decide +kernel
theorem dX9_enact_17 : decode cX9_enact 17 = .ok (.getfield 118, 3) := by decide +kernel
theorem dX9_enact_20 : decode cX9_enact 20 = .ok (.ifCond .eq 5, 3) := by decide +kernel
theorem dX9_enact_23 : decode cX9_enact 23 = .ok (.iconst 0, 1) := by decide +kernel
theorem dX9_enact_24 : decode cX9_enact 24 = .ok (.ireturn, 1) := by decide +kernel
theorem dX9_enact_25 : decode cX9_enact 25 = .ok (.aload_n 0, 1) := by decide +kernel
theorem dX9_enact_26 : decode cX9_enact 26 = .ok (.getfield 16, 3) := by decide +kernel
theorem dX9_enact_29 : decode cX9_enact 29 = .ok (.iload_n 1, 1) := by decide +kernel
theorem dX9_enact_30 : decode cX9_enact 30 = .ok (.aload_n 0, 1) := by decide +kernel
theorem dX9_enact_31 : decode cX9_enact 31 = .ok (.iload_n 1, 1) := by decide +kernel
theorem dX9_enact_32 : decode cX9_enact 32 = .ok (.invokevirtual 141, 3) := by decide +kernel
theorem dX9_enact_35 : decode cX9_enact 35 = .ok (.iastore, 1) := by decide +kernel
theorem dX9_enact_36 : decode cX9_enact 36 = .ok (.aload_n 0, 1) := by decide +kernel
theorem dX9_enact_37 : decode cX9_enact 37 = .ok (.getfield 16, 3) := by decide +kernel
theorem dX9_enact_40 : decode cX9_enact 40 = .ok (.iload_n 1, 1) := by decide +kernel
theorem dX9_enact_41 : decode cX9_enact 41 = .ok (.iaload, 1) := by decide +kernel
theorem dX9_enact_42 : decode cX9_enact 42 = .ok (.iconst (-1), 1) := by decide +kernel
theorem dX9_enact_43 : decode cX9_enact 43 = .ok (.if_icmp .eq 10, 3) := by decide +kernel
theorem dX9_enact_46 : decode cX9_enact 46 = .ok (.aload_n 0, 1) := by decide +kernel
theorem dX9_enact_47 : decode cX9_enact 47 = .ok (.iconst 2, 1) := by decide +kernel
theorem dX9_enact_48 : decode cX9_enact 48 = .ok (.putfield 118, 3) := by decide +kernel
theorem dX9_enact_51 : decode cX9_enact 51 = .ok (.iconst 0, 1) := by decide +kernel
theorem dX9_enact_52 : decode cX9_enact 52 = .ok (.ireturn, 1) := by decide +kernel
theorem dX9_enact_53 : decode cX9_enact 53 = .ok (.iconst 0, 1) := by decide +kernel
theorem dX9_enact_54 : decode cX9_enact 54 = .ok (.istore_n 2, 1) := by decide +kernel
theorem dX9_enact_55 : decode cX9_enact 55 = .ok (.iconst 0, 1) := by decide +kernel
theorem dX9_enact_56 : decode cX9_enact 56 = .ok (.istore_n 3, 1) := by decide +kernel
theorem dX9_enact_57 : decode cX9_enact 57 = .ok (.iload_n 3, 1) := by decide +kernel
theorem dX9_enact_58 : decode cX9_enact 58 = .ok (.bipush 8, 2) := by decide +kernel
theorem dX9_enact_60 : decode cX9_enact 60 = .ok (.if_icmp .ge 100, 3) := by decide +kernel
theorem dX9_enact_63 : decode cX9_enact 63 = .ok (.bipush 64, 2) := by decide +kernel
theorem dX9_enact_65 : decode cX9_enact 65 = .ok (.iload_n 1, 1) := by decide +kernel
theorem dX9_enact_66 : decode cX9_enact 66 = .ok (.imul, 1) := by decide +kernel
theorem dX9_enact_67 : decode cX9_enact 67 = .ok (.bipush 8, 2) := by decide +kernel
theorem dX9_enact_69 : decode cX9_enact 69 = .ok (.iload_n 3, 1) := by decide +kernel
theorem dX9_enact_70 : decode cX9_enact 70 = .ok (.imul, 1) := by decide +kernel
theorem dX9_enact_71 : decode cX9_enact 71 = .ok (.iadd, 1) := by decide +kernel
theorem dX9_enact_72 : decode cX9_enact 72 = .ok (.istore 4, 2) := by decide +kernel
theorem dX9_enact_74 : decode cX9_enact 74 = .ok (.iload 4, 2) := by decide +kernel
theorem dX9_enact_76 : decode cX9_enact 76 = .ok (.bipush 64, 2) := by decide +kernel
theorem dX9_enact_78 : decode cX9_enact 78 = .ok (.iload_n 1, 1) := by decide +kernel
theorem dX9_enact_79 : decode cX9_enact 79 = .ok (.imul, 1) := by decide +kernel
theorem dX9_enact_80 : decode cX9_enact 80 = .ok (.bipush 8, 2) := by decide +kernel
theorem dX9_enact_82 : decode cX9_enact 82 = .ok (.iload_n 3, 1) := by decide +kernel
theorem dX9_enact_83 : decode cX9_enact 83 = .ok (.imul, 1) := by decide +kernel
theorem dX9_enact_84 : decode cX9_enact 84 = .ok (.iadd, 1) := by decide +kernel
theorem dX9_enact_85 : decode cX9_enact 85 = .ok (.bipush 8, 2) := by decide +kernel
theorem dX9_enact_87 : decode cX9_enact 87 = .ok (.iadd, 1) := by decide +kernel
theorem dX9_enact_88 : decode cX9_enact 88 = .ok (.if_icmp .ge 23, 3) := by decide +kernel
theorem dX9_enact_91 : decode cX9_enact 91 = .ok (.aload_n 0, 1) := by decide +kernel
theorem dX9_enact_92 : decode cX9_enact 92 = .ok (.getfield 13, 3) := by decide +kernel
theorem dX9_enact_95 : decode cX9_enact 95 = .ok (.iload 4, 2) := by decide +kernel
theorem dX9_enact_97 : decode cX9_enact 97 = .ok (.aload_n 0, 1) := by decide +kernel
theorem dX9_enact_98 : decode cX9_enact 98 = .ok (.getfield 7, 3) := by decide +kernel
theorem dX9_enact_101 : decode cX9_enact 101 = .ok (.iload 4, 2) := by decide +kernel
theorem dX9_enact_103 : decode cX9_enact 103 = .ok (.saload, 1) := by decide +kernel
theorem dX9_enact_104 : decode cX9_enact 104 = .ok (.sastore, 1) := by decide +kernel
theorem dX9_enact_105 : decode cX9_enact 105 = .ok (.iinc 4 1, 3) := by decide +kernel
theorem dX9_enact_108 : decode cX9_enact 108 = .ok (.goto (-34), 3) := by decide +kernel
theorem dX9_enact_111 : decode cX9_enact 111 = .ok (.aload_n 0, 1) := by decide +kernel
theorem dX9_enact_112 : decode cX9_enact 112 = .ok (.getfield 33, 3) := by decide +kernel
theorem dX9_enact_115 : decode cX9_enact 115 = .ok (.bipush 8, 2) := by decide +kernel
theorem dX9_enact_117 : decode cX9_enact 117 = .ok (.iload_n 1, 1) := by decide +kernel
theorem dX9_enact_118 : decode cX9_enact 118 = .ok (.imul, 1) := by decide +kernel
theorem dX9_enact_119 : decode cX9_enact 119 = .ok (.iload_n 3, 1) := by decide +kernel
theorem dX9_enact_120 : decode cX9_enact 120 = .ok (.iadd, 1) := by decide +kernel
theorem dX9_enact_121 : decode cX9_enact 121 = .ok (.aload_n 0, 1) := by decide +kernel
theorem dX9_enact_122 : decode cX9_enact 122 = .ok (.iload_n 1, 1) := by decide +kernel
theorem dX9_enact_123 : decode cX9_enact 123 = .ok (.iload_n 3, 1) := by decide +kernel
theorem dX9_enact_124 : decode cX9_enact 124 = .ok (.iconst 0, 1) := by decide +kernel
theorem dX9_enact_125 : decode cX9_enact 125 = .ok (.invokevirtual 144, 3) := by decide +kernel
theorem dX9_enact_128 : decode cX9_enact 128 = .ok (.ifCond .le 7, 3) := by decide +kernel
theorem dX9_enact_131 : decode cX9_enact 131 = .ok (.iconst 1, 1) := by decide +kernel
theorem dX9_enact_132 : decode cX9_enact 132 = .ok (.goto 4, 3) := by decide +kernel
theorem dX9_enact_135 : decode cX9_enact 135 = .ok (.iconst 0, 1) := by decide +kernel
theorem dX9_enact_136 : decode cX9_enact 136 = .ok (.bastore, 1) := by decide +kernel
theorem dX9_enact_137 : decode cX9_enact 137 = .ok (.aload_n 0, 1) := by decide +kernel
theorem dX9_enact_138 : decode cX9_enact 138 = .ok (.getfield 33, 3) := by decide +kernel
theorem dX9_enact_141 : decode cX9_enact 141 = .ok (.bipush 8, 2) := by decide +kernel
theorem dX9_enact_143 : decode cX9_enact 143 = .ok (.iload_n 1, 1) := by decide +kernel
theorem dX9_enact_144 : decode cX9_enact 144 = .ok (.imul, 1) := by decide +kernel
theorem dX9_enact_145 : decode cX9_enact 145 = .ok (.iload_n 3, 1) := by decide +kernel
theorem dX9_enact_146 : decode cX9_enact 146 = .ok (.iadd, 1) := by decide +kernel
theorem dX9_enact_147 : decode cX9_enact 147 = .ok (.baload, 1) := by decide +kernel
theorem dX9_enact_148 : decode cX9_enact 148 = .ok (.ifCond .eq 6, 3) := by decide +kernel
theorem dX9_enact_151 : decode cX9_enact 151 = .ok (.iinc 2 1, 3) := by decide +kernel
theorem dX9_enact_154 : decode cX9_enact 154 = .ok (.iinc 3 1, 3) := by decide +kernel
theorem dX9_enact_157 : decode cX9_enact 157 = .ok (.goto (-100), 3) := by decide +kernel
theorem dX9_enact_160 : decode cX9_enact 160 = .ok (.aload_n 0, 1) := by decide +kernel
theorem dX9_enact_161 : decode cX9_enact 161 = .ok (.iload_n 1, 1) := by decide +kernel
theorem dX9_enact_162 : decode cX9_enact 162 = .ok (.invokevirtual 148, 3) := by decide +kernel
theorem dX9_enact_165 : decode cX9_enact 165 = .ok (.iload_n 2, 1) := by decide +kernel
theorem dX9_enact_166 : decode cX9_enact 166 = .ok (.ireturn, 1) := by decide +kernel
theorem dX9_stopRing_0 : decode cX9_stopRing 0 = .ok (.aload_n 0, 1) := by decide +kernel
theorem dX9_stopRing_1 : decode cX9_stopRing 1 = .ok (.getfield 67, 3) := by decide +kernel
theorem dX9_stopRing_4 : decode cX9_stopRing 4 = .ok (.iload_n 1, 1) := by decide +kernel
theorem dX9_stopRing_5 : decode cX9_stopRing 5 = .ok (.iconst 0, 1) := by decide +kernel
theorem dX9_stopRing_6 : decode cX9_stopRing 6 = .ok (.iastore, 1) := by decide +kernel
theorem dX9_stopRing_7 : decode cX9_stopRing 7 = .ok (.aload_n 0, 1) := by decide +kernel
theorem dX9_stopRing_8 : decode cX9_stopRing 8 = .ok (.getfield 70, 3) := by decide +kernel
theorem dX9_stopRing_11 : decode cX9_stopRing 11 = .ok (.iload_n 1, 1) := by decide +kernel
theorem dX9_stopRing_12 : decode cX9_stopRing 12 = .ok (.iconst (-1), 1) := by decide +kernel
theorem dX9_stopRing_13 : decode cX9_stopRing 13 = .ok (.iastore, 1) := by decide +kernel
theorem dX9_stopRing_14 : decode cX9_stopRing 14 = .ok (.aload_n 0, 1) := by decide +kernel
theorem dX9_stopRing_15 : decode cX9_stopRing 15 = .ok (.getfield 73, 3) := by decide +kernel
theorem dX9_stopRing_18 : decode cX9_stopRing 18 = .ok (.iload_n 1, 1) := by decide +kernel
theorem dX9_stopRing_19 : decode cX9_stopRing 19 = .ok (.iconst (-1), 1) := by decide +kernel
theorem dX9_stopRing_20 : decode cX9_stopRing 20 = .ok (.iastore, 1) := by decide +kernel
theorem dX9_stopRing_21 : decode cX9_stopRing 21 = .ok (.aload_n 0, 1) := by decide +kernel
theorem dX9_stopRing_22 : decode cX9_stopRing 22 = .ok (.getfield 85, 3) := by decide +kernel
theorem dX9_stopRing_25 : decode cX9_stopRing 25 = .ok (.iload_n 1, 1) := by decide +kernel
theorem dX9_stopRing_26 : decode cX9_stopRing 26 = .ok (.iconst 0, 1) := by decide +kernel
theorem dX9_stopRing_27 : decode cX9_stopRing 27 = .ok (.iastore, 1) := by decide +kernel
theorem dX9_stopRing_28 : decode cX9_stopRing 28 = .ok (.return_, 1) := by decide +kernel
theorem dX9_start_0 : decode cX9_start 0 = .ok (.aload_n 0, 1) := by decide +kernel
theorem dX9_start_1 : decode cX9_start 1 = .ok (.getfield 20, 3) := by decide +kernel
theorem dX9_start_4 : decode cX9_start 4 = .ok (.iload_n 1, 1) := by decide +kernel
theorem dX9_start_5 : decode cX9_start 5 = .ok (.iconst 0, 1) := by decide +kernel
theorem dX9_start_6 : decode cX9_start 6 = .ok (.bastore, 1) := by decide +kernel
theorem dX9_start_7 : decode cX9_start 7 = .ok (.aload_n 0, 1) := by decide +kernel
theorem dX9_start_8 : decode cX9_start 8 = .ok (.getfield 24, 3) := by decide +kernel
theorem dX9_start_11 : decode cX9_start 11 = .ok (.iload_n 1, 1) := by decide +kernel
theorem dX9_start_12 : decode cX9_start 12 = .ok (.iconst 0, 1) := by decide +kernel
theorem dX9_start_13 : decode cX9_start 13 = .ok (.iastore, 1) := by decide +kernel
theorem dX9_start_14 : decode cX9_start 14 = .ok (.aload_n 0, 1) := by decide +kernel
theorem dX9_start_15 : decode cX9_start 15 = .ok (.getfield 27, 3) := by decide +kernel
theorem dX9_start_18 : decode cX9_start 18 = .ok (.iload_n 1, 1) := by decide +kernel
theorem dX9_start_19 : decode cX9_start 19 = .ok (.iconst 1, 1) := by decide +kernel
theorem dX9_start_20 : decode cX9_start 20 = .ok (.iastore, 1) := by decide +kernel
theorem dX9_start_21 : decode cX9_start 21 = .ok (.aload_n 0, 1) := by decide +kernel
theorem dX9_start_22 : decode cX9_start 22 = .ok (.getfield 30, 3) := by decide +kernel
theorem dX9_start_25 : decode cX9_start 25 = .ok (.iload_n 1, 1) := by decide +kernel
theorem dX9_start_26 : decode cX9_start 26 = .ok (.iconst 0, 1) := by decide +kernel
theorem dX9_start_27 : decode cX9_start 27 = .ok (.bastore, 1) := by decide +kernel
theorem dX9_start_28 : decode cX9_start 28 = .ok (.aload_n 0, 1) := by decide +kernel
theorem dX9_start_29 : decode cX9_start 29 = .ok (.iconst 2, 1) := by decide +kernel
theorem dX9_start_30 : decode cX9_start 30 = .ok (.iload_n 1, 1) := by decide +kernel
theorem dX9_start_31 : decode cX9_start 31 = .ok (.imul, 1) := by decide +kernel
theorem dX9_start_32 : decode cX9_start 32 = .ok (.invokevirtual 152, 3) := by decide +kernel
theorem dX9_start_35 : decode cX9_start 35 = .ok (.aload_n 0, 1) := by decide +kernel
theorem dX9_start_36 : decode cX9_start 36 = .ok (.iconst 2, 1) := by decide +kernel
theorem dX9_start_37 : decode cX9_start 37 = .ok (.iload_n 1, 1) := by decide +kernel
theorem dX9_start_38 : decode cX9_start 38 = .ok (.imul, 1) := by decide +kernel
theorem dX9_start_39 : decode cX9_start 39 = .ok (.iconst 1, 1) := by decide +kernel
theorem dX9_start_40 : decode cX9_start 40 = .ok (.iadd, 1) := by decide +kernel
theorem dX9_start_41 : decode cX9_start 41 = .ok (.invokevirtual 152, 3) := by decide +kernel
theorem dX9_start_44 : decode cX9_start 44 = .ok (.bipush 8, 2) := by decide +kernel
theorem dX9_start_46 : decode cX9_start 46 = .ok (.iload_n 1, 1) := by decide +kernel
theorem dX9_start_47 : decode cX9_start 47 = .ok (.imul, 1) := by decide +kernel
theorem dX9_start_48 : decode cX9_start 48 = .ok (.istore_n 2, 1) := by decide +kernel
theorem dX9_start_49 : decode cX9_start 49 = .ok (.iload_n 2, 1) := by decide +kernel
theorem dX9_start_50 : decode cX9_start 50 = .ok (.bipush 8, 2) := by decide +kernel
theorem dX9_start_52 : decode cX9_start 52 = .ok (.iload_n 1, 1) := by decide +kernel
theorem dX9_start_53 : decode cX9_start 53 = .ok (.imul, 1) := by decide +kernel
theorem dX9_start_54 : decode cX9_start 54 = .ok (.bipush 8, 2) := by decide +kernel
theorem dX9_start_56 : decode cX9_start 56 = .ok (.iadd, 1) := by decide +kernel
theorem dX9_start_57 : decode cX9_start 57 = .ok (.if_icmp .ge 49, 3) := by decide +kernel
theorem dX9_start_60 : decode cX9_start 60 = .ok (.aload_n 0, 1) := by decide +kernel
theorem dX9_start_61 : decode cX9_start 61 = .ok (.getfield 36, 3) := by decide +kernel
theorem dX9_start_64 : decode cX9_start 64 = .ok (.iload_n 2, 1) := by decide +kernel
theorem dX9_start_65 : decode cX9_start 65 = .ok (.aload_n 0, 1) := by decide +kernel
theorem dX9_start_66 : decode cX9_start 66 = .ok (.getfield 33, 3) := by decide +kernel
theorem dX9_start_69 : decode cX9_start 69 = .ok (.iload_n 2, 1) := by decide +kernel
theorem dX9_start_70 : decode cX9_start 70 = .ok (.baload, 1) := by decide +kernel
theorem dX9_start_71 : decode cX9_start 71 = .ok (.bastore, 1) := by decide +kernel
theorem dX9_start_72 : decode cX9_start 72 = .ok (.aload_n 0, 1) := by decide +kernel
theorem dX9_start_73 : decode cX9_start 73 = .ok (.getfield 39, 3) := by decide +kernel
theorem dX9_start_76 : decode cX9_start 76 = .ok (.iload_n 2, 1) := by decide +kernel
theorem dX9_start_77 : decode cX9_start 77 = .ok (.iconst 0, 1) := by decide +kernel
theorem dX9_start_78 : decode cX9_start 78 = .ok (.bastore, 1) := by decide +kernel
theorem dX9_start_79 : decode cX9_start 79 = .ok (.aload_n 0, 1) := by decide +kernel
theorem dX9_start_80 : decode cX9_start 80 = .ok (.getfield 58, 3) := by decide +kernel
theorem dX9_start_83 : decode cX9_start 83 = .ok (.iload_n 2, 1) := by decide +kernel
theorem dX9_start_84 : decode cX9_start 84 = .ok (.iconst 0, 1) := by decide +kernel
theorem dX9_start_85 : decode cX9_start 85 = .ok (.iastore, 1) := by decide +kernel
theorem dX9_start_86 : decode cX9_start 86 = .ok (.aload_n 0, 1) := by decide +kernel
theorem dX9_start_87 : decode cX9_start 87 = .ok (.getfield 61, 3) := by decide +kernel
theorem dX9_start_90 : decode cX9_start 90 = .ok (.iload_n 2, 1) := by decide +kernel
theorem dX9_start_91 : decode cX9_start 91 = .ok (.iconst 0, 1) := by decide +kernel
theorem dX9_start_92 : decode cX9_start 92 = .ok (.bastore, 1) := by decide +kernel
theorem dX9_start_93 : decode cX9_start 93 = .ok (.aload_n 0, 1) := by decide +kernel
theorem dX9_start_94 : decode cX9_start 94 = .ok (.getfield 64, 3) := by decide +kernel
theorem dX9_start_97 : decode cX9_start 97 = .ok (.iload_n 2, 1) := by decide +kernel
theorem dX9_start_98 : decode cX9_start 98 = .ok (.iconst 0, 1) := by decide +kernel
theorem dX9_start_99 : decode cX9_start 99 = .ok (.iastore, 1) := by decide +kernel
theorem dX9_start_100 : decode cX9_start 100 = .ok (.iinc 2 1, 3) := by decide +kernel
theorem dX9_start_103 : decode cX9_start 103 = .ok (.goto (-54), 3) := by decide +kernel
theorem dX9_start_106 : decode cX9_start 106 = .ok (.return_, 1) := by decide +kernel
theorem dX9_called_0 : decode cX9_called 0 = .ok (.aload_n 0, 1) := by decide +kernel
theorem dX9_called_1 : decode cX9_called 1 = .ok (.getfield 36, 3) := by decide +kernel
theorem dX9_called_4 : decode cX9_called 4 = .ok (.bipush 8, 2) := by decide +kernel
theorem dX9_called_6 : decode cX9_called 6 = .ok (.iload_n 1, 1) := by decide +kernel
theorem dX9_called_7 : decode cX9_called 7 = .ok (.imul, 1) := by decide +kernel
theorem dX9_called_8 : decode cX9_called 8 = .ok (.iload_n 2, 1) := by decide +kernel
theorem dX9_called_9 : decode cX9_called 9 = .ok (.iadd, 1) := by decide +kernel
theorem dX9_called_10 : decode cX9_called 10 = .ok (.baload, 1) := by decide +kernel
theorem dX9_called_11 : decode cX9_called 11 = .ok (.ifCond .ne 17, 3) := by decide +kernel
theorem dX9_called_14 : decode cX9_called 14 = .ok (.aload_n 0, 1) := by decide +kernel
theorem dX9_called_15 : decode cX9_called 15 = .ok (.getfield 39, 3) := by decide +kernel
theorem dX9_called_18 : decode cX9_called 18 = .ok (.bipush 8, 2) := by decide +kernel
theorem dX9_called_20 : decode cX9_called 20 = .ok (.iload_n 1, 1) := by decide +kernel
theorem dX9_called_21 : decode cX9_called 21 = .ok (.imul, 1) := by decide +kernel
theorem dX9_called_22 : decode cX9_called 22 = .ok (.iload_n 2, 1) := by decide +kernel
theorem dX9_called_23 : decode cX9_called 23 = .ok (.iadd, 1) := by decide +kernel
theorem dX9_called_24 : decode cX9_called 24 = .ok (.baload, 1) := by decide +kernel
theorem dX9_called_25 : decode cX9_called 25 = .ok (.ifCond .eq 16, 3) := by decide +kernel
theorem dX9_called_28 : decode cX9_called 28 = .ok (.aload_n 0, 1) := by decide +kernel
theorem dX9_called_29 : decode cX9_called 29 = .ok (.iload_n 1, 1) := by decide +kernel
theorem dX9_called_30 : decode cX9_called 30 = .ok (.iload_n 2, 1) := by decide +kernel
theorem dX9_called_31 : decode cX9_called 31 = .ok (.invokevirtual 155, 3) := by decide +kernel
theorem dX9_called_34 : decode cX9_called 34 = .ok (.ifCond .ne 7, 3) := by decide +kernel
theorem dX9_called_37 : decode cX9_called 37 = .ok (.iconst 1, 1) := by decide +kernel
theorem dX9_called_38 : decode cX9_called 38 = .ok (.goto 4, 3) := by decide +kernel
theorem dX9_called_41 : decode cX9_called 41 = .ok (.iconst 0, 1) := by decide +kernel
theorem dX9_called_42 : decode cX9_called 42 = .ok (.ireturn, 1) := by decide +kernel
theorem dX9_calledOn_0 : decode cX9_calledOn 0 = .ok (.iconst 0, 1) := by decide +kernel
theorem dX9_calledOn_1 : decode cX9_calledOn 1 = .ok (.istore_n 3, 1) := by decide +kernel
theorem dX9_calledOn_2 : decode cX9_calledOn 2 = .ok (.iconst 0, 1) := by decide +kernel
theorem dX9_calledOn_3 : decode cX9_calledOn 3 = .ok (.istore 4, 2) := by decide +kernel
theorem dX9_calledOn_5 : decode cX9_calledOn 5 = .ok (.iload 4, 2) := by decide +kernel
theorem dX9_calledOn_7 : decode cX9_calledOn 7 = .ok (.bipush 8, 2) := by decide +kernel
theorem dX9_calledOn_9 : decode cX9_calledOn 9 = .ok (.if_icmp .ge 38, 3) := by decide +kernel
theorem dX9_calledOn_12 : decode cX9_calledOn 12 = .ok (.iload_n 3, 1) := by decide +kernel
theorem dX9_calledOn_13 : decode cX9_calledOn 13 = .ok (.ifCond .ne 22, 3) := by decide +kernel
theorem dX9_calledOn_16 : decode cX9_calledOn 16 = .ok (.iload 4, 2) := by decide +kernel
theorem dX9_calledOn_18 : decode cX9_calledOn 18 = .ok (.invokestatic 137, 3) := by decide +kernel
theorem dX9_calledOn_21 : decode cX9_calledOn 21 = .ok (.iload_n 2, 1) := by decide +kernel
theorem dX9_calledOn_22 : decode cX9_calledOn 22 = .ok (.if_icmp .ne 17, 3) := by decide +kernel
theorem dX9_calledOn_25 : decode cX9_calledOn 25 = .ok (.aload_n 0, 1) := by decide +kernel
theorem dX9_calledOn_26 : decode cX9_calledOn 26 = .ok (.iload_n 1, 1) := by decide +kernel
theorem dX9_calledOn_27 : decode cX9_calledOn 27 = .ok (.iload 4, 2) := by decide +kernel
theorem dX9_calledOn_29 : decode cX9_calledOn 29 = .ok (.invokevirtual 158, 3) := by decide +kernel
theorem dX9_calledOn_32 : decode cX9_calledOn 32 = .ok (.ifCond .eq 7, 3) := by decide +kernel
theorem dX9_calledOn_35 : decode cX9_calledOn 35 = .ok (.iconst 1, 1) := by decide +kernel
theorem dX9_calledOn_36 : decode cX9_calledOn 36 = .ok (.goto 4, 3) := by decide +kernel
theorem dX9_calledOn_39 : decode cX9_calledOn 39 = .ok (.iconst 0, 1) := by decide +kernel
theorem dX9_calledOn_40 : decode cX9_calledOn 40 = .ok (.istore_n 3, 1) := by decide +kernel
theorem dX9_calledOn_41 : decode cX9_calledOn 41 = .ok (.iinc 4 1, 3) := by decide +kernel
theorem dX9_calledOn_44 : decode cX9_calledOn 44 = .ok (.goto (-39), 3) := by decide +kernel
theorem dX9_calledOn_47 : decode cX9_calledOn 47 = .ok (.iload_n 3, 1) := by decide +kernel
theorem dX9_calledOn_48 : decode cX9_calledOn 48 = .ok (.ireturn, 1) := by decide +kernel
theorem dX9_needed_0 : decode cX9_needed 0 = .ok (.aload_n 0, 1) := by decide +kernel
theorem dX9_needed_1 : decode cX9_needed 1 = .ok (.iload_n 1, 1) := by decide +kernel
theorem dX9_needed_2 : decode cX9_needed 2 = .ok (.iconst 1, 1) := by decide +kernel
theorem dX9_needed_3 : decode cX9_needed 3 = .ok (.aload_n 0, 1) := by decide +kernel
theorem dX9_needed_4 : decode cX9_needed 4 = .ok (.getfield 27, 3) := by decide +kernel
theorem dX9_needed_7 : decode cX9_needed 7 = .ok (.iload_n 1, 1) := by decide +kernel
theorem dX9_needed_8 : decode cX9_needed 8 = .ok (.iaload, 1) := by decide +kernel
theorem dX9_needed_9 : decode cX9_needed 9 = .ok (.isub, 1) := by decide +kernel
theorem dX9_needed_10 : decode cX9_needed 10 = .ok (.invokevirtual 161, 3) := by decide +kernel
theorem dX9_needed_13 : decode cX9_needed 13 = .ok (.istore_n 2, 1) := by decide +kernel
theorem dX9_needed_14 : decode cX9_needed 14 = .ok (.iconst 0, 1) := by decide +kernel
theorem dX9_needed_15 : decode cX9_needed 15 = .ok (.istore_n 3, 1) := by decide +kernel
theorem dX9_needed_16 : decode cX9_needed 16 = .ok (.iload_n 3, 1) := by decide +kernel
theorem dX9_needed_17 : decode cX9_needed 17 = .ok (.bipush 8, 2) := by decide +kernel
theorem dX9_needed_19 : decode cX9_needed 19 = .ok (.if_icmp .ge 69, 3) := by decide +kernel
theorem dX9_needed_22 : decode cX9_needed 22 = .ok (.iload_n 1, 1) := by decide +kernel
theorem dX9_needed_23 : decode cX9_needed 23 = .ok (.iload_n 3, 1) := by decide +kernel
theorem dX9_needed_24 : decode cX9_needed 24 = .ok (.invokestatic 126, 3) := by decide +kernel
theorem dX9_needed_27 : decode cX9_needed 27 = .ok (.istore 4, 2) := by decide +kernel
theorem dX9_needed_29 : decode cX9_needed 29 = .ok (.iload_n 2, 1) := by decide +kernel
theorem dX9_needed_30 : decode cX9_needed 30 = .ok (.ifCond .ne 46, 3) := by decide +kernel
theorem dX9_needed_33 : decode cX9_needed 33 = .ok (.aload_n 0, 1) := by decide +kernel
theorem dX9_needed_34 : decode cX9_needed 34 = .ok (.getfield 67, 3) := by decide +kernel
theorem dX9_needed_37 : decode cX9_needed 37 = .ok (.iload 4, 2) := by decide +kernel
theorem dX9_needed_39 : decode cX9_needed 39 = .ok (.iaload, 1) := by decide +kernel
theorem dX9_needed_40 : decode cX9_needed 40 = .ok (.ifCond .eq 40, 3) := by decide +kernel
theorem dX9_needed_43 : decode cX9_needed 43 = .ok (.iload_n 3, 1) := by decide +kernel
theorem dX9_needed_44 : decode cX9_needed 44 = .ok (.aload_n 0, 1) := by decide +kernel
theorem dX9_needed_45 : decode cX9_needed 45 = .ok (.getfield 70, 3) := by decide +kernel
theorem dX9_needed_48 : decode cX9_needed 48 = .ok (.iload 4, 2) := by decide +kernel
theorem dX9_needed_50 : decode cX9_needed 50 = .ok (.iaload, 1) := by decide +kernel
theorem dX9_needed_51 : decode cX9_needed 51 = .ok (.if_icmp .ge 29, 3) := by decide +kernel
theorem dX9_needed_54 : decode cX9_needed 54 = .ok (.iload_n 3, 1) := by decide +kernel
theorem dX9_needed_55 : decode cX9_needed 55 = .ok (.invokestatic 137, 3) := by decide +kernel
theorem dX9_needed_58 : decode cX9_needed 58 = .ok (.aload_n 0, 1) := by decide +kernel
theorem dX9_needed_59 : decode cX9_needed 59 = .ok (.getfield 27, 3) := by decide +kernel
theorem dX9_needed_62 : decode cX9_needed 62 = .ok (.iload_n 1, 1) := by decide +kernel
theorem dX9_needed_63 : decode cX9_needed 63 = .ok (.iaload, 1) := by decide +kernel
theorem dX9_needed_64 : decode cX9_needed 64 = .ok (.if_icmp .ne 16, 3) := by decide +kernel
theorem dX9_needed_67 : decode cX9_needed 67 = .ok (.aload_n 0, 1) := by decide +kernel
theorem dX9_needed_68 : decode cX9_needed 68 = .ok (.iload_n 1, 1) := by decide +kernel
theorem dX9_needed_69 : decode cX9_needed 69 = .ok (.iload_n 3, 1) := by decide +kernel
theorem dX9_needed_70 : decode cX9_needed 70 = .ok (.invokevirtual 158, 3) := by decide +kernel
theorem dX9_needed_73 : decode cX9_needed 73 = .ok (.ifCond .eq 7, 3) := by decide +kernel
theorem dX9_needed_76 : decode cX9_needed 76 = .ok (.iconst 1, 1) := by decide +kernel
theorem dX9_needed_77 : decode cX9_needed 77 = .ok (.goto 4, 3) := by decide +kernel
theorem dX9_needed_80 : decode cX9_needed 80 = .ok (.iconst 0, 1) := by decide +kernel
theorem dX9_needed_81 : decode cX9_needed 81 = .ok (.istore_n 2, 1) := by decide +kernel
theorem dX9_needed_82 : decode cX9_needed 82 = .ok (.iinc 3 1, 3) := by decide +kernel
theorem dX9_needed_85 : decode cX9_needed 85 = .ok (.goto (-69), 3) := by decide +kernel
theorem dX9_needed_88 : decode cX9_needed 88 = .ok (.iload_n 2, 1) := by decide +kernel
theorem dX9_needed_89 : decode cX9_needed 89 = .ok (.ireturn, 1) := by decide +kernel
theorem dX9_forward_0 : decode cX9_forward 0 = .ok (.aload_n 0, 1) := by decide +kernel
theorem dX9_forward_1 : decode cX9_forward 1 = .ok (.getfield 67, 3) := by decide +kernel
theorem dX9_forward_4 : decode cX9_forward 4 = .ok (.iload_n 2, 1) := by decide +kernel
theorem dX9_forward_5 : decode cX9_forward 5 = .ok (.iaload, 1) := by decide +kernel
theorem dX9_forward_6 : decode cX9_forward 6 = .ok (.ifCond .eq 15, 3) := by decide +kernel
theorem dX9_forward_9 : decode cX9_forward 9 = .ok (.aload_n 0, 1) := by decide +kernel
theorem dX9_forward_10 : decode cX9_forward 10 = .ok (.getfield 70, 3) := by decide +kernel
theorem dX9_forward_13 : decode cX9_forward 13 = .ok (.iload_n 2, 1) := by decide +kernel
theorem dX9_forward_14 : decode cX9_forward 14 = .ok (.iaload, 1) := by decide +kernel
theorem dX9_forward_15 : decode cX9_forward 15 = .ok (.iconst 2, 1) := by decide +kernel
theorem dX9_forward_16 : decode cX9_forward 16 = .ok (.irem, 1) := by decide +kernel
theorem dX9_forward_17 : decode cX9_forward 17 = .ok (.iconst 1, 1) := by decide +kernel
theorem dX9_forward_18 : decode cX9_forward 18 = .ok (.if_icmp .ne 5, 3) := by decide +kernel
theorem dX9_forward_21 : decode cX9_forward 21 = .ok (.iconst (-1), 1) := by decide +kernel
theorem dX9_forward_22 : decode cX9_forward 22 = .ok (.ireturn, 1) := by decide +kernel
theorem dX9_forward_23 : decode cX9_forward 23 = .ok (.aload_n 0, 1) := by decide +kernel
theorem dX9_forward_24 : decode cX9_forward 24 = .ok (.iload_n 1, 1) := by decide +kernel
theorem dX9_forward_25 : decode cX9_forward 25 = .ok (.aload_n 0, 1) := by decide +kernel
theorem dX9_forward_26 : decode cX9_forward 26 = .ok (.getfield 70, 3) := by decide +kernel
theorem dX9_forward_29 : decode cX9_forward 29 = .ok (.iload_n 2, 1) := by decide +kernel
theorem dX9_forward_30 : decode cX9_forward 30 = .ok (.iaload, 1) := by decide +kernel
theorem dX9_forward_31 : decode cX9_forward 31 = .ok (.iconst 1, 1) := by decide +kernel
theorem dX9_forward_32 : decode cX9_forward 32 = .ok (.iadd, 1) := by decide +kernel
theorem dX9_forward_33 : decode cX9_forward 33 = .ok (.invokevirtual 158, 3) := by decide +kernel
theorem dX9_forward_36 : decode cX9_forward 36 = .ok (.ifCond .eq 14, 3) := by decide +kernel
theorem dX9_forward_39 : decode cX9_forward 39 = .ok (.aload_n 0, 1) := by decide +kernel
theorem dX9_forward_40 : decode cX9_forward 40 = .ok (.getfield 70, 3) := by decide +kernel
theorem dX9_forward_43 : decode cX9_forward 43 = .ok (.iload_n 2, 1) := by decide +kernel
theorem dX9_forward_44 : decode cX9_forward 44 = .ok (.iaload, 1) := by decide +kernel
theorem dX9_forward_45 : decode cX9_forward 45 = .ok (.iconst 1, 1) := by decide +kernel
theorem dX9_forward_46 : decode cX9_forward 46 = .ok (.iadd, 1) := by decide +kernel
theorem dX9_forward_47 : decode cX9_forward 47 = .ok (.goto 4, 3) := by decide +kernel
theorem dX9_forward_50 : decode cX9_forward 50 = .ok (.iconst (-1), 1) := by decide +kernel
theorem dX9_forward_51 : decode cX9_forward 51 = .ok (.ireturn, 1) := by decide +kernel
theorem dX9_wanted_0 : decode cX9_wanted 0 = .ok (.aload_n 0, 1) := by decide +kernel
theorem dX9_wanted_1 : decode cX9_wanted 1 = .ok (.iload_n 1, 1) := by decide +kernel
theorem dX9_wanted_2 : decode cX9_wanted 2 = .ok (.iload_n 2, 1) := by decide +kernel
theorem dX9_wanted_3 : decode cX9_wanted 3 = .ok (.invokevirtual 164, 3) := by decide +kernel
theorem dX9_wanted_6 : decode cX9_wanted 6 = .ok (.iconst (-1), 1) := by decide +kernel
theorem dX9_wanted_7 : decode cX9_wanted 7 = .ok (.if_icmp .ne 11, 3) := by decide +kernel
theorem dX9_wanted_10 : decode cX9_wanted 10 = .ok (.aload_n 0, 1) := by decide +kernel
theorem dX9_wanted_11 : decode cX9_wanted 11 = .ok (.iload_n 1, 1) := by decide +kernel
theorem dX9_wanted_12 : decode cX9_wanted 12 = .ok (.invokevirtual 167, 3) := by decide +kernel
theorem dX9_wanted_15 : decode cX9_wanted 15 = .ok (.ifCond .eq 7, 3) := by decide +kernel
theorem dX9_wanted_18 : decode cX9_wanted 18 = .ok (.iconst 1, 1) := by decide +kernel
theorem dX9_wanted_19 : decode cX9_wanted 19 = .ok (.goto 4, 3) := by decide +kernel
theorem dX9_wanted_22 : decode cX9_wanted 22 = .ok (.iconst 0, 1) := by decide +kernel
theorem dX9_wanted_23 : decode cX9_wanted 23 = .ok (.ireturn, 1) := by decide +kernel
theorem dX9_inputOf_0 : decode cX9_inputOf 0 = .ok (.aload_n 0, 1) := by decide +kernel
theorem dX9_inputOf_1 : decode cX9_inputOf 1 = .ok (.getfield 94, 3) := by decide +kernel
theorem dX9_inputOf_4 : decode cX9_inputOf 4 = .ok (.iconst 2, 1) := by decide +kernel
theorem dX9_inputOf_5 : decode cX9_inputOf 5 = .ok (.iload_n 1, 1) := by decide +kernel
theorem dX9_inputOf_6 : decode cX9_inputOf 6 = .ok (.imul, 1) := by decide +kernel
theorem dX9_inputOf_7 : decode cX9_inputOf 7 = .ok (.baload, 1) := by decide +kernel
theorem dX9_inputOf_8 : decode cX9_inputOf 8 = .ok (.ifCond .eq 9, 3) := by decide +kernel
theorem dX9_inputOf_11 : decode cX9_inputOf 11 = .ok (.iconst 2, 1) := by decide +kernel
theorem dX9_inputOf_12 : decode cX9_inputOf 12 = .ok (.iload_n 1, 1) := by decide +kernel
theorem dX9_inputOf_13 : decode cX9_inputOf 13 = .ok (.imul, 1) := by decide +kernel
theorem dX9_inputOf_14 : decode cX9_inputOf 14 = .ok (.goto 25, 3) := by decide +kernel
theorem dX9_inputOf_17 : decode cX9_inputOf 17 = .ok (.aload_n 0, 1) := by decide +kernel
theorem dX9_inputOf_18 : decode cX9_inputOf 18 = .ok (.getfield 94, 3) := by decide +kernel
theorem dX9_inputOf_21 : decode cX9_inputOf 21 = .ok (.iconst 2, 1) := by decide +kernel
theorem dX9_inputOf_22 : decode cX9_inputOf 22 = .ok (.iload_n 1, 1) := by decide +kernel
theorem dX9_inputOf_23 : decode cX9_inputOf 23 = .ok (.imul, 1) := by decide +kernel
theorem dX9_inputOf_24 : decode cX9_inputOf 24 = .ok (.iconst 1, 1) := by decide +kernel
theorem dX9_inputOf_25 : decode cX9_inputOf 25 = .ok (.iadd, 1) := by decide +kernel
theorem dX9_inputOf_26 : decode cX9_inputOf 26 = .ok (.baload, 1) := by decide +kernel
theorem dX9_inputOf_27 : decode cX9_inputOf 27 = .ok (.ifCond .eq 11, 3) := by decide +kernel
theorem dX9_inputOf_30 : decode cX9_inputOf 30 = .ok (.iconst 2, 1) := by decide +kernel
theorem dX9_inputOf_31 : decode cX9_inputOf 31 = .ok (.iload_n 1, 1) := by decide +kernel
theorem dX9_inputOf_32 : decode cX9_inputOf 32 = .ok (.imul, 1) := by decide +kernel
theorem dX9_inputOf_33 : decode cX9_inputOf 33 = .ok (.iconst 1, 1) := by decide +kernel
theorem dX9_inputOf_34 : decode cX9_inputOf 34 = .ok (.iadd, 1) := by decide +kernel
theorem dX9_inputOf_35 : decode cX9_inputOf 35 = .ok (.goto 4, 3) := by decide +kernel
theorem dX9_inputOf_38 : decode cX9_inputOf 38 = .ok (.iconst (-1), 1) := by decide +kernel
theorem dX9_inputOf_39 : decode cX9_inputOf 39 = .ok (.istore_n 2, 1) := by decide +kernel
theorem dX9_inputOf_40 : decode cX9_inputOf 40 = .ok (.iload_n 2, 1) := by decide +kernel
theorem dX9_inputOf_41 : decode cX9_inputOf 41 = .ok (.ifCond .lt 35, 3) := by decide +kernel
theorem dX9_inputOf_44 : decode cX9_inputOf 44 = .ok (.aload_n 0, 1) := by decide +kernel
theorem dX9_inputOf_45 : decode cX9_inputOf 45 = .ok (.getfield 91, 3) := by decide +kernel
theorem dX9_inputOf_48 : decode cX9_inputOf 48 = .ok (.iload_n 2, 1) := by decide +kernel
theorem dX9_inputOf_49 : decode cX9_inputOf 49 = .ok (.iaload, 1) := by decide +kernel
theorem dX9_inputOf_50 : decode cX9_inputOf 50 = .ok (.ifCond .lt 26, 3) := by decide +kernel
theorem dX9_inputOf_53 : decode cX9_inputOf 53 = .ok (.aload_n 0, 1) := by decide +kernel
theorem dX9_inputOf_54 : decode cX9_inputOf 54 = .ok (.getfield 33, 3) := by decide +kernel
theorem dX9_inputOf_57 : decode cX9_inputOf 57 = .ok (.bipush 8, 2) := by decide +kernel
theorem dX9_inputOf_59 : decode cX9_inputOf 59 = .ok (.iload_n 1, 1) := by decide +kernel
theorem dX9_inputOf_60 : decode cX9_inputOf 60 = .ok (.imul, 1) := by decide +kernel
theorem dX9_inputOf_61 : decode cX9_inputOf 61 = .ok (.aload_n 0, 1) := by decide +kernel
theorem dX9_inputOf_62 : decode cX9_inputOf 62 = .ok (.getfield 91, 3) := by decide +kernel
theorem dX9_inputOf_65 : decode cX9_inputOf 65 = .ok (.iload_n 2, 1) := by decide +kernel
theorem dX9_inputOf_66 : decode cX9_inputOf 66 = .ok (.iaload, 1) := by decide +kernel
theorem dX9_inputOf_67 : decode cX9_inputOf 67 = .ok (.iadd, 1) := by decide +kernel
theorem dX9_inputOf_68 : decode cX9_inputOf 68 = .ok (.baload, 1) := by decide +kernel
theorem dX9_inputOf_69 : decode cX9_inputOf 69 = .ok (.ifCond .eq 7, 3) := by decide +kernel
theorem dX9_inputOf_72 : decode cX9_inputOf 72 = .ok (.iload_n 2, 1) := by decide +kernel
theorem dX9_inputOf_73 : decode cX9_inputOf 73 = .ok (.goto 4, 3) := by decide +kernel
theorem dX9_inputOf_76 : decode cX9_inputOf 76 = .ok (.iconst (-1), 1) := by decide +kernel
theorem dX9_inputOf_77 : decode cX9_inputOf 77 = .ok (.ireturn, 1) := by decide +kernel
theorem dX9_sense_0 : decode cX9_sense 0 = .ok (.bipush 8, 2) := by decide +kernel
theorem dX9_sense_2 : decode cX9_sense 2 = .ok (.iload_n 1, 1) := by decide +kernel
theorem dX9_sense_3 : decode cX9_sense 3 = .ok (.imul, 1) := by decide +kernel
theorem dX9_sense_4 : decode cX9_sense 4 = .ok (.istore_n 2, 1) := by decide +kernel
theorem dX9_sense_5 : decode cX9_sense 5 = .ok (.iload_n 2, 1) := by decide +kernel
theorem dX9_sense_6 : decode cX9_sense 6 = .ok (.bipush 8, 2) := by decide +kernel
theorem dX9_sense_8 : decode cX9_sense 8 = .ok (.iload_n 1, 1) := by decide +kernel
theorem dX9_sense_9 : decode cX9_sense 9 = .ok (.imul, 1) := by decide +kernel
theorem dX9_sense_10 : decode cX9_sense 10 = .ok (.bipush 8, 2) := by decide +kernel
theorem dX9_sense_12 : decode cX9_sense 12 = .ok (.iadd, 1) := by decide +kernel
theorem dX9_sense_13 : decode cX9_sense 13 = .ok (.if_icmp .ge 92, 3) := by decide +kernel
theorem dX9_sense_16 : decode cX9_sense 16 = .ok (.aload_n 0, 1) := by decide +kernel
theorem dX9_sense_17 : decode cX9_sense 17 = .ok (.getfield 45, 3) := by decide +kernel
theorem dX9_sense_20 : decode cX9_sense 20 = .ok (.iload_n 2, 1) := by decide +kernel
theorem dX9_sense_21 : decode cX9_sense 21 = .ok (.aload_n 0, 1) := by decide +kernel
theorem dX9_sense_22 : decode cX9_sense 22 = .ok (.getfield 42, 3) := by decide +kernel
theorem dX9_sense_25 : decode cX9_sense 25 = .ok (.iload_n 2, 1) := by decide +kernel
theorem dX9_sense_26 : decode cX9_sense 26 = .ok (.baload, 1) := by decide +kernel
theorem dX9_sense_27 : decode cX9_sense 27 = .ok (.ifCond .ne 7, 3) := by decide +kernel
theorem dX9_sense_30 : decode cX9_sense 30 = .ok (.iconst 0, 1) := by decide +kernel
theorem dX9_sense_31 : decode cX9_sense 31 = .ok (.goto 27, 3) := by decide +kernel
theorem dX9_sense_34 : decode cX9_sense 34 = .ok (.aload_n 0, 1) := by decide +kernel
theorem dX9_sense_35 : decode cX9_sense 35 = .ok (.getfield 45, 3) := by decide +kernel
theorem dX9_sense_38 : decode cX9_sense 38 = .ok (.iload_n 2, 1) := by decide +kernel
theorem dX9_sense_39 : decode cX9_sense 39 = .ok (.saload, 1) := by decide +kernel
theorem dX9_sense_40 : decode cX9_sense 40 = .ok (.bipush 100, 2) := by decide +kernel
theorem dX9_sense_42 : decode cX9_sense 42 = .ok (.if_icmp .ge 14, 3) := by decide +kernel
theorem dX9_sense_45 : decode cX9_sense 45 = .ok (.aload_n 0, 1) := by decide +kernel
theorem dX9_sense_46 : decode cX9_sense 46 = .ok (.getfield 45, 3) := by decide +kernel
theorem dX9_sense_49 : decode cX9_sense 49 = .ok (.iload_n 2, 1) := by decide +kernel
theorem dX9_sense_50 : decode cX9_sense 50 = .ok (.saload, 1) := by decide +kernel
theorem dX9_sense_51 : decode cX9_sense 51 = .ok (.iconst 1, 1) := by decide +kernel
theorem dX9_sense_52 : decode cX9_sense 52 = .ok (.iadd, 1) := by decide +kernel
theorem dX9_sense_53 : decode cX9_sense 53 = .ok (.goto 5, 3) := by decide +kernel
theorem dX9_sense_56 : decode cX9_sense 56 = .ok (.bipush 100, 2) := by decide +kernel
theorem dX9_sense_58 : decode cX9_sense 58 = .ok (.i2s, 1) := by decide +kernel
theorem dX9_sense_59 : decode cX9_sense 59 = .ok (.sastore, 1) := by decide +kernel
theorem dX9_sense_60 : decode cX9_sense 60 = .ok (.aload_n 0, 1) := by decide +kernel
theorem dX9_sense_61 : decode cX9_sense 61 = .ok (.getfield 48, 3) := by decide +kernel
theorem dX9_sense_64 : decode cX9_sense 64 = .ok (.iload_n 2, 1) := by decide +kernel
theorem dX9_sense_65 : decode cX9_sense 65 = .ok (.aload_n 0, 1) := by decide +kernel
theorem dX9_sense_66 : decode cX9_sense 66 = .ok (.getfield 48, 3) := by decide +kernel
theorem dX9_sense_69 : decode cX9_sense 69 = .ok (.iload_n 2, 1) := by decide +kernel
theorem dX9_sense_70 : decode cX9_sense 70 = .ok (.faload, 1) := by decide +kernel
theorem dX9_sense_71 : decode cX9_sense 71 = .ok (.ldc 170, 2) := by decide +kernel
theorem dX9_sense_73 : decode cX9_sense 73 = .ok (.fmul, 1) := by decide +kernel
theorem dX9_sense_74 : decode cX9_sense 74 = .ok (.fastore, 1) := by decide +kernel
theorem dX9_sense_75 : decode cX9_sense 75 = .ok (.aload_n 0, 1) := by decide +kernel
theorem dX9_sense_76 : decode cX9_sense 76 = .ok (.getfield 42, 3) := by decide +kernel
theorem dX9_sense_79 : decode cX9_sense 79 = .ok (.iload_n 2, 1) := by decide +kernel
theorem dX9_sense_80 : decode cX9_sense 80 = .ok (.baload, 1) := by decide +kernel
theorem dX9_sense_81 : decode cX9_sense 81 = .ok (.ifCond .eq 18, 3) := by decide +kernel
theorem dX9_sense_84 : decode cX9_sense 84 = .ok (.aload_n 0, 1) := by decide +kernel
theorem dX9_sense_85 : decode cX9_sense 85 = .ok (.getfield 48, 3) := by decide +kernel
theorem dX9_sense_88 : decode cX9_sense 88 = .ok (.iload_n 2, 1) := by decide +kernel
theorem dX9_sense_89 : decode cX9_sense 89 = .ok (.aload_n 0, 1) := by decide +kernel
theorem dX9_sense_90 : decode cX9_sense 90 = .ok (.getfield 48, 3) := by decide +kernel
theorem dX9_sense_93 : decode cX9_sense 93 = .ok (.iload_n 2, 1) := by decide +kernel
theorem dX9_sense_94 : decode cX9_sense 94 = .ok (.faload, 1) := by decide +kernel
theorem dX9_sense_95 : decode cX9_sense 95 = .ok (.ldc 171, 2) := by decide +kernel
theorem dX9_sense_97 : decode cX9_sense 97 = .ok (.fadd, 1) := by decide +kernel
theorem dX9_sense_98 : decode cX9_sense 98 = .ok (.fastore, 1) := by decide +kernel
theorem dX9_sense_99 : decode cX9_sense 99 = .ok (.iinc 2 1, 3) := by decide +kernel
theorem dX9_sense_102 : decode cX9_sense 102 = .ok (.goto (-97), 3) := by decide +kernel
theorem dX9_sense_105 : decode cX9_sense 105 = .ok (.return_, 1) := by decide +kernel
theorem dX9_link_0 : decode cX9_link 0 = .ok (.aload_n 0, 1) := by decide +kernel
theorem dX9_link_1 : decode cX9_link 1 = .ok (.getfield 106, 3) := by decide +kernel
theorem dX9_link_4 : decode cX9_link 4 = .ok (.iload_n 1, 1) := by decide +kernel
theorem dX9_link_5 : decode cX9_link 5 = .ok (.iaload, 1) := by decide +kernel
theorem dX9_link_6 : decode cX9_link 6 = .ok (.istore_n 2, 1) := by decide +kernel
theorem dX9_link_7 : decode cX9_link 7 = .ok (.iload_n 2, 1) := by decide +kernel
theorem dX9_link_8 : decode cX9_link 8 = .ok (.ifCond .ge 4, 3) := by decide +kernel
theorem dX9_link_11 : decode cX9_link 11 = .ok (.return_, 1) := by decide +kernel
theorem dX9_link_12 : decode cX9_link 12 = .ok (.aload_n 0, 1) := by decide +kernel
theorem dX9_link_13 : decode cX9_link 13 = .ok (.getfield 112, 3) := by decide +kernel
theorem dX9_link_16 : decode cX9_link 16 = .ok (.iload_n 1, 1) := by decide +kernel
theorem dX9_link_17 : decode cX9_link 17 = .ok (.dup2, 1) := by decide +kernel
theorem dX9_link_18 : decode cX9_link 18 = .ok (.iaload, 1) := by decide +kernel
theorem dX9_link_19 : decode cX9_link 19 = .ok (.iconst 1, 1) := by decide +kernel
theorem dX9_link_20 : decode cX9_link 20 = .ok (.iadd, 1) := by decide +kernel
theorem dX9_link_21 : decode cX9_link 21 = .ok (.iastore, 1) := by decide +kernel
theorem dX9_link_22 : decode cX9_link 22 = .ok (.aload_n 0, 1) := by decide +kernel
theorem dX9_link_23 : decode cX9_link 23 = .ok (.getfield 112, 3) := by decide +kernel
theorem dX9_link_26 : decode cX9_link 26 = .ok (.iload_n 1, 1) := by decide +kernel
theorem dX9_link_27 : decode cX9_link 27 = .ok (.iaload, 1) := by decide +kernel
theorem dX9_link_28 : decode cX9_link 28 = .ok (.bipush 30, 2) := by decide +kernel
theorem dX9_link_30 : decode cX9_link 30 = .ok (.if_icmp .ne 11, 3) := by decide +kernel
theorem dX9_link_33 : decode cX9_link 33 = .ok (.aload_n 0, 1) := by decide +kernel
theorem dX9_link_34 : decode cX9_link 34 = .ok (.getfield 106, 3) := by decide +kernel
theorem dX9_link_37 : decode cX9_link 37 = .ok (.iload_n 1, 1) := by decide +kernel
theorem dX9_link_38 : decode cX9_link 38 = .ok (.iconst (-1), 1) := by decide +kernel
theorem dX9_link_39 : decode cX9_link 39 = .ok (.iastore, 1) := by decide +kernel
theorem dX9_link_40 : decode cX9_link 40 = .ok (.return_, 1) := by decide +kernel
theorem dX9_link_41 : decode cX9_link 41 = .ok (.aload_n 0, 1) := by decide +kernel
theorem dX9_link_42 : decode cX9_link 42 = .ok (.getfield 115, 3) := by decide +kernel
theorem dX9_link_45 : decode cX9_link 45 = .ok (.iload_n 1, 1) := by decide +kernel
theorem dX9_link_46 : decode cX9_link 46 = .ok (.aload_n 0, 1) := by decide +kernel
theorem dX9_link_47 : decode cX9_link 47 = .ok (.getfield 115, 3) := by decide +kernel
theorem dX9_link_50 : decode cX9_link 50 = .ok (.iload_n 1, 1) := by decide +kernel
theorem dX9_link_51 : decode cX9_link 51 = .ok (.iaload, 1) := by decide +kernel
theorem dX9_link_52 : decode cX9_link 52 = .ok (.iconst 1, 1) := by decide +kernel
theorem dX9_link_53 : decode cX9_link 53 = .ok (.iadd, 1) := by decide +kernel
theorem dX9_link_54 : decode cX9_link 54 = .ok (.aload_n 0, 1) := by decide +kernel
theorem dX9_link_55 : decode cX9_link 55 = .ok (.getfield 97, 3) := by decide +kernel
theorem dX9_link_58 : decode cX9_link 58 = .ok (.iload_n 2, 1) := by decide +kernel
theorem dX9_link_59 : decode cX9_link 59 = .ok (.iaload, 1) := by decide +kernel
theorem dX9_link_60 : decode cX9_link 60 = .ok (.irem, 1) := by decide +kernel
theorem dX9_link_61 : decode cX9_link 61 = .ok (.iastore, 1) := by decide +kernel
theorem dX9_link_62 : decode cX9_link 62 = .ok (.aload_n 0, 1) := by decide +kernel
theorem dX9_link_63 : decode cX9_link 63 = .ok (.getfield 172, 3) := by decide +kernel
theorem dX9_link_66 : decode cX9_link 66 = .ok (.iconst 5, 1) := by decide +kernel
theorem dX9_link_67 : decode cX9_link 67 = .ok (.irem, 1) := by decide +kernel
theorem dX9_link_68 : decode cX9_link 68 = .ok (.ifCond .eq 4, 3) := by decide +kernel
theorem dX9_link_71 : decode cX9_link 71 = .ok (.return_, 1) := by decide +kernel
theorem dX9_link_72 : decode cX9_link 72 = .ok (.aload_n 0, 1) := by decide +kernel
theorem dX9_link_73 : decode cX9_link 73 = .ok (.getfield 172, 3) := by decide +kernel
theorem dX9_link_76 : decode cX9_link 76 = .ok (.aload_n 0, 1) := by decide +kernel
theorem dX9_link_77 : decode cX9_link 77 = .ok (.getfield 100, 3) := by decide +kernel
theorem dX9_link_80 : decode cX9_link 80 = .ok (.iload_n 2, 1) := by decide +kernel
theorem dX9_link_81 : decode cX9_link 81 = .ok (.iaload, 1) := by decide +kernel
theorem dX9_link_82 : decode cX9_link 82 = .ok (.isub, 1) := by decide +kernel
theorem dX9_link_83 : decode cX9_link 83 = .ok (.aload_n 0, 1) := by decide +kernel
theorem dX9_link_84 : decode cX9_link 84 = .ok (.getfield 97, 3) := by decide +kernel
theorem dX9_link_87 : decode cX9_link 87 = .ok (.iload_n 2, 1) := by decide +kernel
theorem dX9_link_88 : decode cX9_link 88 = .ok (.iaload, 1) := by decide +kernel
theorem dX9_link_89 : decode cX9_link 89 = .ok (.irem, 1) := by decide +kernel
theorem dX9_link_90 : decode cX9_link 90 = .ok (.aload_n 0, 1) := by decide +kernel
theorem dX9_link_91 : decode cX9_link 91 = .ok (.getfield 97, 3) := by decide +kernel
theorem dX9_link_94 : decode cX9_link 94 = .ok (.iload_n 2, 1) := by decide +kernel
theorem dX9_link_95 : decode cX9_link 95 = .ok (.iaload, 1) := by decide +kernel
theorem dX9_link_96 : decode cX9_link 96 = .ok (.iadd, 1) := by decide +kernel
theorem dX9_link_97 : decode cX9_link 97 = .ok (.aload_n 0, 1) := by decide +kernel
theorem dX9_link_98 : decode cX9_link 98 = .ok (.getfield 97, 3) := by decide +kernel
theorem dX9_link_101 : decode cX9_link 101 = .ok (.iload_n 2, 1) := by decide +kernel
theorem dX9_link_102 : decode cX9_link 102 = .ok (.iaload, 1) := by decide +kernel
theorem dX9_link_103 : decode cX9_link 103 = .ok (.irem, 1) := by decide +kernel
theorem dX9_link_104 : decode cX9_link 104 = .ok (.istore_n 3, 1) := by decide +kernel
theorem dX9_link_105 : decode cX9_link 105 = .ok (.iload_n 3, 1) := by decide +kernel
theorem dX9_link_106 : decode cX9_link 106 = .ok (.aload_n 0, 1) := by decide +kernel
theorem dX9_link_107 : decode cX9_link 107 = .ok (.getfield 115, 3) := by decide +kernel
theorem dX9_link_110 : decode cX9_link 110 = .ok (.iload_n 1, 1) := by decide +kernel
theorem dX9_link_111 : decode cX9_link 111 = .ok (.iaload, 1) := by decide +kernel
theorem dX9_link_112 : decode cX9_link 112 = .ok (.isub, 1) := by decide +kernel
theorem dX9_link_113 : decode cX9_link 113 = .ok (.aload_n 0, 1) := by decide +kernel
theorem dX9_link_114 : decode cX9_link 114 = .ok (.getfield 97, 3) := by decide +kernel
theorem dX9_link_117 : decode cX9_link 117 = .ok (.iload_n 2, 1) := by decide +kernel
theorem dX9_link_118 : decode cX9_link 118 = .ok (.iaload, 1) := by decide +kernel
theorem dX9_link_119 : decode cX9_link 119 = .ok (.iadd, 1) := by decide +kernel
theorem dX9_link_120 : decode cX9_link 120 = .ok (.aload_n 0, 1) := by decide +kernel
theorem dX9_link_121 : decode cX9_link 121 = .ok (.getfield 97, 3) := by decide +kernel
theorem dX9_link_124 : decode cX9_link 124 = .ok (.iload_n 2, 1) := by decide +kernel
theorem dX9_link_125 : decode cX9_link 125 = .ok (.iaload, 1) := by decide +kernel
theorem dX9_link_126 : decode cX9_link 126 = .ok (.irem, 1) := by decide +kernel
theorem dX9_link_127 : decode cX9_link 127 = .ok (.istore 4, 2) := by decide +kernel
theorem dX9_link_129 : decode cX9_link 129 = .ok (.iload 4, 2) := by decide +kernel
theorem dX9_link_131 : decode cX9_link 131 = .ok (.ifCond .ne 4, 3) := by decide +kernel
theorem dX9_link_134 : decode cX9_link 134 = .ok (.return_, 1) := by decide +kernel
theorem dX9_link_135 : decode cX9_link 135 = .ok (.aload_n 0, 1) := by decide +kernel
theorem dX9_link_136 : decode cX9_link 136 = .ok (.getfield 115, 3) := by decide +kernel
theorem dX9_link_139 : decode cX9_link 139 = .ok (.iload_n 1, 1) := by decide +kernel
theorem dX9_link_140 : decode cX9_link 140 = .ok (.iload 4, 2) := by decide +kernel
theorem dX9_link_142 : decode cX9_link 142 = .ok (.aload_n 0, 1) := by decide +kernel
theorem dX9_link_143 : decode cX9_link 143 = .ok (.getfield 97, 3) := by decide +kernel
theorem dX9_link_146 : decode cX9_link 146 = .ok (.iload_n 2, 1) := by decide +kernel
theorem dX9_link_147 : decode cX9_link 147 = .ok (.iaload, 1) := by decide +kernel
theorem dX9_link_148 : decode cX9_link 148 = .ok (.iload 4, 2) := by decide +kernel
theorem dX9_link_150 : decode cX9_link 150 = .ok (.isub, 1) := by decide +kernel
theorem dX9_link_151 : decode cX9_link 151 = .ok (.if_icmp .gt 14, 3) := by decide +kernel
theorem dX9_link_154 : decode cX9_link 154 = .ok (.aload_n 0, 1) := by decide +kernel
theorem dX9_link_155 : decode cX9_link 155 = .ok (.getfield 115, 3) := by decide +kernel
theorem dX9_link_158 : decode cX9_link 158 = .ok (.iload_n 1, 1) := by decide +kernel
theorem dX9_link_159 : decode cX9_link 159 = .ok (.iaload, 1) := by decide +kernel
theorem dX9_link_160 : decode cX9_link 160 = .ok (.iconst 1, 1) := by decide +kernel
theorem dX9_link_161 : decode cX9_link 161 = .ok (.iadd, 1) := by decide +kernel
theorem dX9_link_162 : decode cX9_link 162 = .ok (.goto 11, 3) := by decide +kernel
theorem dX9_link_165 : decode cX9_link 165 = .ok (.aload_n 0, 1) := by decide +kernel
theorem dX9_link_166 : decode cX9_link 166 = .ok (.getfield 115, 3) := by decide +kernel
theorem dX9_link_169 : decode cX9_link 169 = .ok (.iload_n 1, 1) := by decide +kernel
theorem dX9_link_170 : decode cX9_link 170 = .ok (.iaload, 1) := by decide +kernel
theorem dX9_link_171 : decode cX9_link 171 = .ok (.iconst 1, 1) := by decide +kernel
theorem dX9_link_172 : decode cX9_link 172 = .ok (.isub, 1) := by decide +kernel
theorem dX9_link_173 : decode cX9_link 173 = .ok (.iastore, 1) := by decide +kernel
theorem dX9_link_174 : decode cX9_link 174 = .ok (.aload_n 0, 1) := by decide +kernel
theorem dX9_link_175 : decode cX9_link 175 = .ok (.getfield 115, 3) := by decide +kernel
theorem dX9_link_178 : decode cX9_link 178 = .ok (.iload_n 1, 1) := by decide +kernel
theorem dX9_link_179 : decode cX9_link 179 = .ok (.aload_n 0, 1) := by decide +kernel
theorem dX9_link_180 : decode cX9_link 180 = .ok (.getfield 115, 3) := by decide +kernel
theorem dX9_link_183 : decode cX9_link 183 = .ok (.iload_n 1, 1) := by decide +kernel
theorem dX9_link_184 : decode cX9_link 184 = .ok (.iaload, 1) := by decide +kernel
theorem dX9_link_185 : decode cX9_link 185 = .ok (.aload_n 0, 1) := by decide +kernel
theorem dX9_link_186 : decode cX9_link 186 = .ok (.getfield 97, 3) := by decide +kernel
theorem dX9_link_189 : decode cX9_link 189 = .ok (.iload_n 2, 1) := by decide +kernel
theorem dX9_link_190 : decode cX9_link 190 = .ok (.iaload, 1) := by decide +kernel
theorem dX9_link_191 : decode cX9_link 191 = .ok (.iadd, 1) := by decide +kernel
theorem dX9_link_192 : decode cX9_link 192 = .ok (.aload_n 0, 1) := by decide +kernel
theorem dX9_link_193 : decode cX9_link 193 = .ok (.getfield 97, 3) := by decide +kernel
theorem dX9_link_196 : decode cX9_link 196 = .ok (.iload_n 2, 1) := by decide +kernel
theorem dX9_link_197 : decode cX9_link 197 = .ok (.iaload, 1) := by decide +kernel
theorem dX9_link_198 : decode cX9_link 198 = .ok (.irem, 1) := by decide +kernel
theorem dX9_link_199 : decode cX9_link 199 = .ok (.iastore, 1) := by decide +kernel
theorem dX9_link_200 : decode cX9_link 200 = .ok (.return_, 1) := by decide +kernel
theorem dX9_passes_0 : decode cX9_passes 0 = .ok (.aload_n 0, 1) := by decide +kernel
theorem dX9_passes_1 : decode cX9_passes 1 = .ok (.getfield 42, 3) := by decide +kernel
theorem dX9_passes_4 : decode cX9_passes 4 = .ok (.bipush 8, 2) := by decide +kernel
theorem dX9_passes_6 : decode cX9_passes 6 = .ok (.iload_n 1, 1) := by decide +kernel
theorem dX9_passes_7 : decode cX9_passes 7 = .ok (.imul, 1) := by decide +kernel
theorem dX9_passes_8 : decode cX9_passes 8 = .ok (.iload_n 2, 1) := by decide +kernel
theorem dX9_passes_9 : decode cX9_passes 9 = .ok (.iadd, 1) := by decide +kernel
theorem dX9_passes_10 : decode cX9_passes 10 = .ok (.baload, 1) := by decide +kernel
theorem dX9_passes_11 : decode cX9_passes 11 = .ok (.ifCond .eq 16, 3) := by decide +kernel
theorem dX9_passes_14 : decode cX9_passes 14 = .ok (.aload_n 0, 1) := by decide +kernel
theorem dX9_passes_15 : decode cX9_passes 15 = .ok (.iload_n 1, 1) := by decide +kernel
theorem dX9_passes_16 : decode cX9_passes 16 = .ok (.iload_n 2, 1) := by decide +kernel
theorem dX9_passes_17 : decode cX9_passes 17 = .ok (.invokevirtual 175, 3) := by decide +kernel
theorem dX9_passes_20 : decode cX9_passes 20 = .ok (.ifCond .ne 7, 3) := by decide +kernel
theorem dX9_passes_23 : decode cX9_passes 23 = .ok (.iconst 1, 1) := by decide +kernel
theorem dX9_passes_24 : decode cX9_passes 24 = .ok (.goto 4, 3) := by decide +kernel
theorem dX9_passes_27 : decode cX9_passes 27 = .ok (.iconst 0, 1) := by decide +kernel
theorem dX9_passes_28 : decode cX9_passes 28 = .ok (.ireturn, 1) := by decide +kernel
theorem dX9_call_0 : decode cX9_call 0 = .ok (.iconst 0, 1) := by decide +kernel
theorem dX9_call_1 : decode cX9_call 1 = .ok (.istore_n 2, 1) := by decide +kernel
theorem dX9_call_2 : decode cX9_call 2 = .ok (.iload_n 2, 1) := by decide +kernel
theorem dX9_call_3 : decode cX9_call 3 = .ok (.bipush 8, 2) := by decide +kernel
theorem dX9_call_5 : decode cX9_call 5 = .ok (.if_icmp .ge 160, 3) := by decide +kernel
theorem dX9_call_8 : decode cX9_call 8 = .ok (.bipush 8, 2) := by decide +kernel
theorem dX9_call_10 : decode cX9_call 10 = .ok (.iload_n 1, 1) := by decide +kernel
theorem dX9_call_11 : decode cX9_call 11 = .ok (.imul, 1) := by decide +kernel
theorem dX9_call_12 : decode cX9_call 12 = .ok (.iload_n 2, 1) := by decide +kernel
theorem dX9_call_13 : decode cX9_call 13 = .ok (.iadd, 1) := by decide +kernel
theorem dX9_call_14 : decode cX9_call 14 = .ok (.istore_n 3, 1) := by decide +kernel
theorem dX9_call_15 : decode cX9_call 15 = .ok (.aload_n 0, 1) := by decide +kernel
theorem dX9_call_16 : decode cX9_call 16 = .ok (.iload_n 1, 1) := by decide +kernel
theorem dX9_call_17 : decode cX9_call 17 = .ok (.iload_n 2, 1) := by decide +kernel
theorem dX9_call_18 : decode cX9_call 18 = .ok (.bipush 7, 2) := by decide +kernel
theorem dX9_call_20 : decode cX9_call 20 = .ok (.invokevirtual 144, 3) := by decide +kernel
theorem dX9_call_23 : decode cX9_call 23 = .ok (.istore 4, 2) := by decide +kernel
theorem dX9_call_25 : decode cX9_call 25 = .ok (.aload_n 0, 1) := by decide +kernel
theorem dX9_call_26 : decode cX9_call 26 = .ok (.getfield 33, 3) := by decide +kernel
theorem dX9_call_29 : decode cX9_call 29 = .ok (.iload_n 3, 1) := by decide +kernel
theorem dX9_call_30 : decode cX9_call 30 = .ok (.baload, 1) := by decide +kernel
theorem dX9_call_31 : decode cX9_call 31 = .ok (.ifCond .ne 6, 3) := by decide +kernel
theorem dX9_call_34 : decode cX9_call 34 = .ok (.goto 125, 3) := by decide +kernel
theorem dX9_call_37 : decode cX9_call 37 = .ok (.aload_n 0, 1) := by decide +kernel
theorem dX9_call_38 : decode cX9_call 38 = .ok (.iload_n 1, 1) := by decide +kernel
theorem dX9_call_39 : decode cX9_call 39 = .ok (.iload_n 2, 1) := by decide +kernel
theorem dX9_call_40 : decode cX9_call 40 = .ok (.invokevirtual 155, 3) := by decide +kernel
theorem dX9_call_43 : decode cX9_call 43 = .ok (.ifCond .eq 66, 3) := by decide +kernel
theorem dX9_call_46 : decode cX9_call 46 = .ok (.iload_n 1, 1) := by decide +kernel
theorem dX9_call_47 : decode cX9_call 47 = .ok (.iload_n 2, 1) := by decide +kernel
theorem dX9_call_48 : decode cX9_call 48 = .ok (.invokestatic 126, 3) := by decide +kernel
theorem dX9_call_51 : decode cX9_call 51 = .ok (.istore 5, 2) := by decide +kernel
theorem dX9_call_53 : decode cX9_call 53 = .ok (.aload_n 0, 1) := by decide +kernel
theorem dX9_call_54 : decode cX9_call 54 = .ok (.iload_n 1, 1) := by decide +kernel
theorem dX9_call_55 : decode cX9_call 55 = .ok (.iload_n 2, 1) := by decide +kernel
theorem dX9_call_56 : decode cX9_call 56 = .ok (.invokevirtual 178, 3) := by decide +kernel
theorem dX9_call_59 : decode cX9_call 59 = .ok (.ifCond .ne 9, 3) := by decide +kernel
theorem dX9_call_62 : decode cX9_call 62 = .ok (.iload 4, 2) := by decide +kernel
theorem dX9_call_64 : decode cX9_call 64 = .ok (.iconst 2, 1) := by decide +kernel
theorem dX9_call_65 : decode cX9_call 65 = .ok (.if_icmp .ne 20, 3) := by decide +kernel
theorem dX9_call_68 : decode cX9_call 68 = .ok (.aload_n 0, 1) := by decide +kernel
theorem dX9_call_69 : decode cX9_call 69 = .ok (.getfield 82, 3) := by decide +kernel
theorem dX9_call_72 : decode cX9_call 72 = .ok (.iload 5, 2) := by decide +kernel
theorem dX9_call_74 : decode cX9_call 74 = .ok (.aload_n 0, 1) := by decide +kernel
theorem dX9_call_75 : decode cX9_call 75 = .ok (.iload_n 1, 1) := by decide +kernel
theorem dX9_call_76 : decode cX9_call 76 = .ok (.iload_n 2, 1) := by decide +kernel
theorem dX9_call_77 : decode cX9_call 77 = .ok (.iconst 1, 1) := by decide +kernel
theorem dX9_call_78 : decode cX9_call 78 = .ok (.invokevirtual 144, 3) := by decide +kernel
theorem dX9_call_81 : decode cX9_call 81 = .ok (.iastore, 1) := by decide +kernel
theorem dX9_call_82 : decode cX9_call 82 = .ok (.goto 24, 3) := by decide +kernel
theorem dX9_call_85 : decode cX9_call 85 = .ok (.aload_n 0, 1) := by decide +kernel
theorem dX9_call_86 : decode cX9_call 86 = .ok (.getfield 82, 3) := by decide +kernel
theorem dX9_call_89 : decode cX9_call 89 = .ok (.iload 5, 2) := by decide +kernel
theorem dX9_call_91 : decode cX9_call 91 = .ok (.iaload, 1) := by decide +kernel
theorem dX9_call_92 : decode cX9_call 92 = .ok (.ifCond .le 14, 3) := by decide +kernel
theorem dX9_call_95 : decode cX9_call 95 = .ok (.aload_n 0, 1) := by decide +kernel
theorem dX9_call_96 : decode cX9_call 96 = .ok (.getfield 82, 3) := by decide +kernel
theorem dX9_call_99 : decode cX9_call 99 = .ok (.iload 5, 2) := by decide +kernel
theorem dX9_call_101 : decode cX9_call 101 = .ok (.dup2, 1) := by decide +kernel
theorem dX9_call_102 : decode cX9_call 102 = .ok (.iaload, 1) := by decide +kernel
theorem dX9_call_103 : decode cX9_call 103 = .ok (.iconst 1, 1) := by decide +kernel
theorem dX9_call_104 : decode cX9_call 104 = .ok (.isub, 1) := by decide +kernel
theorem dX9_call_105 : decode cX9_call 105 = .ok (.iastore, 1) := by decide +kernel
theorem dX9_call_106 : decode cX9_call 106 = .ok (.goto 53, 3) := by decide +kernel
theorem dX9_call_109 : decode cX9_call 109 = .ok (.aload_n 0, 1) := by decide +kernel
theorem dX9_call_110 : decode cX9_call 110 = .ok (.getfield 42, 3) := by decide +kernel
theorem dX9_call_113 : decode cX9_call 113 = .ok (.iload_n 3, 1) := by decide +kernel
theorem dX9_call_114 : decode cX9_call 114 = .ok (.baload, 1) := by decide +kernel
theorem dX9_call_115 : decode cX9_call 115 = .ok (.ifCond .ne 24, 3) := by decide +kernel
theorem dX9_call_118 : decode cX9_call 118 = .ok (.aload_n 0, 1) := by decide +kernel
theorem dX9_call_119 : decode cX9_call 119 = .ok (.iload_n 1, 1) := by decide +kernel
theorem dX9_call_120 : decode cX9_call 120 = .ok (.iload_n 2, 1) := by decide +kernel
theorem dX9_call_121 : decode cX9_call 121 = .ok (.invokevirtual 175, 3) := by decide +kernel
theorem dX9_call_124 : decode cX9_call 124 = .ok (.ifCond .ne 15, 3) := by decide +kernel
theorem dX9_call_127 : decode cX9_call 127 = .ok (.iload 4, 2) := by decide +kernel
theorem dX9_call_129 : decode cX9_call 129 = .ok (.iconst 1, 1) := by decide +kernel
theorem dX9_call_130 : decode cX9_call 130 = .ok (.if_icmp .eq 9, 3) := by decide +kernel
theorem dX9_call_133 : decode cX9_call 133 = .ok (.iload 4, 2) := by decide +kernel
theorem dX9_call_135 : decode cX9_call 135 = .ok (.iconst 2, 1) := by decide +kernel
theorem dX9_call_136 : decode cX9_call 136 = .ok (.if_icmp .ne 10, 3) := by decide +kernel
theorem dX9_call_139 : decode cX9_call 139 = .ok (.aload_n 0, 1) := by decide +kernel
theorem dX9_call_140 : decode cX9_call 140 = .ok (.getfield 36, 3) := by decide +kernel
theorem dX9_call_143 : decode cX9_call 143 = .ok (.iload_n 3, 1) := by decide +kernel
theorem dX9_call_144 : decode cX9_call 144 = .ok (.iconst 1, 1) := by decide +kernel
theorem dX9_call_145 : decode cX9_call 145 = .ok (.bastore, 1) := by decide +kernel
theorem dX9_call_146 : decode cX9_call 146 = .ok (.iload 4, 2) := by decide +kernel
theorem dX9_call_148 : decode cX9_call 148 = .ok (.iconst 3, 1) := by decide +kernel
theorem dX9_call_149 : decode cX9_call 149 = .ok (.if_icmp .ne 10, 3) := by decide +kernel
theorem dX9_call_152 : decode cX9_call 152 = .ok (.aload_n 0, 1) := by decide +kernel
theorem dX9_call_153 : decode cX9_call 153 = .ok (.getfield 39, 3) := by decide +kernel
theorem dX9_call_156 : decode cX9_call 156 = .ok (.iload_n 3, 1) := by decide +kernel
theorem dX9_call_157 : decode cX9_call 157 = .ok (.iconst 1, 1) := by decide +kernel
theorem dX9_call_158 : decode cX9_call 158 = .ok (.bastore, 1) := by decide +kernel
theorem dX9_call_159 : decode cX9_call 159 = .ok (.iinc 2 1, 3) := by decide +kernel
theorem dX9_call_162 : decode cX9_call 162 = .ok (.goto (-160), 3) := by decide +kernel
theorem dX9_call_165 : decode cX9_call 165 = .ok (.return_, 1) := by decide +kernel
theorem dX9_beginWalk_0 : decode cX9_beginWalk 0 = .ok (.aload_n 0, 1) := by decide +kernel
theorem dX9_beginWalk_1 : decode cX9_beginWalk 1 = .ok (.getfield 85, 3) := by decide +kernel
theorem dX9_beginWalk_4 : decode cX9_beginWalk 4 = .ok (.iload_n 2, 1) := by decide +kernel
theorem dX9_beginWalk_5 : decode cX9_beginWalk 5 = .ok (.iconst 1, 1) := by decide +kernel
theorem dX9_beginWalk_6 : decode cX9_beginWalk 6 = .ok (.iastore, 1) := by decide +kernel
theorem dX9_beginWalk_7 : decode cX9_beginWalk 7 = .ok (.aload_n 0, 1) := by decide +kernel
theorem dX9_beginWalk_8 : decode cX9_beginWalk 8 = .ok (.getfield 88, 3) := by decide +kernel
theorem dX9_beginWalk_11 : decode cX9_beginWalk 11 = .ok (.iload_n 2, 1) := by decide +kernel
theorem dX9_beginWalk_12 : decode cX9_beginWalk 12 = .ok (.iconst 0, 1) := by decide +kernel
theorem dX9_beginWalk_13 : decode cX9_beginWalk 13 = .ok (.iastore, 1) := by decide +kernel
theorem dX9_beginWalk_14 : decode cX9_beginWalk 14 = .ok (.aload_n 0, 1) := by decide +kernel
theorem dX9_beginWalk_15 : decode cX9_beginWalk 15 = .ok (.getfield 39, 3) := by decide +kernel
theorem dX9_beginWalk_18 : decode cX9_beginWalk 18 = .ok (.bipush 8, 2) := by decide +kernel
theorem dX9_beginWalk_20 : decode cX9_beginWalk 20 = .ok (.iload_n 1, 1) := by decide +kernel
theorem dX9_beginWalk_21 : decode cX9_beginWalk 21 = .ok (.imul, 1) := by decide +kernel
theorem dX9_beginWalk_22 : decode cX9_beginWalk 22 = .ok (.aload_n 0, 1) := by decide +kernel
theorem dX9_beginWalk_23 : decode cX9_beginWalk 23 = .ok (.getfield 70, 3) := by decide +kernel
theorem dX9_beginWalk_26 : decode cX9_beginWalk 26 = .ok (.iload_n 2, 1) := by decide +kernel
theorem dX9_beginWalk_27 : decode cX9_beginWalk 27 = .ok (.iaload, 1) := by decide +kernel
theorem dX9_beginWalk_28 : decode cX9_beginWalk 28 = .ok (.iadd, 1) := by decide +kernel
theorem dX9_beginWalk_29 : decode cX9_beginWalk 29 = .ok (.iconst 0, 1) := by decide +kernel
theorem dX9_beginWalk_30 : decode cX9_beginWalk 30 = .ok (.bastore, 1) := by decide +kernel
theorem dX9_beginWalk_31 : decode cX9_beginWalk 31 = .ok (.return_, 1) := by decide +kernel
theorem dX9_begin_0 : decode cX9_begin 0 = .ok (.iload_n 1, 1) := by decide +kernel
theorem dX9_begin_1 : decode cX9_begin 1 = .ok (.iload_n 2, 1) := by decide +kernel
theorem dX9_begin_2 : decode cX9_begin 2 = .ok (.invokestatic 126, 3) := by decide +kernel
theorem dX9_begin_5 : decode cX9_begin 5 = .ok (.istore_n 3, 1) := by decide +kernel
theorem dX9_begin_6 : decode cX9_begin 6 = .ok (.aload_n 0, 1) := by decide +kernel
theorem dX9_begin_7 : decode cX9_begin 7 = .ok (.getfield 67, 3) := by decide +kernel
theorem dX9_begin_10 : decode cX9_begin 10 = .ok (.iload_n 3, 1) := by decide +kernel
theorem dX9_begin_11 : decode cX9_begin 11 = .ok (.iconst 1, 1) := by decide +kernel
theorem dX9_begin_12 : decode cX9_begin 12 = .ok (.iastore, 1) := by decide +kernel
theorem dX9_begin_13 : decode cX9_begin 13 = .ok (.aload_n 0, 1) := by decide +kernel
theorem dX9_begin_14 : decode cX9_begin 14 = .ok (.getfield 70, 3) := by decide +kernel
theorem dX9_begin_17 : decode cX9_begin 17 = .ok (.iload_n 3, 1) := by decide +kernel
theorem dX9_begin_18 : decode cX9_begin 18 = .ok (.iload_n 2, 1) := by decide +kernel
theorem dX9_begin_19 : decode cX9_begin 19 = .ok (.iastore, 1) := by decide +kernel
theorem dX9_begin_20 : decode cX9_begin 20 = .ok (.aload_n 0, 1) := by decide +kernel
theorem dX9_begin_21 : decode cX9_begin 21 = .ok (.getfield 73, 3) := by decide +kernel
theorem dX9_begin_24 : decode cX9_begin 24 = .ok (.iload_n 3, 1) := by decide +kernel
theorem dX9_begin_25 : decode cX9_begin 25 = .ok (.iconst (-1), 1) := by decide +kernel
theorem dX9_begin_26 : decode cX9_begin 26 = .ok (.iastore, 1) := by decide +kernel
theorem dX9_begin_27 : decode cX9_begin 27 = .ok (.aload_n 0, 1) := by decide +kernel
theorem dX9_begin_28 : decode cX9_begin 28 = .ok (.getfield 76, 3) := by decide +kernel
theorem dX9_begin_31 : decode cX9_begin 31 = .ok (.iload_n 3, 1) := by decide +kernel
theorem dX9_begin_32 : decode cX9_begin 32 = .ok (.iconst 0, 1) := by decide +kernel
theorem dX9_begin_33 : decode cX9_begin 33 = .ok (.iastore, 1) := by decide +kernel
theorem dX9_begin_34 : decode cX9_begin 34 = .ok (.aload_n 0, 1) := by decide +kernel
theorem dX9_begin_35 : decode cX9_begin 35 = .ok (.getfield 36, 3) := by decide +kernel
theorem dX9_begin_38 : decode cX9_begin 38 = .ok (.bipush 8, 2) := by decide +kernel
theorem dX9_begin_40 : decode cX9_begin 40 = .ok (.iload_n 1, 1) := by decide +kernel
theorem dX9_begin_41 : decode cX9_begin 41 = .ok (.imul, 1) := by decide +kernel
theorem dX9_begin_42 : decode cX9_begin 42 = .ok (.iload_n 2, 1) := by decide +kernel
theorem dX9_begin_43 : decode cX9_begin 43 = .ok (.iadd, 1) := by decide +kernel
theorem dX9_begin_44 : decode cX9_begin 44 = .ok (.iconst 0, 1) := by decide +kernel
theorem dX9_begin_45 : decode cX9_begin 45 = .ok (.bastore, 1) := by decide +kernel
theorem dX9_begin_46 : decode cX9_begin 46 = .ok (.aload_n 0, 1) := by decide +kernel
theorem dX9_begin_47 : decode cX9_begin 47 = .ok (.getfield 79, 3) := by decide +kernel
theorem dX9_begin_50 : decode cX9_begin 50 = .ok (.iload_n 3, 1) := by decide +kernel
theorem dX9_begin_51 : decode cX9_begin 51 = .ok (.iconst 0, 1) := by decide +kernel
theorem dX9_begin_52 : decode cX9_begin 52 = .ok (.iastore, 1) := by decide +kernel
theorem dX9_begin_53 : decode cX9_begin 53 = .ok (.aload_n 0, 1) := by decide +kernel
theorem dX9_begin_54 : decode cX9_begin 54 = .ok (.getfield 82, 3) := by decide +kernel
theorem dX9_begin_57 : decode cX9_begin 57 = .ok (.iload_n 3, 1) := by decide +kernel
theorem dX9_begin_58 : decode cX9_begin 58 = .ok (.aload_n 0, 1) := by decide +kernel
theorem dX9_begin_59 : decode cX9_begin 59 = .ok (.iload_n 1, 1) := by decide +kernel
theorem dX9_begin_60 : decode cX9_begin 60 = .ok (.iload_n 2, 1) := by decide +kernel
theorem dX9_begin_61 : decode cX9_begin 61 = .ok (.invokevirtual 178, 3) := by decide +kernel
theorem dX9_begin_64 : decode cX9_begin 64 = .ok (.ifCond .eq 13, 3) := by decide +kernel
theorem dX9_begin_67 : decode cX9_begin 67 = .ok (.aload_n 0, 1) := by decide +kernel
theorem dX9_begin_68 : decode cX9_begin 68 = .ok (.iload_n 1, 1) := by decide +kernel
theorem dX9_begin_69 : decode cX9_begin 69 = .ok (.iload_n 2, 1) := by decide +kernel
theorem dX9_begin_70 : decode cX9_begin 70 = .ok (.iconst 1, 1) := by decide +kernel
theorem dX9_begin_71 : decode cX9_begin 71 = .ok (.invokevirtual 144, 3) := by decide +kernel
theorem dX9_begin_74 : decode cX9_begin 74 = .ok (.goto 4, 3) := by decide +kernel
theorem dX9_begin_77 : decode cX9_begin 77 = .ok (.iconst 0, 1) := by decide +kernel
theorem dX9_begin_78 : decode cX9_begin 78 = .ok (.iastore, 1) := by decide +kernel
theorem dX9_begin_79 : decode cX9_begin 79 = .ok (.aload_n 0, 1) := by decide +kernel
theorem dX9_begin_80 : decode cX9_begin 80 = .ok (.getfield 85, 3) := by decide +kernel
theorem dX9_begin_83 : decode cX9_begin 83 = .ok (.iload_n 3, 1) := by decide +kernel
theorem dX9_begin_84 : decode cX9_begin 84 = .ok (.iconst 0, 1) := by decide +kernel
theorem dX9_begin_85 : decode cX9_begin 85 = .ok (.iastore, 1) := by decide +kernel
theorem dX9_begin_86 : decode cX9_begin 86 = .ok (.aload_n 0, 1) := by decide +kernel
theorem dX9_begin_87 : decode cX9_begin 87 = .ok (.iload_n 1, 1) := by decide +kernel
theorem dX9_begin_88 : decode cX9_begin 88 = .ok (.iload_n 2, 1) := by decide +kernel
theorem dX9_begin_89 : decode cX9_begin 89 = .ok (.iconst 5, 1) := by decide +kernel
theorem dX9_begin_90 : decode cX9_begin 90 = .ok (.invokevirtual 144, 3) := by decide +kernel
theorem dX9_begin_93 : decode cX9_begin 93 = .ok (.ifCond .le 35, 3) := by decide +kernel
theorem dX9_begin_96 : decode cX9_begin 96 = .ok (.aload_n 0, 1) := by decide +kernel
theorem dX9_begin_97 : decode cX9_begin 97 = .ok (.getfield 39, 3) := by decide +kernel
theorem dX9_begin_100 : decode cX9_begin 100 = .ok (.bipush 8, 2) := by decide +kernel
theorem dX9_begin_102 : decode cX9_begin 102 = .ok (.iload_n 1, 1) := by decide +kernel
theorem dX9_begin_103 : decode cX9_begin 103 = .ok (.imul, 1) := by decide +kernel
theorem dX9_begin_104 : decode cX9_begin 104 = .ok (.iload_n 2, 1) := by decide +kernel
theorem dX9_begin_105 : decode cX9_begin 105 = .ok (.iadd, 1) := by decide +kernel
theorem dX9_begin_106 : decode cX9_begin 106 = .ok (.baload, 1) := by decide +kernel
theorem dX9_begin_107 : decode cX9_begin 107 = .ok (.ifCond .ne 15, 3) := by decide +kernel
theorem dX9_begin_110 : decode cX9_begin 110 = .ok (.aload_n 0, 1) := by decide +kernel
theorem dX9_begin_111 : decode cX9_begin 111 = .ok (.iload_n 1, 1) := by decide +kernel
theorem dX9_begin_112 : decode cX9_begin 112 = .ok (.iload_n 2, 1) := by decide +kernel
theorem dX9_begin_113 : decode cX9_begin 113 = .ok (.bipush 7, 2) := by decide +kernel
theorem dX9_begin_115 : decode cX9_begin 115 = .ok (.invokevirtual 144, 3) := by decide +kernel
theorem dX9_begin_118 : decode cX9_begin 118 = .ok (.iconst 3, 1) := by decide +kernel
theorem dX9_begin_119 : decode cX9_begin 119 = .ok (.if_icmp .ne 9, 3) := by decide +kernel
theorem dX9_begin_122 : decode cX9_begin 122 = .ok (.aload_n 0, 1) := by decide +kernel
theorem dX9_begin_123 : decode cX9_begin 123 = .ok (.iload_n 1, 1) := by decide +kernel
theorem dX9_begin_124 : decode cX9_begin 124 = .ok (.iload_n 3, 1) := by decide +kernel
theorem dX9_begin_125 : decode cX9_begin 125 = .ok (.invokevirtual 181, 3) := by decide +kernel
theorem dX9_begin_128 : decode cX9_begin 128 = .ok (.return_, 1) := by decide +kernel
theorem dX9_pace_0 : decode cX9_pace 0 = .ok (.aload_n 0, 1) := by decide +kernel
theorem dX9_pace_1 : decode cX9_pace 1 = .ok (.getfield 85, 3) := by decide +kernel
theorem dX9_pace_4 : decode cX9_pace 4 = .ok (.iload_n 2, 1) := by decide +kernel
theorem dX9_pace_5 : decode cX9_pace 5 = .ok (.iaload, 1) := by decide +kernel
theorem dX9_pace_6 : decode cX9_pace 6 = .ok (.ifCond .ne 4, 3) := by decide +kernel
theorem dX9_pace_9 : decode cX9_pace 9 = .ok (.return_, 1) := by decide +kernel
theorem dX9_pace_10 : decode cX9_pace 10 = .ok (.aload_n 0, 1) := by decide +kernel
theorem dX9_pace_11 : decode cX9_pace 11 = .ok (.getfield 88, 3) := by decide +kernel
theorem dX9_pace_14 : decode cX9_pace 14 = .ok (.iload_n 2, 1) := by decide +kernel
theorem dX9_pace_15 : decode cX9_pace 15 = .ok (.dup2, 1) := by decide +kernel
theorem dX9_pace_16 : decode cX9_pace 16 = .ok (.iaload, 1) := by decide +kernel
theorem dX9_pace_17 : decode cX9_pace 17 = .ok (.iconst 1, 1) := by decide +kernel
theorem dX9_pace_18 : decode cX9_pace 18 = .ok (.iadd, 1) := by decide +kernel
theorem dX9_pace_19 : decode cX9_pace 19 = .ok (.iastore, 1) := by decide +kernel
theorem dX9_pace_20 : decode cX9_pace 20 = .ok (.aload_n 0, 1) := by decide +kernel
theorem dX9_pace_21 : decode cX9_pace 21 = .ok (.iload_n 1, 1) := by decide +kernel
theorem dX9_pace_22 : decode cX9_pace 22 = .ok (.aload_n 0, 1) := by decide +kernel
theorem dX9_pace_23 : decode cX9_pace 23 = .ok (.getfield 70, 3) := by decide +kernel
theorem dX9_pace_26 : decode cX9_pace 26 = .ok (.iload_n 2, 1) := by decide +kernel
theorem dX9_pace_27 : decode cX9_pace 27 = .ok (.iaload, 1) := by decide +kernel
theorem dX9_pace_28 : decode cX9_pace 28 = .ok (.aload_n 0, 1) := by decide +kernel
theorem dX9_pace_29 : decode cX9_pace 29 = .ok (.getfield 85, 3) := by decide +kernel
theorem dX9_pace_32 : decode cX9_pace 32 = .ok (.iload_n 2, 1) := by decide +kernel
theorem dX9_pace_33 : decode cX9_pace 33 = .ok (.iaload, 1) := by decide +kernel
theorem dX9_pace_34 : decode cX9_pace 34 = .ok (.iconst 1, 1) := by decide +kernel
theorem dX9_pace_35 : decode cX9_pace 35 = .ok (.if_icmp .ne 7, 3) := by decide +kernel
theorem dX9_pace_38 : decode cX9_pace 38 = .ok (.iconst 5, 1) := by decide +kernel
theorem dX9_pace_39 : decode cX9_pace 39 = .ok (.goto 5, 3) := by decide +kernel
theorem dX9_pace_42 : decode cX9_pace 42 = .ok (.bipush 6, 2) := by decide +kernel
theorem dX9_pace_44 : decode cX9_pace 44 = .ok (.invokevirtual 144, 3) := by decide +kernel
theorem dX9_pace_47 : decode cX9_pace 47 = .ok (.istore_n 3, 1) := by decide +kernel
theorem dX9_pace_48 : decode cX9_pace 48 = .ok (.aload_n 0, 1) := by decide +kernel
theorem dX9_pace_49 : decode cX9_pace 49 = .ok (.getfield 88, 3) := by decide +kernel
theorem dX9_pace_52 : decode cX9_pace 52 = .ok (.iload_n 2, 1) := by decide +kernel
theorem dX9_pace_53 : decode cX9_pace 53 = .ok (.iaload, 1) := by decide +kernel
theorem dX9_pace_54 : decode cX9_pace 54 = .ok (.iload_n 3, 1) := by decide +kernel
theorem dX9_pace_55 : decode cX9_pace 55 = .ok (.if_icmp .ge 4, 3) := by decide +kernel
theorem dX9_pace_58 : decode cX9_pace 58 = .ok (.return_, 1) := by decide +kernel
theorem dX9_pace_59 : decode cX9_pace 59 = .ok (.aload_n 0, 1) := by decide +kernel
theorem dX9_pace_60 : decode cX9_pace 60 = .ok (.getfield 85, 3) := by decide +kernel
theorem dX9_pace_63 : decode cX9_pace 63 = .ok (.iload_n 2, 1) := by decide +kernel
theorem dX9_pace_64 : decode cX9_pace 64 = .ok (.aload_n 0, 1) := by decide +kernel
theorem dX9_pace_65 : decode cX9_pace 65 = .ok (.getfield 85, 3) := by decide +kernel
theorem dX9_pace_68 : decode cX9_pace 68 = .ok (.iload_n 2, 1) := by decide +kernel
theorem dX9_pace_69 : decode cX9_pace 69 = .ok (.iaload, 1) := by decide +kernel
theorem dX9_pace_70 : decode cX9_pace 70 = .ok (.iconst 1, 1) := by decide +kernel
theorem dX9_pace_71 : decode cX9_pace 71 = .ok (.if_icmp .ne 7, 3) := by decide +kernel
theorem dX9_pace_74 : decode cX9_pace 74 = .ok (.iconst 2, 1) := by decide +kernel
theorem dX9_pace_75 : decode cX9_pace 75 = .ok (.goto 4, 3) := by decide +kernel
theorem dX9_pace_78 : decode cX9_pace 78 = .ok (.iconst 0, 1) := by decide +kernel
theorem dX9_pace_79 : decode cX9_pace 79 = .ok (.iastore, 1) := by decide +kernel
theorem dX9_pace_80 : decode cX9_pace 80 = .ok (.aload_n 0, 1) := by decide +kernel
theorem dX9_pace_81 : decode cX9_pace 81 = .ok (.getfield 88, 3) := by decide +kernel
theorem dX9_pace_84 : decode cX9_pace 84 = .ok (.iload_n 2, 1) := by decide +kernel
theorem dX9_pace_85 : decode cX9_pace 85 = .ok (.iconst 0, 1) := by decide +kernel
theorem dX9_pace_86 : decode cX9_pace 86 = .ok (.iastore, 1) := by decide +kernel
theorem dX9_pace_87 : decode cX9_pace 87 = .ok (.return_, 1) := by decide +kernel
theorem dX9_grow_0 : decode cX9_grow 0 = .ok (.aload_n 0, 1) := by decide +kernel
theorem dX9_grow_1 : decode cX9_grow 1 = .ok (.getfield 67, 3) := by decide +kernel
theorem dX9_grow_4 : decode cX9_grow 4 = .ok (.iload_n 2, 1) := by decide +kernel
theorem dX9_grow_5 : decode cX9_grow 5 = .ok (.iaload, 1) := by decide +kernel
theorem dX9_grow_6 : decode cX9_grow 6 = .ok (.ifCond .ne 4, 3) := by decide +kernel
theorem dX9_grow_9 : decode cX9_grow 9 = .ok (.return_, 1) := by decide +kernel
theorem dX9_grow_10 : decode cX9_grow 10 = .ok (.aload_n 0, 1) := by decide +kernel
theorem dX9_grow_11 : decode cX9_grow 11 = .ok (.getfield 76, 3) := by decide +kernel
theorem dX9_grow_14 : decode cX9_grow 14 = .ok (.iload_n 2, 1) := by decide +kernel
theorem dX9_grow_15 : decode cX9_grow 15 = .ok (.dup2, 1) := by decide +kernel
theorem dX9_grow_16 : decode cX9_grow 16 = .ok (.iaload, 1) := by decide +kernel
theorem dX9_grow_17 : decode cX9_grow 17 = .ok (.iconst 1, 1) := by decide +kernel
theorem dX9_grow_18 : decode cX9_grow 18 = .ok (.iadd, 1) := by decide +kernel
theorem dX9_grow_19 : decode cX9_grow 19 = .ok (.iastore, 1) := by decide +kernel
theorem dX9_grow_20 : decode cX9_grow 20 = .ok (.aload_n 0, 1) := by decide +kernel
theorem dX9_grow_21 : decode cX9_grow 21 = .ok (.getfield 67, 3) := by decide +kernel
theorem dX9_grow_24 : decode cX9_grow 24 = .ok (.iload_n 2, 1) := by decide +kernel
theorem dX9_grow_25 : decode cX9_grow 25 = .ok (.iaload, 1) := by decide +kernel
theorem dX9_grow_26 : decode cX9_grow 26 = .ok (.iconst 1, 1) := by decide +kernel
theorem dX9_grow_27 : decode cX9_grow 27 = .ok (.if_icmp .ne 33, 3) := by decide +kernel
theorem dX9_grow_30 : decode cX9_grow 30 = .ok (.aload_n 0, 1) := by decide +kernel
theorem dX9_grow_31 : decode cX9_grow 31 = .ok (.iload_n 1, 1) := by decide +kernel
theorem dX9_grow_32 : decode cX9_grow 32 = .ok (.iload_n 2, 1) := by decide +kernel
theorem dX9_grow_33 : decode cX9_grow 33 = .ok (.invokevirtual 185, 3) := by decide +kernel
theorem dX9_grow_36 : decode cX9_grow 36 = .ok (.iload_n 3, 1) := by decide +kernel
theorem dX9_grow_37 : decode cX9_grow 37 = .ok (.ifCond .eq 22, 3) := by decide +kernel
theorem dX9_grow_40 : decode cX9_grow 40 = .ok (.aload_n 0, 1) := by decide +kernel
theorem dX9_grow_41 : decode cX9_grow 41 = .ok (.iload_n 1, 1) := by decide +kernel
theorem dX9_grow_42 : decode cX9_grow 42 = .ok (.iload_n 2, 1) := by decide +kernel
theorem dX9_grow_43 : decode cX9_grow 43 = .ok (.invokevirtual 188, 3) := by decide +kernel
theorem dX9_grow_46 : decode cX9_grow 46 = .ok (.ifCond .eq 13, 3) := by decide +kernel
theorem dX9_grow_49 : decode cX9_grow 49 = .ok (.aload_n 0, 1) := by decide +kernel
theorem dX9_grow_50 : decode cX9_grow 50 = .ok (.getfield 79, 3) := by decide +kernel
theorem dX9_grow_53 : decode cX9_grow 53 = .ok (.iload_n 2, 1) := by decide +kernel
theorem dX9_grow_54 : decode cX9_grow 54 = .ok (.dup2, 1) := by decide +kernel
theorem dX9_grow_55 : decode cX9_grow 55 = .ok (.iaload, 1) := by decide +kernel
theorem dX9_grow_56 : decode cX9_grow 56 = .ok (.iconst 1, 1) := by decide +kernel
theorem dX9_grow_57 : decode cX9_grow 57 = .ok (.iadd, 1) := by decide +kernel
theorem dX9_grow_58 : decode cX9_grow 58 = .ok (.iastore, 1) := by decide +kernel
theorem dX9_grow_59 : decode cX9_grow 59 = .ok (.return_, 1) := by decide +kernel
theorem dX9_grow_60 : decode cX9_grow 60 = .ok (.aload_n 0, 1) := by decide +kernel
theorem dX9_grow_61 : decode cX9_grow 61 = .ok (.getfield 67, 3) := by decide +kernel
theorem dX9_grow_64 : decode cX9_grow 64 = .ok (.iload_n 2, 1) := by decide +kernel
theorem dX9_grow_65 : decode cX9_grow 65 = .ok (.iaload, 1) := by decide +kernel
theorem dX9_grow_66 : decode cX9_grow 66 = .ok (.iconst 2, 1) := by decide +kernel
theorem dX9_grow_67 : decode cX9_grow 67 = .ok (.if_icmp .ne 39, 3) := by decide +kernel
theorem dX9_grow_70 : decode cX9_grow 70 = .ok (.aload_n 0, 1) := by decide +kernel
theorem dX9_grow_71 : decode cX9_grow 71 = .ok (.getfield 76, 3) := by decide +kernel
theorem dX9_grow_74 : decode cX9_grow 74 = .ok (.iload_n 2, 1) := by decide +kernel
theorem dX9_grow_75 : decode cX9_grow 75 = .ok (.iaload, 1) := by decide +kernel
theorem dX9_grow_76 : decode cX9_grow 76 = .ok (.aload_n 0, 1) := by decide +kernel
theorem dX9_grow_77 : decode cX9_grow 77 = .ok (.iload_n 1, 1) := by decide +kernel
theorem dX9_grow_78 : decode cX9_grow 78 = .ok (.aload_n 0, 1) := by decide +kernel
theorem dX9_grow_79 : decode cX9_grow 79 = .ok (.getfield 70, 3) := by decide +kernel
theorem dX9_grow_82 : decode cX9_grow 82 = .ok (.iload_n 2, 1) := by decide +kernel
theorem dX9_grow_83 : decode cX9_grow 83 = .ok (.iaload, 1) := by decide +kernel
theorem dX9_grow_84 : decode cX9_grow 84 = .ok (.iconst 3, 1) := by decide +kernel
theorem dX9_grow_85 : decode cX9_grow 85 = .ok (.invokevirtual 144, 3) := by decide +kernel
theorem dX9_grow_88 : decode cX9_grow 88 = .ok (.if_icmp .ge 4, 3) := by decide +kernel
theorem dX9_grow_91 : decode cX9_grow 91 = .ok (.return_, 1) := by decide +kernel
theorem dX9_grow_92 : decode cX9_grow 92 = .ok (.aload_n 0, 1) := by decide +kernel
theorem dX9_grow_93 : decode cX9_grow 93 = .ok (.getfield 67, 3) := by decide +kernel
theorem dX9_grow_96 : decode cX9_grow 96 = .ok (.iload_n 2, 1) := by decide +kernel
theorem dX9_grow_97 : decode cX9_grow 97 = .ok (.iconst 3, 1) := by decide +kernel
theorem dX9_grow_98 : decode cX9_grow 98 = .ok (.iastore, 1) := by decide +kernel
theorem dX9_grow_99 : decode cX9_grow 99 = .ok (.aload_n 0, 1) := by decide +kernel
theorem dX9_grow_100 : decode cX9_grow 100 = .ok (.getfield 76, 3) := by decide +kernel
theorem dX9_grow_103 : decode cX9_grow 103 = .ok (.iload_n 2, 1) := by decide +kernel
theorem dX9_grow_104 : decode cX9_grow 104 = .ok (.iconst 0, 1) := by decide +kernel
theorem dX9_grow_105 : decode cX9_grow 105 = .ok (.iastore, 1) := by decide +kernel
theorem dX9_grow_106 : decode cX9_grow 106 = .ok (.aload_n 0, 1) := by decide +kernel
theorem dX9_grow_107 : decode cX9_grow 107 = .ok (.getfield 76, 3) := by decide +kernel
theorem dX9_grow_110 : decode cX9_grow 110 = .ok (.iload_n 2, 1) := by decide +kernel
theorem dX9_grow_111 : decode cX9_grow 111 = .ok (.iaload, 1) := by decide +kernel
theorem dX9_grow_112 : decode cX9_grow 112 = .ok (.aload_n 0, 1) := by decide +kernel
theorem dX9_grow_113 : decode cX9_grow 113 = .ok (.iload_n 1, 1) := by decide +kernel
theorem dX9_grow_114 : decode cX9_grow 114 = .ok (.aload_n 0, 1) := by decide +kernel
theorem dX9_grow_115 : decode cX9_grow 115 = .ok (.getfield 70, 3) := by decide +kernel
theorem dX9_grow_118 : decode cX9_grow 118 = .ok (.iload_n 2, 1) := by decide +kernel
theorem dX9_grow_119 : decode cX9_grow 119 = .ok (.iaload, 1) := by decide +kernel
theorem dX9_grow_120 : decode cX9_grow 120 = .ok (.iconst 4, 1) := by decide +kernel
theorem dX9_grow_121 : decode cX9_grow 121 = .ok (.invokevirtual 144, 3) := by decide +kernel
theorem dX9_grow_124 : decode cX9_grow 124 = .ok (.if_icmp .ge 4, 3) := by decide +kernel
theorem dX9_grow_127 : decode cX9_grow 127 = .ok (.return_, 1) := by decide +kernel
theorem dX9_grow_128 : decode cX9_grow 128 = .ok (.aload_n 0, 1) := by decide +kernel
theorem dX9_grow_129 : decode cX9_grow 129 = .ok (.getfield 73, 3) := by decide +kernel
theorem dX9_grow_132 : decode cX9_grow 132 = .ok (.iload_n 2, 1) := by decide +kernel
theorem dX9_grow_133 : decode cX9_grow 133 = .ok (.iaload, 1) := by decide +kernel
theorem dX9_grow_134 : decode cX9_grow 134 = .ok (.ifCond .lt 17, 3) := by decide +kernel
theorem dX9_grow_137 : decode cX9_grow 137 = .ok (.aload_n 0, 1) := by decide +kernel
theorem dX9_grow_138 : decode cX9_grow 138 = .ok (.iload_n 1, 1) := by decide +kernel
theorem dX9_grow_139 : decode cX9_grow 139 = .ok (.aload_n 0, 1) := by decide +kernel
theorem dX9_grow_140 : decode cX9_grow 140 = .ok (.getfield 73, 3) := by decide +kernel
theorem dX9_grow_143 : decode cX9_grow 143 = .ok (.iload_n 2, 1) := by decide +kernel
theorem dX9_grow_144 : decode cX9_grow 144 = .ok (.iaload, 1) := by decide +kernel
theorem dX9_grow_145 : decode cX9_grow 145 = .ok (.invokevirtual 191, 3) := by decide +kernel
theorem dX9_grow_148 : decode cX9_grow 148 = .ok (.goto 8, 3) := by decide +kernel
theorem dX9_grow_151 : decode cX9_grow 151 = .ok (.aload_n 0, 1) := by decide +kernel
theorem dX9_grow_152 : decode cX9_grow 152 = .ok (.iload_n 2, 1) := by decide +kernel
theorem dX9_grow_153 : decode cX9_grow 153 = .ok (.invokevirtual 152, 3) := by decide +kernel
theorem dX9_grow_156 : decode cX9_grow 156 = .ok (.return_, 1) := by decide +kernel
theorem dX9_yellow_0 : decode cX9_yellow 0 = .ok (.aload_n 0, 1) := by decide +kernel
theorem dX9_yellow_1 : decode cX9_yellow 1 = .ok (.getfield 67, 3) := by decide +kernel
theorem dX9_yellow_4 : decode cX9_yellow 4 = .ok (.iload_n 1, 1) := by decide +kernel
theorem dX9_yellow_5 : decode cX9_yellow 5 = .ok (.iconst 2, 1) := by decide +kernel
theorem dX9_yellow_6 : decode cX9_yellow 6 = .ok (.iastore, 1) := by decide +kernel
theorem dX9_yellow_7 : decode cX9_yellow 7 = .ok (.aload_n 0, 1) := by decide +kernel
theorem dX9_yellow_8 : decode cX9_yellow 8 = .ok (.getfield 76, 3) := by decide +kernel
theorem dX9_yellow_11 : decode cX9_yellow 11 = .ok (.iload_n 1, 1) := by decide +kernel
theorem dX9_yellow_12 : decode cX9_yellow 12 = .ok (.iconst 0, 1) := by decide +kernel
theorem dX9_yellow_13 : decode cX9_yellow 13 = .ok (.iastore, 1) := by decide +kernel
theorem dX9_yellow_14 : decode cX9_yellow 14 = .ok (.aload_n 0, 1) := by decide +kernel
theorem dX9_yellow_15 : decode cX9_yellow 15 = .ok (.getfield 73, 3) := by decide +kernel
theorem dX9_yellow_18 : decode cX9_yellow 18 = .ok (.iload_n 1, 1) := by decide +kernel
theorem dX9_yellow_19 : decode cX9_yellow 19 = .ok (.iload_n 2, 1) := by decide +kernel
theorem dX9_yellow_20 : decode cX9_yellow 20 = .ok (.iastore, 1) := by decide +kernel
theorem dX9_yellow_21 : decode cX9_yellow 21 = .ok (.return_, 1) := by decide +kernel
theorem dX9_isEarly_0 : decode cX9_isEarly 0 = .ok (.aload_n 0, 1) := by decide +kernel
theorem dX9_isEarly_1 : decode cX9_isEarly 1 = .ok (.getfield 106, 3) := by decide +kernel
theorem dX9_isEarly_4 : decode cX9_isEarly 4 = .ok (.iload_n 1, 1) := by decide +kernel
theorem dX9_isEarly_5 : decode cX9_isEarly 5 = .ok (.iaload, 1) := by decide +kernel
theorem dX9_isEarly_6 : decode cX9_isEarly 6 = .ok (.ifCond .lt 27, 3) := by decide +kernel
theorem dX9_isEarly_9 : decode cX9_isEarly 9 = .ok (.aload_n 0, 1) := by decide +kernel
theorem dX9_isEarly_10 : decode cX9_isEarly 10 = .ok (.getfield 115, 3) := by decide +kernel
theorem dX9_isEarly_13 : decode cX9_isEarly 13 = .ok (.iload_n 1, 1) := by decide +kernel
theorem dX9_isEarly_14 : decode cX9_isEarly 14 = .ok (.iaload, 1) := by decide +kernel
theorem dX9_isEarly_15 : decode cX9_isEarly 15 = .ok (.aload_n 0, 1) := by decide +kernel
theorem dX9_isEarly_16 : decode cX9_isEarly 16 = .ok (.getfield 103, 3) := by decide +kernel
theorem dX9_isEarly_19 : decode cX9_isEarly 19 = .ok (.aload_n 0, 1) := by decide +kernel
theorem dX9_isEarly_20 : decode cX9_isEarly 20 = .ok (.getfield 106, 3) := by decide +kernel
theorem dX9_isEarly_23 : decode cX9_isEarly 23 = .ok (.iload_n 1, 1) := by decide +kernel
theorem dX9_isEarly_24 : decode cX9_isEarly 24 = .ok (.iaload, 1) := by decide +kernel
theorem dX9_isEarly_25 : decode cX9_isEarly 25 = .ok (.iaload, 1) := by decide +kernel
theorem dX9_isEarly_26 : decode cX9_isEarly 26 = .ok (.if_icmp .ge 7, 3) := by decide +kernel
theorem dX9_isEarly_29 : decode cX9_isEarly 29 = .ok (.iconst 1, 1) := by decide +kernel
theorem dX9_isEarly_30 : decode cX9_isEarly 30 = .ok (.goto 4, 3) := by decide +kernel
theorem dX9_isEarly_33 : decode cX9_isEarly 33 = .ok (.iconst 0, 1) := by decide +kernel
theorem dX9_isEarly_34 : decode cX9_isEarly 34 = .ok (.ireturn, 1) := by decide +kernel
theorem dX9_plainDone_0 : decode cX9_plainDone 0 = .ok (.aload_n 0, 1) := by decide +kernel
theorem dX9_plainDone_1 : decode cX9_plainDone 1 = .ok (.getfield 67, 3) := by decide +kernel
theorem dX9_plainDone_4 : decode cX9_plainDone 4 = .ok (.iload_n 2, 1) := by decide +kernel
theorem dX9_plainDone_5 : decode cX9_plainDone 5 = .ok (.iaload, 1) := by decide +kernel
theorem dX9_plainDone_6 : decode cX9_plainDone 6 = .ok (.iconst 1, 1) := by decide +kernel
theorem dX9_plainDone_7 : decode cX9_plainDone 7 = .ok (.if_icmp .ne 42, 3) := by decide +kernel
theorem dX9_plainDone_10 : decode cX9_plainDone 10 = .ok (.aload_n 0, 1) := by decide +kernel
theorem dX9_plainDone_11 : decode cX9_plainDone 11 = .ok (.getfield 76, 3) := by decide +kernel
theorem dX9_plainDone_14 : decode cX9_plainDone 14 = .ok (.iload_n 2, 1) := by decide +kernel
theorem dX9_plainDone_15 : decode cX9_plainDone 15 = .ok (.iaload, 1) := by decide +kernel
theorem dX9_plainDone_16 : decode cX9_plainDone 16 = .ok (.aload_n 0, 1) := by decide +kernel
theorem dX9_plainDone_17 : decode cX9_plainDone 17 = .ok (.iload_n 1, 1) := by decide +kernel
theorem dX9_plainDone_18 : decode cX9_plainDone 18 = .ok (.aload_n 0, 1) := by decide +kernel
theorem dX9_plainDone_19 : decode cX9_plainDone 19 = .ok (.getfield 70, 3) := by decide +kernel
theorem dX9_plainDone_22 : decode cX9_plainDone 22 = .ok (.iload_n 2, 1) := by decide +kernel
theorem dX9_plainDone_23 : decode cX9_plainDone 23 = .ok (.iaload, 1) := by decide +kernel
theorem dX9_plainDone_24 : decode cX9_plainDone 24 = .ok (.iconst 0, 1) := by decide +kernel
theorem dX9_plainDone_25 : decode cX9_plainDone 25 = .ok (.invokevirtual 144, 3) := by decide +kernel
theorem dX9_plainDone_28 : decode cX9_plainDone 28 = .ok (.if_icmp .lt 21, 3) := by decide +kernel
theorem dX9_plainDone_31 : decode cX9_plainDone 31 = .ok (.aload_n 0, 1) := by decide +kernel
theorem dX9_plainDone_32 : decode cX9_plainDone 32 = .ok (.getfield 85, 3) := by decide +kernel
theorem dX9_plainDone_35 : decode cX9_plainDone 35 = .ok (.iload_n 2, 1) := by decide +kernel
theorem dX9_plainDone_36 : decode cX9_plainDone 36 = .ok (.iaload, 1) := by decide +kernel
theorem dX9_plainDone_37 : decode cX9_plainDone 37 = .ok (.ifCond .ne 12, 3) := by decide +kernel
theorem dX9_plainDone_40 : decode cX9_plainDone 40 = .ok (.aload_n 0, 1) := by decide +kernel
theorem dX9_plainDone_41 : decode cX9_plainDone 41 = .ok (.iload_n 1, 1) := by decide +kernel
theorem dX9_plainDone_42 : decode cX9_plainDone 42 = .ok (.iload_n 2, 1) := by decide +kernel
theorem dX9_plainDone_43 : decode cX9_plainDone 43 = .ok (.invokevirtual 188, 3) := by decide +kernel
theorem dX9_plainDone_46 : decode cX9_plainDone 46 = .ok (.ifCond .ne 5, 3) := by decide +kernel
theorem dX9_plainDone_49 : decode cX9_plainDone 49 = .ok (.iconst 0, 1) := by decide +kernel
theorem dX9_plainDone_50 : decode cX9_plainDone 50 = .ok (.ireturn, 1) := by decide +kernel
theorem dX9_plainDone_51 : decode cX9_plainDone 51 = .ok (.aload_n 0, 1) := by decide +kernel
theorem dX9_plainDone_52 : decode cX9_plainDone 52 = .ok (.getfield 82, 3) := by decide +kernel
theorem dX9_plainDone_55 : decode cX9_plainDone 55 = .ok (.iload_n 2, 1) := by decide +kernel
theorem dX9_plainDone_56 : decode cX9_plainDone 56 = .ok (.iaload, 1) := by decide +kernel
theorem dX9_plainDone_57 : decode cX9_plainDone 57 = .ok (.ifCond .eq 42, 3) := by decide +kernel
theorem dX9_plainDone_60 : decode cX9_plainDone 60 = .ok (.aload_n 0, 1) := by decide +kernel
theorem dX9_plainDone_61 : decode cX9_plainDone 61 = .ok (.getfield 79, 3) := by decide +kernel
theorem dX9_plainDone_64 : decode cX9_plainDone 64 = .ok (.iload_n 2, 1) := by decide +kernel
theorem dX9_plainDone_65 : decode cX9_plainDone 65 = .ok (.iaload, 1) := by decide +kernel
theorem dX9_plainDone_66 : decode cX9_plainDone 66 = .ok (.aload_n 0, 1) := by decide +kernel
theorem dX9_plainDone_67 : decode cX9_plainDone 67 = .ok (.iload_n 1, 1) := by decide +kernel
theorem dX9_plainDone_68 : decode cX9_plainDone 68 = .ok (.aload_n 0, 1) := by decide +kernel
theorem dX9_plainDone_69 : decode cX9_plainDone 69 = .ok (.getfield 70, 3) := by decide +kernel
theorem dX9_plainDone_72 : decode cX9_plainDone 72 = .ok (.iload_n 2, 1) := by decide +kernel
theorem dX9_plainDone_73 : decode cX9_plainDone 73 = .ok (.iaload, 1) := by decide +kernel
theorem dX9_plainDone_74 : decode cX9_plainDone 74 = .ok (.iconst 2, 1) := by decide +kernel
theorem dX9_plainDone_75 : decode cX9_plainDone 75 = .ok (.invokevirtual 144, 3) := by decide +kernel
theorem dX9_plainDone_78 : decode cX9_plainDone 78 = .ok (.if_icmp .ge 21, 3) := by decide +kernel
theorem dX9_plainDone_81 : decode cX9_plainDone 81 = .ok (.aload_n 0, 1) := by decide +kernel
theorem dX9_plainDone_82 : decode cX9_plainDone 82 = .ok (.iload_n 1, 1) := by decide +kernel
theorem dX9_plainDone_83 : decode cX9_plainDone 83 = .ok (.invokevirtual 194, 3) := by decide +kernel
theorem dX9_plainDone_86 : decode cX9_plainDone 86 = .ok (.ifCond .eq 17, 3) := by decide +kernel
theorem dX9_plainDone_89 : decode cX9_plainDone 89 = .ok (.aload_n 0, 1) := by decide +kernel
theorem dX9_plainDone_90 : decode cX9_plainDone 90 = .ok (.getfield 27, 3) := by decide +kernel
theorem dX9_plainDone_93 : decode cX9_plainDone 93 = .ok (.iload_n 1, 1) := by decide +kernel
theorem dX9_plainDone_94 : decode cX9_plainDone 94 = .ok (.iaload, 1) := by decide +kernel
theorem dX9_plainDone_95 : decode cX9_plainDone 95 = .ok (.iconst 1, 1) := by decide +kernel
theorem dX9_plainDone_96 : decode cX9_plainDone 96 = .ok (.if_icmp .ne 7, 3) := by decide +kernel
theorem dX9_plainDone_99 : decode cX9_plainDone 99 = .ok (.iconst 1, 1) := by decide +kernel
theorem dX9_plainDone_100 : decode cX9_plainDone 100 = .ok (.goto 4, 3) := by decide +kernel
theorem dX9_plainDone_103 : decode cX9_plainDone 103 = .ok (.iconst 0, 1) := by decide +kernel
theorem dX9_plainDone_104 : decode cX9_plainDone 104 = .ok (.ireturn, 1) := by decide +kernel
theorem dX9_goal_0 : decode cX9_goal 0 = .ok (.iload_n 3, 1) := by decide +kernel
theorem dX9_goal_1 : decode cX9_goal 1 = .ok (.iconst 4, 1) := by decide +kernel
theorem dX9_goal_2 : decode cX9_goal 2 = .ok (.irem, 1) := by decide +kernel
theorem dX9_goal_3 : decode cX9_goal 3 = .ok (.iconst 4, 1) := by decide +kernel
theorem dX9_goal_4 : decode cX9_goal 4 = .ok (.iload_n 2, 1) := by decide +kernel
theorem dX9_goal_5 : decode cX9_goal 5 = .ok (.iconst 2, 1) := by decide +kernel
theorem dX9_goal_6 : decode cX9_goal 6 = .ok (.irem, 1) := by decide +kernel
theorem dX9_goal_7 : decode cX9_goal 7 = .ok (.imul, 1) := by decide +kernel
theorem dX9_goal_8 : decode cX9_goal 8 = .ok (.iadd, 1) := by decide +kernel
theorem dX9_goal_9 : decode cX9_goal 9 = .ok (.istore 4, 2) := by decide +kernel
theorem dX9_goal_11 : decode cX9_goal 11 = .ok (.aload_n 0, 1) := by decide +kernel
theorem dX9_goal_12 : decode cX9_goal 12 = .ok (.getfield 33, 3) := by decide +kernel
theorem dX9_goal_15 : decode cX9_goal 15 = .ok (.bipush 8, 2) := by decide +kernel
theorem dX9_goal_17 : decode cX9_goal 17 = .ok (.iload_n 1, 1) := by decide +kernel
theorem dX9_goal_18 : decode cX9_goal 18 = .ok (.imul, 1) := by decide +kernel
theorem dX9_goal_19 : decode cX9_goal 19 = .ok (.iload 4, 2) := by decide +kernel
theorem dX9_goal_21 : decode cX9_goal 21 = .ok (.iadd, 1) := by decide +kernel
theorem dX9_goal_22 : decode cX9_goal 22 = .ok (.baload, 1) := by decide +kernel
theorem dX9_goal_23 : decode cX9_goal 23 = .ok (.ifCond .eq 8, 3) := by decide +kernel
theorem dX9_goal_26 : decode cX9_goal 26 = .ok (.iload 4, 2) := by decide +kernel
theorem dX9_goal_28 : decode cX9_goal 28 = .ok (.goto 4, 3) := by decide +kernel
theorem dX9_goal_31 : decode cX9_goal 31 = .ok (.iconst (-1), 1) := by decide +kernel
theorem dX9_goal_32 : decode cX9_goal 32 = .ok (.ireturn, 1) := by decide +kernel
theorem dX9_greaterDone_0 : decode cX9_greaterDone 0 = .ok (.aload_n 0, 1) := by decide +kernel
theorem dX9_greaterDone_1 : decode cX9_greaterDone 1 = .ok (.getfield 67, 3) := by decide +kernel
theorem dX9_greaterDone_4 : decode cX9_greaterDone 4 = .ok (.iload_n 2, 1) := by decide +kernel
theorem dX9_greaterDone_5 : decode cX9_greaterDone 5 = .ok (.iaload, 1) := by decide +kernel
theorem dX9_greaterDone_6 : decode cX9_greaterDone 6 = .ok (.iconst 1, 1) := by decide +kernel
theorem dX9_greaterDone_7 : decode cX9_greaterDone 7 = .ok (.if_icmp .ne 53, 3) := by decide +kernel
theorem dX9_greaterDone_10 : decode cX9_greaterDone 10 = .ok (.aload_n 0, 1) := by decide +kernel
theorem dX9_greaterDone_11 : decode cX9_greaterDone 11 = .ok (.getfield 70, 3) := by decide +kernel
theorem dX9_greaterDone_14 : decode cX9_greaterDone 14 = .ok (.iload_n 2, 1) := by decide +kernel
theorem dX9_greaterDone_15 : decode cX9_greaterDone 15 = .ok (.iaload, 1) := by decide +kernel
theorem dX9_greaterDone_16 : decode cX9_greaterDone 16 = .ok (.aload_n 0, 1) := by decide +kernel
theorem dX9_greaterDone_17 : decode cX9_greaterDone 17 = .ok (.iload_n 1, 1) := by decide +kernel
theorem dX9_greaterDone_18 : decode cX9_greaterDone 18 = .ok (.iload_n 2, 1) := by decide +kernel
theorem dX9_greaterDone_19 : decode cX9_greaterDone 19 = .ok (.iload_n 3, 1) := by decide +kernel
theorem dX9_greaterDone_20 : decode cX9_greaterDone 20 = .ok (.invokevirtual 197, 3) := by decide +kernel
theorem dX9_greaterDone_23 : decode cX9_greaterDone 23 = .ok (.if_icmp .eq 37, 3) := by decide +kernel
theorem dX9_greaterDone_26 : decode cX9_greaterDone 26 = .ok (.aload_n 0, 1) := by decide +kernel
theorem dX9_greaterDone_27 : decode cX9_greaterDone 27 = .ok (.getfield 76, 3) := by decide +kernel
theorem dX9_greaterDone_30 : decode cX9_greaterDone 30 = .ok (.iload_n 2, 1) := by decide +kernel
theorem dX9_greaterDone_31 : decode cX9_greaterDone 31 = .ok (.iaload, 1) := by decide +kernel
theorem dX9_greaterDone_32 : decode cX9_greaterDone 32 = .ok (.aload_n 0, 1) := by decide +kernel
theorem dX9_greaterDone_33 : decode cX9_greaterDone 33 = .ok (.iload_n 1, 1) := by decide +kernel
theorem dX9_greaterDone_34 : decode cX9_greaterDone 34 = .ok (.aload_n 0, 1) := by decide +kernel
theorem dX9_greaterDone_35 : decode cX9_greaterDone 35 = .ok (.getfield 70, 3) := by decide +kernel
theorem dX9_greaterDone_38 : decode cX9_greaterDone 38 = .ok (.iload_n 2, 1) := by decide +kernel
theorem dX9_greaterDone_39 : decode cX9_greaterDone 39 = .ok (.iaload, 1) := by decide +kernel
theorem dX9_greaterDone_40 : decode cX9_greaterDone 40 = .ok (.iconst 0, 1) := by decide +kernel
theorem dX9_greaterDone_41 : decode cX9_greaterDone 41 = .ok (.invokevirtual 144, 3) := by decide +kernel
theorem dX9_greaterDone_44 : decode cX9_greaterDone 44 = .ok (.if_icmp .lt 16, 3) := by decide +kernel
theorem dX9_greaterDone_47 : decode cX9_greaterDone 47 = .ok (.aload_n 0, 1) := by decide +kernel
theorem dX9_greaterDone_48 : decode cX9_greaterDone 48 = .ok (.getfield 85, 3) := by decide +kernel
theorem dX9_greaterDone_51 : decode cX9_greaterDone 51 = .ok (.iload_n 2, 1) := by decide +kernel
theorem dX9_greaterDone_52 : decode cX9_greaterDone 52 = .ok (.iaload, 1) := by decide +kernel
theorem dX9_greaterDone_53 : decode cX9_greaterDone 53 = .ok (.ifCond .ne 7, 3) := by decide +kernel
theorem dX9_greaterDone_56 : decode cX9_greaterDone 56 = .ok (.iconst 1, 1) := by decide +kernel
theorem dX9_greaterDone_57 : decode cX9_greaterDone 57 = .ok (.goto 4, 3) := by decide +kernel
theorem dX9_greaterDone_60 : decode cX9_greaterDone 60 = .ok (.iconst 0, 1) := by decide +kernel
theorem dX9_greaterDone_61 : decode cX9_greaterDone 61 = .ok (.ireturn, 1) := by decide +kernel
theorem dX9_empty_0 : decode cX9_empty 0 = .ok (.iconst 1, 1) := by decide +kernel
theorem dX9_empty_1 : decode cX9_empty 1 = .ok (.istore_n 3, 1) := by decide +kernel
theorem dX9_empty_2 : decode cX9_empty 2 = .ok (.iconst 0, 1) := by decide +kernel
theorem dX9_empty_3 : decode cX9_empty 3 = .ok (.istore 4, 2) := by decide +kernel
theorem dX9_empty_5 : decode cX9_empty 5 = .ok (.iconst 2, 1) := by decide +kernel
theorem dX9_empty_6 : decode cX9_empty 6 = .ok (.iload_n 1, 1) := by decide +kernel
theorem dX9_empty_7 : decode cX9_empty 7 = .ok (.imul, 1) := by decide +kernel
theorem dX9_empty_8 : decode cX9_empty 8 = .ok (.istore 5, 2) := by decide +kernel
theorem dX9_empty_10 : decode cX9_empty 10 = .ok (.iload 5, 2) := by decide +kernel
theorem dX9_empty_12 : decode cX9_empty 12 = .ok (.iconst 2, 1) := by decide +kernel
theorem dX9_empty_13 : decode cX9_empty 13 = .ok (.iload_n 1, 1) := by decide +kernel
theorem dX9_empty_14 : decode cX9_empty 14 = .ok (.imul, 1) := by decide +kernel
theorem dX9_empty_15 : decode cX9_empty 15 = .ok (.iconst 2, 1) := by decide +kernel
theorem dX9_empty_16 : decode cX9_empty 16 = .ok (.iadd, 1) := by decide +kernel
theorem dX9_empty_17 : decode cX9_empty 17 = .ok (.if_icmp .ge 80, 3) := by decide +kernel
theorem dX9_empty_20 : decode cX9_empty 20 = .ok (.iload_n 3, 1) := by decide +kernel
theorem dX9_empty_21 : decode cX9_empty 21 = .ok (.ifCond .eq 45, 3) := by decide +kernel
theorem dX9_empty_24 : decode cX9_empty 24 = .ok (.aload_n 0, 1) := by decide +kernel
theorem dX9_empty_25 : decode cX9_empty 25 = .ok (.getfield 67, 3) := by decide +kernel
theorem dX9_empty_28 : decode cX9_empty 28 = .ok (.iload 5, 2) := by decide +kernel
theorem dX9_empty_30 : decode cX9_empty 30 = .ok (.iaload, 1) := by decide +kernel
theorem dX9_empty_31 : decode cX9_empty 31 = .ok (.ifCond .eq 31, 3) := by decide +kernel
theorem dX9_empty_34 : decode cX9_empty 34 = .ok (.iload_n 2, 1) := by decide +kernel
theorem dX9_empty_35 : decode cX9_empty 35 = .ok (.ifCond .ge 16, 3) := by decide +kernel
theorem dX9_empty_38 : decode cX9_empty 38 = .ok (.aload_n 0, 1) := by decide +kernel
theorem dX9_empty_39 : decode cX9_empty 39 = .ok (.iload_n 1, 1) := by decide +kernel
theorem dX9_empty_40 : decode cX9_empty 40 = .ok (.iload 5, 2) := by decide +kernel
theorem dX9_empty_42 : decode cX9_empty 42 = .ok (.invokevirtual 200, 3) := by decide +kernel
theorem dX9_empty_45 : decode cX9_empty 45 = .ok (.ifCond .eq 21, 3) := by decide +kernel
theorem dX9_empty_48 : decode cX9_empty 48 = .ok (.goto 14, 3) := by decide +kernel
theorem dX9_empty_51 : decode cX9_empty 51 = .ok (.aload_n 0, 1) := by decide +kernel
theorem dX9_empty_52 : decode cX9_empty 52 = .ok (.iload_n 1, 1) := by decide +kernel
theorem dX9_empty_53 : decode cX9_empty 53 = .ok (.iload 5, 2) := by decide +kernel
theorem dX9_empty_55 : decode cX9_empty 55 = .ok (.iload_n 2, 1) := by decide +kernel
theorem dX9_empty_56 : decode cX9_empty 56 = .ok (.invokevirtual 203, 3) := by decide +kernel
theorem dX9_empty_59 : decode cX9_empty 59 = .ok (.ifCond .eq 7, 3) := by decide +kernel
theorem dX9_empty_62 : decode cX9_empty 62 = .ok (.iconst 1, 1) := by decide +kernel
theorem dX9_empty_63 : decode cX9_empty 63 = .ok (.goto 4, 3) := by decide +kernel
theorem dX9_empty_66 : decode cX9_empty 66 = .ok (.iconst 0, 1) := by decide +kernel
theorem dX9_empty_67 : decode cX9_empty 67 = .ok (.istore_n 3, 1) := by decide +kernel
theorem dX9_empty_68 : decode cX9_empty 68 = .ok (.iload 4, 2) := by decide +kernel
theorem dX9_empty_70 : decode cX9_empty 70 = .ok (.ifCond .ne 14, 3) := by decide +kernel
theorem dX9_empty_73 : decode cX9_empty 73 = .ok (.aload_n 0, 1) := by decide +kernel
theorem dX9_empty_74 : decode cX9_empty 74 = .ok (.getfield 67, 3) := by decide +kernel
theorem dX9_empty_77 : decode cX9_empty 77 = .ok (.iload 5, 2) := by decide +kernel
theorem dX9_empty_79 : decode cX9_empty 79 = .ok (.iaload, 1) := by decide +kernel
theorem dX9_empty_80 : decode cX9_empty 80 = .ok (.iconst 1, 1) := by decide +kernel
theorem dX9_empty_81 : decode cX9_empty 81 = .ok (.if_icmp .ne 7, 3) := by decide +kernel
theorem dX9_empty_84 : decode cX9_empty 84 = .ok (.iconst 1, 1) := by decide +kernel
theorem dX9_empty_85 : decode cX9_empty 85 = .ok (.goto 4, 3) := by decide +kernel
theorem dX9_empty_88 : decode cX9_empty 88 = .ok (.iconst 0, 1) := by decide +kernel
theorem dX9_empty_89 : decode cX9_empty 89 = .ok (.istore 4, 2) := by decide +kernel
theorem dX9_empty_91 : decode cX9_empty 91 = .ok (.iinc 5 1, 3) := by decide +kernel
theorem dX9_empty_94 : decode cX9_empty 94 = .ok (.goto (-84), 3) := by decide +kernel
theorem dX9_empty_97 : decode cX9_empty 97 = .ok (.iconst 2, 1) := by decide +kernel
theorem dX9_empty_98 : decode cX9_empty 98 = .ok (.iload_n 1, 1) := by decide +kernel
theorem dX9_empty_99 : decode cX9_empty 99 = .ok (.imul, 1) := by decide +kernel
theorem dX9_empty_100 : decode cX9_empty 100 = .ok (.istore 5, 2) := by decide +kernel
theorem dX9_empty_102 : decode cX9_empty 102 = .ok (.iload 5, 2) := by decide +kernel
theorem dX9_empty_104 : decode cX9_empty 104 = .ok (.iconst 2, 1) := by decide +kernel
theorem dX9_empty_105 : decode cX9_empty 105 = .ok (.iload_n 1, 1) := by decide +kernel
theorem dX9_empty_106 : decode cX9_empty 106 = .ok (.imul, 1) := by decide +kernel
theorem dX9_empty_107 : decode cX9_empty 107 = .ok (.iconst 2, 1) := by decide +kernel
theorem dX9_empty_108 : decode cX9_empty 108 = .ok (.iadd, 1) := by decide +kernel
theorem dX9_empty_109 : decode cX9_empty 109 = .ok (.if_icmp .ge 36, 3) := by decide +kernel
theorem dX9_empty_112 : decode cX9_empty 112 = .ok (.iload_n 3, 1) := by decide +kernel
theorem dX9_empty_113 : decode cX9_empty 113 = .ok (.ifCond .eq 32, 3) := by decide +kernel
theorem dX9_empty_116 : decode cX9_empty 116 = .ok (.iload 4, 2) := by decide +kernel
theorem dX9_empty_118 : decode cX9_empty 118 = .ok (.ifCond .eq 27, 3) := by decide +kernel
theorem dX9_empty_121 : decode cX9_empty 121 = .ok (.aload_n 0, 1) := by decide +kernel
theorem dX9_empty_122 : decode cX9_empty 122 = .ok (.getfield 67, 3) := by decide +kernel
theorem dX9_empty_125 : decode cX9_empty 125 = .ok (.iload 5, 2) := by decide +kernel
theorem dX9_empty_127 : decode cX9_empty 127 = .ok (.iaload, 1) := by decide +kernel
theorem dX9_empty_128 : decode cX9_empty 128 = .ok (.iconst 1, 1) := by decide +kernel
theorem dX9_empty_129 : decode cX9_empty 129 = .ok (.if_icmp .ne 10, 3) := by decide +kernel
theorem dX9_empty_132 : decode cX9_empty 132 = .ok (.aload_n 0, 1) := by decide +kernel
theorem dX9_empty_133 : decode cX9_empty 133 = .ok (.iload 5, 2) := by decide +kernel
theorem dX9_empty_135 : decode cX9_empty 135 = .ok (.iconst (-1), 1) := by decide +kernel
theorem dX9_empty_136 : decode cX9_empty 136 = .ok (.invokevirtual 207, 3) := by decide +kernel
theorem dX9_empty_139 : decode cX9_empty 139 = .ok (.iinc 5 1, 3) := by decide +kernel
theorem dX9_empty_142 : decode cX9_empty 142 = .ok (.goto (-40), 3) := by decide +kernel
theorem dX9_empty_145 : decode cX9_empty 145 = .ok (.return_, 1) := by decide +kernel
theorem dX9_bothWait_0 : decode cX9_bothWait 0 = .ok (.aload_n 0, 1) := by decide +kernel
theorem dX9_bothWait_1 : decode cX9_bothWait 1 = .ok (.getfield 67, 3) := by decide +kernel
theorem dX9_bothWait_4 : decode cX9_bothWait 4 = .ok (.iconst 2, 1) := by decide +kernel
theorem dX9_bothWait_5 : decode cX9_bothWait 5 = .ok (.iload_n 1, 1) := by decide +kernel
theorem dX9_bothWait_6 : decode cX9_bothWait 6 = .ok (.imul, 1) := by decide +kernel
theorem dX9_bothWait_7 : decode cX9_bothWait 7 = .ok (.iaload, 1) := by decide +kernel
theorem dX9_bothWait_8 : decode cX9_bothWait 8 = .ok (.ifCond .ne 20, 3) := by decide +kernel
theorem dX9_bothWait_11 : decode cX9_bothWait 11 = .ok (.aload_n 0, 1) := by decide +kernel
theorem dX9_bothWait_12 : decode cX9_bothWait 12 = .ok (.getfield 67, 3) := by decide +kernel
theorem dX9_bothWait_15 : decode cX9_bothWait 15 = .ok (.iconst 2, 1) := by decide +kernel
theorem dX9_bothWait_16 : decode cX9_bothWait 16 = .ok (.iload_n 1, 1) := by decide +kernel
theorem dX9_bothWait_17 : decode cX9_bothWait 17 = .ok (.imul, 1) := by decide +kernel
theorem dX9_bothWait_18 : decode cX9_bothWait 18 = .ok (.iconst 1, 1) := by decide +kernel
theorem dX9_bothWait_19 : decode cX9_bothWait 19 = .ok (.iadd, 1) := by decide +kernel
theorem dX9_bothWait_20 : decode cX9_bothWait 20 = .ok (.iaload, 1) := by decide +kernel
theorem dX9_bothWait_21 : decode cX9_bothWait 21 = .ok (.ifCond .ne 7, 3) := by decide +kernel
theorem dX9_bothWait_24 : decode cX9_bothWait 24 = .ok (.iconst 1, 1) := by decide +kernel
theorem dX9_bothWait_25 : decode cX9_bothWait 25 = .ok (.goto 4, 3) := by decide +kernel
theorem dX9_bothWait_28 : decode cX9_bothWait 28 = .ok (.iconst 0, 1) := by decide +kernel
theorem dX9_bothWait_29 : decode cX9_bothWait 29 = .ok (.ireturn, 1) := by decide +kernel
theorem dX9_cross_0 : decode cX9_cross 0 = .ok (.aload_n 0, 1) := by decide +kernel
theorem dX9_cross_1 : decode cX9_cross 1 = .ok (.iload_n 1, 1) := by decide +kernel
theorem dX9_cross_2 : decode cX9_cross 2 = .ok (.iconst 1, 1) := by decide +kernel
theorem dX9_cross_3 : decode cX9_cross 3 = .ok (.aload_n 0, 1) := by decide +kernel
theorem dX9_cross_4 : decode cX9_cross 4 = .ok (.getfield 27, 3) := by decide +kernel
theorem dX9_cross_7 : decode cX9_cross 7 = .ok (.iload_n 1, 1) := by decide +kernel
theorem dX9_cross_8 : decode cX9_cross 8 = .ok (.iaload, 1) := by decide +kernel
theorem dX9_cross_9 : decode cX9_cross 9 = .ok (.isub, 1) := by decide +kernel
theorem dX9_cross_10 : decode cX9_cross 10 = .ok (.invokevirtual 161, 3) := by decide +kernel
theorem dX9_cross_13 : decode cX9_cross 13 = .ok (.istore_n 2, 1) := by decide +kernel
theorem dX9_cross_14 : decode cX9_cross 14 = .ok (.iload_n 2, 1) := by decide +kernel
theorem dX9_cross_15 : decode cX9_cross 15 = .ok (.ifCond .ne 18, 3) := by decide +kernel
theorem dX9_cross_18 : decode cX9_cross 18 = .ok (.aload_n 0, 1) := by decide +kernel
theorem dX9_cross_19 : decode cX9_cross 19 = .ok (.iload_n 1, 1) := by decide +kernel
theorem dX9_cross_20 : decode cX9_cross 20 = .ok (.aload_n 0, 1) := by decide +kernel
theorem dX9_cross_21 : decode cX9_cross 21 = .ok (.getfield 27, 3) := by decide +kernel
theorem dX9_cross_24 : decode cX9_cross 24 = .ok (.iload_n 1, 1) := by decide +kernel
theorem dX9_cross_25 : decode cX9_cross 25 = .ok (.iaload, 1) := by decide +kernel
theorem dX9_cross_26 : decode cX9_cross 26 = .ok (.invokevirtual 161, 3) := by decide +kernel
theorem dX9_cross_29 : decode cX9_cross 29 = .ok (.ifCond .ne 4, 3) := by decide +kernel
theorem dX9_cross_32 : decode cX9_cross 32 = .ok (.return_, 1) := by decide +kernel
theorem dX9_cross_33 : decode cX9_cross 33 = .ok (.aload_n 0, 1) := by decide +kernel
theorem dX9_cross_34 : decode cX9_cross 34 = .ok (.getfield 27, 3) := by decide +kernel
theorem dX9_cross_37 : decode cX9_cross 37 = .ok (.iload_n 1, 1) := by decide +kernel
theorem dX9_cross_38 : decode cX9_cross 38 = .ok (.iload_n 2, 1) := by decide +kernel
theorem dX9_cross_39 : decode cX9_cross 39 = .ok (.ifCond .eq 14, 3) := by decide +kernel
theorem dX9_cross_42 : decode cX9_cross 42 = .ok (.iconst 1, 1) := by decide +kernel
theorem dX9_cross_43 : decode cX9_cross 43 = .ok (.aload_n 0, 1) := by decide +kernel
theorem dX9_cross_44 : decode cX9_cross 44 = .ok (.getfield 27, 3) := by decide +kernel
theorem dX9_cross_47 : decode cX9_cross 47 = .ok (.iload_n 1, 1) := by decide +kernel
theorem dX9_cross_48 : decode cX9_cross 48 = .ok (.iaload, 1) := by decide +kernel
theorem dX9_cross_49 : decode cX9_cross 49 = .ok (.isub, 1) := by decide +kernel
theorem dX9_cross_50 : decode cX9_cross 50 = .ok (.goto 9, 3) := by decide +kernel
theorem dX9_cross_53 : decode cX9_cross 53 = .ok (.aload_n 0, 1) := by decide +kernel
theorem dX9_cross_54 : decode cX9_cross 54 = .ok (.getfield 27, 3) := by decide +kernel
theorem dX9_cross_57 : decode cX9_cross 57 = .ok (.iload_n 1, 1) := by decide +kernel
theorem dX9_cross_58 : decode cX9_cross 58 = .ok (.iaload, 1) := by decide +kernel
theorem dX9_cross_59 : decode cX9_cross 59 = .ok (.iastore, 1) := by decide +kernel
theorem dX9_cross_60 : decode cX9_cross 60 = .ok (.iconst 0, 1) := by decide +kernel
theorem dX9_cross_61 : decode cX9_cross 61 = .ok (.istore_n 3, 1) := by decide +kernel
theorem dX9_cross_62 : decode cX9_cross 62 = .ok (.iload_n 3, 1) := by decide +kernel
theorem dX9_cross_63 : decode cX9_cross 63 = .ok (.iconst 2, 1) := by decide +kernel
theorem dX9_cross_64 : decode cX9_cross 64 = .ok (.if_icmp .ge 118, 3) := by decide +kernel
theorem dX9_cross_67 : decode cX9_cross 67 = .ok (.iconst 4, 1) := by decide +kernel
theorem dX9_cross_68 : decode cX9_cross 68 = .ok (.iload_n 3, 1) := by decide +kernel
theorem dX9_cross_69 : decode cX9_cross 69 = .ok (.imul, 1) := by decide +kernel
theorem dX9_cross_70 : decode cX9_cross 70 = .ok (.iconst 2, 1) := by decide +kernel
theorem dX9_cross_71 : decode cX9_cross 71 = .ok (.aload_n 0, 1) := by decide +kernel
theorem dX9_cross_72 : decode cX9_cross 72 = .ok (.getfield 27, 3) := by decide +kernel
theorem dX9_cross_75 : decode cX9_cross 75 = .ok (.iload_n 1, 1) := by decide +kernel
theorem dX9_cross_76 : decode cX9_cross 76 = .ok (.iaload, 1) := by decide +kernel
theorem dX9_cross_77 : decode cX9_cross 77 = .ok (.imul, 1) := by decide +kernel
theorem dX9_cross_78 : decode cX9_cross 78 = .ok (.iadd, 1) := by decide +kernel
theorem dX9_cross_79 : decode cX9_cross 79 = .ok (.istore 4, 2) := by decide +kernel
theorem dX9_cross_81 : decode cX9_cross 81 = .ok (.aload_n 0, 1) := by decide +kernel
theorem dX9_cross_82 : decode cX9_cross 82 = .ok (.iload_n 1, 1) := by decide +kernel
theorem dX9_cross_83 : decode cX9_cross 83 = .ok (.iload 4, 2) := by decide +kernel
theorem dX9_cross_85 : decode cX9_cross 85 = .ok (.invokevirtual 158, 3) := by decide +kernel
theorem dX9_cross_88 : decode cX9_cross 88 = .ok (.ifCond .eq 13, 3) := by decide +kernel
theorem dX9_cross_91 : decode cX9_cross 91 = .ok (.aload_n 0, 1) := by decide +kernel
theorem dX9_cross_92 : decode cX9_cross 92 = .ok (.iload_n 1, 1) := by decide +kernel
theorem dX9_cross_93 : decode cX9_cross 93 = .ok (.iload 4, 2) := by decide +kernel
theorem dX9_cross_95 : decode cX9_cross 95 = .ok (.invokevirtual 191, 3) := by decide +kernel
theorem dX9_cross_98 : decode cX9_cross 98 = .ok (.goto 78, 3) := by decide +kernel
theorem dX9_cross_101 : decode cX9_cross 101 = .ok (.aload_n 0, 1) := by decide +kernel
theorem dX9_cross_102 : decode cX9_cross 102 = .ok (.iload_n 1, 1) := by decide +kernel
theorem dX9_cross_103 : decode cX9_cross 103 = .ok (.iload 4, 2) := by decide +kernel
theorem dX9_cross_105 : decode cX9_cross 105 = .ok (.iconst 1, 1) := by decide +kernel
theorem dX9_cross_106 : decode cX9_cross 106 = .ok (.iadd, 1) := by decide +kernel
theorem dX9_cross_107 : decode cX9_cross 107 = .ok (.invokevirtual 158, 3) := by decide +kernel
theorem dX9_cross_110 : decode cX9_cross 110 = .ok (.ifCond .eq 15, 3) := by decide +kernel
theorem dX9_cross_113 : decode cX9_cross 113 = .ok (.aload_n 0, 1) := by decide +kernel
theorem dX9_cross_114 : decode cX9_cross 114 = .ok (.iload_n 1, 1) := by decide +kernel
theorem dX9_cross_115 : decode cX9_cross 115 = .ok (.iload 4, 2) := by decide +kernel
theorem dX9_cross_117 : decode cX9_cross 117 = .ok (.iconst 1, 1) := by decide +kernel
theorem dX9_cross_118 : decode cX9_cross 118 = .ok (.iadd, 1) := by decide +kernel
theorem dX9_cross_119 : decode cX9_cross 119 = .ok (.invokevirtual 191, 3) := by decide +kernel
theorem dX9_cross_122 : decode cX9_cross 122 = .ok (.goto 54, 3) := by decide +kernel
theorem dX9_cross_125 : decode cX9_cross 125 = .ok (.aload_n 0, 1) := by decide +kernel
theorem dX9_cross_126 : decode cX9_cross 126 = .ok (.getfield 33, 3) := by decide +kernel
theorem dX9_cross_129 : decode cX9_cross 129 = .ok (.bipush 8, 2) := by decide +kernel
theorem dX9_cross_131 : decode cX9_cross 131 = .ok (.iload_n 1, 1) := by decide +kernel
theorem dX9_cross_132 : decode cX9_cross 132 = .ok (.imul, 1) := by decide +kernel
theorem dX9_cross_133 : decode cX9_cross 133 = .ok (.iload 4, 2) := by decide +kernel
theorem dX9_cross_135 : decode cX9_cross 135 = .ok (.iadd, 1) := by decide +kernel
theorem dX9_cross_136 : decode cX9_cross 136 = .ok (.baload, 1) := by decide +kernel
theorem dX9_cross_137 : decode cX9_cross 137 = .ok (.ifCond .eq 13, 3) := by decide +kernel
theorem dX9_cross_140 : decode cX9_cross 140 = .ok (.aload_n 0, 1) := by decide +kernel
theorem dX9_cross_141 : decode cX9_cross 141 = .ok (.iload_n 1, 1) := by decide +kernel
theorem dX9_cross_142 : decode cX9_cross 142 = .ok (.iload 4, 2) := by decide +kernel
theorem dX9_cross_144 : decode cX9_cross 144 = .ok (.invokevirtual 191, 3) := by decide +kernel
theorem dX9_cross_147 : decode cX9_cross 147 = .ok (.goto 29, 3) := by decide +kernel
theorem dX9_cross_150 : decode cX9_cross 150 = .ok (.aload_n 0, 1) := by decide +kernel
theorem dX9_cross_151 : decode cX9_cross 151 = .ok (.getfield 33, 3) := by decide +kernel
theorem dX9_cross_154 : decode cX9_cross 154 = .ok (.bipush 8, 2) := by decide +kernel
theorem dX9_cross_156 : decode cX9_cross 156 = .ok (.iload_n 1, 1) := by decide +kernel
theorem dX9_cross_157 : decode cX9_cross 157 = .ok (.imul, 1) := by decide +kernel
theorem dX9_cross_158 : decode cX9_cross 158 = .ok (.iload 4, 2) := by decide +kernel
theorem dX9_cross_160 : decode cX9_cross 160 = .ok (.iadd, 1) := by decide +kernel
theorem dX9_cross_161 : decode cX9_cross 161 = .ok (.iconst 1, 1) := by decide +kernel
theorem dX9_cross_162 : decode cX9_cross 162 = .ok (.iadd, 1) := by decide +kernel
theorem dX9_cross_163 : decode cX9_cross 163 = .ok (.baload, 1) := by decide +kernel
theorem dX9_cross_164 : decode cX9_cross 164 = .ok (.ifCond .eq 12, 3) := by decide +kernel
theorem dX9_cross_167 : decode cX9_cross 167 = .ok (.aload_n 0, 1) := by decide +kernel
theorem dX9_cross_168 : decode cX9_cross 168 = .ok (.iload_n 1, 1) := by decide +kernel
theorem dX9_cross_169 : decode cX9_cross 169 = .ok (.iload 4, 2) := by decide +kernel
theorem dX9_cross_171 : decode cX9_cross 171 = .ok (.iconst 1, 1) := by decide +kernel
theorem dX9_cross_172 : decode cX9_cross 172 = .ok (.iadd, 1) := by decide +kernel
theorem dX9_cross_173 : decode cX9_cross 173 = .ok (.invokevirtual 191, 3) := by decide +kernel
theorem dX9_cross_176 : decode cX9_cross 176 = .ok (.iinc 3 1, 3) := by decide +kernel
theorem dX9_cross_179 : decode cX9_cross 179 = .ok (.goto (-117), 3) := by decide +kernel
theorem dX9_cross_182 : decode cX9_cross 182 = .ok (.return_, 1) := by decide +kernel
theorem dX9_actPlain_0 : decode cX9_actPlain 0 = .ok (.iconst 2, 1) := by decide +kernel
theorem dX9_actPlain_1 : decode cX9_actPlain 1 = .ok (.iload_n 1, 1) := by decide +kernel
theorem dX9_actPlain_2 : decode cX9_actPlain 2 = .ok (.imul, 1) := by decide +kernel
theorem dX9_actPlain_3 : decode cX9_actPlain 3 = .ok (.istore_n 2, 1) := by decide +kernel
theorem dX9_actPlain_4 : decode cX9_actPlain 4 = .ok (.iload_n 2, 1) := by decide +kernel
theorem dX9_actPlain_5 : decode cX9_actPlain 5 = .ok (.iconst 2, 1) := by decide +kernel
theorem dX9_actPlain_6 : decode cX9_actPlain 6 = .ok (.iload_n 1, 1) := by decide +kernel
theorem dX9_actPlain_7 : decode cX9_actPlain 7 = .ok (.imul, 1) := by decide +kernel
theorem dX9_actPlain_8 : decode cX9_actPlain 8 = .ok (.iconst 2, 1) := by decide +kernel
theorem dX9_actPlain_9 : decode cX9_actPlain 9 = .ok (.iadd, 1) := by decide +kernel
theorem dX9_actPlain_10 : decode cX9_actPlain 10 = .ok (.if_icmp .ge 62, 3) := by decide +kernel
theorem dX9_actPlain_13 : decode cX9_actPlain 13 = .ok (.aload_n 0, 1) := by decide +kernel
theorem dX9_actPlain_14 : decode cX9_actPlain 14 = .ok (.getfield 67, 3) := by decide +kernel
theorem dX9_actPlain_17 : decode cX9_actPlain 17 = .ok (.iload_n 2, 1) := by decide +kernel
theorem dX9_actPlain_18 : decode cX9_actPlain 18 = .ok (.iaload, 1) := by decide +kernel
theorem dX9_actPlain_19 : decode cX9_actPlain 19 = .ok (.iconst 1, 1) := by decide +kernel
theorem dX9_actPlain_20 : decode cX9_actPlain 20 = .ok (.if_icmp .ne 46, 3) := by decide +kernel
theorem dX9_actPlain_23 : decode cX9_actPlain 23 = .ok (.aload_n 0, 1) := by decide +kernel
theorem dX9_actPlain_24 : decode cX9_actPlain 24 = .ok (.getfield 39, 3) := by decide +kernel
theorem dX9_actPlain_27 : decode cX9_actPlain 27 = .ok (.bipush 8, 2) := by decide +kernel
theorem dX9_actPlain_29 : decode cX9_actPlain 29 = .ok (.iload_n 1, 1) := by decide +kernel
theorem dX9_actPlain_30 : decode cX9_actPlain 30 = .ok (.imul, 1) := by decide +kernel
theorem dX9_actPlain_31 : decode cX9_actPlain 31 = .ok (.aload_n 0, 1) := by decide +kernel
theorem dX9_actPlain_32 : decode cX9_actPlain 32 = .ok (.getfield 70, 3) := by decide +kernel
theorem dX9_actPlain_35 : decode cX9_actPlain 35 = .ok (.iload_n 2, 1) := by decide +kernel
theorem dX9_actPlain_36 : decode cX9_actPlain 36 = .ok (.iaload, 1) := by decide +kernel
theorem dX9_actPlain_37 : decode cX9_actPlain 37 = .ok (.iadd, 1) := by decide +kernel
theorem dX9_actPlain_38 : decode cX9_actPlain 38 = .ok (.baload, 1) := by decide +kernel
theorem dX9_actPlain_39 : decode cX9_actPlain 39 = .ok (.ifCond .eq 27, 3) := by decide +kernel
theorem dX9_actPlain_42 : decode cX9_actPlain 42 = .ok (.aload_n 0, 1) := by decide +kernel
theorem dX9_actPlain_43 : decode cX9_actPlain 43 = .ok (.getfield 85, 3) := by decide +kernel
theorem dX9_actPlain_46 : decode cX9_actPlain 46 = .ok (.iload_n 2, 1) := by decide +kernel
theorem dX9_actPlain_47 : decode cX9_actPlain 47 = .ok (.iaload, 1) := by decide +kernel
theorem dX9_actPlain_48 : decode cX9_actPlain 48 = .ok (.ifCond .ne 18, 3) := by decide +kernel
theorem dX9_actPlain_51 : decode cX9_actPlain 51 = .ok (.aload_n 0, 1) := by decide +kernel
theorem dX9_actPlain_52 : decode cX9_actPlain 52 = .ok (.iload_n 1, 1) := by decide +kernel
theorem dX9_actPlain_53 : decode cX9_actPlain 53 = .ok (.iload_n 2, 1) := by decide +kernel
theorem dX9_actPlain_54 : decode cX9_actPlain 54 = .ok (.invokevirtual 188, 3) := by decide +kernel
theorem dX9_actPlain_57 : decode cX9_actPlain 57 = .ok (.ifCond .ne 9, 3) := by decide +kernel
theorem dX9_actPlain_60 : decode cX9_actPlain 60 = .ok (.aload_n 0, 1) := by decide +kernel
theorem dX9_actPlain_61 : decode cX9_actPlain 61 = .ok (.iload_n 1, 1) := by decide +kernel
theorem dX9_actPlain_62 : decode cX9_actPlain 62 = .ok (.iload_n 2, 1) := by decide +kernel
theorem dX9_actPlain_63 : decode cX9_actPlain 63 = .ok (.invokevirtual 181, 3) := by decide +kernel
theorem dX9_actPlain_66 : decode cX9_actPlain 66 = .ok (.iinc 2 1, 3) := by decide +kernel
theorem dX9_actPlain_69 : decode cX9_actPlain 69 = .ok (.goto (-65), 3) := by decide +kernel
theorem dX9_actPlain_72 : decode cX9_actPlain 72 = .ok (.iconst 2, 1) := by decide +kernel
theorem dX9_actPlain_73 : decode cX9_actPlain 73 = .ok (.iload_n 1, 1) := by decide +kernel
theorem dX9_actPlain_74 : decode cX9_actPlain 74 = .ok (.imul, 1) := by decide +kernel
theorem dX9_actPlain_75 : decode cX9_actPlain 75 = .ok (.istore_n 2, 1) := by decide +kernel
theorem dX9_actPlain_76 : decode cX9_actPlain 76 = .ok (.iload_n 2, 1) := by decide +kernel
theorem dX9_actPlain_77 : decode cX9_actPlain 77 = .ok (.iconst 2, 1) := by decide +kernel
theorem dX9_actPlain_78 : decode cX9_actPlain 78 = .ok (.iload_n 1, 1) := by decide +kernel
theorem dX9_actPlain_79 : decode cX9_actPlain 79 = .ok (.imul, 1) := by decide +kernel
theorem dX9_actPlain_80 : decode cX9_actPlain 80 = .ok (.iconst 2, 1) := by decide +kernel
theorem dX9_actPlain_81 : decode cX9_actPlain 81 = .ok (.iadd, 1) := by decide +kernel
theorem dX9_actPlain_82 : decode cX9_actPlain 82 = .ok (.if_icmp .ge 39, 3) := by decide +kernel
theorem dX9_actPlain_85 : decode cX9_actPlain 85 = .ok (.aload_n 0, 1) := by decide +kernel
theorem dX9_actPlain_86 : decode cX9_actPlain 86 = .ok (.iload_n 1, 1) := by decide +kernel
theorem dX9_actPlain_87 : decode cX9_actPlain 87 = .ok (.iload_n 2, 1) := by decide +kernel
theorem dX9_actPlain_88 : decode cX9_actPlain 88 = .ok (.invokevirtual 200, 3) := by decide +kernel
theorem dX9_actPlain_91 : decode cX9_actPlain 91 = .ok (.ifCond .eq 24, 3) := by decide +kernel
theorem dX9_actPlain_94 : decode cX9_actPlain 94 = .ok (.aload_n 0, 1) := by decide +kernel
theorem dX9_actPlain_95 : decode cX9_actPlain 95 = .ok (.iload_n 1, 1) := by decide +kernel
theorem dX9_actPlain_96 : decode cX9_actPlain 96 = .ok (.iload_n 2, 1) := by decide +kernel
theorem dX9_actPlain_97 : decode cX9_actPlain 97 = .ok (.invokevirtual 164, 3) := by decide +kernel
theorem dX9_actPlain_100 : decode cX9_actPlain 100 = .ok (.iconst (-1), 1) := by decide +kernel
theorem dX9_actPlain_101 : decode cX9_actPlain 101 = .ok (.if_icmp .eq 14, 3) := by decide +kernel
theorem dX9_actPlain_104 : decode cX9_actPlain 104 = .ok (.aload_n 0, 1) := by decide +kernel
theorem dX9_actPlain_105 : decode cX9_actPlain 105 = .ok (.iload_n 2, 1) := by decide +kernel
theorem dX9_actPlain_106 : decode cX9_actPlain 106 = .ok (.aload_n 0, 1) := by decide +kernel
theorem dX9_actPlain_107 : decode cX9_actPlain 107 = .ok (.iload_n 1, 1) := by decide +kernel
theorem dX9_actPlain_108 : decode cX9_actPlain 108 = .ok (.iload_n 2, 1) := by decide +kernel
theorem dX9_actPlain_109 : decode cX9_actPlain 109 = .ok (.invokevirtual 164, 3) := by decide +kernel
theorem dX9_actPlain_112 : decode cX9_actPlain 112 = .ok (.invokevirtual 207, 3) := by decide +kernel
theorem dX9_actPlain_115 : decode cX9_actPlain 115 = .ok (.iinc 2 1, 3) := by decide +kernel
theorem dX9_actPlain_118 : decode cX9_actPlain 118 = .ok (.goto (-42), 3) := by decide +kernel
theorem dX9_actPlain_121 : decode cX9_actPlain 121 = .ok (.aload_n 0, 1) := by decide +kernel
theorem dX9_actPlain_122 : decode cX9_actPlain 122 = .ok (.iload_n 1, 1) := by decide +kernel
theorem dX9_actPlain_123 : decode cX9_actPlain 123 = .ok (.invokevirtual 194, 3) := by decide +kernel
theorem dX9_actPlain_126 : decode cX9_actPlain 126 = .ok (.ifCond .eq 12, 3) := by decide +kernel
theorem dX9_actPlain_129 : decode cX9_actPlain 129 = .ok (.aload_n 0, 1) := by decide +kernel
theorem dX9_actPlain_130 : decode cX9_actPlain 130 = .ok (.getfield 27, 3) := by decide +kernel
theorem dX9_actPlain_133 : decode cX9_actPlain 133 = .ok (.iload_n 1, 1) := by decide +kernel
theorem dX9_actPlain_134 : decode cX9_actPlain 134 = .ok (.iaload, 1) := by decide +kernel
theorem dX9_actPlain_135 : decode cX9_actPlain 135 = .ok (.ifCond .eq 9, 3) := by decide +kernel
theorem dX9_actPlain_138 : decode cX9_actPlain 138 = .ok (.aload_n 0, 1) := by decide +kernel
theorem dX9_actPlain_139 : decode cX9_actPlain 139 = .ok (.iload_n 1, 1) := by decide +kernel
theorem dX9_actPlain_140 : decode cX9_actPlain 140 = .ok (.iconst (-1), 1) := by decide +kernel
theorem dX9_actPlain_141 : decode cX9_actPlain 141 = .ok (.invokevirtual 210, 3) := by decide +kernel
theorem dX9_actPlain_144 : decode cX9_actPlain 144 = .ok (.aload_n 0, 1) := by decide +kernel
theorem dX9_actPlain_145 : decode cX9_actPlain 145 = .ok (.iload_n 1, 1) := by decide +kernel
theorem dX9_actPlain_146 : decode cX9_actPlain 146 = .ok (.invokevirtual 213, 3) := by decide +kernel
theorem dX9_actPlain_149 : decode cX9_actPlain 149 = .ok (.ifCond .eq 8, 3) := by decide +kernel
theorem dX9_actPlain_152 : decode cX9_actPlain 152 = .ok (.aload_n 0, 1) := by decide +kernel
theorem dX9_actPlain_153 : decode cX9_actPlain 153 = .ok (.iload_n 1, 1) := by decide +kernel
theorem dX9_actPlain_154 : decode cX9_actPlain 154 = .ok (.invokevirtual 216, 3) := by decide +kernel
theorem dX9_actPlain_157 : decode cX9_actPlain 157 = .ok (.return_, 1) := by decide +kernel
theorem dX9_actGreater_0 : decode cX9_actGreater 0 = .ok (.iconst 2, 1) := by decide +kernel
theorem dX9_actGreater_1 : decode cX9_actGreater 1 = .ok (.iload_n 1, 1) := by decide +kernel
theorem dX9_actGreater_2 : decode cX9_actGreater 2 = .ok (.imul, 1) := by decide +kernel
theorem dX9_actGreater_3 : decode cX9_actGreater 3 = .ok (.istore_n 3, 1) := by decide +kernel
theorem dX9_actGreater_4 : decode cX9_actGreater 4 = .ok (.iload_n 3, 1) := by decide +kernel
theorem dX9_actGreater_5 : decode cX9_actGreater 5 = .ok (.iconst 2, 1) := by decide +kernel
theorem dX9_actGreater_6 : decode cX9_actGreater 6 = .ok (.iload_n 1, 1) := by decide +kernel
theorem dX9_actGreater_7 : decode cX9_actGreater 7 = .ok (.imul, 1) := by decide +kernel
theorem dX9_actGreater_8 : decode cX9_actGreater 8 = .ok (.iconst 2, 1) := by decide +kernel
theorem dX9_actGreater_9 : decode cX9_actGreater 9 = .ok (.iadd, 1) := by decide +kernel
theorem dX9_actGreater_10 : decode cX9_actGreater 10 = .ok (.if_icmp .ge 36, 3) := by decide +kernel
theorem dX9_actGreater_13 : decode cX9_actGreater 13 = .ok (.aload_n 0, 1) := by decide +kernel
theorem dX9_actGreater_14 : decode cX9_actGreater 14 = .ok (.getfield 85, 3) := by decide +kernel
theorem dX9_actGreater_17 : decode cX9_actGreater 17 = .ok (.iload_n 3, 1) := by decide +kernel
theorem dX9_actGreater_18 : decode cX9_actGreater 18 = .ok (.iaload, 1) := by decide +kernel
theorem dX9_actGreater_19 : decode cX9_actGreater 19 = .ok (.iconst 1, 1) := by decide +kernel
theorem dX9_actGreater_20 : decode cX9_actGreater 20 = .ok (.if_icmp .eq 6, 3) := by decide +kernel
theorem dX9_actGreater_23 : decode cX9_actGreater 23 = .ok (.goto 17, 3) := by decide +kernel
theorem dX9_actGreater_26 : decode cX9_actGreater 26 = .ok (.aload_n 0, 1) := by decide +kernel
theorem dX9_actGreater_27 : decode cX9_actGreater 27 = .ok (.getfield 85, 3) := by decide +kernel
theorem dX9_actGreater_30 : decode cX9_actGreater 30 = .ok (.iload_n 3, 1) := by decide +kernel
theorem dX9_actGreater_31 : decode cX9_actGreater 31 = .ok (.iconst 2, 1) := by decide +kernel
theorem dX9_actGreater_32 : decode cX9_actGreater 32 = .ok (.iastore, 1) := by decide +kernel
theorem dX9_actGreater_33 : decode cX9_actGreater 33 = .ok (.aload_n 0, 1) := by decide +kernel
theorem dX9_actGreater_34 : decode cX9_actGreater 34 = .ok (.getfield 88, 3) := by decide +kernel
theorem dX9_actGreater_37 : decode cX9_actGreater 37 = .ok (.iload_n 3, 1) := by decide +kernel
theorem dX9_actGreater_38 : decode cX9_actGreater 38 = .ok (.iconst 0, 1) := by decide +kernel
theorem dX9_actGreater_39 : decode cX9_actGreater 39 = .ok (.iastore, 1) := by decide +kernel
theorem dX9_actGreater_40 : decode cX9_actGreater 40 = .ok (.iinc 3 1, 3) := by decide +kernel
theorem dX9_actGreater_43 : decode cX9_actGreater 43 = .ok (.goto (-39), 3) := by decide +kernel
theorem dX9_actGreater_46 : decode cX9_actGreater 46 = .ok (.iload_n 2, 1) := by decide +kernel
theorem dX9_actGreater_47 : decode cX9_actGreater 47 = .ok (.invokestatic 137, 3) := by decide +kernel
theorem dX9_actGreater_50 : decode cX9_actGreater 50 = .ok (.aload_n 0, 1) := by decide +kernel
theorem dX9_actGreater_51 : decode cX9_actGreater 51 = .ok (.getfield 27, 3) := by decide +kernel
theorem dX9_actGreater_54 : decode cX9_actGreater 54 = .ok (.iload_n 1, 1) := by decide +kernel
theorem dX9_actGreater_55 : decode cX9_actGreater 55 = .ok (.iaload, 1) := by decide +kernel
theorem dX9_actGreater_56 : decode cX9_actGreater 56 = .ok (.if_icmp .ne 7, 3) := by decide +kernel
theorem dX9_actGreater_59 : decode cX9_actGreater 59 = .ok (.iconst 1, 1) := by decide +kernel
theorem dX9_actGreater_60 : decode cX9_actGreater 60 = .ok (.goto 4, 3) := by decide +kernel
theorem dX9_actGreater_63 : decode cX9_actGreater 63 = .ok (.iconst 0, 1) := by decide +kernel
theorem dX9_actGreater_64 : decode cX9_actGreater 64 = .ok (.istore_n 3, 1) := by decide +kernel
theorem dX9_actGreater_65 : decode cX9_actGreater 65 = .ok (.iconst 2, 1) := by decide +kernel
theorem dX9_actGreater_66 : decode cX9_actGreater 66 = .ok (.iload_n 1, 1) := by decide +kernel
theorem dX9_actGreater_67 : decode cX9_actGreater 67 = .ok (.imul, 1) := by decide +kernel
theorem dX9_actGreater_68 : decode cX9_actGreater 68 = .ok (.istore 4, 2) := by decide +kernel
theorem dX9_actGreater_70 : decode cX9_actGreater 70 = .ok (.iload 4, 2) := by decide +kernel
theorem dX9_actGreater_72 : decode cX9_actGreater 72 = .ok (.iconst 2, 1) := by decide +kernel
theorem dX9_actGreater_73 : decode cX9_actGreater 73 = .ok (.iload_n 1, 1) := by decide +kernel
theorem dX9_actGreater_74 : decode cX9_actGreater 74 = .ok (.imul, 1) := by decide +kernel
theorem dX9_actGreater_75 : decode cX9_actGreater 75 = .ok (.iconst 2, 1) := by decide +kernel
theorem dX9_actGreater_76 : decode cX9_actGreater 76 = .ok (.iadd, 1) := by decide +kernel
theorem dX9_actGreater_77 : decode cX9_actGreater 77 = .ok (.if_icmp .ge 50, 3) := by decide +kernel
theorem dX9_actGreater_80 : decode cX9_actGreater 80 = .ok (.iload_n 3, 1) := by decide +kernel
theorem dX9_actGreater_81 : decode cX9_actGreater 81 = .ok (.ifCond .eq 40, 3) := by decide +kernel
theorem dX9_actGreater_84 : decode cX9_actGreater 84 = .ok (.aload_n 0, 1) := by decide +kernel
theorem dX9_actGreater_85 : decode cX9_actGreater 85 = .ok (.iload_n 1, 1) := by decide +kernel
theorem dX9_actGreater_86 : decode cX9_actGreater 86 = .ok (.iload 4, 2) := by decide +kernel
theorem dX9_actGreater_88 : decode cX9_actGreater 88 = .ok (.iload_n 2, 1) := by decide +kernel
theorem dX9_actGreater_89 : decode cX9_actGreater 89 = .ok (.invokevirtual 203, 3) := by decide +kernel
theorem dX9_actGreater_92 : decode cX9_actGreater 92 = .ok (.ifCond .eq 29, 3) := by decide +kernel
theorem dX9_actGreater_95 : decode cX9_actGreater 95 = .ok (.aload_n 0, 1) := by decide +kernel
theorem dX9_actGreater_96 : decode cX9_actGreater 96 = .ok (.iload_n 1, 1) := by decide +kernel
theorem dX9_actGreater_97 : decode cX9_actGreater 97 = .ok (.iload 4, 2) := by decide +kernel
theorem dX9_actGreater_99 : decode cX9_actGreater 99 = .ok (.iload_n 2, 1) := by decide +kernel
theorem dX9_actGreater_100 : decode cX9_actGreater 100 = .ok (.invokevirtual 197, 3) := by decide +kernel
theorem dX9_actGreater_103 : decode cX9_actGreater 103 = .ok (.iconst (-1), 1) := by decide +kernel
theorem dX9_actGreater_104 : decode cX9_actGreater 104 = .ok (.if_icmp .eq 17, 3) := by decide +kernel
theorem dX9_actGreater_107 : decode cX9_actGreater 107 = .ok (.aload_n 0, 1) := by decide +kernel
theorem dX9_actGreater_108 : decode cX9_actGreater 108 = .ok (.iload 4, 2) := by decide +kernel
theorem dX9_actGreater_110 : decode cX9_actGreater 110 = .ok (.aload_n 0, 1) := by decide +kernel
theorem dX9_actGreater_111 : decode cX9_actGreater 111 = .ok (.iload_n 1, 1) := by decide +kernel
theorem dX9_actGreater_112 : decode cX9_actGreater 112 = .ok (.iload 4, 2) := by decide +kernel
theorem dX9_actGreater_114 : decode cX9_actGreater 114 = .ok (.iload_n 2, 1) := by decide +kernel
theorem dX9_actGreater_115 : decode cX9_actGreater 115 = .ok (.invokevirtual 197, 3) := by decide +kernel
theorem dX9_actGreater_118 : decode cX9_actGreater 118 = .ok (.invokevirtual 207, 3) := by decide +kernel
theorem dX9_actGreater_121 : decode cX9_actGreater 121 = .ok (.iinc 4 1, 3) := by decide +kernel
theorem dX9_actGreater_124 : decode cX9_actGreater 124 = .ok (.goto (-54), 3) := by decide +kernel
theorem dX9_actGreater_127 : decode cX9_actGreater 127 = .ok (.iload_n 3, 1) := by decide +kernel
theorem dX9_actGreater_128 : decode cX9_actGreater 128 = .ok (.ifCond .ne 9, 3) := by decide +kernel
theorem dX9_actGreater_131 : decode cX9_actGreater 131 = .ok (.aload_n 0, 1) := by decide +kernel
theorem dX9_actGreater_132 : decode cX9_actGreater 132 = .ok (.iload_n 1, 1) := by decide +kernel
theorem dX9_actGreater_133 : decode cX9_actGreater 133 = .ok (.iload_n 2, 1) := by decide +kernel
theorem dX9_actGreater_134 : decode cX9_actGreater 134 = .ok (.invokevirtual 210, 3) := by decide +kernel
theorem dX9_actGreater_137 : decode cX9_actGreater 137 = .ok (.aload_n 0, 1) := by decide +kernel
theorem dX9_actGreater_138 : decode cX9_actGreater 138 = .ok (.iload_n 1, 1) := by decide +kernel
theorem dX9_actGreater_139 : decode cX9_actGreater 139 = .ok (.invokevirtual 213, 3) := by decide +kernel
theorem dX9_actGreater_142 : decode cX9_actGreater 142 = .ok (.ifCond .eq 13, 3) := by decide +kernel
theorem dX9_actGreater_145 : decode cX9_actGreater 145 = .ok (.aload_n 0, 1) := by decide +kernel
theorem dX9_actGreater_146 : decode cX9_actGreater 146 = .ok (.getfield 27, 3) := by decide +kernel
theorem dX9_actGreater_149 : decode cX9_actGreater 149 = .ok (.iload_n 1, 1) := by decide +kernel
theorem dX9_actGreater_150 : decode cX9_actGreater 150 = .ok (.iload_n 2, 1) := by decide +kernel
theorem dX9_actGreater_151 : decode cX9_actGreater 151 = .ok (.invokestatic 137, 3) := by decide +kernel
theorem dX9_actGreater_154 : decode cX9_actGreater 154 = .ok (.iastore, 1) := by decide +kernel
theorem dX9_actGreater_155 : decode cX9_actGreater 155 = .ok (.iconst 2, 1) := by decide +kernel
theorem dX9_actGreater_156 : decode cX9_actGreater 156 = .ok (.iload_n 1, 1) := by decide +kernel
theorem dX9_actGreater_157 : decode cX9_actGreater 157 = .ok (.imul, 1) := by decide +kernel
theorem dX9_actGreater_158 : decode cX9_actGreater 158 = .ok (.istore 4, 2) := by decide +kernel
theorem dX9_actGreater_160 : decode cX9_actGreater 160 = .ok (.iload 4, 2) := by decide +kernel
theorem dX9_actGreater_162 : decode cX9_actGreater 162 = .ok (.iconst 2, 1) := by decide +kernel
theorem dX9_actGreater_163 : decode cX9_actGreater 163 = .ok (.iload_n 1, 1) := by decide +kernel
theorem dX9_actGreater_164 : decode cX9_actGreater 164 = .ok (.imul, 1) := by decide +kernel
theorem dX9_actGreater_165 : decode cX9_actGreater 165 = .ok (.iconst 2, 1) := by decide +kernel
theorem dX9_actGreater_166 : decode cX9_actGreater 166 = .ok (.iadd, 1) := by decide +kernel
theorem dX9_actGreater_167 : decode cX9_actGreater 167 = .ok (.if_icmp .ge 57, 3) := by decide +kernel
theorem dX9_actGreater_170 : decode cX9_actGreater 170 = .ok (.aload_n 0, 1) := by decide +kernel
theorem dX9_actGreater_171 : decode cX9_actGreater 171 = .ok (.getfield 67, 3) := by decide +kernel
theorem dX9_actGreater_174 : decode cX9_actGreater 174 = .ok (.iload 4, 2) := by decide +kernel
theorem dX9_actGreater_176 : decode cX9_actGreater 176 = .ok (.iaload, 1) := by decide +kernel
theorem dX9_actGreater_177 : decode cX9_actGreater 177 = .ok (.ifCond .ne 41, 3) := by decide +kernel
theorem dX9_actGreater_180 : decode cX9_actGreater 180 = .ok (.aload_n 0, 1) := by decide +kernel
theorem dX9_actGreater_181 : decode cX9_actGreater 181 = .ok (.getfield 27, 3) := by decide +kernel
theorem dX9_actGreater_184 : decode cX9_actGreater 184 = .ok (.iload_n 1, 1) := by decide +kernel
theorem dX9_actGreater_185 : decode cX9_actGreater 185 = .ok (.iaload, 1) := by decide +kernel
theorem dX9_actGreater_186 : decode cX9_actGreater 186 = .ok (.iload_n 2, 1) := by decide +kernel
theorem dX9_actGreater_187 : decode cX9_actGreater 187 = .ok (.invokestatic 137, 3) := by decide +kernel
theorem dX9_actGreater_190 : decode cX9_actGreater 190 = .ok (.if_icmp .ne 28, 3) := by decide +kernel
theorem dX9_actGreater_193 : decode cX9_actGreater 193 = .ok (.aload_n 0, 1) := by decide +kernel
theorem dX9_actGreater_194 : decode cX9_actGreater 194 = .ok (.iload_n 1, 1) := by decide +kernel
theorem dX9_actGreater_195 : decode cX9_actGreater 195 = .ok (.iload 4, 2) := by decide +kernel
theorem dX9_actGreater_197 : decode cX9_actGreater 197 = .ok (.iload_n 2, 1) := by decide +kernel
theorem dX9_actGreater_198 : decode cX9_actGreater 198 = .ok (.invokevirtual 197, 3) := by decide +kernel
theorem dX9_actGreater_201 : decode cX9_actGreater 201 = .ok (.iconst (-1), 1) := by decide +kernel
theorem dX9_actGreater_202 : decode cX9_actGreater 202 = .ok (.if_icmp .eq 16, 3) := by decide +kernel
theorem dX9_actGreater_205 : decode cX9_actGreater 205 = .ok (.aload_n 0, 1) := by decide +kernel
theorem dX9_actGreater_206 : decode cX9_actGreater 206 = .ok (.iload_n 1, 1) := by decide +kernel
theorem dX9_actGreater_207 : decode cX9_actGreater 207 = .ok (.aload_n 0, 1) := by decide +kernel
theorem dX9_actGreater_208 : decode cX9_actGreater 208 = .ok (.iload_n 1, 1) := by decide +kernel
theorem dX9_actGreater_209 : decode cX9_actGreater 209 = .ok (.iload 4, 2) := by decide +kernel
theorem dX9_actGreater_211 : decode cX9_actGreater 211 = .ok (.iload_n 2, 1) := by decide +kernel
theorem dX9_actGreater_212 : decode cX9_actGreater 212 = .ok (.invokevirtual 197, 3) := by decide +kernel
theorem dX9_actGreater_215 : decode cX9_actGreater 215 = .ok (.invokevirtual 191, 3) := by decide +kernel
theorem dX9_actGreater_218 : decode cX9_actGreater 218 = .ok (.iinc 4 1, 3) := by decide +kernel
theorem dX9_actGreater_221 : decode cX9_actGreater 221 = .ok (.goto (-61), 3) := by decide +kernel
theorem dX9_actGreater_224 : decode cX9_actGreater 224 = .ok (.return_, 1) := by decide +kernel
theorem dX9_lampsOf_0 : decode cX9_lampsOf 0 = .ok (.iload_n 1, 1) := by decide +kernel
theorem dX9_lampsOf_1 : decode cX9_lampsOf 1 = .ok (.iload_n 2, 1) := by decide +kernel
theorem dX9_lampsOf_2 : decode cX9_lampsOf 2 = .ok (.invokestatic 126, 3) := by decide +kernel
theorem dX9_lampsOf_5 : decode cX9_lampsOf 5 = .ok (.istore_n 3, 1) := by decide +kernel
theorem dX9_lampsOf_6 : decode cX9_lampsOf 6 = .ok (.aload_n 0, 1) := by decide +kernel
theorem dX9_lampsOf_7 : decode cX9_lampsOf 7 = .ok (.getfield 33, 3) := by decide +kernel
theorem dX9_lampsOf_10 : decode cX9_lampsOf 10 = .ok (.bipush 8, 2) := by decide +kernel
theorem dX9_lampsOf_12 : decode cX9_lampsOf 12 = .ok (.iload_n 1, 1) := by decide +kernel
theorem dX9_lampsOf_13 : decode cX9_lampsOf 13 = .ok (.imul, 1) := by decide +kernel
theorem dX9_lampsOf_14 : decode cX9_lampsOf 14 = .ok (.iload_n 2, 1) := by decide +kernel
theorem dX9_lampsOf_15 : decode cX9_lampsOf 15 = .ok (.iadd, 1) := by decide +kernel
theorem dX9_lampsOf_16 : decode cX9_lampsOf 16 = .ok (.baload, 1) := by decide +kernel
theorem dX9_lampsOf_17 : decode cX9_lampsOf 17 = .ok (.ifCond .ne 5, 3) := by decide +kernel
theorem dX9_lampsOf_20 : decode cX9_lampsOf 20 = .ok (.iconst 0, 1) := by decide +kernel
theorem dX9_lampsOf_21 : decode cX9_lampsOf 21 = .ok (.ireturn, 1) := by decide +kernel
theorem dX9_lampsOf_22 : decode cX9_lampsOf 22 = .ok (.aload_n 0, 1) := by decide +kernel
theorem dX9_lampsOf_23 : decode cX9_lampsOf 23 = .ok (.getfield 67, 3) := by decide +kernel
theorem dX9_lampsOf_26 : decode cX9_lampsOf 26 = .ok (.iload_n 3, 1) := by decide +kernel
theorem dX9_lampsOf_27 : decode cX9_lampsOf 27 = .ok (.iaload, 1) := by decide +kernel
theorem dX9_lampsOf_28 : decode cX9_lampsOf 28 = .ok (.ifCond .eq 23, 3) := by decide +kernel
theorem dX9_lampsOf_31 : decode cX9_lampsOf 31 = .ok (.aload_n 0, 1) := by decide +kernel
theorem dX9_lampsOf_32 : decode cX9_lampsOf 32 = .ok (.getfield 70, 3) := by decide +kernel
theorem dX9_lampsOf_35 : decode cX9_lampsOf 35 = .ok (.iload_n 3, 1) := by decide +kernel
theorem dX9_lampsOf_36 : decode cX9_lampsOf 36 = .ok (.iaload, 1) := by decide +kernel
theorem dX9_lampsOf_37 : decode cX9_lampsOf 37 = .ok (.iload_n 2, 1) := by decide +kernel
theorem dX9_lampsOf_38 : decode cX9_lampsOf 38 = .ok (.if_icmp .ne 13, 3) := by decide +kernel
theorem dX9_lampsOf_41 : decode cX9_lampsOf 41 = .ok (.aload_n 0, 1) := by decide +kernel
theorem dX9_lampsOf_42 : decode cX9_lampsOf 42 = .ok (.getfield 67, 3) := by decide +kernel
theorem dX9_lampsOf_45 : decode cX9_lampsOf 45 = .ok (.iload_n 3, 1) := by decide +kernel
theorem dX9_lampsOf_46 : decode cX9_lampsOf 46 = .ok (.iaload, 1) := by decide +kernel
theorem dX9_lampsOf_47 : decode cX9_lampsOf 47 = .ok (.iconst 3, 1) := by decide +kernel
theorem dX9_lampsOf_48 : decode cX9_lampsOf 48 = .ok (.if_icmp .ne 7, 3) := by decide +kernel
theorem dX9_lampsOf_51 : decode cX9_lampsOf 51 = .ok (.iconst 1, 1) := by decide +kernel
theorem dX9_lampsOf_52 : decode cX9_lampsOf 52 = .ok (.goto 18, 3) := by decide +kernel
theorem dX9_lampsOf_55 : decode cX9_lampsOf 55 = .ok (.aload_n 0, 1) := by decide +kernel
theorem dX9_lampsOf_56 : decode cX9_lampsOf 56 = .ok (.getfield 67, 3) := by decide +kernel
theorem dX9_lampsOf_59 : decode cX9_lampsOf 59 = .ok (.iload_n 3, 1) := by decide +kernel
theorem dX9_lampsOf_60 : decode cX9_lampsOf 60 = .ok (.iaload, 1) := by decide +kernel
theorem dX9_lampsOf_61 : decode cX9_lampsOf 61 = .ok (.iconst 1, 1) := by decide +kernel
theorem dX9_lampsOf_62 : decode cX9_lampsOf 62 = .ok (.if_icmp .ne 7, 3) := by decide +kernel
theorem dX9_lampsOf_65 : decode cX9_lampsOf 65 = .ok (.iconst 4, 1) := by decide +kernel
theorem dX9_lampsOf_66 : decode cX9_lampsOf 66 = .ok (.goto 4, 3) := by decide +kernel
theorem dX9_lampsOf_69 : decode cX9_lampsOf 69 = .ok (.iconst 2, 1) := by decide +kernel
theorem dX9_lampsOf_70 : decode cX9_lampsOf 70 = .ok (.istore 4, 2) := by decide +kernel
theorem dX9_lampsOf_72 : decode cX9_lampsOf 72 = .ok (.aload_n 0, 1) := by decide +kernel
theorem dX9_lampsOf_73 : decode cX9_lampsOf 73 = .ok (.getfield 52, 3) := by decide +kernel
theorem dX9_lampsOf_76 : decode cX9_lampsOf 76 = .ok (.bipush 8, 2) := by decide +kernel
theorem dX9_lampsOf_78 : decode cX9_lampsOf 78 = .ok (.iload_n 1, 1) := by decide +kernel
theorem dX9_lampsOf_79 : decode cX9_lampsOf 79 = .ok (.imul, 1) := by decide +kernel
theorem dX9_lampsOf_80 : decode cX9_lampsOf 80 = .ok (.iload_n 2, 1) := by decide +kernel
theorem dX9_lampsOf_81 : decode cX9_lampsOf 81 = .ok (.iadd, 1) := by decide +kernel
theorem dX9_lampsOf_82 : decode cX9_lampsOf 82 = .ok (.iaload, 1) := by decide +kernel
theorem dX9_lampsOf_83 : decode cX9_lampsOf 83 = .ok (.istore 5, 2) := by decide +kernel
theorem dX9_lampsOf_85 : decode cX9_lampsOf 85 = .ok (.iload 5, 2) := by decide +kernel
theorem dX9_lampsOf_87 : decode cX9_lampsOf 87 = .ok (.iconst 1, 1) := by decide +kernel
theorem dX9_lampsOf_88 : decode cX9_lampsOf 88 = .ok (.if_icmp .ne 9, 3) := by decide +kernel
theorem dX9_lampsOf_91 : decode cX9_lampsOf 91 = .ok (.iload 4, 2) := by decide +kernel
theorem dX9_lampsOf_93 : decode cX9_lampsOf 93 = .ok (.iconst 1, 1) := by decide +kernel
theorem dX9_lampsOf_94 : decode cX9_lampsOf 94 = .ok (.if_icmp .eq 15, 3) := by decide +kernel
theorem dX9_lampsOf_97 : decode cX9_lampsOf 97 = .ok (.iload 5, 2) := by decide +kernel
theorem dX9_lampsOf_99 : decode cX9_lampsOf 99 = .ok (.iconst 3, 1) := by decide +kernel
theorem dX9_lampsOf_100 : decode cX9_lampsOf 100 = .ok (.if_icmp .ne 11, 3) := by decide +kernel
theorem dX9_lampsOf_103 : decode cX9_lampsOf 103 = .ok (.iload 4, 2) := by decide +kernel
theorem dX9_lampsOf_105 : decode cX9_lampsOf 105 = .ok (.iconst 2, 1) := by decide +kernel
theorem dX9_lampsOf_106 : decode cX9_lampsOf 106 = .ok (.if_icmp .ne 5, 3) := by decide +kernel
theorem dX9_lampsOf_109 : decode cX9_lampsOf 109 = .ok (.iconst 0, 1) := by decide +kernel
theorem dX9_lampsOf_110 : decode cX9_lampsOf 110 = .ok (.ireturn, 1) := by decide +kernel
theorem dX9_lampsOf_111 : decode cX9_lampsOf 111 = .ok (.iload 5, 2) := by decide +kernel
theorem dX9_lampsOf_113 : decode cX9_lampsOf 113 = .ok (.iconst 2, 1) := by decide +kernel
theorem dX9_lampsOf_114 : decode cX9_lampsOf 114 = .ok (.if_icmp .ne 16, 3) := by decide +kernel
theorem dX9_lampsOf_117 : decode cX9_lampsOf 117 = .ok (.iload 4, 2) := by decide +kernel
theorem dX9_lampsOf_119 : decode cX9_lampsOf 119 = .ok (.iconst 4, 1) := by decide +kernel
theorem dX9_lampsOf_120 : decode cX9_lampsOf 120 = .ok (.if_icmp .eq 10, 3) := by decide +kernel
theorem dX9_lampsOf_123 : decode cX9_lampsOf 123 = .ok (.iload 4, 2) := by decide +kernel
theorem dX9_lampsOf_125 : decode cX9_lampsOf 125 = .ok (.iconst 4, 1) := by decide +kernel
theorem dX9_lampsOf_126 : decode cX9_lampsOf 126 = .ok (.iadd, 1) := by decide +kernel
theorem dX9_lampsOf_127 : decode cX9_lampsOf 127 = .ok (.goto 5, 3) := by decide +kernel
theorem dX9_lampsOf_130 : decode cX9_lampsOf 130 = .ok (.iload 4, 2) := by decide +kernel
theorem dX9_lampsOf_132 : decode cX9_lampsOf 132 = .ok (.ireturn, 1) := by decide +kernel
theorem dX9_conflict_0 : decode cX9_conflict 0 = .ok (.iconst 0, 1) := by decide +kernel
theorem dX9_conflict_1 : decode cX9_conflict 1 = .ok (.istore_n 2, 1) := by decide +kernel
theorem dX9_conflict_2 : decode cX9_conflict 2 = .ok (.iconst 0, 1) := by decide +kernel
theorem dX9_conflict_3 : decode cX9_conflict 3 = .ok (.istore_n 3, 1) := by decide +kernel
theorem dX9_conflict_4 : decode cX9_conflict 4 = .ok (.iload_n 3, 1) := by decide +kernel
theorem dX9_conflict_5 : decode cX9_conflict 5 = .ok (.bipush 8, 2) := by decide +kernel
theorem dX9_conflict_7 : decode cX9_conflict 7 = .ok (.if_icmp .ge 101, 3) := by decide +kernel
theorem dX9_conflict_10 : decode cX9_conflict 10 = .ok (.iconst 0, 1) := by decide +kernel
theorem dX9_conflict_11 : decode cX9_conflict 11 = .ok (.istore 4, 2) := by decide +kernel
theorem dX9_conflict_13 : decode cX9_conflict 13 = .ok (.iload 4, 2) := by decide +kernel
theorem dX9_conflict_15 : decode cX9_conflict 15 = .ok (.iload_n 3, 1) := by decide +kernel
theorem dX9_conflict_16 : decode cX9_conflict 16 = .ok (.if_icmp .ge 86, 3) := by decide +kernel
theorem dX9_conflict_19 : decode cX9_conflict 19 = .ok (.iload_n 2, 1) := by decide +kernel
theorem dX9_conflict_20 : decode cX9_conflict 20 = .ok (.ifCond .ne 70, 3) := by decide +kernel
theorem dX9_conflict_23 : decode cX9_conflict 23 = .ok (.aload_n 0, 1) := by decide +kernel
theorem dX9_conflict_24 : decode cX9_conflict 24 = .ok (.getfield 55, 3) := by decide +kernel
theorem dX9_conflict_27 : decode cX9_conflict 27 = .ok (.bipush 8, 2) := by decide +kernel
theorem dX9_conflict_29 : decode cX9_conflict 29 = .ok (.iload_n 1, 1) := by decide +kernel
theorem dX9_conflict_30 : decode cX9_conflict 30 = .ok (.imul, 1) := by decide +kernel
theorem dX9_conflict_31 : decode cX9_conflict 31 = .ok (.iload_n 3, 1) := by decide +kernel
theorem dX9_conflict_32 : decode cX9_conflict 32 = .ok (.iadd, 1) := by decide +kernel
theorem dX9_conflict_33 : decode cX9_conflict 33 = .ok (.iaload, 1) := by decide +kernel
theorem dX9_conflict_34 : decode cX9_conflict 34 = .ok (.iconst 1, 1) := by decide +kernel
theorem dX9_conflict_35 : decode cX9_conflict 35 = .ok (.if_icmp .le 59, 3) := by decide +kernel
theorem dX9_conflict_38 : decode cX9_conflict 38 = .ok (.aload_n 0, 1) := by decide +kernel
theorem dX9_conflict_39 : decode cX9_conflict 39 = .ok (.getfield 55, 3) := by decide +kernel
theorem dX9_conflict_42 : decode cX9_conflict 42 = .ok (.bipush 8, 2) := by decide +kernel
theorem dX9_conflict_44 : decode cX9_conflict 44 = .ok (.iload_n 1, 1) := by decide +kernel
theorem dX9_conflict_45 : decode cX9_conflict 45 = .ok (.imul, 1) := by decide +kernel
theorem dX9_conflict_46 : decode cX9_conflict 46 = .ok (.iload 4, 2) := by decide +kernel
theorem dX9_conflict_48 : decode cX9_conflict 48 = .ok (.iadd, 1) := by decide +kernel
theorem dX9_conflict_49 : decode cX9_conflict 49 = .ok (.iaload, 1) := by decide +kernel
theorem dX9_conflict_50 : decode cX9_conflict 50 = .ok (.iconst 1, 1) := by decide +kernel
theorem dX9_conflict_51 : decode cX9_conflict 51 = .ok (.if_icmp .le 43, 3) := by decide +kernel
theorem dX9_conflict_54 : decode cX9_conflict 54 = .ok (.iload_n 3, 1) := by decide +kernel
theorem dX9_conflict_55 : decode cX9_conflict 55 = .ok (.iconst 4, 1) := by decide +kernel
theorem dX9_conflict_56 : decode cX9_conflict 56 = .ok (.if_icmp .ge 7, 3) := by decide +kernel
theorem dX9_conflict_59 : decode cX9_conflict 59 = .ok (.iconst 1, 1) := by decide +kernel
theorem dX9_conflict_60 : decode cX9_conflict 60 = .ok (.goto 4, 3) := by decide +kernel
theorem dX9_conflict_63 : decode cX9_conflict 63 = .ok (.iconst 0, 1) := by decide +kernel
theorem dX9_conflict_64 : decode cX9_conflict 64 = .ok (.iload 4, 2) := by decide +kernel
theorem dX9_conflict_66 : decode cX9_conflict 66 = .ok (.iconst 4, 1) := by decide +kernel
theorem dX9_conflict_67 : decode cX9_conflict 67 = .ok (.if_icmp .ge 7, 3) := by decide +kernel
theorem dX9_conflict_70 : decode cX9_conflict 70 = .ok (.iconst 1, 1) := by decide +kernel
theorem dX9_conflict_71 : decode cX9_conflict 71 = .ok (.goto 4, 3) := by decide +kernel
theorem dX9_conflict_74 : decode cX9_conflict 74 = .ok (.iconst 0, 1) := by decide +kernel
theorem dX9_conflict_75 : decode cX9_conflict 75 = .ok (.if_icmp .eq 15, 3) := by decide +kernel
theorem dX9_conflict_78 : decode cX9_conflict 78 = .ok (.iload_n 3, 1) := by decide +kernel
theorem dX9_conflict_79 : decode cX9_conflict 79 = .ok (.invokestatic 137, 3) := by decide +kernel
theorem dX9_conflict_82 : decode cX9_conflict 82 = .ok (.iload 4, 2) := by decide +kernel
theorem dX9_conflict_84 : decode cX9_conflict 84 = .ok (.invokestatic 137, 3) := by decide +kernel
theorem dX9_conflict_87 : decode cX9_conflict 87 = .ok (.if_icmp .eq 7, 3) := by decide +kernel
theorem dX9_conflict_90 : decode cX9_conflict 90 = .ok (.iconst 1, 1) := by decide +kernel
theorem dX9_conflict_91 : decode cX9_conflict 91 = .ok (.goto 4, 3) := by decide +kernel
theorem dX9_conflict_94 : decode cX9_conflict 94 = .ok (.iconst 0, 1) := by decide +kernel
theorem dX9_conflict_95 : decode cX9_conflict 95 = .ok (.istore_n 2, 1) := by decide +kernel
theorem dX9_conflict_96 : decode cX9_conflict 96 = .ok (.iinc 4 1, 3) := by decide +kernel
theorem dX9_conflict_99 : decode cX9_conflict 99 = .ok (.goto (-86), 3) := by decide +kernel
theorem dX9_conflict_102 : decode cX9_conflict 102 = .ok (.iinc 3 1, 3) := by decide +kernel
theorem dX9_conflict_105 : decode cX9_conflict 105 = .ok (.goto (-101), 3) := by decide +kernel
theorem dX9_conflict_108 : decode cX9_conflict 108 = .ok (.iload_n 2, 1) := by decide +kernel
theorem dX9_conflict_109 : decode cX9_conflict 109 = .ok (.ireturn, 1) := by decide +kernel
theorem dX9_dark_0 : decode cX9_dark 0 = .ok (.iconst 0, 1) := by decide +kernel
theorem dX9_dark_1 : decode cX9_dark 1 = .ok (.istore_n 2, 1) := by decide +kernel
theorem dX9_dark_2 : decode cX9_dark 2 = .ok (.bipush 8, 2) := by decide +kernel
theorem dX9_dark_4 : decode cX9_dark 4 = .ok (.iload_n 1, 1) := by decide +kernel
theorem dX9_dark_5 : decode cX9_dark 5 = .ok (.imul, 1) := by decide +kernel
theorem dX9_dark_6 : decode cX9_dark 6 = .ok (.istore_n 3, 1) := by decide +kernel
theorem dX9_dark_7 : decode cX9_dark 7 = .ok (.iload_n 3, 1) := by decide +kernel
theorem dX9_dark_8 : decode cX9_dark 8 = .ok (.bipush 8, 2) := by decide +kernel
theorem dX9_dark_10 : decode cX9_dark 10 = .ok (.iload_n 1, 1) := by decide +kernel
theorem dX9_dark_11 : decode cX9_dark 11 = .ok (.imul, 1) := by decide +kernel
theorem dX9_dark_12 : decode cX9_dark 12 = .ok (.bipush 8, 2) := by decide +kernel
theorem dX9_dark_14 : decode cX9_dark 14 = .ok (.iadd, 1) := by decide +kernel
theorem dX9_dark_15 : decode cX9_dark 15 = .ok (.if_icmp .ge 65, 3) := by decide +kernel
theorem dX9_dark_18 : decode cX9_dark 18 = .ok (.aload_n 0, 1) := by decide +kernel
theorem dX9_dark_19 : decode cX9_dark 19 = .ok (.getfield 58, 3) := by decide +kernel
theorem dX9_dark_22 : decode cX9_dark 22 = .ok (.iload_n 3, 1) := by decide +kernel
theorem dX9_dark_23 : decode cX9_dark 23 = .ok (.aload_n 0, 1) := by decide +kernel
theorem dX9_dark_24 : decode cX9_dark 24 = .ok (.getfield 33, 3) := by decide +kernel
theorem dX9_dark_27 : decode cX9_dark 27 = .ok (.iload_n 3, 1) := by decide +kernel
theorem dX9_dark_28 : decode cX9_dark 28 = .ok (.baload, 1) := by decide +kernel
theorem dX9_dark_29 : decode cX9_dark 29 = .ok (.ifCond .eq 23, 3) := by decide +kernel
theorem dX9_dark_32 : decode cX9_dark 32 = .ok (.aload_n 0, 1) := by decide +kernel
theorem dX9_dark_33 : decode cX9_dark 33 = .ok (.getfield 55, 3) := by decide +kernel
theorem dX9_dark_36 : decode cX9_dark 36 = .ok (.iload_n 3, 1) := by decide +kernel
theorem dX9_dark_37 : decode cX9_dark 37 = .ok (.iaload, 1) := by decide +kernel
theorem dX9_dark_38 : decode cX9_dark 38 = .ok (.ifCond .ne 14, 3) := by decide +kernel
theorem dX9_dark_41 : decode cX9_dark 41 = .ok (.aload_n 0, 1) := by decide +kernel
theorem dX9_dark_42 : decode cX9_dark 42 = .ok (.getfield 58, 3) := by decide +kernel
theorem dX9_dark_45 : decode cX9_dark 45 = .ok (.iload_n 3, 1) := by decide +kernel
theorem dX9_dark_46 : decode cX9_dark 46 = .ok (.iaload, 1) := by decide +kernel
theorem dX9_dark_47 : decode cX9_dark 47 = .ok (.iconst 1, 1) := by decide +kernel
theorem dX9_dark_48 : decode cX9_dark 48 = .ok (.iadd, 1) := by decide +kernel
theorem dX9_dark_49 : decode cX9_dark 49 = .ok (.goto 4, 3) := by decide +kernel
theorem dX9_dark_52 : decode cX9_dark 52 = .ok (.iconst 0, 1) := by decide +kernel
theorem dX9_dark_53 : decode cX9_dark 53 = .ok (.iastore, 1) := by decide +kernel
theorem dX9_dark_54 : decode cX9_dark 54 = .ok (.iload_n 2, 1) := by decide +kernel
theorem dX9_dark_55 : decode cX9_dark 55 = .ok (.ifCond .ne 13, 3) := by decide +kernel
theorem dX9_dark_58 : decode cX9_dark 58 = .ok (.aload_n 0, 1) := by decide +kernel
theorem dX9_dark_59 : decode cX9_dark 59 = .ok (.getfield 58, 3) := by decide +kernel
theorem dX9_dark_62 : decode cX9_dark 62 = .ok (.iload_n 3, 1) := by decide +kernel
theorem dX9_dark_63 : decode cX9_dark 63 = .ok (.iaload, 1) := by decide +kernel
theorem dX9_dark_64 : decode cX9_dark 64 = .ok (.iconst 1, 1) := by decide +kernel
theorem dX9_dark_65 : decode cX9_dark 65 = .ok (.if_icmp .le 7, 3) := by decide +kernel
theorem dX9_dark_68 : decode cX9_dark 68 = .ok (.iconst 1, 1) := by decide +kernel
theorem dX9_dark_69 : decode cX9_dark 69 = .ok (.goto 4, 3) := by decide +kernel
theorem dX9_dark_72 : decode cX9_dark 72 = .ok (.iconst 0, 1) := by decide +kernel
theorem dX9_dark_73 : decode cX9_dark 73 = .ok (.istore_n 2, 1) := by decide +kernel
theorem dX9_dark_74 : decode cX9_dark 74 = .ok (.iinc 3 1, 3) := by decide +kernel
theorem dX9_dark_77 : decode cX9_dark 77 = .ok (.goto (-70), 3) := by decide +kernel
theorem dX9_dark_80 : decode cX9_dark 80 = .ok (.iload_n 2, 1) := by decide +kernel
theorem dX9_dark_81 : decode cX9_dark 81 = .ok (.ireturn, 1) := by decide +kernel
theorem dX9_tooShort_0 : decode cX9_tooShort 0 = .ok (.iconst 0, 1) := by decide +kernel
theorem dX9_tooShort_1 : decode cX9_tooShort 1 = .ok (.istore_n 2, 1) := by decide +kernel
theorem dX9_tooShort_2 : decode cX9_tooShort 2 = .ok (.bipush 8, 2) := by decide +kernel
theorem dX9_tooShort_4 : decode cX9_tooShort 4 = .ok (.iload_n 1, 1) := by decide +kernel
theorem dX9_tooShort_5 : decode cX9_tooShort 5 = .ok (.imul, 1) := by decide +kernel
theorem dX9_tooShort_6 : decode cX9_tooShort 6 = .ok (.istore_n 3, 1) := by decide +kernel
theorem dX9_tooShort_7 : decode cX9_tooShort 7 = .ok (.iload_n 3, 1) := by decide +kernel
theorem dX9_tooShort_8 : decode cX9_tooShort 8 = .ok (.bipush 8, 2) := by decide +kernel
theorem dX9_tooShort_10 : decode cX9_tooShort 10 = .ok (.iload_n 1, 1) := by decide +kernel
theorem dX9_tooShort_11 : decode cX9_tooShort 11 = .ok (.imul, 1) := by decide +kernel
theorem dX9_tooShort_12 : decode cX9_tooShort 12 = .ok (.bipush 8, 2) := by decide +kernel
theorem dX9_tooShort_14 : decode cX9_tooShort 14 = .ok (.iadd, 1) := by decide +kernel
theorem dX9_tooShort_15 : decode cX9_tooShort 15 = .ok (.if_icmp .ge 110, 3) := by decide +kernel
theorem dX9_tooShort_18 : decode cX9_tooShort 18 = .ok (.aload_n 0, 1) := by decide +kernel
theorem dX9_tooShort_19 : decode cX9_tooShort 19 = .ok (.getfield 55, 3) := by decide +kernel
theorem dX9_tooShort_22 : decode cX9_tooShort 22 = .ok (.iload_n 3, 1) := by decide +kernel
theorem dX9_tooShort_23 : decode cX9_tooShort 23 = .ok (.iaload, 1) := by decide +kernel
theorem dX9_tooShort_24 : decode cX9_tooShort 24 = .ok (.iconst 1, 1) := by decide +kernel
theorem dX9_tooShort_25 : decode cX9_tooShort 25 = .ok (.if_icmp .le 7, 3) := by decide +kernel
theorem dX9_tooShort_28 : decode cX9_tooShort 28 = .ok (.iconst 1, 1) := by decide +kernel
theorem dX9_tooShort_29 : decode cX9_tooShort 29 = .ok (.goto 4, 3) := by decide +kernel
theorem dX9_tooShort_32 : decode cX9_tooShort 32 = .ok (.iconst 0, 1) := by decide +kernel
theorem dX9_tooShort_33 : decode cX9_tooShort 33 = .ok (.istore 4, 2) := by decide +kernel
theorem dX9_tooShort_35 : decode cX9_tooShort 35 = .ok (.aload_n 0, 1) := by decide +kernel
theorem dX9_tooShort_36 : decode cX9_tooShort 36 = .ok (.getfield 55, 3) := by decide +kernel
theorem dX9_tooShort_39 : decode cX9_tooShort 39 = .ok (.iload_n 3, 1) := by decide +kernel
theorem dX9_tooShort_40 : decode cX9_tooShort 40 = .ok (.iaload, 1) := by decide +kernel
theorem dX9_tooShort_41 : decode cX9_tooShort 41 = .ok (.iconst 4, 1) := by decide +kernel
theorem dX9_tooShort_42 : decode cX9_tooShort 42 = .ok (.iand, 1) := by decide +kernel
theorem dX9_tooShort_43 : decode cX9_tooShort 43 = .ok (.ifCond .eq 13, 3) := by decide +kernel
theorem dX9_tooShort_46 : decode cX9_tooShort 46 = .ok (.aload_n 0, 1) := by decide +kernel
theorem dX9_tooShort_47 : decode cX9_tooShort 47 = .ok (.getfield 64, 3) := by decide +kernel
theorem dX9_tooShort_50 : decode cX9_tooShort 50 = .ok (.iload_n 3, 1) := by decide +kernel
theorem dX9_tooShort_51 : decode cX9_tooShort 51 = .ok (.iconst 0, 1) := by decide +kernel
theorem dX9_tooShort_52 : decode cX9_tooShort 52 = .ok (.iastore, 1) := by decide +kernel
theorem dX9_tooShort_53 : decode cX9_tooShort 53 = .ok (.goto 24, 3) := by decide +kernel
theorem dX9_tooShort_56 : decode cX9_tooShort 56 = .ok (.aload_n 0, 1) := by decide +kernel
theorem dX9_tooShort_57 : decode cX9_tooShort 57 = .ok (.getfield 55, 3) := by decide +kernel
theorem dX9_tooShort_60 : decode cX9_tooShort 60 = .ok (.iload_n 3, 1) := by decide +kernel
theorem dX9_tooShort_61 : decode cX9_tooShort 61 = .ok (.iaload, 1) := by decide +kernel
theorem dX9_tooShort_62 : decode cX9_tooShort 62 = .ok (.iconst 2, 1) := by decide +kernel
theorem dX9_tooShort_63 : decode cX9_tooShort 63 = .ok (.iand, 1) := by decide +kernel
theorem dX9_tooShort_64 : decode cX9_tooShort 64 = .ok (.ifCond .eq 13, 3) := by decide +kernel
theorem dX9_tooShort_67 : decode cX9_tooShort 67 = .ok (.aload_n 0, 1) := by decide +kernel
theorem dX9_tooShort_68 : decode cX9_tooShort 68 = .ok (.getfield 64, 3) := by decide +kernel
theorem dX9_tooShort_71 : decode cX9_tooShort 71 = .ok (.iload_n 3, 1) := by decide +kernel
theorem dX9_tooShort_72 : decode cX9_tooShort 72 = .ok (.dup2, 1) := by decide +kernel
theorem dX9_tooShort_73 : decode cX9_tooShort 73 = .ok (.iaload, 1) := by decide +kernel
theorem dX9_tooShort_74 : decode cX9_tooShort 74 = .ok (.iconst 1, 1) := by decide +kernel
theorem dX9_tooShort_75 : decode cX9_tooShort 75 = .ok (.iadd, 1) := by decide +kernel
theorem dX9_tooShort_76 : decode cX9_tooShort 76 = .ok (.iastore, 1) := by decide +kernel
theorem dX9_tooShort_77 : decode cX9_tooShort 77 = .ok (.iload_n 2, 1) := by decide +kernel
theorem dX9_tooShort_78 : decode cX9_tooShort 78 = .ok (.ifCond .ne 27, 3) := by decide +kernel
theorem dX9_tooShort_81 : decode cX9_tooShort 81 = .ok (.aload_n 0, 1) := by decide +kernel
theorem dX9_tooShort_82 : decode cX9_tooShort 82 = .ok (.getfield 61, 3) := by decide +kernel
theorem dX9_tooShort_85 : decode cX9_tooShort 85 = .ok (.iload_n 3, 1) := by decide +kernel
theorem dX9_tooShort_86 : decode cX9_tooShort 86 = .ok (.baload, 1) := by decide +kernel
theorem dX9_tooShort_87 : decode cX9_tooShort 87 = .ok (.ifCond .eq 22, 3) := by decide +kernel
theorem dX9_tooShort_90 : decode cX9_tooShort 90 = .ok (.iload 4, 2) := by decide +kernel
theorem dX9_tooShort_92 : decode cX9_tooShort 92 = .ok (.ifCond .ne 17, 3) := by decide +kernel
theorem dX9_tooShort_95 : decode cX9_tooShort 95 = .ok (.aload_n 0, 1) := by decide +kernel
theorem dX9_tooShort_96 : decode cX9_tooShort 96 = .ok (.getfield 64, 3) := by decide +kernel
theorem dX9_tooShort_99 : decode cX9_tooShort 99 = .ok (.iload_n 3, 1) := by decide +kernel
theorem dX9_tooShort_100 : decode cX9_tooShort 100 = .ok (.iaload, 1) := by decide +kernel
theorem dX9_tooShort_101 : decode cX9_tooShort 101 = .ok (.iconst 3, 1) := by decide +kernel
theorem dX9_tooShort_102 : decode cX9_tooShort 102 = .ok (.if_icmp .ge 7, 3) := by decide +kernel
theorem dX9_tooShort_105 : decode cX9_tooShort 105 = .ok (.iconst 1, 1) := by decide +kernel
theorem dX9_tooShort_106 : decode cX9_tooShort 106 = .ok (.goto 4, 3) := by decide +kernel
theorem dX9_tooShort_109 : decode cX9_tooShort 109 = .ok (.iconst 0, 1) := by decide +kernel
theorem dX9_tooShort_110 : decode cX9_tooShort 110 = .ok (.istore_n 2, 1) := by decide +kernel
theorem dX9_tooShort_111 : decode cX9_tooShort 111 = .ok (.aload_n 0, 1) := by decide +kernel
theorem dX9_tooShort_112 : decode cX9_tooShort 112 = .ok (.getfield 61, 3) := by decide +kernel
theorem dX9_tooShort_115 : decode cX9_tooShort 115 = .ok (.iload_n 3, 1) := by decide +kernel
theorem dX9_tooShort_116 : decode cX9_tooShort 116 = .ok (.iload 4, 2) := by decide +kernel
theorem dX9_tooShort_118 : decode cX9_tooShort 118 = .ok (.bastore, 1) := by decide +kernel
theorem dX9_tooShort_119 : decode cX9_tooShort 119 = .ok (.iinc 3 1, 3) := by decide +kernel
theorem dX9_tooShort_122 : decode cX9_tooShort 122 = .ok (.goto (-115), 3) := by decide +kernel
theorem dX9_tooShort_125 : decode cX9_tooShort 125 = .ok (.iload_n 2, 1) := by decide +kernel
theorem dX9_tooShort_126 : decode cX9_tooShort 126 = .ok (.ireturn, 1) := by decide +kernel
theorem dX9_watch_0 : decode cX9_watch 0 = .ok (.iconst 0, 1) := by decide +kernel
theorem dX9_watch_1 : decode cX9_watch 1 = .ok (.istore_n 2, 1) := by decide +kernel
theorem dX9_watch_2 : decode cX9_watch 2 = .ok (.iload_n 2, 1) := by decide +kernel
theorem dX9_watch_3 : decode cX9_watch 3 = .ok (.bipush 8, 2) := by decide +kernel
theorem dX9_watch_5 : decode cX9_watch 5 = .ok (.if_icmp .ge 26, 3) := by decide +kernel
theorem dX9_watch_8 : decode cX9_watch 8 = .ok (.aload_n 0, 1) := by decide +kernel
theorem dX9_watch_9 : decode cX9_watch 9 = .ok (.getfield 55, 3) := by decide +kernel
theorem dX9_watch_12 : decode cX9_watch 12 = .ok (.bipush 8, 2) := by decide +kernel
theorem dX9_watch_14 : decode cX9_watch 14 = .ok (.iload_n 1, 1) := by decide +kernel
theorem dX9_watch_15 : decode cX9_watch 15 = .ok (.imul, 1) := by decide +kernel
theorem dX9_watch_16 : decode cX9_watch 16 = .ok (.iload_n 2, 1) := by decide +kernel
theorem dX9_watch_17 : decode cX9_watch 17 = .ok (.iadd, 1) := by decide +kernel
theorem dX9_watch_18 : decode cX9_watch 18 = .ok (.aload_n 0, 1) := by decide +kernel
theorem dX9_watch_19 : decode cX9_watch 19 = .ok (.iload_n 1, 1) := by decide +kernel
theorem dX9_watch_20 : decode cX9_watch 20 = .ok (.iload_n 2, 1) := by decide +kernel
theorem dX9_watch_21 : decode cX9_watch 21 = .ok (.invokevirtual 219, 3) := by decide +kernel
theorem dX9_watch_24 : decode cX9_watch 24 = .ok (.iastore, 1) := by decide +kernel
theorem dX9_watch_25 : decode cX9_watch 25 = .ok (.iinc 2 1, 3) := by decide +kernel
theorem dX9_watch_28 : decode cX9_watch 28 = .ok (.goto (-26), 3) := by decide +kernel
theorem dX9_watch_31 : decode cX9_watch 31 = .ok (.aload_n 0, 1) := by decide +kernel
theorem dX9_watch_32 : decode cX9_watch 32 = .ok (.iload_n 1, 1) := by decide +kernel
theorem dX9_watch_33 : decode cX9_watch 33 = .ok (.invokevirtual 222, 3) := by decide +kernel
theorem dX9_watch_36 : decode cX9_watch 36 = .ok (.istore_n 2, 1) := by decide +kernel
theorem dX9_watch_37 : decode cX9_watch 37 = .ok (.aload_n 0, 1) := by decide +kernel
theorem dX9_watch_38 : decode cX9_watch 38 = .ok (.iload_n 1, 1) := by decide +kernel
theorem dX9_watch_39 : decode cX9_watch 39 = .ok (.invokevirtual 225, 3) := by decide +kernel
theorem dX9_watch_42 : decode cX9_watch 42 = .ok (.istore_n 3, 1) := by decide +kernel
theorem dX9_watch_43 : decode cX9_watch 43 = .ok (.aload_n 0, 1) := by decide +kernel
theorem dX9_watch_44 : decode cX9_watch 44 = .ok (.getfield 24, 3) := by decide +kernel
theorem dX9_watch_47 : decode cX9_watch 47 = .ok (.iload_n 1, 1) := by decide +kernel
theorem dX9_watch_48 : decode cX9_watch 48 = .ok (.aload_n 0, 1) := by decide +kernel
theorem dX9_watch_49 : decode cX9_watch 49 = .ok (.iload_n 1, 1) := by decide +kernel
theorem dX9_watch_50 : decode cX9_watch 50 = .ok (.invokevirtual 228, 3) := by decide +kernel
theorem dX9_watch_53 : decode cX9_watch 53 = .ok (.ifCond .eq 7, 3) := by decide +kernel
theorem dX9_watch_56 : decode cX9_watch 56 = .ok (.iconst 1, 1) := by decide +kernel
theorem dX9_watch_57 : decode cX9_watch 57 = .ok (.goto 20, 3) := by decide +kernel
theorem dX9_watch_60 : decode cX9_watch 60 = .ok (.iload_n 2, 1) := by decide +kernel
theorem dX9_watch_61 : decode cX9_watch 61 = .ok (.ifCond .eq 7, 3) := by decide +kernel
theorem dX9_watch_64 : decode cX9_watch 64 = .ok (.iconst 2, 1) := by decide +kernel
theorem dX9_watch_65 : decode cX9_watch 65 = .ok (.goto 12, 3) := by decide +kernel
theorem dX9_watch_68 : decode cX9_watch 68 = .ok (.iload_n 3, 1) := by decide +kernel
theorem dX9_watch_69 : decode cX9_watch 69 = .ok (.ifCond .eq 7, 3) := by decide +kernel
theorem dX9_watch_72 : decode cX9_watch 72 = .ok (.iconst 3, 1) := by decide +kernel
theorem dX9_watch_73 : decode cX9_watch 73 = .ok (.goto 4, 3) := by decide +kernel
theorem dX9_watch_76 : decode cX9_watch 76 = .ok (.iconst 0, 1) := by decide +kernel
theorem dX9_watch_77 : decode cX9_watch 77 = .ok (.iastore, 1) := by decide +kernel
theorem dX9_watch_78 : decode cX9_watch 78 = .ok (.aload_n 0, 1) := by decide +kernel
theorem dX9_watch_79 : decode cX9_watch 79 = .ok (.getfield 24, 3) := by decide +kernel
theorem dX9_watch_82 : decode cX9_watch 82 = .ok (.iload_n 1, 1) := by decide +kernel
theorem dX9_watch_83 : decode cX9_watch 83 = .ok (.iaload, 1) := by decide +kernel
theorem dX9_watch_84 : decode cX9_watch 84 = .ok (.ifCond .ne 4, 3) := by decide +kernel
theorem dX9_watch_87 : decode cX9_watch 87 = .ok (.return_, 1) := by decide +kernel
theorem dX9_watch_88 : decode cX9_watch 88 = .ok (.aload_n 0, 1) := by decide +kernel
theorem dX9_watch_89 : decode cX9_watch 89 = .ok (.iconst 2, 1) := by decide +kernel
theorem dX9_watch_90 : decode cX9_watch 90 = .ok (.iload_n 1, 1) := by decide +kernel
theorem dX9_watch_91 : decode cX9_watch 91 = .ok (.imul, 1) := by decide +kernel
theorem dX9_watch_92 : decode cX9_watch 92 = .ok (.invokevirtual 152, 3) := by decide +kernel
theorem dX9_watch_95 : decode cX9_watch 95 = .ok (.aload_n 0, 1) := by decide +kernel
theorem dX9_watch_96 : decode cX9_watch 96 = .ok (.iconst 2, 1) := by decide +kernel
theorem dX9_watch_97 : decode cX9_watch 97 = .ok (.iload_n 1, 1) := by decide +kernel
theorem dX9_watch_98 : decode cX9_watch 98 = .ok (.imul, 1) := by decide +kernel
theorem dX9_watch_99 : decode cX9_watch 99 = .ok (.iconst 1, 1) := by decide +kernel
theorem dX9_watch_100 : decode cX9_watch 100 = .ok (.iadd, 1) := by decide +kernel
theorem dX9_watch_101 : decode cX9_watch 101 = .ok (.invokevirtual 152, 3) := by decide +kernel
theorem dX9_watch_104 : decode cX9_watch 104 = .ok (.bipush 8, 2) := by decide +kernel
theorem dX9_watch_106 : decode cX9_watch 106 = .ok (.iload_n 1, 1) := by decide +kernel
theorem dX9_watch_107 : decode cX9_watch 107 = .ok (.imul, 1) := by decide +kernel
theorem dX9_watch_108 : decode cX9_watch 108 = .ok (.istore 4, 2) := by decide +kernel
theorem dX9_watch_110 : decode cX9_watch 110 = .ok (.iload 4, 2) := by decide +kernel
theorem dX9_watch_112 : decode cX9_watch 112 = .ok (.bipush 8, 2) := by decide +kernel
theorem dX9_watch_114 : decode cX9_watch 114 = .ok (.iload_n 1, 1) := by decide +kernel
theorem dX9_watch_115 : decode cX9_watch 115 = .ok (.imul, 1) := by decide +kernel
theorem dX9_watch_116 : decode cX9_watch 116 = .ok (.bipush 8, 2) := by decide +kernel
theorem dX9_watch_118 : decode cX9_watch 118 = .ok (.iadd, 1) := by decide +kernel
theorem dX9_watch_119 : decode cX9_watch 119 = .ok (.if_icmp .ge 25, 3) := by decide +kernel
theorem dX9_watch_122 : decode cX9_watch 122 = .ok (.aload_n 0, 1) := by decide +kernel
theorem dX9_watch_123 : decode cX9_watch 123 = .ok (.getfield 36, 3) := by decide +kernel
theorem dX9_watch_126 : decode cX9_watch 126 = .ok (.iload 4, 2) := by decide +kernel
theorem dX9_watch_128 : decode cX9_watch 128 = .ok (.iconst 0, 1) := by decide +kernel
theorem dX9_watch_129 : decode cX9_watch 129 = .ok (.bastore, 1) := by decide +kernel
theorem dX9_watch_130 : decode cX9_watch 130 = .ok (.aload_n 0, 1) := by decide +kernel
theorem dX9_watch_131 : decode cX9_watch 131 = .ok (.getfield 39, 3) := by decide +kernel
theorem dX9_watch_134 : decode cX9_watch 134 = .ok (.iload 4, 2) := by decide +kernel
theorem dX9_watch_136 : decode cX9_watch 136 = .ok (.iconst 0, 1) := by decide +kernel
theorem dX9_watch_137 : decode cX9_watch 137 = .ok (.bastore, 1) := by decide +kernel
theorem dX9_watch_138 : decode cX9_watch 138 = .ok (.iinc 4 1, 3) := by decide +kernel
theorem dX9_watch_141 : decode cX9_watch 141 = .ok (.goto (-31), 3) := by decide +kernel
theorem dX9_watch_144 : decode cX9_watch 144 = .ok (.return_, 1) := by decide +kernel
theorem dX9_step_0 : decode cX9_step 0 = .ok (.aload_n 0, 1) := by decide +kernel
theorem dX9_step_1 : decode cX9_step 1 = .ok (.iload_n 1, 1) := by decide +kernel
theorem dX9_step_2 : decode cX9_step 2 = .ok (.invokevirtual 231, 3) := by decide +kernel
theorem dX9_step_5 : decode cX9_step 5 = .ok (.aload_n 0, 1) := by decide +kernel
theorem dX9_step_6 : decode cX9_step 6 = .ok (.iload_n 1, 1) := by decide +kernel
theorem dX9_step_7 : decode cX9_step 7 = .ok (.invokevirtual 234, 3) := by decide +kernel
theorem dX9_step_10 : decode cX9_step 10 = .ok (.aload_n 0, 1) := by decide +kernel
theorem dX9_step_11 : decode cX9_step 11 = .ok (.iload_n 1, 1) := by decide +kernel
theorem dX9_step_12 : decode cX9_step 12 = .ok (.invokevirtual 237, 3) := by decide +kernel
theorem dX9_step_15 : decode cX9_step 15 = .ok (.ifCond .ne 4, 3) := by decide +kernel
theorem dX9_step_18 : decode cX9_step 18 = .ok (.return_, 1) := by decide +kernel
theorem dX9_step_19 : decode cX9_step 19 = .ok (.aload_n 0, 1) := by decide +kernel
theorem dX9_step_20 : decode cX9_step 20 = .ok (.iload_n 1, 1) := by decide +kernel
theorem dX9_step_21 : decode cX9_step 21 = .ok (.invokevirtual 240, 3) := by decide +kernel
theorem dX9_step_24 : decode cX9_step 24 = .ok (.istore_n 2, 1) := by decide +kernel
theorem dX9_step_25 : decode cX9_step 25 = .ok (.aload_n 0, 1) := by decide +kernel
theorem dX9_step_26 : decode cX9_step 26 = .ok (.iload_n 1, 1) := by decide +kernel
theorem dX9_step_27 : decode cX9_step 27 = .ok (.invokevirtual 243, 3) := by decide +kernel
theorem dX9_step_30 : decode cX9_step 30 = .ok (.aload_n 0, 1) := by decide +kernel
theorem dX9_step_31 : decode cX9_step 31 = .ok (.iload_n 1, 1) := by decide +kernel
theorem dX9_step_32 : decode cX9_step 32 = .ok (.iconst 2, 1) := by decide +kernel
theorem dX9_step_33 : decode cX9_step 33 = .ok (.iload_n 1, 1) := by decide +kernel
theorem dX9_step_34 : decode cX9_step 34 = .ok (.imul, 1) := by decide +kernel
theorem dX9_step_35 : decode cX9_step 35 = .ok (.iload_n 2, 1) := by decide +kernel
theorem dX9_step_36 : decode cX9_step 36 = .ok (.ifCond .ge 7, 3) := by decide +kernel
theorem dX9_step_39 : decode cX9_step 39 = .ok (.iconst 1, 1) := by decide +kernel
theorem dX9_step_40 : decode cX9_step 40 = .ok (.goto 4, 3) := by decide +kernel
theorem dX9_step_43 : decode cX9_step 43 = .ok (.iconst 0, 1) := by decide +kernel
theorem dX9_step_44 : decode cX9_step 44 = .ok (.invokevirtual 246, 3) := by decide +kernel
theorem dX9_step_47 : decode cX9_step 47 = .ok (.aload_n 0, 1) := by decide +kernel
theorem dX9_step_48 : decode cX9_step 48 = .ok (.iload_n 1, 1) := by decide +kernel
theorem dX9_step_49 : decode cX9_step 49 = .ok (.iconst 2, 1) := by decide +kernel
theorem dX9_step_50 : decode cX9_step 50 = .ok (.iload_n 1, 1) := by decide +kernel
theorem dX9_step_51 : decode cX9_step 51 = .ok (.imul, 1) := by decide +kernel
theorem dX9_step_52 : decode cX9_step 52 = .ok (.iconst 1, 1) := by decide +kernel
theorem dX9_step_53 : decode cX9_step 53 = .ok (.iadd, 1) := by decide +kernel
theorem dX9_step_54 : decode cX9_step 54 = .ok (.iload_n 2, 1) := by decide +kernel
theorem dX9_step_55 : decode cX9_step 55 = .ok (.ifCond .ge 7, 3) := by decide +kernel
theorem dX9_step_58 : decode cX9_step 58 = .ok (.iconst 1, 1) := by decide +kernel
theorem dX9_step_59 : decode cX9_step 59 = .ok (.goto 4, 3) := by decide +kernel
theorem dX9_step_62 : decode cX9_step 62 = .ok (.iconst 0, 1) := by decide +kernel
theorem dX9_step_63 : decode cX9_step 63 = .ok (.invokevirtual 246, 3) := by decide +kernel
theorem dX9_step_66 : decode cX9_step 66 = .ok (.iconst 0, 1) := by decide +kernel
theorem dX9_step_67 : decode cX9_step 67 = .ok (.istore_n 3, 1) := by decide +kernel
theorem dX9_step_68 : decode cX9_step 68 = .ok (.iload_n 3, 1) := by decide +kernel
theorem dX9_step_69 : decode cX9_step 69 = .ok (.bipush 8, 2) := by decide +kernel
theorem dX9_step_71 : decode cX9_step 71 = .ok (.if_icmp .ge 57, 3) := by decide +kernel
theorem dX9_step_74 : decode cX9_step 74 = .ok (.aload_n 0, 1) := by decide +kernel
theorem dX9_step_75 : decode cX9_step 75 = .ok (.getfield 30, 3) := by decide +kernel
theorem dX9_step_78 : decode cX9_step 78 = .ok (.iload_n 1, 1) := by decide +kernel
theorem dX9_step_79 : decode cX9_step 79 = .ok (.baload, 1) := by decide +kernel
theorem dX9_step_80 : decode cX9_step 80 = .ok (.ifCond .eq 48, 3) := by decide +kernel
theorem dX9_step_83 : decode cX9_step 83 = .ok (.iload_n 2, 1) := by decide +kernel
theorem dX9_step_84 : decode cX9_step 84 = .ok (.ifCond .ge 44, 3) := by decide +kernel
theorem dX9_step_87 : decode cX9_step 87 = .ok (.aload_n 0, 1) := by decide +kernel
theorem dX9_step_88 : decode cX9_step 88 = .ok (.getfield 33, 3) := by decide +kernel
theorem dX9_step_91 : decode cX9_step 91 = .ok (.bipush 8, 2) := by decide +kernel
theorem dX9_step_93 : decode cX9_step 93 = .ok (.iload_n 1, 1) := by decide +kernel
theorem dX9_step_94 : decode cX9_step 94 = .ok (.imul, 1) := by decide +kernel
theorem dX9_step_95 : decode cX9_step 95 = .ok (.iload_n 3, 1) := by decide +kernel
theorem dX9_step_96 : decode cX9_step 96 = .ok (.iadd, 1) := by decide +kernel
theorem dX9_step_97 : decode cX9_step 97 = .ok (.baload, 1) := by decide +kernel
theorem dX9_step_98 : decode cX9_step 98 = .ok (.ifCond .eq 24, 3) := by decide +kernel
theorem dX9_step_101 : decode cX9_step 101 = .ok (.aload_n 0, 1) := by decide +kernel
theorem dX9_step_102 : decode cX9_step 102 = .ok (.iload_n 1, 1) := by decide +kernel
theorem dX9_step_103 : decode cX9_step 103 = .ok (.iload_n 3, 1) := by decide +kernel
theorem dX9_step_104 : decode cX9_step 104 = .ok (.invokevirtual 155, 3) := by decide +kernel
theorem dX9_step_107 : decode cX9_step 107 = .ok (.ifCond .ne 15, 3) := by decide +kernel
theorem dX9_step_110 : decode cX9_step 110 = .ok (.aload_n 0, 1) := by decide +kernel
theorem dX9_step_111 : decode cX9_step 111 = .ok (.getfield 36, 3) := by decide +kernel
theorem dX9_step_114 : decode cX9_step 114 = .ok (.bipush 8, 2) := by decide +kernel
theorem dX9_step_116 : decode cX9_step 116 = .ok (.iload_n 1, 1) := by decide +kernel
theorem dX9_step_117 : decode cX9_step 117 = .ok (.imul, 1) := by decide +kernel
theorem dX9_step_118 : decode cX9_step 118 = .ok (.iload_n 3, 1) := by decide +kernel
theorem dX9_step_119 : decode cX9_step 119 = .ok (.iadd, 1) := by decide +kernel
theorem dX9_step_120 : decode cX9_step 120 = .ok (.iconst 1, 1) := by decide +kernel
theorem dX9_step_121 : decode cX9_step 121 = .ok (.bastore, 1) := by decide +kernel
theorem dX9_step_122 : decode cX9_step 122 = .ok (.iinc 3 1, 3) := by decide +kernel
theorem dX9_step_125 : decode cX9_step 125 = .ok (.goto (-57), 3) := by decide +kernel
theorem dX9_step_128 : decode cX9_step 128 = .ok (.aload_n 0, 1) := by decide +kernel
theorem dX9_step_129 : decode cX9_step 129 = .ok (.getfield 30, 3) := by decide +kernel
theorem dX9_step_132 : decode cX9_step 132 = .ok (.iload_n 1, 1) := by decide +kernel
theorem dX9_step_133 : decode cX9_step 133 = .ok (.iload_n 2, 1) := by decide +kernel
theorem dX9_step_134 : decode cX9_step 134 = .ok (.ifCond .lt 7, 3) := by decide +kernel
theorem dX9_step_137 : decode cX9_step 137 = .ok (.iconst 1, 1) := by decide +kernel
theorem dX9_step_138 : decode cX9_step 138 = .ok (.goto 4, 3) := by decide +kernel
theorem dX9_step_141 : decode cX9_step 141 = .ok (.iconst 0, 1) := by decide +kernel
theorem dX9_step_142 : decode cX9_step 142 = .ok (.bastore, 1) := by decide +kernel
theorem dX9_step_143 : decode cX9_step 143 = .ok (.iload_n 2, 1) := by decide +kernel
theorem dX9_step_144 : decode cX9_step 144 = .ok (.ifCond .lt 17, 3) := by decide +kernel
theorem dX9_step_147 : decode cX9_step 147 = .ok (.aload_n 0, 1) := by decide +kernel
theorem dX9_step_148 : decode cX9_step 148 = .ok (.iload_n 1, 1) := by decide +kernel
theorem dX9_step_149 : decode cX9_step 149 = .ok (.aload_n 0, 1) := by decide +kernel
theorem dX9_step_150 : decode cX9_step 150 = .ok (.getfield 91, 3) := by decide +kernel
theorem dX9_step_153 : decode cX9_step 153 = .ok (.iload_n 2, 1) := by decide +kernel
theorem dX9_step_154 : decode cX9_step 154 = .ok (.iaload, 1) := by decide +kernel
theorem dX9_step_155 : decode cX9_step 155 = .ok (.invokevirtual 250, 3) := by decide +kernel
theorem dX9_step_158 : decode cX9_step 158 = .ok (.goto 8, 3) := by decide +kernel
theorem dX9_step_161 : decode cX9_step 161 = .ok (.aload_n 0, 1) := by decide +kernel
theorem dX9_step_162 : decode cX9_step 162 = .ok (.iload_n 1, 1) := by decide +kernel
theorem dX9_step_163 : decode cX9_step 163 = .ok (.invokevirtual 253, 3) := by decide +kernel
theorem dX9_step_166 : decode cX9_step 166 = .ok (.aload_n 0, 1) := by decide +kernel
theorem dX9_step_167 : decode cX9_step 167 = .ok (.iload_n 1, 1) := by decide +kernel
theorem dX9_step_168 : decode cX9_step 168 = .ok (.invokevirtual 256, 3) := by decide +kernel
theorem dX9_step_171 : decode cX9_step 171 = .ok (.return_, 1) := by decide +kernel
theorem dX9_place_0 : decode cX9_place 0 = .ok (.aload_n 0, 1) := by decide +kernel
theorem dX9_place_1 : decode cX9_place 1 = .ok (.iconst 0, 1) := by decide +kernel
theorem dX9_place_2 : decode cX9_place 2 = .ok (.putfield 118, 3) := by decide +kernel
theorem dX9_place_5 : decode cX9_place 5 = .ok (.iload_n 1, 1) := by decide +kernel
theorem dX9_place_6 : decode cX9_place 6 = .ok (.invokestatic 122, 3) := by decide +kernel
theorem dX9_place_9 : decode cX9_place 9 = .ok (.ifCond .eq 12, 3) := by decide +kernel
theorem dX9_place_12 : decode cX9_place 12 = .ok (.aload_n 0, 1) := by decide +kernel
theorem dX9_place_13 : decode cX9_place 13 = .ok (.getfield 16, 3) := by decide +kernel
theorem dX9_place_16 : decode cX9_place 16 = .ok (.iload_n 1, 1) := by decide +kernel
theorem dX9_place_17 : decode cX9_place 17 = .ok (.iaload, 1) := by decide +kernel
theorem dX9_place_18 : decode cX9_place 18 = .ok (.goto 4, 3) := by decide +kernel
theorem dX9_place_21 : decode cX9_place 21 = .ok (.iconst (-1), 1) := by decide +kernel
theorem dX9_place_22 : decode cX9_place 22 = .ok (.ireturn, 1) := by decide +kernel
theorem dX9_detect_0 : decode cX9_detect 0 = .ok (.aload_n 0, 1) := by decide +kernel
theorem dX9_detect_1 : decode cX9_detect 1 = .ok (.iconst 0, 1) := by decide +kernel
theorem dX9_detect_2 : decode cX9_detect 2 = .ok (.putfield 118, 3) := by decide +kernel
theorem dX9_detect_5 : decode cX9_detect 5 = .ok (.iload_n 1, 1) := by decide +kernel
theorem dX9_detect_6 : decode cX9_detect 6 = .ok (.iload_n 2, 1) := by decide +kernel
theorem dX9_detect_7 : decode cX9_detect 7 = .ok (.invokestatic 130, 3) := by decide +kernel
theorem dX9_detect_10 : decode cX9_detect 10 = .ok (.ifCond .ne 5, 3) := by decide +kernel
theorem dX9_detect_13 : decode cX9_detect 13 = .ok (.iconst 0, 1) := by decide +kernel
theorem dX9_detect_14 : decode cX9_detect 14 = .ok (.ireturn, 1) := by decide +kernel
theorem dX9_detect_15 : decode cX9_detect 15 = .ok (.aload_n 0, 1) := by decide +kernel
theorem dX9_detect_16 : decode cX9_detect 16 = .ok (.getfield 42, 3) := by decide +kernel
theorem dX9_detect_19 : decode cX9_detect 19 = .ok (.bipush 8, 2) := by decide +kernel
theorem dX9_detect_21 : decode cX9_detect 21 = .ok (.iload_n 1, 1) := by decide +kernel
theorem dX9_detect_22 : decode cX9_detect 22 = .ok (.imul, 1) := by decide +kernel
theorem dX9_detect_23 : decode cX9_detect 23 = .ok (.iload_n 2, 1) := by decide +kernel
theorem dX9_detect_24 : decode cX9_detect 24 = .ok (.iadd, 1) := by decide +kernel
theorem dX9_detect_25 : decode cX9_detect 25 = .ok (.iload_n 3, 1) := by decide +kernel
theorem dX9_detect_26 : decode cX9_detect 26 = .ok (.bastore, 1) := by decide +kernel
theorem dX9_detect_27 : decode cX9_detect 27 = .ok (.iconst 1, 1) := by decide +kernel
theorem dX9_detect_28 : decode cX9_detect 28 = .ok (.ireturn, 1) := by decide +kernel
theorem dX9_press_0 : decode cX9_press 0 = .ok (.aload_n 0, 1) := by decide +kernel
theorem dX9_press_1 : decode cX9_press 1 = .ok (.iconst 0, 1) := by decide +kernel
theorem dX9_press_2 : decode cX9_press 2 = .ok (.putfield 118, 3) := by decide +kernel
theorem dX9_press_5 : decode cX9_press 5 = .ok (.iload_n 1, 1) := by decide +kernel
theorem dX9_press_6 : decode cX9_press 6 = .ok (.iload_n 2, 1) := by decide +kernel
theorem dX9_press_7 : decode cX9_press 7 = .ok (.invokestatic 130, 3) := by decide +kernel
theorem dX9_press_10 : decode cX9_press 10 = .ok (.ifCond .eq 35, 3) := by decide +kernel
theorem dX9_press_13 : decode cX9_press 13 = .ok (.aload_n 0, 1) := by decide +kernel
theorem dX9_press_14 : decode cX9_press 14 = .ok (.iload_n 1, 1) := by decide +kernel
theorem dX9_press_15 : decode cX9_press 15 = .ok (.invokevirtual 237, 3) := by decide +kernel
theorem dX9_press_18 : decode cX9_press 18 = .ok (.ifCond .eq 27, 3) := by decide +kernel
theorem dX9_press_21 : decode cX9_press 21 = .ok (.aload_n 0, 1) := by decide +kernel
theorem dX9_press_22 : decode cX9_press 22 = .ok (.getfield 33, 3) := by decide +kernel
theorem dX9_press_25 : decode cX9_press 25 = .ok (.bipush 8, 2) := by decide +kernel
theorem dX9_press_27 : decode cX9_press 27 = .ok (.iload_n 1, 1) := by decide +kernel
theorem dX9_press_28 : decode cX9_press 28 = .ok (.imul, 1) := by decide +kernel
theorem dX9_press_29 : decode cX9_press 29 = .ok (.iload_n 2, 1) := by decide +kernel
theorem dX9_press_30 : decode cX9_press 30 = .ok (.iadd, 1) := by decide +kernel
theorem dX9_press_31 : decode cX9_press 31 = .ok (.baload, 1) := by decide +kernel
theorem dX9_press_32 : decode cX9_press 32 = .ok (.ifCond .eq 13, 3) := by decide +kernel
theorem dX9_press_35 : decode cX9_press 35 = .ok (.aload_n 0, 1) := by decide +kernel
theorem dX9_press_36 : decode cX9_press 36 = .ok (.iload_n 1, 1) := by decide +kernel
theorem dX9_press_37 : decode cX9_press 37 = .ok (.iload_n 2, 1) := by decide +kernel
theorem dX9_press_38 : decode cX9_press 38 = .ok (.iconst 5, 1) := by decide +kernel
theorem dX9_press_39 : decode cX9_press 39 = .ok (.invokevirtual 144, 3) := by decide +kernel
theorem dX9_press_42 : decode cX9_press 42 = .ok (.ifCond .ne 5, 3) := by decide +kernel
theorem dX9_press_45 : decode cX9_press 45 = .ok (.iconst 0, 1) := by decide +kernel
theorem dX9_press_46 : decode cX9_press 46 = .ok (.ireturn, 1) := by decide +kernel
theorem dX9_press_47 : decode cX9_press 47 = .ok (.aload_n 0, 1) := by decide +kernel
theorem dX9_press_48 : decode cX9_press 48 = .ok (.getfield 39, 3) := by decide +kernel
theorem dX9_press_51 : decode cX9_press 51 = .ok (.bipush 8, 2) := by decide +kernel
theorem dX9_press_53 : decode cX9_press 53 = .ok (.iload_n 1, 1) := by decide +kernel
theorem dX9_press_54 : decode cX9_press 54 = .ok (.imul, 1) := by decide +kernel
theorem dX9_press_55 : decode cX9_press 55 = .ok (.iload_n 2, 1) := by decide +kernel
theorem dX9_press_56 : decode cX9_press 56 = .ok (.iadd, 1) := by decide +kernel
theorem dX9_press_57 : decode cX9_press 57 = .ok (.iconst 1, 1) := by decide +kernel
theorem dX9_press_58 : decode cX9_press 58 = .ok (.bastore, 1) := by decide +kernel
theorem dX9_press_59 : decode cX9_press 59 = .ok (.iconst 1, 1) := by decide +kernel
theorem dX9_press_60 : decode cX9_press 60 = .ok (.ireturn, 1) := by decide +kernel
theorem dX9_target_0 : decode cX9_target 0 = .ok (.aload_n 0, 1) := by decide +kernel
theorem dX9_target_1 : decode cX9_target 1 = .ok (.iconst 0, 1) := by decide +kernel
theorem dX9_target_2 : decode cX9_target 2 = .ok (.putfield 118, 3) := by decide +kernel
theorem dX9_target_5 : decode cX9_target 5 = .ok (.iload_n 1, 1) := by decide +kernel
theorem dX9_target_6 : decode cX9_target 6 = .ok (.iload_n 3, 1) := by decide +kernel
theorem dX9_target_7 : decode cX9_target 7 = .ok (.invokestatic 130, 3) := by decide +kernel
theorem dX9_target_10 : decode cX9_target 10 = .ok (.ifCond .eq 12, 3) := by decide +kernel
theorem dX9_target_13 : decode cX9_target 13 = .ok (.iload_n 2, 1) := by decide +kernel
theorem dX9_target_14 : decode cX9_target 14 = .ok (.ifCond .lt 8, 3) := by decide +kernel
theorem dX9_target_17 : decode cX9_target 17 = .ok (.iload_n 2, 1) := by decide +kernel
theorem dX9_target_18 : decode cX9_target 18 = .ok (.iconst 1, 1) := by decide +kernel
theorem dX9_target_19 : decode cX9_target 19 = .ok (.if_icmp .le 5, 3) := by decide +kernel
theorem dX9_target_22 : decode cX9_target 22 = .ok (.iconst 0, 1) := by decide +kernel
theorem dX9_target_23 : decode cX9_target 23 = .ok (.ireturn, 1) := by decide +kernel
theorem dX9_target_24 : decode cX9_target 24 = .ok (.aload_n 0, 1) := by decide +kernel
theorem dX9_target_25 : decode cX9_target 25 = .ok (.getfield 91, 3) := by decide +kernel
theorem dX9_target_28 : decode cX9_target 28 = .ok (.iconst 2, 1) := by decide +kernel
theorem dX9_target_29 : decode cX9_target 29 = .ok (.iload_n 1, 1) := by decide +kernel
theorem dX9_target_30 : decode cX9_target 30 = .ok (.imul, 1) := by decide +kernel
theorem dX9_target_31 : decode cX9_target 31 = .ok (.iload_n 2, 1) := by decide +kernel
theorem dX9_target_32 : decode cX9_target 32 = .ok (.iadd, 1) := by decide +kernel
theorem dX9_target_33 : decode cX9_target 33 = .ok (.iload_n 3, 1) := by decide +kernel
theorem dX9_target_34 : decode cX9_target 34 = .ok (.iastore, 1) := by decide +kernel
theorem dX9_target_35 : decode cX9_target 35 = .ok (.iconst 1, 1) := by decide +kernel
theorem dX9_target_36 : decode cX9_target 36 = .ok (.ireturn, 1) := by decide +kernel
theorem dX9_preempt_0 : decode cX9_preempt 0 = .ok (.aload_n 0, 1) := by decide +kernel
theorem dX9_preempt_1 : decode cX9_preempt 1 = .ok (.iconst 0, 1) := by decide +kernel
theorem dX9_preempt_2 : decode cX9_preempt 2 = .ok (.putfield 118, 3) := by decide +kernel
theorem dX9_preempt_5 : decode cX9_preempt 5 = .ok (.iload_n 1, 1) := by decide +kernel
theorem dX9_preempt_6 : decode cX9_preempt 6 = .ok (.invokestatic 122, 3) := by decide +kernel
theorem dX9_preempt_9 : decode cX9_preempt 9 = .ok (.ifCond .eq 12, 3) := by decide +kernel
theorem dX9_preempt_12 : decode cX9_preempt 12 = .ok (.iload_n 2, 1) := by decide +kernel
theorem dX9_preempt_13 : decode cX9_preempt 13 = .ok (.ifCond .lt 8, 3) := by decide +kernel
theorem dX9_preempt_16 : decode cX9_preempt 16 = .ok (.iload_n 2, 1) := by decide +kernel
theorem dX9_preempt_17 : decode cX9_preempt 17 = .ok (.iconst 1, 1) := by decide +kernel
theorem dX9_preempt_18 : decode cX9_preempt 18 = .ok (.if_icmp .le 5, 3) := by decide +kernel
theorem dX9_preempt_21 : decode cX9_preempt 21 = .ok (.iconst 0, 1) := by decide +kernel
theorem dX9_preempt_22 : decode cX9_preempt 22 = .ok (.ireturn, 1) := by decide +kernel
theorem dX9_preempt_23 : decode cX9_preempt 23 = .ok (.aload_n 0, 1) := by decide +kernel
theorem dX9_preempt_24 : decode cX9_preempt 24 = .ok (.getfield 94, 3) := by decide +kernel
theorem dX9_preempt_27 : decode cX9_preempt 27 = .ok (.iconst 2, 1) := by decide +kernel
theorem dX9_preempt_28 : decode cX9_preempt 28 = .ok (.iload_n 1, 1) := by decide +kernel
theorem dX9_preempt_29 : decode cX9_preempt 29 = .ok (.imul, 1) := by decide +kernel
theorem dX9_preempt_30 : decode cX9_preempt 30 = .ok (.iload_n 2, 1) := by decide +kernel
theorem dX9_preempt_31 : decode cX9_preempt 31 = .ok (.iadd, 1) := by decide +kernel
theorem dX9_preempt_32 : decode cX9_preempt 32 = .ok (.iload_n 3, 1) := by decide +kernel
theorem dX9_preempt_33 : decode cX9_preempt 33 = .ok (.bastore, 1) := by decide +kernel
theorem dX9_preempt_34 : decode cX9_preempt 34 = .ok (.iconst 1, 1) := by decide +kernel
theorem dX9_preempt_35 : decode cX9_preempt 35 = .ok (.ireturn, 1) := by decide +kernel
theorem dX9_plan_0 : decode cX9_plan 0 = .ok (.aload_n 0, 1) := by decide +kernel
theorem dX9_plan_1 : decode cX9_plan 1 = .ok (.iconst 0, 1) := by decide +kernel
theorem dX9_plan_2 : decode cX9_plan 2 = .ok (.putfield 118, 3) := by decide +kernel
theorem dX9_plan_5 : decode cX9_plan 5 = .ok (.iload_n 1, 1) := by decide +kernel
theorem dX9_plan_6 : decode cX9_plan 6 = .ok (.ifCond .lt 41, 3) := by decide +kernel
theorem dX9_plan_9 : decode cX9_plan 9 = .ok (.iload_n 1, 1) := by decide +kernel
theorem dX9_plan_10 : decode cX9_plan 10 = .ok (.iconst 3, 1) := by decide +kernel
theorem dX9_plan_11 : decode cX9_plan 11 = .ok (.if_icmp .gt 36, 3) := by decide +kernel
theorem dX9_plan_14 : decode cX9_plan 14 = .ok (.iload_n 2, 1) := by decide +kernel
theorem dX9_plan_15 : decode cX9_plan 15 = .ok (.bipush 20, 2) := by decide +kernel
theorem dX9_plan_17 : decode cX9_plan 17 = .ok (.if_icmp .lt 30, 3) := by decide +kernel
theorem dX9_plan_20 : decode cX9_plan 20 = .ok (.iload_n 2, 1) := by decide +kernel
theorem dX9_plan_21 : decode cX9_plan 21 = .ok (.bipush 120, 2) := by decide +kernel
theorem dX9_plan_23 : decode cX9_plan 23 = .ok (.if_icmp .gt 24, 3) := by decide +kernel
theorem dX9_plan_26 : decode cX9_plan 26 = .ok (.iload_n 3, 1) := by decide +kernel
theorem dX9_plan_27 : decode cX9_plan 27 = .ok (.ifCond .lt 20, 3) := by decide +kernel
theorem dX9_plan_30 : decode cX9_plan 30 = .ok (.iload_n 3, 1) := by decide +kernel
theorem dX9_plan_31 : decode cX9_plan 31 = .ok (.iload_n 2, 1) := by decide +kernel
theorem dX9_plan_32 : decode cX9_plan 32 = .ok (.if_icmp .ge 15, 3) := by decide +kernel
theorem dX9_plan_35 : decode cX9_plan 35 = .ok (.iload 4, 2) := by decide +kernel
theorem dX9_plan_37 : decode cX9_plan 37 = .ok (.iconst 1, 1) := by decide +kernel
theorem dX9_plan_38 : decode cX9_plan 38 = .ok (.if_icmp .lt 9, 3) := by decide +kernel
theorem dX9_plan_41 : decode cX9_plan 41 = .ok (.iload 4, 2) := by decide +kernel
theorem dX9_plan_43 : decode cX9_plan 43 = .ok (.iload_n 2, 1) := by decide +kernel
theorem dX9_plan_44 : decode cX9_plan 44 = .ok (.if_icmp .lt 5, 3) := by decide +kernel
theorem dX9_plan_47 : decode cX9_plan 47 = .ok (.iconst 0, 1) := by decide +kernel
theorem dX9_plan_48 : decode cX9_plan 48 = .ok (.ireturn, 1) := by decide +kernel
theorem dX9_plan_49 : decode cX9_plan 49 = .ok (.aload_n 0, 1) := by decide +kernel
theorem dX9_plan_50 : decode cX9_plan 50 = .ok (.getfield 97, 3) := by decide +kernel
theorem dX9_plan_53 : decode cX9_plan 53 = .ok (.iload_n 1, 1) := by decide +kernel
theorem dX9_plan_54 : decode cX9_plan 54 = .ok (.iload_n 2, 1) := by decide +kernel
theorem dX9_plan_55 : decode cX9_plan 55 = .ok (.iastore, 1) := by decide +kernel
theorem dX9_plan_56 : decode cX9_plan 56 = .ok (.aload_n 0, 1) := by decide +kernel
theorem dX9_plan_57 : decode cX9_plan 57 = .ok (.getfield 100, 3) := by decide +kernel
theorem dX9_plan_60 : decode cX9_plan 60 = .ok (.iload_n 1, 1) := by decide +kernel
theorem dX9_plan_61 : decode cX9_plan 61 = .ok (.iload_n 3, 1) := by decide +kernel
theorem dX9_plan_62 : decode cX9_plan 62 = .ok (.iastore, 1) := by decide +kernel
theorem dX9_plan_63 : decode cX9_plan 63 = .ok (.aload_n 0, 1) := by decide +kernel
theorem dX9_plan_64 : decode cX9_plan 64 = .ok (.getfield 103, 3) := by decide +kernel
theorem dX9_plan_67 : decode cX9_plan 67 = .ok (.iload_n 1, 1) := by decide +kernel
theorem dX9_plan_68 : decode cX9_plan 68 = .ok (.iload 4, 2) := by decide +kernel
theorem dX9_plan_70 : decode cX9_plan 70 = .ok (.iastore, 1) := by decide +kernel
theorem dX9_plan_71 : decode cX9_plan 71 = .ok (.iconst 0, 1) := by decide +kernel
theorem dX9_plan_72 : decode cX9_plan 72 = .ok (.istore 5, 2) := by decide +kernel
theorem dX9_plan_74 : decode cX9_plan 74 = .ok (.iload 5, 2) := by decide +kernel
theorem dX9_plan_76 : decode cX9_plan 76 = .ok (.iconst 2, 1) := by decide +kernel
theorem dX9_plan_77 : decode cX9_plan 77 = .ok (.if_icmp .ge 36, 3) := by decide +kernel
theorem dX9_plan_80 : decode cX9_plan 80 = .ok (.aload_n 0, 1) := by decide +kernel
theorem dX9_plan_81 : decode cX9_plan 81 = .ok (.getfield 106, 3) := by decide +kernel
theorem dX9_plan_84 : decode cX9_plan 84 = .ok (.iload 5, 2) := by decide +kernel
theorem dX9_plan_86 : decode cX9_plan 86 = .ok (.iaload, 1) := by decide +kernel
theorem dX9_plan_87 : decode cX9_plan 87 = .ok (.iload_n 1, 1) := by decide +kernel
theorem dX9_plan_88 : decode cX9_plan 88 = .ok (.if_icmp .ne 19, 3) := by decide +kernel
theorem dX9_plan_91 : decode cX9_plan 91 = .ok (.aload_n 0, 1) := by decide +kernel
theorem dX9_plan_92 : decode cX9_plan 92 = .ok (.getfield 115, 3) := by decide +kernel
theorem dX9_plan_95 : decode cX9_plan 95 = .ok (.iload 5, 2) := by decide +kernel
theorem dX9_plan_97 : decode cX9_plan 97 = .ok (.aload_n 0, 1) := by decide +kernel
theorem dX9_plan_98 : decode cX9_plan 98 = .ok (.getfield 115, 3) := by decide +kernel
theorem dX9_plan_101 : decode cX9_plan 101 = .ok (.iload 5, 2) := by decide +kernel
theorem dX9_plan_103 : decode cX9_plan 103 = .ok (.iaload, 1) := by decide +kernel
theorem dX9_plan_104 : decode cX9_plan 104 = .ok (.iload_n 2, 1) := by decide +kernel
theorem dX9_plan_105 : decode cX9_plan 105 = .ok (.irem, 1) := by decide +kernel
theorem dX9_plan_106 : decode cX9_plan 106 = .ok (.iastore, 1) := by decide +kernel
theorem dX9_plan_107 : decode cX9_plan 107 = .ok (.iinc 5 1, 3) := by decide +kernel
theorem dX9_plan_110 : decode cX9_plan 110 = .ok (.goto (-36), 3) := by decide +kernel
theorem dX9_plan_113 : decode cX9_plan 113 = .ok (.iconst 1, 1) := by decide +kernel
theorem dX9_plan_114 : decode cX9_plan 114 = .ok (.ireturn, 1) := by decide +kernel
theorem dX9_message_0 : decode cX9_message 0 = .ok (.aload_n 0, 1) := by decide +kernel
theorem dX9_message_1 : decode cX9_message 1 = .ok (.iconst 0, 1) := by decide +kernel
theorem dX9_message_2 : decode cX9_message 2 = .ok (.putfield 118, 3) := by decide +kernel
theorem dX9_message_5 : decode cX9_message 5 = .ok (.iload_n 1, 1) := by decide +kernel
theorem dX9_message_6 : decode cX9_message 6 = .ok (.invokestatic 122, 3) := by decide +kernel
theorem dX9_message_9 : decode cX9_message 9 = .ok (.ifCond .eq 31, 3) := by decide +kernel
theorem dX9_message_12 : decode cX9_message 12 = .ok (.iload_n 2, 1) := by decide +kernel
theorem dX9_message_13 : decode cX9_message 13 = .ok (.ifCond .lt 27, 3) := by decide +kernel
theorem dX9_message_16 : decode cX9_message 16 = .ok (.iload_n 2, 1) := by decide +kernel
theorem dX9_message_17 : decode cX9_message 17 = .ok (.bipush 7, 2) := by decide +kernel
theorem dX9_message_19 : decode cX9_message 19 = .ok (.if_icmp .gt 21, 3) := by decide +kernel
theorem dX9_message_22 : decode cX9_message 22 = .ok (.iload_n 3, 1) := by decide +kernel
theorem dX9_message_23 : decode cX9_message 23 = .ok (.ifCond .lt 17, 3) := by decide +kernel
theorem dX9_message_26 : decode cX9_message 26 = .ok (.iload_n 3, 1) := by decide +kernel
theorem dX9_message_27 : decode cX9_message 27 = .ok (.iconst 3, 1) := by decide +kernel
theorem dX9_message_28 : decode cX9_message 28 = .ok (.if_icmp .gt 12, 3) := by decide +kernel
theorem dX9_message_31 : decode cX9_message 31 = .ok (.aload_n 0, 1) := by decide +kernel
theorem dX9_message_32 : decode cX9_message 32 = .ok (.getfield 97, 3) := by decide +kernel
theorem dX9_message_35 : decode cX9_message 35 = .ok (.iload_n 3, 1) := by decide +kernel
theorem dX9_message_36 : decode cX9_message 36 = .ok (.iaload, 1) := by decide +kernel
theorem dX9_message_37 : decode cX9_message 37 = .ok (.ifCond .ne 5, 3) := by decide +kernel
theorem dX9_message_40 : decode cX9_message 40 = .ok (.iconst 0, 1) := by decide +kernel
theorem dX9_message_41 : decode cX9_message 41 = .ok (.ireturn, 1) := by decide +kernel
theorem dX9_message_42 : decode cX9_message 42 = .ok (.aload_n 0, 1) := by decide +kernel
theorem dX9_message_43 : decode cX9_message 43 = .ok (.getfield 109, 3) := by decide +kernel
theorem dX9_message_46 : decode cX9_message 46 = .ok (.iload_n 1, 1) := by decide +kernel
theorem dX9_message_47 : decode cX9_message 47 = .ok (.iaload, 1) := by decide +kernel
theorem dX9_message_48 : decode cX9_message 48 = .ok (.ifCond .lt 20, 3) := by decide +kernel
theorem dX9_message_51 : decode cX9_message 51 = .ok (.iload_n 2, 1) := by decide +kernel
theorem dX9_message_52 : decode cX9_message 52 = .ok (.aload_n 0, 1) := by decide +kernel
theorem dX9_message_53 : decode cX9_message 53 = .ok (.getfield 109, 3) := by decide +kernel
theorem dX9_message_56 : decode cX9_message 56 = .ok (.iload_n 1, 1) := by decide +kernel
theorem dX9_message_57 : decode cX9_message 57 = .ok (.iaload, 1) := by decide +kernel
theorem dX9_message_58 : decode cX9_message 58 = .ok (.iconst 1, 1) := by decide +kernel
theorem dX9_message_59 : decode cX9_message 59 = .ok (.iadd, 1) := by decide +kernel
theorem dX9_message_60 : decode cX9_message 60 = .ok (.bipush 8, 2) := by decide +kernel
theorem dX9_message_62 : decode cX9_message 62 = .ok (.irem, 1) := by decide +kernel
theorem dX9_message_63 : decode cX9_message 63 = .ok (.if_icmp .eq 5, 3) := by decide +kernel
theorem dX9_message_66 : decode cX9_message 66 = .ok (.iconst 0, 1) := by decide +kernel
theorem dX9_message_67 : decode cX9_message 67 = .ok (.ireturn, 1) := by decide +kernel
theorem dX9_message_68 : decode cX9_message 68 = .ok (.aload_n 0, 1) := by decide +kernel
theorem dX9_message_69 : decode cX9_message 69 = .ok (.getfield 115, 3) := by decide +kernel
theorem dX9_message_72 : decode cX9_message 72 = .ok (.iload_n 1, 1) := by decide +kernel
theorem dX9_message_73 : decode cX9_message 73 = .ok (.aload_n 0, 1) := by decide +kernel
theorem dX9_message_74 : decode cX9_message 74 = .ok (.getfield 106, 3) := by decide +kernel
theorem dX9_message_77 : decode cX9_message 77 = .ok (.iload_n 1, 1) := by decide +kernel
theorem dX9_message_78 : decode cX9_message 78 = .ok (.iaload, 1) := by decide +kernel
theorem dX9_message_79 : decode cX9_message 79 = .ok (.ifCond .ge 7, 3) := by decide +kernel
theorem dX9_message_82 : decode cX9_message 82 = .ok (.iconst 0, 1) := by decide +kernel
theorem dX9_message_83 : decode cX9_message 83 = .ok (.goto 16, 3) := by decide +kernel
theorem dX9_message_86 : decode cX9_message 86 = .ok (.aload_n 0, 1) := by decide +kernel
theorem dX9_message_87 : decode cX9_message 87 = .ok (.getfield 115, 3) := by decide +kernel
theorem dX9_message_90 : decode cX9_message 90 = .ok (.iload_n 1, 1) := by decide +kernel
theorem dX9_message_91 : decode cX9_message 91 = .ok (.iaload, 1) := by decide +kernel
theorem dX9_message_92 : decode cX9_message 92 = .ok (.aload_n 0, 1) := by decide +kernel
theorem dX9_message_93 : decode cX9_message 93 = .ok (.getfield 97, 3) := by decide +kernel
theorem dX9_message_96 : decode cX9_message 96 = .ok (.iload_n 3, 1) := by decide +kernel
theorem dX9_message_97 : decode cX9_message 97 = .ok (.iaload, 1) := by decide +kernel
theorem dX9_message_98 : decode cX9_message 98 = .ok (.irem, 1) := by decide +kernel
theorem dX9_message_99 : decode cX9_message 99 = .ok (.iastore, 1) := by decide +kernel
theorem dX9_message_100 : decode cX9_message 100 = .ok (.aload_n 0, 1) := by decide +kernel
theorem dX9_message_101 : decode cX9_message 101 = .ok (.getfield 106, 3) := by decide +kernel
theorem dX9_message_104 : decode cX9_message 104 = .ok (.iload_n 1, 1) := by decide +kernel
theorem dX9_message_105 : decode cX9_message 105 = .ok (.iload_n 3, 1) := by decide +kernel
theorem dX9_message_106 : decode cX9_message 106 = .ok (.iastore, 1) := by decide +kernel
theorem dX9_message_107 : decode cX9_message 107 = .ok (.aload_n 0, 1) := by decide +kernel
theorem dX9_message_108 : decode cX9_message 108 = .ok (.getfield 109, 3) := by decide +kernel
theorem dX9_message_111 : decode cX9_message 111 = .ok (.iload_n 1, 1) := by decide +kernel
theorem dX9_message_112 : decode cX9_message 112 = .ok (.iload_n 2, 1) := by decide +kernel
theorem dX9_message_113 : decode cX9_message 113 = .ok (.iastore, 1) := by decide +kernel
theorem dX9_message_114 : decode cX9_message 114 = .ok (.aload_n 0, 1) := by decide +kernel
theorem dX9_message_115 : decode cX9_message 115 = .ok (.getfield 112, 3) := by decide +kernel
theorem dX9_message_118 : decode cX9_message 118 = .ok (.iload_n 1, 1) := by decide +kernel
theorem dX9_message_119 : decode cX9_message 119 = .ok (.iconst 0, 1) := by decide +kernel
theorem dX9_message_120 : decode cX9_message 120 = .ok (.iastore, 1) := by decide +kernel
theorem dX9_message_121 : decode cX9_message 121 = .ok (.iconst 1, 1) := by decide +kernel
theorem dX9_message_122 : decode cX9_message 122 = .ok (.ireturn, 1) := by decide +kernel
theorem dX9_fault_0 : decode cX9_fault 0 = .ok (.aload_n 0, 1) := by decide +kernel
theorem dX9_fault_1 : decode cX9_fault 1 = .ok (.iconst 0, 1) := by decide +kernel
theorem dX9_fault_2 : decode cX9_fault 2 = .ok (.putfield 118, 3) := by decide +kernel
theorem dX9_fault_5 : decode cX9_fault 5 = .ok (.iload_n 1, 1) := by decide +kernel
theorem dX9_fault_6 : decode cX9_fault 6 = .ok (.iload_n 2, 1) := by decide +kernel
theorem dX9_fault_7 : decode cX9_fault 7 = .ok (.invokestatic 130, 3) := by decide +kernel
theorem dX9_fault_10 : decode cX9_fault 10 = .ok (.ifCond .eq 12, 3) := by decide +kernel
theorem dX9_fault_13 : decode cX9_fault 13 = .ok (.iload_n 3, 1) := by decide +kernel
theorem dX9_fault_14 : decode cX9_fault 14 = .ok (.ifCond .lt 8, 3) := by decide +kernel
theorem dX9_fault_17 : decode cX9_fault 17 = .ok (.iload_n 3, 1) := by decide +kernel
theorem dX9_fault_18 : decode cX9_fault 18 = .ok (.iconst 3, 1) := by decide +kernel
theorem dX9_fault_19 : decode cX9_fault 19 = .ok (.if_icmp .le 5, 3) := by decide +kernel
theorem dX9_fault_22 : decode cX9_fault 22 = .ok (.iconst 0, 1) := by decide +kernel
theorem dX9_fault_23 : decode cX9_fault 23 = .ok (.ireturn, 1) := by decide +kernel
theorem dX9_fault_24 : decode cX9_fault 24 = .ok (.aload_n 0, 1) := by decide +kernel
theorem dX9_fault_25 : decode cX9_fault 25 = .ok (.getfield 52, 3) := by decide +kernel
theorem dX9_fault_28 : decode cX9_fault 28 = .ok (.bipush 8, 2) := by decide +kernel
theorem dX9_fault_30 : decode cX9_fault 30 = .ok (.iload_n 1, 1) := by decide +kernel
theorem dX9_fault_31 : decode cX9_fault 31 = .ok (.imul, 1) := by decide +kernel
theorem dX9_fault_32 : decode cX9_fault 32 = .ok (.iload_n 2, 1) := by decide +kernel
theorem dX9_fault_33 : decode cX9_fault 33 = .ok (.iadd, 1) := by decide +kernel
theorem dX9_fault_34 : decode cX9_fault 34 = .ok (.iload_n 3, 1) := by decide +kernel
theorem dX9_fault_35 : decode cX9_fault 35 = .ok (.iastore, 1) := by decide +kernel
theorem dX9_fault_36 : decode cX9_fault 36 = .ok (.iconst 1, 1) := by decide +kernel
theorem dX9_fault_37 : decode cX9_fault 37 = .ok (.ireturn, 1) := by decide +kernel
theorem dX9_reset_0 : decode cX9_reset 0 = .ok (.aload_n 0, 1) := by decide +kernel
theorem dX9_reset_1 : decode cX9_reset 1 = .ok (.iconst 0, 1) := by decide +kernel
theorem dX9_reset_2 : decode cX9_reset 2 = .ok (.putfield 118, 3) := by decide +kernel
theorem dX9_reset_5 : decode cX9_reset 5 = .ok (.iload_n 1, 1) := by decide +kernel
theorem dX9_reset_6 : decode cX9_reset 6 = .ok (.invokestatic 122, 3) := by decide +kernel
theorem dX9_reset_9 : decode cX9_reset 9 = .ok (.ifCond .eq 12, 3) := by decide +kernel
theorem dX9_reset_12 : decode cX9_reset 12 = .ok (.aload_n 0, 1) := by decide +kernel
theorem dX9_reset_13 : decode cX9_reset 13 = .ok (.getfield 24, 3) := by decide +kernel
theorem dX9_reset_16 : decode cX9_reset 16 = .ok (.iload_n 1, 1) := by decide +kernel
theorem dX9_reset_17 : decode cX9_reset 17 = .ok (.iaload, 1) := by decide +kernel
theorem dX9_reset_18 : decode cX9_reset 18 = .ok (.ifCond .ne 5, 3) := by decide +kernel
theorem dX9_reset_21 : decode cX9_reset 21 = .ok (.iconst 0, 1) := by decide +kernel
theorem dX9_reset_22 : decode cX9_reset 22 = .ok (.ireturn, 1) := by decide +kernel
theorem dX9_reset_23 : decode cX9_reset 23 = .ok (.aload_n 0, 1) := by decide +kernel
theorem dX9_reset_24 : decode cX9_reset 24 = .ok (.iload_n 1, 1) := by decide +kernel
theorem dX9_reset_25 : decode cX9_reset 25 = .ok (.invokevirtual 148, 3) := by decide +kernel
theorem dX9_reset_28 : decode cX9_reset 28 = .ok (.iconst 1, 1) := by decide +kernel
theorem dX9_reset_29 : decode cX9_reset 29 = .ok (.ireturn, 1) := by decide +kernel
theorem dX9_tick_0 : decode cX9_tick 0 = .ok (.aload_n 0, 1) := by decide +kernel
theorem dX9_tick_1 : decode cX9_tick 1 = .ok (.iload_n 1, 1) := by decide +kernel
theorem dX9_tick_2 : decode cX9_tick 2 = .ok (.ifCond .lt 9, 3) := by decide +kernel
theorem dX9_tick_5 : decode cX9_tick 5 = .ok (.iload_n 1, 1) := by decide +kernel
theorem dX9_tick_6 : decode cX9_tick 6 = .ok (.bipush 20, 2) := by decide +kernel
theorem dX9_tick_8 : decode cX9_tick 8 = .ok (.if_icmp .le 7, 3) := by decide +kernel
theorem dX9_tick_11 : decode cX9_tick 11 = .ok (.iconst 1, 1) := by decide +kernel
theorem dX9_tick_12 : decode cX9_tick 12 = .ok (.goto 4, 3) := by decide +kernel
theorem dX9_tick_15 : decode cX9_tick 15 = .ok (.iconst 0, 1) := by decide +kernel
theorem dX9_tick_16 : decode cX9_tick 16 = .ok (.putfield 118, 3) := by decide +kernel
theorem dX9_tick_19 : decode cX9_tick 19 = .ok (.aload_n 0, 1) := by decide +kernel
theorem dX9_tick_20 : decode cX9_tick 20 = .ok (.getfield 118, 3) := by decide +kernel
theorem dX9_tick_23 : decode cX9_tick 23 = .ok (.ifCond .eq 5, 3) := by decide +kernel
theorem dX9_tick_26 : decode cX9_tick 26 = .ok (.iconst 0, 1) := by decide +kernel
theorem dX9_tick_27 : decode cX9_tick 27 = .ok (.ireturn, 1) := by decide +kernel
theorem dX9_tick_28 : decode cX9_tick 28 = .ok (.iconst 0, 1) := by decide +kernel
theorem dX9_tick_29 : decode cX9_tick 29 = .ok (.istore_n 2, 1) := by decide +kernel
theorem dX9_tick_30 : decode cX9_tick 30 = .ok (.iload_n 2, 1) := by decide +kernel
theorem dX9_tick_31 : decode cX9_tick 31 = .ok (.iload_n 1, 1) := by decide +kernel
theorem dX9_tick_32 : decode cX9_tick 32 = .ok (.if_icmp .ge 29, 3) := by decide +kernel
theorem dX9_tick_35 : decode cX9_tick 35 = .ok (.aload_n 0, 1) := by decide +kernel
theorem dX9_tick_36 : decode cX9_tick 36 = .ok (.iconst 0, 1) := by decide +kernel
theorem dX9_tick_37 : decode cX9_tick 37 = .ok (.invokevirtual 259, 3) := by decide +kernel
theorem dX9_tick_40 : decode cX9_tick 40 = .ok (.aload_n 0, 1) := by decide +kernel
theorem dX9_tick_41 : decode cX9_tick 41 = .ok (.iconst 1, 1) := by decide +kernel
theorem dX9_tick_42 : decode cX9_tick 42 = .ok (.invokevirtual 259, 3) := by decide +kernel
theorem dX9_tick_45 : decode cX9_tick 45 = .ok (.aload_n 0, 1) := by decide +kernel
theorem dX9_tick_46 : decode cX9_tick 46 = .ok (.dup, 1) := by decide +kernel
theorem dX9_tick_47 : decode cX9_tick 47 = .ok (.getfield 172, 3) := by decide +kernel
theorem dX9_tick_50 : decode cX9_tick 50 = .ok (.iconst 1, 1) := by decide +kernel
theorem dX9_tick_51 : decode cX9_tick 51 = .ok (.iadd, 1) := by decide +kernel
theorem dX9_tick_52 : decode cX9_tick 52 = .ok (.putfield 172, 3) := by decide +kernel
theorem dX9_tick_55 : decode cX9_tick 55 = .ok (.iinc 2 1, 3) := by decide +kernel
theorem dX9_tick_58 : decode cX9_tick 58 = .ok (.goto (-28), 3) := by decide +kernel
theorem dX9_tick_61 : decode cX9_tick 61 = .ok (.aload_n 0, 1) := by decide +kernel
theorem dX9_tick_62 : decode cX9_tick 62 = .ok (.getfield 172, 3) := by decide +kernel
theorem dX9_tick_65 : decode cX9_tick 65 = .ok (.ireturn, 1) := by decide +kernel
theorem dX9_lamp_0 : decode cX9_lamp 0 = .ok (.aload_n 0, 1) := by decide +kernel
theorem dX9_lamp_1 : decode cX9_lamp 1 = .ok (.iconst 0, 1) := by decide +kernel
theorem dX9_lamp_2 : decode cX9_lamp 2 = .ok (.putfield 118, 3) := by decide +kernel
theorem dX9_lamp_5 : decode cX9_lamp 5 = .ok (.iload_n 1, 1) := by decide +kernel
theorem dX9_lamp_6 : decode cX9_lamp 6 = .ok (.iload_n 2, 1) := by decide +kernel
theorem dX9_lamp_7 : decode cX9_lamp 7 = .ok (.invokestatic 130, 3) := by decide +kernel
theorem dX9_lamp_10 : decode cX9_lamp 10 = .ok (.ifCond .ne 5, 3) := by decide +kernel
theorem dX9_lamp_13 : decode cX9_lamp 13 = .ok (.iconst (-1), 1) := by decide +kernel
theorem dX9_lamp_14 : decode cX9_lamp 14 = .ok (.ireturn, 1) := by decide +kernel
theorem dX9_lamp_15 : decode cX9_lamp 15 = .ok (.aload_n 0, 1) := by decide +kernel
theorem dX9_lamp_16 : decode cX9_lamp 16 = .ok (.getfield 20, 3) := by decide +kernel
theorem dX9_lamp_19 : decode cX9_lamp 19 = .ok (.iload_n 1, 1) := by decide +kernel
theorem dX9_lamp_20 : decode cX9_lamp 20 = .ok (.baload, 1) := by decide +kernel
theorem dX9_lamp_21 : decode cX9_lamp 21 = .ok (.ifCond .ne 17, 3) := by decide +kernel
theorem dX9_lamp_24 : decode cX9_lamp 24 = .ok (.aload_n 0, 1) := by decide +kernel
theorem dX9_lamp_25 : decode cX9_lamp 25 = .ok (.getfield 33, 3) := by decide +kernel
theorem dX9_lamp_28 : decode cX9_lamp 28 = .ok (.bipush 8, 2) := by decide +kernel
theorem dX9_lamp_30 : decode cX9_lamp 30 = .ok (.iload_n 1, 1) := by decide +kernel
theorem dX9_lamp_31 : decode cX9_lamp 31 = .ok (.imul, 1) := by decide +kernel
theorem dX9_lamp_32 : decode cX9_lamp 32 = .ok (.iload_n 2, 1) := by decide +kernel
theorem dX9_lamp_33 : decode cX9_lamp 33 = .ok (.iadd, 1) := by decide +kernel
theorem dX9_lamp_34 : decode cX9_lamp 34 = .ok (.baload, 1) := by decide +kernel
theorem dX9_lamp_35 : decode cX9_lamp 35 = .ok (.ifCond .ne 5, 3) := by decide +kernel
theorem dX9_lamp_38 : decode cX9_lamp 38 = .ok (.iconst 0, 1) := by decide +kernel
theorem dX9_lamp_39 : decode cX9_lamp 39 = .ok (.ireturn, 1) := by decide +kernel
theorem dX9_lamp_40 : decode cX9_lamp 40 = .ok (.aload_n 0, 1) := by decide +kernel
theorem dX9_lamp_41 : decode cX9_lamp 41 = .ok (.getfield 24, 3) := by decide +kernel
theorem dX9_lamp_44 : decode cX9_lamp 44 = .ok (.iload_n 1, 1) := by decide +kernel
theorem dX9_lamp_45 : decode cX9_lamp 45 = .ok (.iaload, 1) := by decide +kernel
theorem dX9_lamp_46 : decode cX9_lamp 46 = .ok (.ifCond .eq 8, 3) := by decide +kernel
theorem dX9_lamp_49 : decode cX9_lamp 49 = .ok (.bipush 8, 2) := by decide +kernel
theorem dX9_lamp_51 : decode cX9_lamp 51 = .ok (.goto 9, 3) := by decide +kernel
theorem dX9_lamp_54 : decode cX9_lamp 54 = .ok (.aload_n 0, 1) := by decide +kernel
theorem dX9_lamp_55 : decode cX9_lamp 55 = .ok (.iload_n 1, 1) := by decide +kernel
theorem dX9_lamp_56 : decode cX9_lamp 56 = .ok (.iload_n 2, 1) := by decide +kernel
theorem dX9_lamp_57 : decode cX9_lamp 57 = .ok (.invokevirtual 219, 3) := by decide +kernel
theorem dX9_lamp_60 : decode cX9_lamp 60 = .ok (.ireturn, 1) := by decide +kernel
theorem dX9_signs_0 : decode cX9_signs 0 = .ok (.aload_n 0, 1) := by decide +kernel
theorem dX9_signs_1 : decode cX9_signs 1 = .ok (.iconst 0, 1) := by decide +kernel
theorem dX9_signs_2 : decode cX9_signs 2 = .ok (.putfield 118, 3) := by decide +kernel
theorem dX9_signs_5 : decode cX9_signs 5 = .ok (.iload_n 1, 1) := by decide +kernel
theorem dX9_signs_6 : decode cX9_signs 6 = .ok (.iload_n 2, 1) := by decide +kernel
theorem dX9_signs_7 : decode cX9_signs 7 = .ok (.invokestatic 130, 3) := by decide +kernel
theorem dX9_signs_10 : decode cX9_signs 10 = .ok (.ifCond .ne 5, 3) := by decide +kernel
theorem dX9_signs_13 : decode cX9_signs 13 = .ok (.iconst (-1), 1) := by decide +kernel
theorem dX9_signs_14 : decode cX9_signs 14 = .ok (.ireturn, 1) := by decide +kernel
theorem dX9_signs_15 : decode cX9_signs 15 = .ok (.bipush 8, 2) := by decide +kernel
theorem dX9_signs_17 : decode cX9_signs 17 = .ok (.iload_n 1, 1) := by decide +kernel
theorem dX9_signs_18 : decode cX9_signs 18 = .ok (.imul, 1) := by decide +kernel
theorem dX9_signs_19 : decode cX9_signs 19 = .ok (.iload_n 2, 1) := by decide +kernel
theorem dX9_signs_20 : decode cX9_signs 20 = .ok (.iadd, 1) := by decide +kernel
theorem dX9_signs_21 : decode cX9_signs 21 = .ok (.istore_n 3, 1) := by decide +kernel
theorem dX9_signs_22 : decode cX9_signs 22 = .ok (.aload_n 0, 1) := by decide +kernel
theorem dX9_signs_23 : decode cX9_signs 23 = .ok (.getfield 36, 3) := by decide +kernel
theorem dX9_signs_26 : decode cX9_signs 26 = .ok (.iload_n 3, 1) := by decide +kernel
theorem dX9_signs_27 : decode cX9_signs 27 = .ok (.baload, 1) := by decide +kernel
theorem dX9_signs_28 : decode cX9_signs 28 = .ok (.ifCond .eq 7, 3) := by decide +kernel
theorem dX9_signs_31 : decode cX9_signs 31 = .ok (.iconst 1, 1) := by decide +kernel
theorem dX9_signs_32 : decode cX9_signs 32 = .ok (.goto 4, 3) := by decide +kernel
theorem dX9_signs_35 : decode cX9_signs 35 = .ok (.iconst 0, 1) := by decide +kernel
theorem dX9_signs_36 : decode cX9_signs 36 = .ok (.aload_n 0, 1) := by decide +kernel
theorem dX9_signs_37 : decode cX9_signs 37 = .ok (.getfield 39, 3) := by decide +kernel
theorem dX9_signs_40 : decode cX9_signs 40 = .ok (.iload_n 3, 1) := by decide +kernel
theorem dX9_signs_41 : decode cX9_signs 41 = .ok (.baload, 1) := by decide +kernel
theorem dX9_signs_42 : decode cX9_signs 42 = .ok (.ifCond .eq 7, 3) := by decide +kernel
theorem dX9_signs_45 : decode cX9_signs 45 = .ok (.iconst 2, 1) := by decide +kernel
theorem dX9_signs_46 : decode cX9_signs 46 = .ok (.goto 4, 3) := by decide +kernel
theorem dX9_signs_49 : decode cX9_signs 49 = .ok (.iconst 0, 1) := by decide +kernel
theorem dX9_signs_50 : decode cX9_signs 50 = .ok (.iadd, 1) := by decide +kernel
theorem dX9_signs_51 : decode cX9_signs 51 = .ok (.aload_n 0, 1) := by decide +kernel
theorem dX9_signs_52 : decode cX9_signs 52 = .ok (.iload_n 1, 1) := by decide +kernel
theorem dX9_signs_53 : decode cX9_signs 53 = .ok (.iload_n 2, 1) := by decide +kernel
theorem dX9_signs_54 : decode cX9_signs 54 = .ok (.invokevirtual 175, 3) := by decide +kernel
theorem dX9_signs_57 : decode cX9_signs 57 = .ok (.ifCond .eq 8, 3) := by decide +kernel
theorem dX9_signs_60 : decode cX9_signs 60 = .ok (.bipush 16, 2) := by decide +kernel
theorem dX9_signs_62 : decode cX9_signs 62 = .ok (.goto 4, 3) := by decide +kernel
theorem dX9_signs_65 : decode cX9_signs 65 = .ok (.iconst 0, 1) := by decide +kernel
theorem dX9_signs_66 : decode cX9_signs 66 = .ok (.iadd, 1) := by decide +kernel
theorem dX9_signs_67 : decode cX9_signs 67 = .ok (.istore 4, 2) := by decide +kernel
theorem dX9_signs_69 : decode cX9_signs 69 = .ok (.aload_n 0, 1) := by decide +kernel
theorem dX9_signs_70 : decode cX9_signs 70 = .ok (.iload_n 1, 1) := by decide +kernel
theorem dX9_signs_71 : decode cX9_signs 71 = .ok (.iload_n 2, 1) := by decide +kernel
theorem dX9_signs_72 : decode cX9_signs 72 = .ok (.invokevirtual 155, 3) := by decide +kernel
theorem dX9_signs_75 : decode cX9_signs 75 = .ok (.ifCond .eq 16, 3) := by decide +kernel
theorem dX9_signs_78 : decode cX9_signs 78 = .ok (.aload_n 0, 1) := by decide +kernel
theorem dX9_signs_79 : decode cX9_signs 79 = .ok (.getfield 85, 3) := by decide +kernel
theorem dX9_signs_82 : decode cX9_signs 82 = .ok (.iload_n 1, 1) := by decide +kernel
theorem dX9_signs_83 : decode cX9_signs 83 = .ok (.iload_n 2, 1) := by decide +kernel
theorem dX9_signs_84 : decode cX9_signs 84 = .ok (.invokestatic 126, 3) := by decide +kernel
theorem dX9_signs_87 : decode cX9_signs 87 = .ok (.iaload, 1) := by decide +kernel
theorem dX9_signs_88 : decode cX9_signs 88 = .ok (.goto 4, 3) := by decide +kernel
theorem dX9_signs_91 : decode cX9_signs 91 = .ok (.iconst 0, 1) := by decide +kernel
theorem dX9_signs_92 : decode cX9_signs 92 = .ok (.istore 5, 2) := by decide +kernel
theorem dX9_signs_94 : decode cX9_signs 94 = .ok (.iload 5, 2) := by decide +kernel
theorem dX9_signs_96 : decode cX9_signs 96 = .ok (.iconst 1, 1) := by decide +kernel
theorem dX9_signs_97 : decode cX9_signs 97 = .ok (.if_icmp .ne 10, 3) := by decide +kernel
theorem dX9_signs_100 : decode cX9_signs 100 = .ok (.iload 4, 2) := by decide +kernel
theorem dX9_signs_102 : decode cX9_signs 102 = .ok (.iconst 4, 1) := by decide +kernel
theorem dX9_signs_103 : decode cX9_signs 103 = .ok (.iadd, 1) := by decide +kernel
theorem dX9_signs_104 : decode cX9_signs 104 = .ok (.goto 19, 3) := by decide +kernel
theorem dX9_signs_107 : decode cX9_signs 107 = .ok (.iload 5, 2) := by decide +kernel
theorem dX9_signs_109 : decode cX9_signs 109 = .ok (.iconst 2, 1) := by decide +kernel
theorem dX9_signs_110 : decode cX9_signs 110 = .ok (.if_icmp .ne 11, 3) := by decide +kernel
theorem dX9_signs_113 : decode cX9_signs 113 = .ok (.iload 4, 2) := by decide +kernel
theorem dX9_signs_115 : decode cX9_signs 115 = .ok (.bipush 8, 2) := by decide +kernel
theorem dX9_signs_117 : decode cX9_signs 117 = .ok (.iadd, 1) := by decide +kernel
theorem dX9_signs_118 : decode cX9_signs 118 = .ok (.goto 5, 3) := by decide +kernel
theorem dX9_signs_121 : decode cX9_signs 121 = .ok (.iload 4, 2) := by decide +kernel
theorem dX9_signs_123 : decode cX9_signs 123 = .ok (.ireturn, 1) := by decide +kernel
theorem dX9_crossing_0 : decode cX9_crossing 0 = .ok (.aload_n 0, 1) := by decide +kernel
theorem dX9_crossing_1 : decode cX9_crossing 1 = .ok (.iconst 0, 1) := by decide +kernel
theorem dX9_crossing_2 : decode cX9_crossing 2 = .ok (.putfield 118, 3) := by decide +kernel
theorem dX9_crossing_5 : decode cX9_crossing 5 = .ok (.iload_n 1, 1) := by decide +kernel
theorem dX9_crossing_6 : decode cX9_crossing 6 = .ok (.invokestatic 122, 3) := by decide +kernel
theorem dX9_crossing_9 : decode cX9_crossing 9 = .ok (.ifCond .ne 5, 3) := by decide +kernel
theorem dX9_crossing_12 : decode cX9_crossing 12 = .ok (.iconst (-1), 1) := by decide +kernel
theorem dX9_crossing_13 : decode cX9_crossing 13 = .ok (.ireturn, 1) := by decide +kernel
theorem dX9_crossing_14 : decode cX9_crossing 14 = .ok (.iload_n 2, 1) := by decide +kernel
theorem dX9_crossing_15 : decode cX9_crossing 15 = .ok (.tableswitch 155 0 6 #[41, 48, 101, 108, 115, 135, 144], 41) := by decide +kernel
theorem dX9_crossing_56 : decode cX9_crossing 56 = .ok (.aload_n 0, 1) := by decide +kernel
theorem dX9_crossing_57 : decode cX9_crossing 57 = .ok (.getfield 27, 3) := by decide +kernel
theorem dX9_crossing_60 : decode cX9_crossing 60 = .ok (.iload_n 1, 1) := by decide +kernel
theorem dX9_crossing_61 : decode cX9_crossing 61 = .ok (.iaload, 1) := by decide +kernel
theorem dX9_crossing_62 : decode cX9_crossing 62 = .ok (.ireturn, 1) := by decide +kernel
theorem dX9_crossing_63 : decode cX9_crossing 63 = .ok (.aload_n 0, 1) := by decide +kernel
theorem dX9_crossing_64 : decode cX9_crossing 64 = .ok (.getfield 20, 3) := by decide +kernel
theorem dX9_crossing_67 : decode cX9_crossing 67 = .ok (.iload_n 1, 1) := by decide +kernel
theorem dX9_crossing_68 : decode cX9_crossing 68 = .ok (.baload, 1) := by decide +kernel
theorem dX9_crossing_69 : decode cX9_crossing 69 = .ok (.ifCond .eq 7, 3) := by decide +kernel
theorem dX9_crossing_72 : decode cX9_crossing 72 = .ok (.iconst 0, 1) := by decide +kernel
theorem dX9_crossing_73 : decode cX9_crossing 73 = .ok (.goto 42, 3) := by decide +kernel
theorem dX9_crossing_76 : decode cX9_crossing 76 = .ok (.aload_n 0, 1) := by decide +kernel
theorem dX9_crossing_77 : decode cX9_crossing 77 = .ok (.getfield 24, 3) := by decide +kernel
theorem dX9_crossing_80 : decode cX9_crossing 80 = .ok (.iload_n 1, 1) := by decide +kernel
theorem dX9_crossing_81 : decode cX9_crossing 81 = .ok (.iaload, 1) := by decide +kernel
theorem dX9_crossing_82 : decode cX9_crossing 82 = .ok (.ifCond .eq 7, 3) := by decide +kernel
theorem dX9_crossing_85 : decode cX9_crossing 85 = .ok (.iconst 4, 1) := by decide +kernel
theorem dX9_crossing_86 : decode cX9_crossing 86 = .ok (.goto 29, 3) := by decide +kernel
theorem dX9_crossing_89 : decode cX9_crossing 89 = .ok (.aload_n 0, 1) := by decide +kernel
theorem dX9_crossing_90 : decode cX9_crossing 90 = .ok (.iload_n 1, 1) := by decide +kernel
theorem dX9_crossing_91 : decode cX9_crossing 91 = .ok (.invokevirtual 240, 3) := by decide +kernel
theorem dX9_crossing_94 : decode cX9_crossing 94 = .ok (.ifCond .lt 7, 3) := by decide +kernel
theorem dX9_crossing_97 : decode cX9_crossing 97 = .ok (.iconst 3, 1) := by decide +kernel
theorem dX9_crossing_98 : decode cX9_crossing 98 = .ok (.goto 17, 3) := by decide +kernel
theorem dX9_crossing_101 : decode cX9_crossing 101 = .ok (.aload_n 0, 1) := by decide +kernel
theorem dX9_crossing_102 : decode cX9_crossing 102 = .ok (.getfield 106, 3) := by decide +kernel
theorem dX9_crossing_105 : decode cX9_crossing 105 = .ok (.iload_n 1, 1) := by decide +kernel
theorem dX9_crossing_106 : decode cX9_crossing 106 = .ok (.iaload, 1) := by decide +kernel
theorem dX9_crossing_107 : decode cX9_crossing 107 = .ok (.ifCond .lt 7, 3) := by decide +kernel
theorem dX9_crossing_110 : decode cX9_crossing 110 = .ok (.iconst 2, 1) := by decide +kernel
theorem dX9_crossing_111 : decode cX9_crossing 111 = .ok (.goto 4, 3) := by decide +kernel
theorem dX9_crossing_114 : decode cX9_crossing 114 = .ok (.iconst 1, 1) := by decide +kernel
theorem dX9_crossing_115 : decode cX9_crossing 115 = .ok (.ireturn, 1) := by decide +kernel
theorem dX9_crossing_116 : decode cX9_crossing 116 = .ok (.aload_n 0, 1) := by decide +kernel
theorem dX9_crossing_117 : decode cX9_crossing 117 = .ok (.getfield 24, 3) := by decide +kernel
theorem dX9_crossing_120 : decode cX9_crossing 120 = .ok (.iload_n 1, 1) := by decide +kernel
theorem dX9_crossing_121 : decode cX9_crossing 121 = .ok (.iaload, 1) := by decide +kernel
theorem dX9_crossing_122 : decode cX9_crossing 122 = .ok (.ireturn, 1) := by decide +kernel
theorem dX9_crossing_123 : decode cX9_crossing 123 = .ok (.aload_n 0, 1) := by decide +kernel
theorem dX9_crossing_124 : decode cX9_crossing 124 = .ok (.getfield 106, 3) := by decide +kernel
theorem dX9_crossing_127 : decode cX9_crossing 127 = .ok (.iload_n 1, 1) := by decide +kernel
theorem dX9_crossing_128 : decode cX9_crossing 128 = .ok (.iaload, 1) := by decide +kernel
theorem dX9_crossing_129 : decode cX9_crossing 129 = .ok (.ireturn, 1) := by decide +kernel
theorem dX9_crossing_130 : decode cX9_crossing 130 = .ok (.aload_n 0, 1) := by decide +kernel
theorem dX9_crossing_131 : decode cX9_crossing 131 = .ok (.getfield 106, 3) := by decide +kernel
theorem dX9_crossing_134 : decode cX9_crossing 134 = .ok (.iload_n 1, 1) := by decide +kernel
theorem dX9_crossing_135 : decode cX9_crossing 135 = .ok (.iaload, 1) := by decide +kernel
theorem dX9_crossing_136 : decode cX9_crossing 136 = .ok (.ifCond .ge 7, 3) := by decide +kernel
theorem dX9_crossing_139 : decode cX9_crossing 139 = .ok (.iconst (-1), 1) := by decide +kernel
theorem dX9_crossing_140 : decode cX9_crossing 140 = .ok (.goto 9, 3) := by decide +kernel
theorem dX9_crossing_143 : decode cX9_crossing 143 = .ok (.aload_n 0, 1) := by decide +kernel
theorem dX9_crossing_144 : decode cX9_crossing 144 = .ok (.getfield 115, 3) := by decide +kernel
theorem dX9_crossing_147 : decode cX9_crossing 147 = .ok (.iload_n 1, 1) := by decide +kernel
theorem dX9_crossing_148 : decode cX9_crossing 148 = .ok (.iaload, 1) := by decide +kernel
theorem dX9_crossing_149 : decode cX9_crossing 149 = .ok (.ireturn, 1) := by decide +kernel
theorem dX9_crossing_150 : decode cX9_crossing 150 = .ok (.aload_n 0, 1) := by decide +kernel
theorem dX9_crossing_151 : decode cX9_crossing 151 = .ok (.getfield 70, 3) := by decide +kernel
theorem dX9_crossing_154 : decode cX9_crossing 154 = .ok (.iconst 2, 1) := by decide +kernel
theorem dX9_crossing_155 : decode cX9_crossing 155 = .ok (.iload_n 1, 1) := by decide +kernel
theorem dX9_crossing_156 : decode cX9_crossing 156 = .ok (.imul, 1) := by decide +kernel
theorem dX9_crossing_157 : decode cX9_crossing 157 = .ok (.iaload, 1) := by decide +kernel
theorem dX9_crossing_158 : decode cX9_crossing 158 = .ok (.ireturn, 1) := by decide +kernel
theorem dX9_crossing_159 : decode cX9_crossing 159 = .ok (.aload_n 0, 1) := by decide +kernel
theorem dX9_crossing_160 : decode cX9_crossing 160 = .ok (.getfield 70, 3) := by decide +kernel
theorem dX9_crossing_163 : decode cX9_crossing 163 = .ok (.iconst 2, 1) := by decide +kernel
theorem dX9_crossing_164 : decode cX9_crossing 164 = .ok (.iload_n 1, 1) := by decide +kernel
theorem dX9_crossing_165 : decode cX9_crossing 165 = .ok (.imul, 1) := by decide +kernel
theorem dX9_crossing_166 : decode cX9_crossing 166 = .ok (.iconst 1, 1) := by decide +kernel
theorem dX9_crossing_167 : decode cX9_crossing 167 = .ok (.iadd, 1) := by decide +kernel
theorem dX9_crossing_168 : decode cX9_crossing 168 = .ok (.iaload, 1) := by decide +kernel
theorem dX9_crossing_169 : decode cX9_crossing 169 = .ok (.ireturn, 1) := by decide +kernel
theorem dX9_crossing_170 : decode cX9_crossing 170 = .ok (.iconst (-1), 1) := by decide +kernel
theorem dX9_crossing_171 : decode cX9_crossing 171 = .ok (.ireturn, 1) := by decide +kernel
theorem dX9_occupancy_0 : decode cX9_occupancy 0 = .ok (.aload_n 0, 1) := by decide +kernel
theorem dX9_occupancy_1 : decode cX9_occupancy 1 = .ok (.iconst 0, 1) := by decide +kernel
theorem dX9_occupancy_2 : decode cX9_occupancy 2 = .ok (.putfield 118, 3) := by decide +kernel
theorem dX9_occupancy_5 : decode cX9_occupancy 5 = .ok (.iload_n 1, 1) := by decide +kernel
theorem dX9_occupancy_6 : decode cX9_occupancy 6 = .ok (.iload_n 2, 1) := by decide +kernel
theorem dX9_occupancy_7 : decode cX9_occupancy 7 = .ok (.invokestatic 130, 3) := by decide +kernel
theorem dX9_occupancy_10 : decode cX9_occupancy 10 = .ok (.ifCond .eq 17, 3) := by decide +kernel
theorem dX9_occupancy_13 : decode cX9_occupancy 13 = .ok (.aload_n 0, 1) := by decide +kernel
theorem dX9_occupancy_14 : decode cX9_occupancy 14 = .ok (.getfield 48, 3) := by decide +kernel
theorem dX9_occupancy_17 : decode cX9_occupancy 17 = .ok (.bipush 8, 2) := by decide +kernel
theorem dX9_occupancy_19 : decode cX9_occupancy 19 = .ok (.iload_n 1, 1) := by decide +kernel
theorem dX9_occupancy_20 : decode cX9_occupancy 20 = .ok (.imul, 1) := by decide +kernel
theorem dX9_occupancy_21 : decode cX9_occupancy 21 = .ok (.iload_n 2, 1) := by decide +kernel
theorem dX9_occupancy_22 : decode cX9_occupancy 22 = .ok (.iadd, 1) := by decide +kernel
theorem dX9_occupancy_23 : decode cX9_occupancy 23 = .ok (.faload, 1) := by decide +kernel
theorem dX9_occupancy_24 : decode cX9_occupancy 24 = .ok (.goto 4, 3) := by decide +kernel
theorem dX9_occupancy_27 : decode cX9_occupancy 27 = .ok (.fconst 0, 1) := by decide +kernel
theorem dX9_occupancy_28 : decode cX9_occupancy 28 = .ok (.freturn, 1) := by decide +kernel
