theorem dX4_init_0 : decode cX4_init 0 = .ok (.aload_n 0, 1) := by decide +kernel
theorem dX4_init_1 : decode cX4_init 1 = .ok (.invokespecial 1, 3) := by decide +kernel
theorem dX4_init_4 : decode cX4_init 4 = .ok (.aload_n 0, 1) := by decide +kernel
theorem dX4_init_5 : decode cX4_init 5 = .ok (.iconst 0, 1) := by decide +kernel
theorem dX4_init_6 : decode cX4_init 6 = .ok (.putfield 7, 3) := by decide +kernel
theorem dX4_init_9 : decode cX4_init 9 = .ok (.aload_n 0, 1) := by decide +kernel
theorem dX4_init_10 : decode cX4_init 10 = .ok (.bipush 64, 2) := by decide +kernel
theorem dX4_init_12 : decode cX4_init 12 = .ok (.newarray .int, 2) := by decide +kernel
theorem dX4_init_14 : decode cX4_init 14 = .ok (.putfield 13, 3) := by decide +kernel
theorem dX4_init_17 : decode cX4_init 17 = .ok (.aload_n 0, 1) := by decide +kernel
theorem dX4_init_18 : decode cX4_init 18 = .ok (.bipush 64, 2) := by decide +kernel
theorem dX4_init_20 : decode cX4_init 20 = .ok (.newarray .int, 2) := by decide +kernel
theorem dX4_init_22 : decode cX4_init 22 = .ok (.putfield 17, 3) := by decide +kernel
theorem dX4_init_25 : decode cX4_init 25 = .ok (.aload_n 0, 1) := by decide +kernel
theorem dX4_init_26 : decode cX4_init 26 = .ok (.bipush 64, 2) := by decide +kernel
theorem dX4_init_28 : decode cX4_init 28 = .ok (.newarray .int, 2) := by decide +kernel
theorem dX4_init_30 : decode cX4_init 30 = .ok (.putfield 20, 3) := by decide +kernel
theorem dX4_init_33 : decode cX4_init 33 = .ok (.aload_n 0, 1) := by decide +kernel
theorem dX4_init_34 : decode cX4_init 34 = .ok (.bipush 64, 2) := by decide +kernel
theorem dX4_init_36 : decode cX4_init 36 = .ok (.newarray .boolean, 2) := by decide +kernel
theorem dX4_init_38 : decode cX4_init 38 = .ok (.putfield 23, 3) := by decide +kernel
theorem dX4_init_41 : decode cX4_init 41 = .ok (.aload_n 0, 1) := by decide +kernel
theorem dX4_init_42 : decode cX4_init 42 = .ok (.bipush 64, 2) := by decide +kernel
theorem dX4_init_44 : decode cX4_init 44 = .ok (.newarray .int, 2) := by decide +kernel
theorem dX4_init_46 : decode cX4_init 46 = .ok (.putfield 27, 3) := by decide +kernel
theorem dX4_init_49 : decode cX4_init 49 = .ok (.aload_n 0, 1) := by decide +kernel
theorem dX4_init_50 : decode cX4_init 50 = .ok (.bipush 64, 2) := by decide +kernel
theorem dX4_init_52 : decode cX4_init 52 = .ok (.newarray .int, 2) := by decide +kernel
theorem dX4_init_54 : decode cX4_init 54 = .ok (.putfield 30, 3) := by decide +kernel
theorem dX4_init_57 : decode cX4_init 57 = .ok (.aload_n 0, 1) := by decide +kernel
theorem dX4_init_58 : decode cX4_init 58 = .ok (.bipush 64, 2) := by decide +kernel
theorem dX4_init_60 : decode cX4_init 60 = .ok (.newarray .int, 2) := by decide +kernel
theorem dX4_init_62 : decode cX4_init 62 = .ok (.putfield 33, 3) := by decide +kernel
theorem dX4_init_65 : decode cX4_init 65 = .ok (.aload_n 0, 1) := by decide +kernel
theorem dX4_init_66 : decode cX4_init 66 = .ok (.bipush 64, 2) := by decide +kernel
theorem dX4_init_68 : decode cX4_init 68 = .ok (.newarray .int, 2) := by decide +kernel
theorem dX4_init_70 : decode cX4_init 70 = .ok (.putfield 36, 3) := by decide +kernel
theorem dX4_init_73 : decode cX4_init 73 = .ok (.aload_n 0, 1) := by decide +kernel
theorem dX4_init_74 : decode cX4_init 74 = .ok (.bipush 16, 2) := by decide +kernel
theorem dX4_init_76 : decode cX4_init 76 = .ok (.newarray .int, 2) := by decide +kernel
theorem dX4_init_78 : decode cX4_init 78 = .ok (.putfield 39, 3) := by decide +kernel
theorem dX4_init_81 : decode cX4_init 81 = .ok (.aload_n 0, 1) := by decide +kernel
theorem dX4_init_82 : decode cX4_init 82 = .ok (.iconst 1, 1) := by decide +kernel
theorem dX4_init_83 : decode cX4_init 83 = .ok (.putfield 42, 3) := by decide +kernel
theorem dX4_init_86 : decode cX4_init 86 = .ok (.aload_n 0, 1) := by decide +kernel
theorem dX4_init_87 : decode cX4_init 87 = .ok (.iconst 0, 1) := by decide +kernel
theorem dX4_init_88 : decode cX4_init 88 = .ok (.putfield 45, 3) := by decide +kernel
theorem dX4_init_91 : decode cX4_init 91 = .ok (.aload_n 0, 1) := by decide +kernel
theorem dX4_init_92 : decode cX4_init 92 = .ok (.iconst 1, 1) := by decide +kernel
theorem dX4_init_93 : decode cX4_init 93 = .ok (.putfield 48, 3) := by decide +kernel
theorem dX4_init_96 : decode cX4_init 96 = .ok (.aload_n 0, 1) := by decide +kernel
theorem dX4_init_97 : decode cX4_init 97 = .ok (.iconst 4, 1) := by decide +kernel
theorem dX4_init_98 : decode cX4_init 98 = .ok (.newarray .int, 2) := by decide +kernel
theorem dX4_init_100 : decode cX4_init 100 = .ok (.putfield 51, 3) := by decide +kernel
theorem dX4_init_103 : decode cX4_init 103 = .ok (.aload_n 0, 1) := by decide +kernel
theorem dX4_init_104 : decode cX4_init 104 = .ok (.iconst 4, 1) := by decide +kernel
theorem dX4_init_105 : decode cX4_init 105 = .ok (.newarray .int, 2) := by decide +kernel
theorem dX4_init_107 : decode cX4_init 107 = .ok (.putfield 54, 3) := by decide +kernel
theorem dX4_init_110 : decode cX4_init 110 = .ok (.aload_n 0, 1) := by decide +kernel
theorem dX4_init_111 : decode cX4_init 111 = .ok (.iconst 4, 1) := by decide +kernel
theorem dX4_init_112 : decode cX4_init 112 = .ok (.newarray .int, 2) := by decide +kernel
theorem dX4_init_114 : decode cX4_init 114 = .ok (.putfield 57, 3) := by decide +kernel
theorem dX4_init_117 : decode cX4_init 117 = .ok (.aload_n 0, 1) := by decide +kernel
theorem dX4_init_118 : decode cX4_init 118 = .ok (.iconst 4, 1) := by decide +kernel
theorem dX4_init_119 : decode cX4_init 119 = .ok (.newarray .int, 2) := by decide +kernel
theorem dX4_init_121 : decode cX4_init 121 = .ok (.putfield 60, 3) := by decide +kernel
theorem dX4_init_124 : decode cX4_init 124 = .ok (.aload_n 0, 1) := by decide +kernel
theorem dX4_init_125 : decode cX4_init 125 = .ok (.iconst 4, 1) := by decide +kernel
theorem dX4_init_126 : decode cX4_init 126 = .ok (.newarray .int, 2) := by decide +kernel
theorem dX4_init_128 : decode cX4_init 128 = .ok (.putfield 63, 3) := by decide +kernel
theorem dX4_init_131 : decode cX4_init 131 = .ok (.aload_n 0, 1) := by decide +kernel
theorem dX4_init_132 : decode cX4_init 132 = .ok (.iconst 4, 1) := by decide +kernel
theorem dX4_init_133 : decode cX4_init 133 = .ok (.newarray .int, 2) := by decide +kernel
theorem dX4_init_135 : decode cX4_init 135 = .ok (.putfield 66, 3) := by decide +kernel
theorem dX4_init_138 : decode cX4_init 138 = .ok (.aload_n 0, 1) := by decide +kernel
theorem dX4_init_139 : decode cX4_init 139 = .ok (.iconst 4, 1) := by decide +kernel
theorem dX4_init_140 : decode cX4_init 140 = .ok (.newarray .int, 2) := by decide +kernel
theorem dX4_init_142 : decode cX4_init 142 = .ok (.putfield 69, 3) := by decide +kernel
theorem dX4_init_145 : decode cX4_init 145 = .ok (.aload_n 0, 1) := by decide +kernel
theorem dX4_init_146 : decode cX4_init 146 = .ok (.bipush 64, 2) := by decide +kernel
theorem dX4_init_148 : decode cX4_init 148 = .ok (.newarray .int, 2) := by decide +kernel
theorem dX4_init_150 : decode cX4_init 150 = .ok (.putfield 72, 3) := by decide +kernel
theorem dX4_init_153 : decode cX4_init 153 = .ok (.aload_n 0, 1) := by decide +kernel
theorem dX4_init_154 : decode cX4_init 154 = .ok (.iconst 4, 1) := by decide +kernel
theorem dX4_init_155 : decode cX4_init 155 = .ok (.newarray .int, 2) := by decide +kernel
theorem dX4_init_157 : decode cX4_init 157 = .ok (.putfield 75, 3) := by decide +kernel
theorem dX4_init_160 : decode cX4_init 160 = .ok (.aload_n 0, 1) := by decide +kernel
theorem dX4_init_161 : decode cX4_init 161 = .ok (.iconst 4, 1) := by decide +kernel
theorem dX4_init_162 : decode cX4_init 162 = .ok (.newarray .int, 2) := by decide +kernel
theorem dX4_init_164 : decode cX4_init 164 = .ok (.putfield 78, 3) := by decide +kernel
theorem dX4_init_167 : decode cX4_init 167 = .ok (.aload_n 0, 1) := by decide +kernel
theorem dX4_init_168 : decode cX4_init 168 = .ok (.iconst 4, 1) := by decide +kernel
theorem dX4_init_169 : decode cX4_init 169 = .ok (.newarray .int, 2) := by decide +kernel
theorem dX4_init_171 : decode cX4_init 171 = .ok (.putfield 81, 3) := by decide +kernel
theorem dX4_init_174 : decode cX4_init 174 = .ok (.aload_n 0, 1) := by decide +kernel
theorem dX4_init_175 : decode cX4_init 175 = .ok (.iconst 4, 1) := by decide +kernel
theorem dX4_init_176 : decode cX4_init 176 = .ok (.newarray .int, 2) := by decide +kernel
theorem dX4_init_178 : decode cX4_init 178 = .ok (.putfield 84, 3) := by decide +kernel
theorem dX4_init_181 : decode cX4_init 181 = .ok (.aload_n 0, 1) := by decide +kernel
theorem dX4_init_182 : decode cX4_init 182 = .ok (.iconst 4, 1) := by decide +kernel
theorem dX4_init_183 : decode cX4_init 183 = .ok (.newarray .int, 2) := by decide +kernel
theorem dX4_init_185 : decode cX4_init 185 = .ok (.putfield 87, 3) := by decide +kernel
theorem dX4_init_188 : decode cX4_init 188 = .ok (.aload_n 0, 1) := by decide +kernel
theorem dX4_init_189 : decode cX4_init 189 = .ok (.iconst 4, 1) := by decide +kernel
theorem dX4_init_190 : decode cX4_init 190 = .ok (.newarray .boolean, 2) := by decide +kernel
theorem dX4_init_192 : decode cX4_init 192 = .ok (.putfield 90, 3) := by decide +kernel
theorem dX4_init_195 : decode cX4_init 195 = .ok (.aload_n 0, 1) := by decide +kernel
theorem dX4_init_196 : decode cX4_init 196 = .ok (.iconst 4, 1) := by decide +kernel
theorem dX4_init_197 : decode cX4_init 197 = .ok (.newarray .int, 2) := by decide +kernel
theorem dX4_init_199 : decode cX4_init 199 = .ok (.putfield 93, 3) := by decide +kernel
theorem dX4_init_202 : decode cX4_init 202 = .ok (.aload_n 0, 1) := by decide +kernel
theorem dX4_init_203 : decode cX4_init 203 = .ok (.iconst 4, 1) := by decide +kernel
theorem dX4_init_204 : decode cX4_init 204 = .ok (.newarray .int, 2) := by decide +kernel
theorem dX4_init_206 : decode cX4_init 206 = .ok (.putfield 96, 3) := by decide +kernel
theorem dX4_init_209 : decode cX4_init 209 = .ok (.aload_n 0, 1) := by decide +kernel
theorem dX4_init_210 : decode cX4_init 210 = .ok (.iconst 4, 1) := by decide +kernel
theorem dX4_init_211 : decode cX4_init 211 = .ok (.newarray .boolean, 2) := by decide +kernel
theorem dX4_init_213 : decode cX4_init 213 = .ok (.putfield 99, 3) := by decide +kernel
theorem dX4_init_216 : decode cX4_init 216 = .ok (.aload_n 0, 1) := by decide +kernel
theorem dX4_init_217 : decode cX4_init 217 = .ok (.iconst 4, 1) := by decide +kernel
theorem dX4_init_218 : decode cX4_init 218 = .ok (.newarray .int, 2) := by decide +kernel
theorem dX4_init_220 : decode cX4_init 220 = .ok (.putfield 102, 3) := by decide +kernel
theorem dX4_init_223 : decode cX4_init 223 = .ok (.aload_n 0, 1) := by decide +kernel
theorem dX4_init_224 : decode cX4_init 224 = .ok (.sipush 256, 3) := by decide +kernel
theorem dX4_init_227 : decode cX4_init 227 = .ok (.newarray .int, 2) := by decide +kernel
theorem dX4_init_229 : decode cX4_init 229 = .ok (.putfield 105, 3) := by decide +kernel
theorem dX4_init_232 : decode cX4_init 232 = .ok (.aload_n 0, 1) := by decide +kernel
theorem dX4_init_233 : decode cX4_init 233 = .ok (.iconst 4, 1) := by decide +kernel
theorem dX4_init_234 : decode cX4_init 234 = .ok (.newarray .int, 2) := by decide +kernel
theorem dX4_init_236 : decode cX4_init 236 = .ok (.putfield 108, 3) := by decide +kernel
theorem dX4_init_239 : decode cX4_init 239 = .ok (.aload_n 0, 1) := by decide +kernel
theorem dX4_init_240 : decode cX4_init 240 = .ok (.iconst 4, 1) := by decide +kernel
theorem dX4_init_241 : decode cX4_init 241 = .ok (.newarray .int, 2) := by decide +kernel
theorem dX4_init_243 : decode cX4_init 243 = .ok (.putfield 111, 3) := by decide +kernel
theorem dX4_init_246 : decode cX4_init 246 = .ok (.iconst 0, 1) := by decide +kernel
theorem dX4_init_247 : decode cX4_init 247 = .ok (.istore_n 1, 1) := by decide +kernel
theorem dX4_init_248 : decode cX4_init 248 = .ok (.iload_n 1, 1) := by decide +kernel
theorem dX4_init_249 : decode cX4_init 249 = .ok (.bipush 64, 2) := by decide +kernel
theorem dX4_init_251 : decode cX4_init 251 = .ok (.if_icmp .ge 23, 3) := by decide +kernel
theorem dX4_init_254 : decode cX4_init 254 = .ok (.aload_n 0, 1) := by decide +kernel
theorem dX4_init_255 : decode cX4_init 255 = .ok (.getfield 20, 3) := by decide +kernel
theorem dX4_init_258 : decode cX4_init 258 = .ok (.iload_n 1, 1) := by decide +kernel
theorem dX4_init_259 : decode cX4_init 259 = .ok (.iconst (-1), 1) := by decide +kernel
theorem dX4_init_260 : decode cX4_init 260 = .ok (.iastore, 1) := by decide +kernel
theorem dX4_init_261 : decode cX4_init 261 = .ok (.aload_n 0, 1) := by decide +kernel
theorem dX4_init_262 : decode cX4_init 262 = .ok (.getfield 27, 3) := by decide +kernel
theorem dX4_init_265 : decode cX4_init 265 = .ok (.iload_n 1, 1) := by decide +kernel
theorem dX4_init_266 : decode cX4_init 266 = .ok (.iconst (-1), 1) := by decide +kernel
theorem dX4_init_267 : decode cX4_init 267 = .ok (.iastore, 1) := by decide +kernel
theorem dX4_init_268 : decode cX4_init 268 = .ok (.iinc 1 1, 3) := by decide +kernel
theorem dX4_init_271 : decode cX4_init 271 = .ok (.goto (-23), 3) := by decide +kernel
theorem dX4_init_274 : decode cX4_init 274 = .ok (.iconst 1, 1) := by decide +kernel
theorem dX4_init_275 : decode cX4_init 275 = .ok (.istore_n 1, 1) := by decide +kernel
theorem dX4_init_276 : decode cX4_init 276 = .ok (.iload_n 1, 1) := by decide +kernel
theorem dX4_init_277 : decode cX4_init 277 = .ok (.bipush 16, 2) := by decide +kernel
theorem dX4_init_279 : decode cX4_init 279 = .ok (.if_icmp .ge 16, 3) := by decide +kernel
theorem dX4_init_282 : decode cX4_init 282 = .ok (.aload_n 0, 1) := by decide +kernel
theorem dX4_init_283 : decode cX4_init 283 = .ok (.getfield 39, 3) := by decide +kernel
theorem dX4_init_286 : decode cX4_init 286 = .ok (.iload_n 1, 1) := by decide +kernel
theorem dX4_init_287 : decode cX4_init 287 = .ok (.iconst (-1), 1) := by decide +kernel
theorem dX4_init_288 : decode cX4_init 288 = .ok (.iastore, 1) := by decide +kernel
theorem dX4_init_289 : decode cX4_init 289 = .ok (.iinc 1 1, 3) := by decide +kernel
theorem dX4_init_292 : decode cX4_init 292 = .ok (.goto (-16), 3) := by decide +kernel
theorem dX4_init_295 : decode cX4_init 295 = .ok (.aload_n 0, 1) := by decide +kernel
theorem dX4_init_296 : decode cX4_init 296 = .ok (.getfield 13, 3) := by decide +kernel
theorem dX4_init_299 : decode cX4_init 299 = .ok (.iconst 0, 1) := by decide +kernel
theorem dX4_init_300 : decode cX4_init 300 = .ok (.iconst 1, 1) := by decide +kernel
theorem dX4_init_301 : decode cX4_init 301 = .ok (.iastore, 1) := by decide +kernel
theorem dX4_init_302 : decode cX4_init 302 = .ok (.aload_n 0, 1) := by decide +kernel
theorem dX4_init_303 : decode cX4_init 303 = .ok (.getfield 33, 3) := by decide +kernel
theorem dX4_init_306 : decode cX4_init 306 = .ok (.iconst 0, 1) := by decide +kernel
theorem dX4_init_307 : decode cX4_init 307 = .ok (.iconst 1, 1) := by decide +kernel
theorem dX4_init_308 : decode cX4_init 308 = .ok (.iastore, 1) := by decide +kernel
theorem dX4_init_309 : decode cX4_init 309 = .ok (.iconst 0, 1) := by decide +kernel
theorem dX4_init_310 : decode cX4_init 310 = .ok (.istore_n 1, 1) := by decide +kernel
theorem dX4_init_311 : decode cX4_init 311 = .ok (.iload_n 1, 1) := by decide +kernel
theorem dX4_init_312 : decode cX4_init 312 = .ok (.iconst 4, 1) := by decide +kernel
theorem dX4_init_313 : decode cX4_init 313 = .ok (.if_icmp .ge 23, 3) := by decide +kernel
theorem dX4_init_316 : decode cX4_init 316 = .ok (.aload_n 0, 1) := by decide +kernel
theorem dX4_init_317 : decode cX4_init 317 = .ok (.getfield 93, 3) := by decide +kernel
theorem dX4_init_320 : decode cX4_init 320 = .ok (.iload_n 1, 1) := by decide +kernel
theorem dX4_init_321 : decode cX4_init 321 = .ok (.iconst (-1), 1) := by decide +kernel
theorem dX4_init_322 : decode cX4_init 322 = .ok (.iastore, 1) := by decide +kernel
theorem dX4_init_323 : decode cX4_init 323 = .ok (.aload_n 0, 1) := by decide +kernel
theorem dX4_init_324 : decode cX4_init 324 = .ok (.getfield 111, 3) := by decide +kernel
theorem dX4_init_327 : decode cX4_init 327 = .ok (.iload_n 1, 1) := by decide +kernel
theorem dX4_init_328 : decode cX4_init 328 = .ok (.iconst (-1), 1) := by decide +kernel
theorem dX4_init_329 : decode cX4_init 329 = .ok (.iastore, 1) := by decide +kernel
theorem dX4_init_330 : decode cX4_init 330 = .ok (.iinc 1 1, 3) := by decide +kernel
theorem dX4_init_333 : decode cX4_init 333 = .ok (.goto (-22), 3) := by decide +kernel
theorem dX4_init_336 : decode cX4_init 336 = .ok (.return_, 1) := by decide +kernel
theorem dX4_thrown_0 : decode cX4_thrown 0 = .ok (.aload_n 0, 1) := by decide +kernel
theorem dX4_thrown_1 : decode cX4_thrown 1 = .ok (.getfield 7, 3) := by decide +kernel
theorem dX4_thrown_4 : decode cX4_thrown 4 = .ok (.ireturn, 1) := by decide +kernel
theorem dX4_in_0 : decode cX4_in 0 = .ok (.iload_n 0, 1) := by decide +kernel
theorem dX4_in_1 : decode cX4_in 1 = .ok (.iload_n 1, 1) := by decide +kernel
theorem dX4_in_2 : decode cX4_in 2 = .ok (.if_icmp .lt 12, 3) := by decide +kernel
theorem dX4_in_5 : decode cX4_in 5 = .ok (.iload_n 0, 1) := by decide +kernel
theorem dX4_in_6 : decode cX4_in 6 = .ok (.iload_n 2, 1) := by decide +kernel
theorem dX4_in_7 : decode cX4_in 7 = .ok (.if_icmp .gt 7, 3) := by decide +kernel
theorem dX4_in_10 : decode cX4_in 10 = .ok (.iconst 1, 1) := by decide +kernel
theorem dX4_in_11 : decode cX4_in 11 = .ok (.goto 4, 3) := by decide +kernel
theorem dX4_in_14 : decode cX4_in 14 = .ok (.iconst 0, 1) := by decide +kernel
theorem dX4_in_15 : decode cX4_in 15 = .ok (.ireturn, 1) := by decide +kernel
theorem dX4_turned_0 : decode cX4_turned 0 = .ok (.iconst 0, 1) := by decide +kernel
theorem dX4_turned_1 : decode cX4_turned 1 = .ok (.istore_n 1, 1) := by decide +kernel
theorem dX4_turned_2 : decode cX4_turned 2 = .ok (.iconst 0, 1) := by decide +kernel
theorem dX4_turned_3 : decode cX4_turned 3 = .ok (.istore_n 2, 1) := by decide +kernel
theorem dX4_turned_4 : decode cX4_turned 4 = .ok (.iload_n 2, 1) := by decide +kernel
theorem dX4_turned_5 : decode cX4_turned 5 = .ok (.bipush 8, 2) := by decide +kernel
theorem dX4_turned_7 : decode cX4_turned 7 = .ok (.if_icmp .ge 26, 3) := by decide +kernel
theorem dX4_turned_10 : decode cX4_turned 10 = .ok (.iload_n 0, 1) := by decide +kernel
theorem dX4_turned_11 : decode cX4_turned 11 = .ok (.iload_n 2, 1) := by decide +kernel
theorem dX4_turned_12 : decode cX4_turned 12 = .ok (.ishr, 1) := by decide +kernel
theorem dX4_turned_13 : decode cX4_turned 13 = .ok (.iconst 1, 1) := by decide +kernel
theorem dX4_turned_14 : decode cX4_turned 14 = .ok (.iand, 1) := by decide +kernel
theorem dX4_turned_15 : decode cX4_turned 15 = .ok (.iconst 1, 1) := by decide +kernel
theorem dX4_turned_16 : decode cX4_turned 16 = .ok (.if_icmp .ne 11, 3) := by decide +kernel
theorem dX4_turned_19 : decode cX4_turned 19 = .ok (.iload_n 1, 1) := by decide +kernel
theorem dX4_turned_20 : decode cX4_turned 20 = .ok (.sipush 128, 3) := by decide +kernel
theorem dX4_turned_23 : decode cX4_turned 23 = .ok (.iload_n 2, 1) := by decide +kernel
theorem dX4_turned_24 : decode cX4_turned 24 = .ok (.ishr, 1) := by decide +kernel
theorem dX4_turned_25 : decode cX4_turned 25 = .ok (.iadd, 1) := by decide +kernel
theorem dX4_turned_26 : decode cX4_turned 26 = .ok (.istore_n 1, 1) := by decide +kernel
theorem dX4_turned_27 : decode cX4_turned 27 = .ok (.iinc 2 1, 3) := by decide +kernel
theorem dX4_turned_30 : decode cX4_turned 30 = .ok (.goto (-26), 3) := by decide +kernel
theorem dX4_turned_33 : decode cX4_turned 33 = .ok (.iload_n 1, 1) := by decide +kernel
theorem dX4_turned_34 : decode cX4_turned 34 = .ok (.ireturn, 1) := by decide +kernel
theorem dX4_hash_0 : decode cX4_hash 0 = .ok (.iload_n 0, 1) := by decide +kernel
theorem dX4_hash_1 : decode cX4_hash 1 = .ok (.sipush 167, 3) := by decide +kernel
theorem dX4_hash_4 : decode cX4_hash 4 = .ok (.imul, 1) := by decide +kernel
theorem dX4_hash_5 : decode cX4_hash 5 = .ok (.sipush 256, 3) := by decide +kernel
theorem dX4_hash_8 : decode cX4_hash 8 = .ok (.irem, 1) := by decide +kernel
theorem dX4_hash_9 : decode cX4_hash 9 = .ok (.ireturn, 1) := by decide +kernel
theorem dX4_parent_0 : decode cX4_parent 0 = .ok (.bipush 8, 2) := by decide +kernel
theorem dX4_parent_2 : decode cX4_parent 2 = .ok (.istore_n 1, 1) := by decide +kernel
theorem dX4_parent_3 : decode cX4_parent 3 = .ok (.iload_n 1, 1) := by decide +kernel
theorem dX4_parent_4 : decode cX4_parent 4 = .ok (.iload_n 0, 1) := by decide +kernel
theorem dX4_parent_5 : decode cX4_parent 5 = .ok (.if_icmp .le 10, 3) := by decide +kernel
theorem dX4_parent_8 : decode cX4_parent 8 = .ok (.iload_n 1, 1) := by decide +kernel
theorem dX4_parent_9 : decode cX4_parent 9 = .ok (.iconst 2, 1) := by decide +kernel
theorem dX4_parent_10 : decode cX4_parent 10 = .ok (.idiv, 1) := by decide +kernel
theorem dX4_parent_11 : decode cX4_parent 11 = .ok (.istore_n 1, 1) := by decide +kernel
theorem dX4_parent_12 : decode cX4_parent 12 = .ok (.goto (-9), 3) := by decide +kernel
theorem dX4_parent_15 : decode cX4_parent 15 = .ok (.iload_n 0, 1) := by decide +kernel
theorem dX4_parent_16 : decode cX4_parent 16 = .ok (.iload_n 1, 1) := by decide +kernel
theorem dX4_parent_17 : decode cX4_parent 17 = .ok (.isub, 1) := by decide +kernel
theorem dX4_parent_18 : decode cX4_parent 18 = .ok (.ireturn, 1) := by decide +kernel
theorem dX4_wanted_0 : decode cX4_wanted 0 = .ok (.aload_n 0, 1) := by decide +kernel
theorem dX4_wanted_1 : decode cX4_wanted 1 = .ok (.getfield 75, 3) := by decide +kernel
theorem dX4_wanted_4 : decode cX4_wanted 4 = .ok (.iload_n 1, 1) := by decide +kernel
theorem dX4_wanted_5 : decode cX4_wanted 5 = .ok (.iaload, 1) := by decide +kernel
theorem dX4_wanted_6 : decode cX4_wanted 6 = .ok (.ifCond .le 27, 3) := by decide +kernel
theorem dX4_wanted_9 : decode cX4_wanted 9 = .ok (.iconst 2, 1) := by decide +kernel
theorem dX4_wanted_10 : decode cX4_wanted 10 = .ok (.aload_n 0, 1) := by decide +kernel
theorem dX4_wanted_11 : decode cX4_wanted 11 = .ok (.getfield 72, 3) := by decide +kernel
theorem dX4_wanted_14 : decode cX4_wanted 14 = .ok (.bipush 16, 2) := by decide +kernel
theorem dX4_wanted_16 : decode cX4_wanted 16 = .ok (.iload_n 1, 1) := by decide +kernel
theorem dX4_wanted_17 : decode cX4_wanted 17 = .ok (.imul, 1) := by decide +kernel
theorem dX4_wanted_18 : decode cX4_wanted 18 = .ok (.aload_n 0, 1) := by decide +kernel
theorem dX4_wanted_19 : decode cX4_wanted 19 = .ok (.getfield 75, 3) := by decide +kernel
theorem dX4_wanted_22 : decode cX4_wanted 22 = .ok (.iload_n 1, 1) := by decide +kernel
theorem dX4_wanted_23 : decode cX4_wanted 23 = .ok (.iaload, 1) := by decide +kernel
theorem dX4_wanted_24 : decode cX4_wanted 24 = .ok (.iadd, 1) := by decide +kernel
theorem dX4_wanted_25 : decode cX4_wanted 25 = .ok (.iconst 1, 1) := by decide +kernel
theorem dX4_wanted_26 : decode cX4_wanted 26 = .ok (.isub, 1) := by decide +kernel
theorem dX4_wanted_27 : decode cX4_wanted 27 = .ok (.iaload, 1) := by decide +kernel
theorem dX4_wanted_28 : decode cX4_wanted 28 = .ok (.invokestatic 114, 3) := by decide +kernel
theorem dX4_wanted_31 : decode cX4_wanted 31 = .ok (.imul, 1) := by decide +kernel
theorem dX4_wanted_32 : decode cX4_wanted 32 = .ok (.ireturn, 1) := by decide +kernel
theorem dX4_wanted_33 : decode cX4_wanted 33 = .ok (.iconst 2, 1) := by decide +kernel
theorem dX4_wanted_34 : decode cX4_wanted 34 = .ok (.aload_n 0, 1) := by decide +kernel
theorem dX4_wanted_35 : decode cX4_wanted 35 = .ok (.getfield 57, 3) := by decide +kernel
theorem dX4_wanted_38 : decode cX4_wanted 38 = .ok (.iload_n 1, 1) := by decide +kernel
theorem dX4_wanted_39 : decode cX4_wanted 39 = .ok (.iaload, 1) := by decide +kernel
theorem dX4_wanted_40 : decode cX4_wanted 40 = .ok (.invokestatic 118, 3) := by decide +kernel
theorem dX4_wanted_43 : decode cX4_wanted 43 = .ok (.invokestatic 114, 3) := by decide +kernel
theorem dX4_wanted_46 : decode cX4_wanted 46 = .ok (.imul, 1) := by decide +kernel
theorem dX4_wanted_47 : decode cX4_wanted 47 = .ok (.iconst 1, 1) := by decide +kernel
theorem dX4_wanted_48 : decode cX4_wanted 48 = .ok (.iadd, 1) := by decide +kernel
theorem dX4_wanted_49 : decode cX4_wanted 49 = .ok (.ireturn, 1) := by decide +kernel
theorem dX4_start_0 : decode cX4_start 0 = .ok (.aload_n 0, 1) := by decide +kernel
theorem dX4_start_1 : decode cX4_start 1 = .ok (.iconst 0, 1) := by decide +kernel
theorem dX4_start_2 : decode cX4_start 2 = .ok (.putfield 7, 3) := by decide +kernel
theorem dX4_start_5 : decode cX4_start 5 = .ok (.iload_n 1, 1) := by decide +kernel
theorem dX4_start_6 : decode cX4_start 6 = .ok (.iconst 0, 1) := by decide +kernel
theorem dX4_start_7 : decode cX4_start 7 = .ok (.iconst 3, 1) := by decide +kernel
theorem dX4_start_8 : decode cX4_start 8 = .ok (.invokestatic 121, 3) := by decide +kernel
theorem dX4_start_11 : decode cX4_start 11 = .ok (.ifCond .eq 43, 3) := by decide +kernel
theorem dX4_start_14 : decode cX4_start 14 = .ok (.aload_n 0, 1) := by decide +kernel
theorem dX4_start_15 : decode cX4_start 15 = .ok (.getfield 51, 3) := by decide +kernel
theorem dX4_start_18 : decode cX4_start 18 = .ok (.iload_n 1, 1) := by decide +kernel
theorem dX4_start_19 : decode cX4_start 19 = .ok (.iaload, 1) := by decide +kernel
theorem dX4_start_20 : decode cX4_start 20 = .ok (.ifCond .ne 34, 3) := by decide +kernel
theorem dX4_start_23 : decode cX4_start 23 = .ok (.iload_n 2, 1) := by decide +kernel
theorem dX4_start_24 : decode cX4_start 24 = .ok (.iconst 0, 1) := by decide +kernel
theorem dX4_start_25 : decode cX4_start 25 = .ok (.iconst 2, 1) := by decide +kernel
theorem dX4_start_26 : decode cX4_start 26 = .ok (.invokestatic 121, 3) := by decide +kernel
theorem dX4_start_29 : decode cX4_start 29 = .ok (.ifCond .eq 25, 3) := by decide +kernel
theorem dX4_start_32 : decode cX4_start 32 = .ok (.iload_n 3, 1) := by decide +kernel
theorem dX4_start_33 : decode cX4_start 33 = .ok (.iconst 0, 1) := by decide +kernel
theorem dX4_start_34 : decode cX4_start 34 = .ok (.sipush 255, 3) := by decide +kernel
theorem dX4_start_37 : decode cX4_start 37 = .ok (.invokestatic 121, 3) := by decide +kernel
theorem dX4_start_40 : decode cX4_start 40 = .ok (.ifCond .eq 14, 3) := by decide +kernel
theorem dX4_start_43 : decode cX4_start 43 = .ok (.iload 4, 2) := by decide +kernel
theorem dX4_start_45 : decode cX4_start 45 = .ok (.iconst 0, 1) := by decide +kernel
theorem dX4_start_46 : decode cX4_start 46 = .ok (.ldc 125, 2) := by decide +kernel
theorem dX4_start_48 : decode cX4_start 48 = .ok (.invokestatic 121, 3) := by decide +kernel
theorem dX4_start_51 : decode cX4_start 51 = .ok (.ifCond .ne 5, 3) := by decide +kernel
theorem dX4_start_54 : decode cX4_start 54 = .ok (.iconst 0, 1) := by decide +kernel
theorem dX4_start_55 : decode cX4_start 55 = .ok (.ireturn, 1) := by decide +kernel
theorem dX4_start_56 : decode cX4_start 56 = .ok (.aload_n 0, 1) := by decide +kernel
theorem dX4_start_57 : decode cX4_start 57 = .ok (.getfield 51, 3) := by decide +kernel
theorem dX4_start_60 : decode cX4_start 60 = .ok (.iload_n 1, 1) := by decide +kernel
theorem dX4_start_61 : decode cX4_start 61 = .ok (.iconst 1, 1) := by decide +kernel
theorem dX4_start_62 : decode cX4_start 62 = .ok (.iastore, 1) := by decide +kernel
theorem dX4_start_63 : decode cX4_start 63 = .ok (.aload_n 0, 1) := by decide +kernel
theorem dX4_start_64 : decode cX4_start 64 = .ok (.getfield 54, 3) := by decide +kernel
theorem dX4_start_67 : decode cX4_start 67 = .ok (.iload_n 1, 1) := by decide +kernel
theorem dX4_start_68 : decode cX4_start 68 = .ok (.iload_n 2, 1) := by decide +kernel
theorem dX4_start_69 : decode cX4_start 69 = .ok (.iastore, 1) := by decide +kernel
theorem dX4_start_70 : decode cX4_start 70 = .ok (.aload_n 0, 1) := by decide +kernel
theorem dX4_start_71 : decode cX4_start 71 = .ok (.getfield 57, 3) := by decide +kernel
theorem dX4_start_74 : decode cX4_start 74 = .ok (.iload_n 1, 1) := by decide +kernel
theorem dX4_start_75 : decode cX4_start 75 = .ok (.iload_n 3, 1) := by decide +kernel
theorem dX4_start_76 : decode cX4_start 76 = .ok (.iastore, 1) := by decide +kernel
theorem dX4_start_77 : decode cX4_start 77 = .ok (.aload_n 0, 1) := by decide +kernel
theorem dX4_start_78 : decode cX4_start 78 = .ok (.getfield 60, 3) := by decide +kernel
theorem dX4_start_81 : decode cX4_start 81 = .ok (.iload_n 1, 1) := by decide +kernel
theorem dX4_start_82 : decode cX4_start 82 = .ok (.iload 4, 2) := by decide +kernel
theorem dX4_start_84 : decode cX4_start 84 = .ok (.iastore, 1) := by decide +kernel
theorem dX4_start_85 : decode cX4_start 85 = .ok (.aload_n 0, 1) := by decide +kernel
theorem dX4_start_86 : decode cX4_start 86 = .ok (.getfield 75, 3) := by decide +kernel
theorem dX4_start_89 : decode cX4_start 89 = .ok (.iload_n 1, 1) := by decide +kernel
theorem dX4_start_90 : decode cX4_start 90 = .ok (.iconst 0, 1) := by decide +kernel
theorem dX4_start_91 : decode cX4_start 91 = .ok (.iastore, 1) := by decide +kernel
theorem dX4_start_92 : decode cX4_start 92 = .ok (.aload_n 0, 1) := by decide +kernel
theorem dX4_start_93 : decode cX4_start 93 = .ok (.getfield 81, 3) := by decide +kernel
theorem dX4_start_96 : decode cX4_start 96 = .ok (.iload_n 1, 1) := by decide +kernel
theorem dX4_start_97 : decode cX4_start 97 = .ok (.iconst (-1), 1) := by decide +kernel
theorem dX4_start_98 : decode cX4_start 98 = .ok (.iastore, 1) := by decide +kernel
theorem dX4_start_99 : decode cX4_start 99 = .ok (.aload_n 0, 1) := by decide +kernel
theorem dX4_start_100 : decode cX4_start 100 = .ok (.getfield 84, 3) := by decide +kernel
theorem dX4_start_103 : decode cX4_start 103 = .ok (.iload_n 1, 1) := by decide +kernel
theorem dX4_start_104 : decode cX4_start 104 = .ok (.iconst (-1), 1) := by decide +kernel
theorem dX4_start_105 : decode cX4_start 105 = .ok (.iastore, 1) := by decide +kernel
theorem dX4_start_106 : decode cX4_start 106 = .ok (.aload_n 0, 1) := by decide +kernel
theorem dX4_start_107 : decode cX4_start 107 = .ok (.getfield 87, 3) := by decide +kernel
theorem dX4_start_110 : decode cX4_start 110 = .ok (.iload_n 1, 1) := by decide +kernel
theorem dX4_start_111 : decode cX4_start 111 = .ok (.iconst (-1), 1) := by decide +kernel
theorem dX4_start_112 : decode cX4_start 112 = .ok (.iastore, 1) := by decide +kernel
theorem dX4_start_113 : decode cX4_start 113 = .ok (.aload_n 0, 1) := by decide +kernel
theorem dX4_start_114 : decode cX4_start 114 = .ok (.getfield 93, 3) := by decide +kernel
theorem dX4_start_117 : decode cX4_start 117 = .ok (.iload_n 1, 1) := by decide +kernel
theorem dX4_start_118 : decode cX4_start 118 = .ok (.iconst (-1), 1) := by decide +kernel
theorem dX4_start_119 : decode cX4_start 119 = .ok (.iastore, 1) := by decide +kernel
theorem dX4_start_120 : decode cX4_start 120 = .ok (.aload_n 0, 1) := by decide +kernel
theorem dX4_start_121 : decode cX4_start 121 = .ok (.getfield 99, 3) := by decide +kernel
theorem dX4_start_124 : decode cX4_start 124 = .ok (.iload_n 1, 1) := by decide +kernel
theorem dX4_start_125 : decode cX4_start 125 = .ok (.iconst 0, 1) := by decide +kernel
theorem dX4_start_126 : decode cX4_start 126 = .ok (.bastore, 1) := by decide +kernel
theorem dX4_start_127 : decode cX4_start 127 = .ok (.iconst 1, 1) := by decide +kernel
theorem dX4_start_128 : decode cX4_start 128 = .ok (.ireturn, 1) := by decide +kernel
theorem dX4_reads_0 : decode cX4_reads 0 = .ok (.aload_n 0, 1) := by decide +kernel
theorem dX4_reads_1 : decode cX4_reads 1 = .ok (.getfield 66, 3) := by decide +kernel
theorem dX4_reads_4 : decode cX4_reads 4 = .ok (.iload_n 1, 1) := by decide +kernel
theorem dX4_reads_5 : decode cX4_reads 5 = .ok (.iaload, 1) := by decide +kernel
theorem dX4_reads_6 : decode cX4_reads 6 = .ok (.aload_n 0, 1) := by decide +kernel
theorem dX4_reads_7 : decode cX4_reads 7 = .ok (.getfield 48, 3) := by decide +kernel
theorem dX4_reads_10 : decode cX4_reads 10 = .ok (.if_icmp .ne 5, 3) := by decide +kernel
theorem dX4_reads_13 : decode cX4_reads 13 = .ok (.iconst 1, 1) := by decide +kernel
theorem dX4_reads_14 : decode cX4_reads 14 = .ok (.ireturn, 1) := by decide +kernel
theorem dX4_reads_15 : decode cX4_reads 15 = .ok (.aload_n 0, 1) := by decide +kernel
theorem dX4_reads_16 : decode cX4_reads 16 = .ok (.getfield 66, 3) := by decide +kernel
theorem dX4_reads_19 : decode cX4_reads 19 = .ok (.iload_n 1, 1) := by decide +kernel
theorem dX4_reads_20 : decode cX4_reads 20 = .ok (.aload_n 0, 1) := by decide +kernel
theorem dX4_reads_21 : decode cX4_reads 21 = .ok (.getfield 48, 3) := by decide +kernel
theorem dX4_reads_24 : decode cX4_reads 24 = .ok (.iastore, 1) := by decide +kernel
theorem dX4_reads_25 : decode cX4_reads 25 = .ok (.iconst 0, 1) := by decide +kernel
theorem dX4_reads_26 : decode cX4_reads 26 = .ok (.ireturn, 1) := by decide +kernel
theorem dX4_change_0 : decode cX4_change 0 = .ok (.aload_n 0, 1) := by decide +kernel
theorem dX4_change_1 : decode cX4_change 1 = .ok (.getfield 20, 3) := by decide +kernel
theorem dX4_change_4 : decode cX4_change 4 = .ok (.iload_n 1, 1) := by decide +kernel
theorem dX4_change_5 : decode cX4_change 5 = .ok (.iaload, 1) := by decide +kernel
theorem dX4_change_6 : decode cX4_change 6 = .ok (.iload_n 2, 1) := by decide +kernel
theorem dX4_change_7 : decode cX4_change 7 = .ok (.if_icmp .ne 12, 3) := by decide +kernel
theorem dX4_change_10 : decode cX4_change 10 = .ok (.aload_n 0, 1) := by decide +kernel
theorem dX4_change_11 : decode cX4_change 11 = .ok (.getfield 23, 3) := by decide +kernel
theorem dX4_change_14 : decode cX4_change 14 = .ok (.iload_n 1, 1) := by decide +kernel
theorem dX4_change_15 : decode cX4_change 15 = .ok (.baload, 1) := by decide +kernel
theorem dX4_change_16 : decode cX4_change 16 = .ok (.ifCond .eq 5, 3) := by decide +kernel
theorem dX4_change_19 : decode cX4_change 19 = .ok (.iconst 0, 1) := by decide +kernel
theorem dX4_change_20 : decode cX4_change 20 = .ok (.ireturn, 1) := by decide +kernel
theorem dX4_change_21 : decode cX4_change 21 = .ok (.aload_n 0, 1) := by decide +kernel
theorem dX4_change_22 : decode cX4_change 22 = .ok (.getfield 20, 3) := by decide +kernel
theorem dX4_change_25 : decode cX4_change 25 = .ok (.iload_n 1, 1) := by decide +kernel
theorem dX4_change_26 : decode cX4_change 26 = .ok (.iload_n 3, 1) := by decide +kernel
theorem dX4_change_27 : decode cX4_change 27 = .ok (.iastore, 1) := by decide +kernel
theorem dX4_change_28 : decode cX4_change 28 = .ok (.aload_n 0, 1) := by decide +kernel
theorem dX4_change_29 : decode cX4_change 29 = .ok (.getfield 23, 3) := by decide +kernel
theorem dX4_change_32 : decode cX4_change 32 = .ok (.iload_n 1, 1) := by decide +kernel
theorem dX4_change_33 : decode cX4_change 33 = .ok (.iload 4, 2) := by decide +kernel
theorem dX4_change_35 : decode cX4_change 35 = .ok (.bastore, 1) := by decide +kernel
theorem dX4_change_36 : decode cX4_change 36 = .ok (.iconst 1, 1) := by decide +kernel
theorem dX4_change_37 : decode cX4_change 37 = .ok (.ireturn, 1) := by decide +kernel
theorem dX4_retire_0 : decode cX4_retire 0 = .ok (.aload_n 0, 1) := by decide +kernel
theorem dX4_retire_1 : decode cX4_retire 1 = .ok (.getfield 13, 3) := by decide +kernel
theorem dX4_retire_4 : decode cX4_retire 4 = .ok (.iload_n 2, 1) := by decide +kernel
theorem dX4_retire_5 : decode cX4_retire 5 = .ok (.iconst 2, 1) := by decide +kernel
theorem dX4_retire_6 : decode cX4_retire 6 = .ok (.iastore, 1) := by decide +kernel
theorem dX4_retire_7 : decode cX4_retire 7 = .ok (.aload_n 0, 1) := by decide +kernel
theorem dX4_retire_8 : decode cX4_retire 8 = .ok (.getfield 36, 3) := by decide +kernel
theorem dX4_retire_11 : decode cX4_retire 11 = .ok (.iload_n 2, 1) := by decide +kernel
theorem dX4_retire_12 : decode cX4_retire 12 = .ok (.aload_n 0, 1) := by decide +kernel
theorem dX4_retire_13 : decode cX4_retire 13 = .ok (.getfield 48, 3) := by decide +kernel
theorem dX4_retire_16 : decode cX4_retire 16 = .ok (.iastore, 1) := by decide +kernel
theorem dX4_retire_17 : decode cX4_retire 17 = .ok (.aload_n 0, 1) := by decide +kernel
theorem dX4_retire_18 : decode cX4_retire 18 = .ok (.dup, 1) := by decide +kernel
theorem dX4_retire_19 : decode cX4_retire 19 = .ok (.getfield 48, 3) := by decide +kernel
theorem dX4_retire_22 : decode cX4_retire 22 = .ok (.iconst 1, 1) := by decide +kernel
theorem dX4_retire_23 : decode cX4_retire 23 = .ok (.iadd, 1) := by decide +kernel
theorem dX4_retire_24 : decode cX4_retire 24 = .ok (.putfield 48, 3) := by decide +kernel
theorem dX4_retire_27 : decode cX4_retire 27 = .ok (.aload_n 0, 1) := by decide +kernel
theorem dX4_retire_28 : decode cX4_retire 28 = .ok (.getfield 105, 3) := by decide +kernel
theorem dX4_retire_31 : decode cX4_retire 31 = .ok (.bipush 64, 2) := by decide +kernel
theorem dX4_retire_33 : decode cX4_retire 33 = .ok (.iload_n 1, 1) := by decide +kernel
theorem dX4_retire_34 : decode cX4_retire 34 = .ok (.imul, 1) := by decide +kernel
theorem dX4_retire_35 : decode cX4_retire 35 = .ok (.aload_n 0, 1) := by decide +kernel
theorem dX4_retire_36 : decode cX4_retire 36 = .ok (.getfield 108, 3) := by decide +kernel
theorem dX4_retire_39 : decode cX4_retire 39 = .ok (.iload_n 1, 1) := by decide +kernel
theorem dX4_retire_40 : decode cX4_retire 40 = .ok (.iaload, 1) := by decide +kernel
theorem dX4_retire_41 : decode cX4_retire 41 = .ok (.iadd, 1) := by decide +kernel
theorem dX4_retire_42 : decode cX4_retire 42 = .ok (.iload_n 2, 1) := by decide +kernel
theorem dX4_retire_43 : decode cX4_retire 43 = .ok (.iastore, 1) := by decide +kernel
theorem dX4_retire_44 : decode cX4_retire 44 = .ok (.aload_n 0, 1) := by decide +kernel
theorem dX4_retire_45 : decode cX4_retire 45 = .ok (.getfield 108, 3) := by decide +kernel
theorem dX4_retire_48 : decode cX4_retire 48 = .ok (.iload_n 1, 1) := by decide +kernel
theorem dX4_retire_49 : decode cX4_retire 49 = .ok (.dup2, 1) := by decide +kernel
theorem dX4_retire_50 : decode cX4_retire 50 = .ok (.iaload, 1) := by decide +kernel
theorem dX4_retire_51 : decode cX4_retire 51 = .ok (.iconst 1, 1) := by decide +kernel
theorem dX4_retire_52 : decode cX4_retire 52 = .ok (.iadd, 1) := by decide +kernel
theorem dX4_retire_53 : decode cX4_retire 53 = .ok (.iastore, 1) := by decide +kernel
theorem dX4_retire_54 : decode cX4_retire 54 = .ok (.return_, 1) := by decide +kernel
theorem dX4_ends_0 : decode cX4_ends 0 = .ok (.aload_n 0, 1) := by decide +kernel
theorem dX4_ends_1 : decode cX4_ends 1 = .ok (.getfield 111, 3) := by decide +kernel
theorem dX4_ends_4 : decode cX4_ends 4 = .ok (.iload_n 1, 1) := by decide +kernel
theorem dX4_ends_5 : decode cX4_ends 5 = .ok (.iload_n 2, 1) := by decide +kernel
theorem dX4_ends_6 : decode cX4_ends 6 = .ok (.iastore, 1) := by decide +kernel
theorem dX4_ends_7 : decode cX4_ends 7 = .ok (.aload_n 0, 1) := by decide +kernel
theorem dX4_ends_8 : decode cX4_ends 8 = .ok (.getfield 93, 3) := by decide +kernel
theorem dX4_ends_11 : decode cX4_ends 11 = .ok (.iload_n 1, 1) := by decide +kernel
theorem dX4_ends_12 : decode cX4_ends 12 = .ok (.iaload, 1) := by decide +kernel
theorem dX4_ends_13 : decode cX4_ends 13 = .ok (.ifCond .lt 15, 3) := by decide +kernel
theorem dX4_ends_16 : decode cX4_ends 16 = .ok (.aload_n 0, 1) := by decide +kernel
theorem dX4_ends_17 : decode cX4_ends 17 = .ok (.getfield 13, 3) := by decide +kernel
theorem dX4_ends_20 : decode cX4_ends 20 = .ok (.aload_n 0, 1) := by decide +kernel
theorem dX4_ends_21 : decode cX4_ends 21 = .ok (.getfield 93, 3) := by decide +kernel
theorem dX4_ends_24 : decode cX4_ends 24 = .ok (.iload_n 1, 1) := by decide +kernel
theorem dX4_ends_25 : decode cX4_ends 25 = .ok (.iaload, 1) := by decide +kernel
theorem dX4_ends_26 : decode cX4_ends 26 = .ok (.iconst 0, 1) := by decide +kernel
theorem dX4_ends_27 : decode cX4_ends 27 = .ok (.iastore, 1) := by decide +kernel
theorem dX4_ends_28 : decode cX4_ends 28 = .ok (.aload_n 0, 1) := by decide +kernel
theorem dX4_ends_29 : decode cX4_ends 29 = .ok (.getfield 93, 3) := by decide +kernel
theorem dX4_ends_32 : decode cX4_ends 32 = .ok (.iload_n 1, 1) := by decide +kernel
theorem dX4_ends_33 : decode cX4_ends 33 = .ok (.iconst (-1), 1) := by decide +kernel
theorem dX4_ends_34 : decode cX4_ends 34 = .ok (.iastore, 1) := by decide +kernel
theorem dX4_ends_35 : decode cX4_ends 35 = .ok (.aload_n 0, 1) := by decide +kernel
theorem dX4_ends_36 : decode cX4_ends 36 = .ok (.getfield 63, 3) := by decide +kernel
theorem dX4_ends_39 : decode cX4_ends 39 = .ok (.iload_n 1, 1) := by decide +kernel
theorem dX4_ends_40 : decode cX4_ends 40 = .ok (.iconst 0, 1) := by decide +kernel
theorem dX4_ends_41 : decode cX4_ends 41 = .ok (.iastore, 1) := by decide +kernel
theorem dX4_ends_42 : decode cX4_ends 42 = .ok (.aload_n 0, 1) := by decide +kernel
theorem dX4_ends_43 : decode cX4_ends 43 = .ok (.getfield 66, 3) := by decide +kernel
theorem dX4_ends_46 : decode cX4_ends 46 = .ok (.iload_n 1, 1) := by decide +kernel
theorem dX4_ends_47 : decode cX4_ends 47 = .ok (.iconst 0, 1) := by decide +kernel
theorem dX4_ends_48 : decode cX4_ends 48 = .ok (.iastore, 1) := by decide +kernel
theorem dX4_ends_49 : decode cX4_ends 49 = .ok (.aload_n 0, 1) := by decide +kernel
theorem dX4_ends_50 : decode cX4_ends 50 = .ok (.getfield 51, 3) := by decide +kernel
theorem dX4_ends_53 : decode cX4_ends 53 = .ok (.iload_n 1, 1) := by decide +kernel
theorem dX4_ends_54 : decode cX4_ends 54 = .ok (.iconst 0, 1) := by decide +kernel
theorem dX4_ends_55 : decode cX4_ends 55 = .ok (.iastore, 1) := by decide +kernel
theorem dX4_ends_56 : decode cX4_ends 56 = .ok (.aload_n 0, 1) := by decide +kernel
theorem dX4_ends_57 : decode cX4_ends 57 = .ok (.getfield 75, 3) := by decide +kernel
theorem dX4_ends_60 : decode cX4_ends 60 = .ok (.iload_n 1, 1) := by decide +kernel
theorem dX4_ends_61 : decode cX4_ends 61 = .ok (.iconst 0, 1) := by decide +kernel
theorem dX4_ends_62 : decode cX4_ends 62 = .ok (.iastore, 1) := by decide +kernel
theorem dX4_ends_63 : decode cX4_ends 63 = .ok (.return_, 1) := by decide +kernel
theorem dX4_over_0 : decode cX4_over 0 = .ok (.aload_n 0, 1) := by decide +kernel
theorem dX4_over_1 : decode cX4_over 1 = .ok (.getfield 75, 3) := by decide +kernel
theorem dX4_over_4 : decode cX4_over 4 = .ok (.iload_n 1, 1) := by decide +kernel
theorem dX4_over_5 : decode cX4_over 5 = .ok (.iaload, 1) := by decide +kernel
theorem dX4_over_6 : decode cX4_over 6 = .ok (.ifCond .le 38, 3) := by decide +kernel
theorem dX4_over_9 : decode cX4_over 9 = .ok (.aload_n 0, 1) := by decide +kernel
theorem dX4_over_10 : decode cX4_over 10 = .ok (.getfield 51, 3) := by decide +kernel
theorem dX4_over_13 : decode cX4_over 13 = .ok (.iload_n 1, 1) := by decide +kernel
theorem dX4_over_14 : decode cX4_over 14 = .ok (.bipush 7, 2) := by decide +kernel
theorem dX4_over_16 : decode cX4_over 16 = .ok (.iastore, 1) := by decide +kernel
theorem dX4_over_17 : decode cX4_over 17 = .ok (.iload_n 2, 1) := by decide +kernel
theorem dX4_over_18 : decode cX4_over 18 = .ok (.ifCond .eq 142, 3) := by decide +kernel
theorem dX4_over_21 : decode cX4_over 21 = .ok (.aload_n 0, 1) := by decide +kernel
theorem dX4_over_22 : decode cX4_over 22 = .ok (.getfield 51, 3) := by decide +kernel
theorem dX4_over_25 : decode cX4_over 25 = .ok (.iload_n 1, 1) := by decide +kernel
theorem dX4_over_26 : decode cX4_over 26 = .ok (.bipush 9, 2) := by decide +kernel
theorem dX4_over_28 : decode cX4_over 28 = .ok (.iastore, 1) := by decide +kernel
theorem dX4_over_29 : decode cX4_over 29 = .ok (.aload_n 0, 1) := by decide +kernel
theorem dX4_over_30 : decode cX4_over 30 = .ok (.getfield 96, 3) := by decide +kernel
theorem dX4_over_33 : decode cX4_over 33 = .ok (.iload_n 1, 1) := by decide +kernel
theorem dX4_over_34 : decode cX4_over 34 = .ok (.aload_n 0, 1) := by decide +kernel
theorem dX4_over_35 : decode cX4_over 35 = .ok (.getfield 84, 3) := by decide +kernel
theorem dX4_over_38 : decode cX4_over 38 = .ok (.iload_n 1, 1) := by decide +kernel
theorem dX4_over_39 : decode cX4_over 39 = .ok (.iaload, 1) := by decide +kernel
theorem dX4_over_40 : decode cX4_over 40 = .ok (.iastore, 1) := by decide +kernel
theorem dX4_over_41 : decode cX4_over 41 = .ok (.goto 119, 3) := by decide +kernel
theorem dX4_over_44 : decode cX4_over 44 = .ok (.aload_n 0, 1) := by decide +kernel
theorem dX4_over_45 : decode cX4_over 45 = .ok (.getfield 99, 3) := by decide +kernel
theorem dX4_over_48 : decode cX4_over 48 = .ok (.iload_n 1, 1) := by decide +kernel
theorem dX4_over_49 : decode cX4_over 49 = .ok (.baload, 1) := by decide +kernel
theorem dX4_over_50 : decode cX4_over 50 = .ok (.ifCond .eq 14, 3) := by decide +kernel
theorem dX4_over_53 : decode cX4_over 53 = .ok (.aload_n 0, 1) := by decide +kernel
theorem dX4_over_54 : decode cX4_over 54 = .ok (.getfield 51, 3) := by decide +kernel
theorem dX4_over_57 : decode cX4_over 57 = .ok (.iload_n 1, 1) := by decide +kernel
theorem dX4_over_58 : decode cX4_over 58 = .ok (.bipush 12, 2) := by decide +kernel
theorem dX4_over_60 : decode cX4_over 60 = .ok (.iastore, 1) := by decide +kernel
theorem dX4_over_61 : decode cX4_over 61 = .ok (.goto 99, 3) := by decide +kernel
theorem dX4_over_64 : decode cX4_over 64 = .ok (.aload_n 0, 1) := by decide +kernel
theorem dX4_over_65 : decode cX4_over 65 = .ok (.getfield 54, 3) := by decide +kernel
theorem dX4_over_68 : decode cX4_over 68 = .ok (.iload_n 1, 1) := by decide +kernel
theorem dX4_over_69 : decode cX4_over 69 = .ok (.iaload, 1) := by decide +kernel
theorem dX4_over_70 : decode cX4_over 70 = .ok (.ifCond .ne 35, 3) := by decide +kernel
theorem dX4_over_73 : decode cX4_over 73 = .ok (.iload_n 2, 1) := by decide +kernel
theorem dX4_over_74 : decode cX4_over 74 = .ok (.ifCond .eq 22, 3) := by decide +kernel
theorem dX4_over_77 : decode cX4_over 77 = .ok (.aload_n 0, 1) := by decide +kernel
theorem dX4_over_78 : decode cX4_over 78 = .ok (.iload_n 1, 1) := by decide +kernel
theorem dX4_over_79 : decode cX4_over 79 = .ok (.aload_n 0, 1) := by decide +kernel
theorem dX4_over_80 : decode cX4_over 80 = .ok (.getfield 30, 3) := by decide +kernel
theorem dX4_over_83 : decode cX4_over 83 = .ok (.aload_n 0, 1) := by decide +kernel
theorem dX4_over_84 : decode cX4_over 84 = .ok (.getfield 84, 3) := by decide +kernel
theorem dX4_over_87 : decode cX4_over 87 = .ok (.iload_n 1, 1) := by decide +kernel
theorem dX4_over_88 : decode cX4_over 88 = .ok (.iaload, 1) := by decide +kernel
theorem dX4_over_89 : decode cX4_over 89 = .ok (.iaload, 1) := by decide +kernel
theorem dX4_over_90 : decode cX4_over 90 = .ok (.invokevirtual 126, 3) := by decide +kernel
theorem dX4_over_93 : decode cX4_over 93 = .ok (.goto 67, 3) := by decide +kernel
theorem dX4_over_96 : decode cX4_over 96 = .ok (.aload_n 0, 1) := by decide +kernel
theorem dX4_over_97 : decode cX4_over 97 = .ok (.iload_n 1, 1) := by decide +kernel
theorem dX4_over_98 : decode cX4_over 98 = .ok (.iconst (-1), 1) := by decide +kernel
theorem dX4_over_99 : decode cX4_over 99 = .ok (.invokevirtual 126, 3) := by decide +kernel
theorem dX4_over_102 : decode cX4_over 102 = .ok (.goto 58, 3) := by decide +kernel
theorem dX4_over_105 : decode cX4_over 105 = .ok (.aload_n 0, 1) := by decide +kernel
theorem dX4_over_106 : decode cX4_over 106 = .ok (.getfield 54, 3) := by decide +kernel
theorem dX4_over_109 : decode cX4_over 109 = .ok (.iload_n 1, 1) := by decide +kernel
theorem dX4_over_110 : decode cX4_over 110 = .ok (.iaload, 1) := by decide +kernel
theorem dX4_over_111 : decode cX4_over 111 = .ok (.iconst 1, 1) := by decide +kernel
theorem dX4_over_112 : decode cX4_over 112 = .ok (.if_icmp .ne 27, 3) := by decide +kernel
theorem dX4_over_115 : decode cX4_over 115 = .ok (.iload_n 2, 1) := by decide +kernel
theorem dX4_over_116 : decode cX4_over 116 = .ok (.ifCond .eq 12, 3) := by decide +kernel
theorem dX4_over_119 : decode cX4_over 119 = .ok (.aload_n 0, 1) := by decide +kernel
theorem dX4_over_120 : decode cX4_over 120 = .ok (.iload_n 1, 1) := by decide +kernel
theorem dX4_over_121 : decode cX4_over 121 = .ok (.iconst 0, 1) := by decide +kernel
theorem dX4_over_122 : decode cX4_over 122 = .ok (.invokevirtual 126, 3) := by decide +kernel
theorem dX4_over_125 : decode cX4_over 125 = .ok (.goto 35, 3) := by decide +kernel
theorem dX4_over_128 : decode cX4_over 128 = .ok (.aload_n 0, 1) := by decide +kernel
theorem dX4_over_129 : decode cX4_over 129 = .ok (.getfield 51, 3) := by decide +kernel
theorem dX4_over_132 : decode cX4_over 132 = .ok (.iload_n 1, 1) := by decide +kernel
theorem dX4_over_133 : decode cX4_over 133 = .ok (.bipush 7, 2) := by decide +kernel
theorem dX4_over_135 : decode cX4_over 135 = .ok (.iastore, 1) := by decide +kernel
theorem dX4_over_136 : decode cX4_over 136 = .ok (.goto 24, 3) := by decide +kernel
theorem dX4_over_139 : decode cX4_over 139 = .ok (.iload_n 2, 1) := by decide +kernel
theorem dX4_over_140 : decode cX4_over 140 = .ok (.ifCond .eq 14, 3) := by decide +kernel
theorem dX4_over_143 : decode cX4_over 143 = .ok (.aload_n 0, 1) := by decide +kernel
theorem dX4_over_144 : decode cX4_over 144 = .ok (.getfield 51, 3) := by decide +kernel
theorem dX4_over_147 : decode cX4_over 147 = .ok (.iload_n 1, 1) := by decide +kernel
theorem dX4_over_148 : decode cX4_over 148 = .ok (.bipush 10, 2) := by decide +kernel
theorem dX4_over_150 : decode cX4_over 150 = .ok (.iastore, 1) := by decide +kernel
theorem dX4_over_151 : decode cX4_over 151 = .ok (.goto 9, 3) := by decide +kernel
theorem dX4_over_154 : decode cX4_over 154 = .ok (.aload_n 0, 1) := by decide +kernel
theorem dX4_over_155 : decode cX4_over 155 = .ok (.iload_n 1, 1) := by decide +kernel
theorem dX4_over_156 : decode cX4_over 156 = .ok (.iconst (-1), 1) := by decide +kernel
theorem dX4_over_157 : decode cX4_over 157 = .ok (.invokevirtual 126, 3) := by decide +kernel
theorem dX4_over_160 : decode cX4_over 160 = .ok (.return_, 1) := by decide +kernel
theorem dX4_look_0 : decode cX4_look 0 = .ok (.aload_n 0, 1) := by decide +kernel
theorem dX4_look_1 : decode cX4_look 1 = .ok (.getfield 84, 3) := by decide +kernel
theorem dX4_look_4 : decode cX4_look 4 = .ok (.iload_n 1, 1) := by decide +kernel
theorem dX4_look_5 : decode cX4_look 5 = .ok (.iaload, 1) := by decide +kernel
theorem dX4_look_6 : decode cX4_look 6 = .ok (.istore_n 2, 1) := by decide +kernel
theorem dX4_look_7 : decode cX4_look 7 = .ok (.aload_n 0, 1) := by decide +kernel
theorem dX4_look_8 : decode cX4_look 8 = .ok (.getfield 20, 3) := by decide +kernel
theorem dX4_look_11 : decode cX4_look 11 = .ok (.aload_n 0, 1) := by decide +kernel
theorem dX4_look_12 : decode cX4_look 12 = .ok (.getfield 81, 3) := by decide +kernel
theorem dX4_look_15 : decode cX4_look 15 = .ok (.iload_n 1, 1) := by decide +kernel
theorem dX4_look_16 : decode cX4_look 16 = .ok (.iaload, 1) := by decide +kernel
theorem dX4_look_17 : decode cX4_look 17 = .ok (.iaload, 1) := by decide +kernel
theorem dX4_look_18 : decode cX4_look 18 = .ok (.iload_n 2, 1) := by decide +kernel
theorem dX4_look_19 : decode cX4_look 19 = .ok (.if_icmp .ne 17, 3) := by decide +kernel
theorem dX4_look_22 : decode cX4_look 22 = .ok (.aload_n 0, 1) := by decide +kernel
theorem dX4_look_23 : decode cX4_look 23 = .ok (.getfield 23, 3) := by decide +kernel
theorem dX4_look_26 : decode cX4_look 26 = .ok (.aload_n 0, 1) := by decide +kernel
theorem dX4_look_27 : decode cX4_look 27 = .ok (.getfield 81, 3) := by decide +kernel
theorem dX4_look_30 : decode cX4_look 30 = .ok (.iload_n 1, 1) := by decide +kernel
theorem dX4_look_31 : decode cX4_look 31 = .ok (.iaload, 1) := by decide +kernel
theorem dX4_look_32 : decode cX4_look 32 = .ok (.baload, 1) := by decide +kernel
theorem dX4_look_33 : decode cX4_look 33 = .ok (.ifCond .eq 13, 3) := by decide +kernel
theorem dX4_look_36 : decode cX4_look 36 = .ok (.aload_n 0, 1) := by decide +kernel
theorem dX4_look_37 : decode cX4_look 37 = .ok (.getfield 51, 3) := by decide +kernel
theorem dX4_look_40 : decode cX4_look 40 = .ok (.iload_n 1, 1) := by decide +kernel
theorem dX4_look_41 : decode cX4_look 41 = .ok (.iconst 3, 1) := by decide +kernel
theorem dX4_look_42 : decode cX4_look 42 = .ok (.iastore, 1) := by decide +kernel
theorem dX4_look_43 : decode cX4_look 43 = .ok (.goto 90, 3) := by decide +kernel
theorem dX4_look_46 : decode cX4_look 46 = .ok (.aload_n 0, 1) := by decide +kernel
theorem dX4_look_47 : decode cX4_look 47 = .ok (.getfield 90, 3) := by decide +kernel
theorem dX4_look_50 : decode cX4_look 50 = .ok (.iload_n 1, 1) := by decide +kernel
theorem dX4_look_51 : decode cX4_look 51 = .ok (.baload, 1) := by decide +kernel
theorem dX4_look_52 : decode cX4_look 52 = .ok (.ifCond .eq 14, 3) := by decide +kernel
theorem dX4_look_55 : decode cX4_look 55 = .ok (.aload_n 0, 1) := by decide +kernel
theorem dX4_look_56 : decode cX4_look 56 = .ok (.getfield 51, 3) := by decide +kernel
theorem dX4_look_59 : decode cX4_look 59 = .ok (.iload_n 1, 1) := by decide +kernel
theorem dX4_look_60 : decode cX4_look 60 = .ok (.bipush 6, 2) := by decide +kernel
theorem dX4_look_62 : decode cX4_look 62 = .ok (.iastore, 1) := by decide +kernel
theorem dX4_look_63 : decode cX4_look 63 = .ok (.goto 70, 3) := by decide +kernel
theorem dX4_look_66 : decode cX4_look 66 = .ok (.aload_n 0, 1) := by decide +kernel
theorem dX4_look_67 : decode cX4_look 67 = .ok (.getfield 17, 3) := by decide +kernel
theorem dX4_look_70 : decode cX4_look 70 = .ok (.iload_n 2, 1) := by decide +kernel
theorem dX4_look_71 : decode cX4_look 71 = .ok (.iaload, 1) := by decide +kernel
theorem dX4_look_72 : decode cX4_look 72 = .ok (.aload_n 0, 1) := by decide +kernel
theorem dX4_look_73 : decode cX4_look 73 = .ok (.iload_n 1, 1) := by decide +kernel
theorem dX4_look_74 : decode cX4_look 74 = .ok (.invokevirtual 130, 3) := by decide +kernel
theorem dX4_look_77 : decode cX4_look 77 = .ok (.if_icmp .ge 32, 3) := by decide +kernel
theorem dX4_look_80 : decode cX4_look 80 = .ok (.aload_n 0, 1) := by decide +kernel
theorem dX4_look_81 : decode cX4_look 81 = .ok (.getfield 81, 3) := by decide +kernel
theorem dX4_look_84 : decode cX4_look 84 = .ok (.iload_n 1, 1) := by decide +kernel
theorem dX4_look_85 : decode cX4_look 85 = .ok (.iload_n 2, 1) := by decide +kernel
theorem dX4_look_86 : decode cX4_look 86 = .ok (.iastore, 1) := by decide +kernel
theorem dX4_look_87 : decode cX4_look 87 = .ok (.aload_n 0, 1) := by decide +kernel
theorem dX4_look_88 : decode cX4_look 88 = .ok (.getfield 84, 3) := by decide +kernel
theorem dX4_look_91 : decode cX4_look 91 = .ok (.iload_n 1, 1) := by decide +kernel
theorem dX4_look_92 : decode cX4_look 92 = .ok (.aload_n 0, 1) := by decide +kernel
theorem dX4_look_93 : decode cX4_look 93 = .ok (.getfield 87, 3) := by decide +kernel
theorem dX4_look_96 : decode cX4_look 96 = .ok (.iload_n 1, 1) := by decide +kernel
theorem dX4_look_97 : decode cX4_look 97 = .ok (.iaload, 1) := by decide +kernel
theorem dX4_look_98 : decode cX4_look 98 = .ok (.iastore, 1) := by decide +kernel
theorem dX4_look_99 : decode cX4_look 99 = .ok (.aload_n 0, 1) := by decide +kernel
theorem dX4_look_100 : decode cX4_look 100 = .ok (.getfield 51, 3) := by decide +kernel
theorem dX4_look_103 : decode cX4_look 103 = .ok (.iload_n 1, 1) := by decide +kernel
theorem dX4_look_104 : decode cX4_look 104 = .ok (.iconst 4, 1) := by decide +kernel
theorem dX4_look_105 : decode cX4_look 105 = .ok (.iastore, 1) := by decide +kernel
theorem dX4_look_106 : decode cX4_look 106 = .ok (.goto 27, 3) := by decide +kernel
theorem dX4_look_109 : decode cX4_look 109 = .ok (.aload_n 0, 1) := by decide +kernel
theorem dX4_look_110 : decode cX4_look 110 = .ok (.iload_n 1, 1) := by decide +kernel
theorem dX4_look_111 : decode cX4_look 111 = .ok (.aload_n 0, 1) := by decide +kernel
theorem dX4_look_112 : decode cX4_look 112 = .ok (.getfield 17, 3) := by decide +kernel
theorem dX4_look_115 : decode cX4_look 115 = .ok (.iload_n 2, 1) := by decide +kernel
theorem dX4_look_116 : decode cX4_look 116 = .ok (.iaload, 1) := by decide +kernel
theorem dX4_look_117 : decode cX4_look 117 = .ok (.aload_n 0, 1) := by decide +kernel
theorem dX4_look_118 : decode cX4_look 118 = .ok (.iload_n 1, 1) := by decide +kernel
theorem dX4_look_119 : decode cX4_look 119 = .ok (.invokevirtual 130, 3) := by decide +kernel
theorem dX4_look_122 : decode cX4_look 122 = .ok (.if_icmp .ne 7, 3) := by decide +kernel
theorem dX4_look_125 : decode cX4_look 125 = .ok (.iconst 1, 1) := by decide +kernel
theorem dX4_look_126 : decode cX4_look 126 = .ok (.goto 4, 3) := by decide +kernel
theorem dX4_look_129 : decode cX4_look 129 = .ok (.iconst 0, 1) := by decide +kernel
theorem dX4_look_130 : decode cX4_look 130 = .ok (.invokevirtual 133, 3) := by decide +kernel
theorem dX4_look_133 : decode cX4_look 133 = .ok (.return_, 1) := by decide +kernel
theorem dX4_prepare_0 : decode cX4_prepare 0 = .ok (.aload_n 0, 1) := by decide +kernel
theorem dX4_prepare_1 : decode cX4_prepare 1 = .ok (.getfield 93, 3) := by decide +kernel
theorem dX4_prepare_4 : decode cX4_prepare 4 = .ok (.iload_n 1, 1) := by decide +kernel
theorem dX4_prepare_5 : decode cX4_prepare 5 = .ok (.iaload, 1) := by decide +kernel
theorem dX4_prepare_6 : decode cX4_prepare 6 = .ok (.istore_n 2, 1) := by decide +kernel
theorem dX4_prepare_7 : decode cX4_prepare 7 = .ok (.iload_n 2, 1) := by decide +kernel
theorem dX4_prepare_8 : decode cX4_prepare 8 = .ok (.ifCond .ge 129, 3) := by decide +kernel
theorem dX4_prepare_11 : decode cX4_prepare 11 = .ok (.iconst 0, 1) := by decide +kernel
theorem dX4_prepare_12 : decode cX4_prepare 12 = .ok (.istore_n 2, 1) := by decide +kernel
theorem dX4_prepare_13 : decode cX4_prepare 13 = .ok (.iload_n 2, 1) := by decide +kernel
theorem dX4_prepare_14 : decode cX4_prepare 14 = .ok (.bipush 64, 2) := by decide +kernel
theorem dX4_prepare_16 : decode cX4_prepare 16 = .ok (.if_icmp .ge 18, 3) := by decide +kernel
theorem dX4_prepare_19 : decode cX4_prepare 19 = .ok (.aload_n 0, 1) := by decide +kernel
theorem dX4_prepare_20 : decode cX4_prepare 20 = .ok (.getfield 13, 3) := by decide +kernel
theorem dX4_prepare_23 : decode cX4_prepare 23 = .ok (.iload_n 2, 1) := by decide +kernel
theorem dX4_prepare_24 : decode cX4_prepare 24 = .ok (.iaload, 1) := by decide +kernel
theorem dX4_prepare_25 : decode cX4_prepare 25 = .ok (.ifCond .eq 9, 3) := by decide +kernel
theorem dX4_prepare_28 : decode cX4_prepare 28 = .ok (.iinc 2 1, 3) := by decide +kernel
theorem dX4_prepare_31 : decode cX4_prepare 31 = .ok (.goto (-18), 3) := by decide +kernel
theorem dX4_prepare_34 : decode cX4_prepare 34 = .ok (.iload_n 2, 1) := by decide +kernel
theorem dX4_prepare_35 : decode cX4_prepare 35 = .ok (.bipush 64, 2) := by decide +kernel
theorem dX4_prepare_37 : decode cX4_prepare 37 = .ok (.if_icmp .ne 11, 3) := by decide +kernel
theorem dX4_prepare_40 : decode cX4_prepare 40 = .ok (.aload_n 0, 1) := by decide +kernel
theorem dX4_prepare_41 : decode cX4_prepare 41 = .ok (.iload_n 1, 1) := by decide +kernel
theorem dX4_prepare_42 : decode cX4_prepare 42 = .ok (.bipush (-2), 2) := by decide +kernel
theorem dX4_prepare_44 : decode cX4_prepare 44 = .ok (.invokevirtual 126, 3) := by decide +kernel
theorem dX4_prepare_47 : decode cX4_prepare 47 = .ok (.return_, 1) := by decide +kernel
theorem dX4_prepare_48 : decode cX4_prepare 48 = .ok (.aload_n 0, 1) := by decide +kernel
theorem dX4_prepare_49 : decode cX4_prepare 49 = .ok (.getfield 93, 3) := by decide +kernel
theorem dX4_prepare_52 : decode cX4_prepare 52 = .ok (.iload_n 1, 1) := by decide +kernel
theorem dX4_prepare_53 : decode cX4_prepare 53 = .ok (.iload_n 2, 1) := by decide +kernel
theorem dX4_prepare_54 : decode cX4_prepare 54 = .ok (.iastore, 1) := by decide +kernel
theorem dX4_prepare_55 : decode cX4_prepare 55 = .ok (.aload_n 0, 1) := by decide +kernel
theorem dX4_prepare_56 : decode cX4_prepare 56 = .ok (.getfield 13, 3) := by decide +kernel
theorem dX4_prepare_59 : decode cX4_prepare 59 = .ok (.iload_n 2, 1) := by decide +kernel
theorem dX4_prepare_60 : decode cX4_prepare 60 = .ok (.iconst 1, 1) := by decide +kernel
theorem dX4_prepare_61 : decode cX4_prepare 61 = .ok (.iastore, 1) := by decide +kernel
theorem dX4_prepare_62 : decode cX4_prepare 62 = .ok (.aload_n 0, 1) := by decide +kernel
theorem dX4_prepare_63 : decode cX4_prepare 63 = .ok (.getfield 17, 3) := by decide +kernel
theorem dX4_prepare_66 : decode cX4_prepare 66 = .ok (.iload_n 2, 1) := by decide +kernel
theorem dX4_prepare_67 : decode cX4_prepare 67 = .ok (.aload_n 0, 1) := by decide +kernel
theorem dX4_prepare_68 : decode cX4_prepare 68 = .ok (.iload_n 1, 1) := by decide +kernel
theorem dX4_prepare_69 : decode cX4_prepare 69 = .ok (.invokevirtual 130, 3) := by decide +kernel
theorem dX4_prepare_72 : decode cX4_prepare 72 = .ok (.iastore, 1) := by decide +kernel
theorem dX4_prepare_73 : decode cX4_prepare 73 = .ok (.aload_n 0, 1) := by decide +kernel
theorem dX4_prepare_74 : decode cX4_prepare 74 = .ok (.getfield 27, 3) := by decide +kernel
theorem dX4_prepare_77 : decode cX4_prepare 77 = .ok (.iload_n 2, 1) := by decide +kernel
theorem dX4_prepare_78 : decode cX4_prepare 78 = .ok (.iconst (-1), 1) := by decide +kernel
theorem dX4_prepare_79 : decode cX4_prepare 79 = .ok (.iastore, 1) := by decide +kernel
theorem dX4_prepare_80 : decode cX4_prepare 80 = .ok (.aload_n 0, 1) := by decide +kernel
theorem dX4_prepare_81 : decode cX4_prepare 81 = .ok (.getfield 30, 3) := by decide +kernel
theorem dX4_prepare_84 : decode cX4_prepare 84 = .ok (.iload_n 2, 1) := by decide +kernel
theorem dX4_prepare_85 : decode cX4_prepare 85 = .ok (.iconst 0, 1) := by decide +kernel
theorem dX4_prepare_86 : decode cX4_prepare 86 = .ok (.iastore, 1) := by decide +kernel
theorem dX4_prepare_87 : decode cX4_prepare 87 = .ok (.aload_n 0, 1) := by decide +kernel
theorem dX4_prepare_88 : decode cX4_prepare 88 = .ok (.getfield 75, 3) := by decide +kernel
theorem dX4_prepare_91 : decode cX4_prepare 91 = .ok (.iload_n 1, 1) := by decide +kernel
theorem dX4_prepare_92 : decode cX4_prepare 92 = .ok (.iaload, 1) := by decide +kernel
theorem dX4_prepare_93 : decode cX4_prepare 93 = .ok (.ifCond .ne 27, 3) := by decide +kernel
theorem dX4_prepare_96 : decode cX4_prepare 96 = .ok (.aload_n 0, 1) := by decide +kernel
theorem dX4_prepare_97 : decode cX4_prepare 97 = .ok (.getfield 27, 3) := by decide +kernel
theorem dX4_prepare_100 : decode cX4_prepare 100 = .ok (.iload_n 2, 1) := by decide +kernel
theorem dX4_prepare_101 : decode cX4_prepare 101 = .ok (.aload_n 0, 1) := by decide +kernel
theorem dX4_prepare_102 : decode cX4_prepare 102 = .ok (.getfield 57, 3) := by decide +kernel
theorem dX4_prepare_105 : decode cX4_prepare 105 = .ok (.iload_n 1, 1) := by decide +kernel
theorem dX4_prepare_106 : decode cX4_prepare 106 = .ok (.iaload, 1) := by decide +kernel
theorem dX4_prepare_107 : decode cX4_prepare 107 = .ok (.iastore, 1) := by decide +kernel
theorem dX4_prepare_108 : decode cX4_prepare 108 = .ok (.aload_n 0, 1) := by decide +kernel
theorem dX4_prepare_109 : decode cX4_prepare 109 = .ok (.getfield 30, 3) := by decide +kernel
theorem dX4_prepare_112 : decode cX4_prepare 112 = .ok (.iload_n 2, 1) := by decide +kernel
theorem dX4_prepare_113 : decode cX4_prepare 113 = .ok (.aload_n 0, 1) := by decide +kernel
theorem dX4_prepare_114 : decode cX4_prepare 114 = .ok (.getfield 60, 3) := by decide +kernel
theorem dX4_prepare_117 : decode cX4_prepare 117 = .ok (.iload_n 1, 1) := by decide +kernel
theorem dX4_prepare_118 : decode cX4_prepare 118 = .ok (.iaload, 1) := by decide +kernel
theorem dX4_prepare_119 : decode cX4_prepare 119 = .ok (.iastore, 1) := by decide +kernel
theorem dX4_prepare_120 : decode cX4_prepare 120 = .ok (.aload_n 0, 1) := by decide +kernel
theorem dX4_prepare_121 : decode cX4_prepare 121 = .ok (.getfield 33, 3) := by decide +kernel
theorem dX4_prepare_124 : decode cX4_prepare 124 = .ok (.iload_n 2, 1) := by decide +kernel
theorem dX4_prepare_125 : decode cX4_prepare 125 = .ok (.aload_n 0, 1) := by decide +kernel
theorem dX4_prepare_126 : decode cX4_prepare 126 = .ok (.getfield 48, 3) := by decide +kernel
theorem dX4_prepare_129 : decode cX4_prepare 129 = .ok (.iastore, 1) := by decide +kernel
theorem dX4_prepare_130 : decode cX4_prepare 130 = .ok (.aload_n 0, 1) := by decide +kernel
theorem dX4_prepare_131 : decode cX4_prepare 131 = .ok (.getfield 36, 3) := by decide +kernel
theorem dX4_prepare_134 : decode cX4_prepare 134 = .ok (.iload_n 2, 1) := by decide +kernel
theorem dX4_prepare_135 : decode cX4_prepare 135 = .ok (.iconst 0, 1) := by decide +kernel
theorem dX4_prepare_136 : decode cX4_prepare 136 = .ok (.iastore, 1) := by decide +kernel
theorem dX4_prepare_137 : decode cX4_prepare 137 = .ok (.aload_n 0, 1) := by decide +kernel
theorem dX4_prepare_138 : decode cX4_prepare 138 = .ok (.getfield 20, 3) := by decide +kernel
theorem dX4_prepare_141 : decode cX4_prepare 141 = .ok (.iload_n 2, 1) := by decide +kernel
theorem dX4_prepare_142 : decode cX4_prepare 142 = .ok (.aload_n 0, 1) := by decide +kernel
theorem dX4_prepare_143 : decode cX4_prepare 143 = .ok (.getfield 84, 3) := by decide +kernel
theorem dX4_prepare_146 : decode cX4_prepare 146 = .ok (.iload_n 1, 1) := by decide +kernel
theorem dX4_prepare_147 : decode cX4_prepare 147 = .ok (.iaload, 1) := by decide +kernel
theorem dX4_prepare_148 : decode cX4_prepare 148 = .ok (.iastore, 1) := by decide +kernel
theorem dX4_prepare_149 : decode cX4_prepare 149 = .ok (.aload_n 0, 1) := by decide +kernel
theorem dX4_prepare_150 : decode cX4_prepare 150 = .ok (.getfield 23, 3) := by decide +kernel
theorem dX4_prepare_153 : decode cX4_prepare 153 = .ok (.iload_n 2, 1) := by decide +kernel
theorem dX4_prepare_154 : decode cX4_prepare 154 = .ok (.iconst 0, 1) := by decide +kernel
theorem dX4_prepare_155 : decode cX4_prepare 155 = .ok (.bastore, 1) := by decide +kernel
theorem dX4_prepare_156 : decode cX4_prepare 156 = .ok (.aload_n 0, 1) := by decide +kernel
theorem dX4_prepare_157 : decode cX4_prepare 157 = .ok (.getfield 51, 3) := by decide +kernel
theorem dX4_prepare_160 : decode cX4_prepare 160 = .ok (.iload_n 1, 1) := by decide +kernel
theorem dX4_prepare_161 : decode cX4_prepare 161 = .ok (.bipush 8, 2) := by decide +kernel
theorem dX4_prepare_163 : decode cX4_prepare 163 = .ok (.iastore, 1) := by decide +kernel
theorem dX4_prepare_164 : decode cX4_prepare 164 = .ok (.return_, 1) := by decide +kernel
theorem dX4_putIn_0 : decode cX4_putIn 0 = .ok (.aload_n 0, 1) := by decide +kernel
theorem dX4_putIn_1 : decode cX4_putIn 1 = .ok (.aload_n 0, 1) := by decide +kernel
theorem dX4_putIn_2 : decode cX4_putIn 2 = .ok (.getfield 81, 3) := by decide +kernel
theorem dX4_putIn_5 : decode cX4_putIn 5 = .ok (.iload_n 1, 1) := by decide +kernel
theorem dX4_putIn_6 : decode cX4_putIn 6 = .ok (.iaload, 1) := by decide +kernel
theorem dX4_putIn_7 : decode cX4_putIn 7 = .ok (.aload_n 0, 1) := by decide +kernel
theorem dX4_putIn_8 : decode cX4_putIn 8 = .ok (.getfield 84, 3) := by decide +kernel
theorem dX4_putIn_11 : decode cX4_putIn 11 = .ok (.iload_n 1, 1) := by decide +kernel
theorem dX4_putIn_12 : decode cX4_putIn 12 = .ok (.iaload, 1) := by decide +kernel
theorem dX4_putIn_13 : decode cX4_putIn 13 = .ok (.aload_n 0, 1) := by decide +kernel
theorem dX4_putIn_14 : decode cX4_putIn 14 = .ok (.getfield 93, 3) := by decide +kernel
theorem dX4_putIn_17 : decode cX4_putIn 17 = .ok (.iload_n 1, 1) := by decide +kernel
theorem dX4_putIn_18 : decode cX4_putIn 18 = .ok (.iaload, 1) := by decide +kernel
theorem dX4_putIn_19 : decode cX4_putIn 19 = .ok (.iconst 0, 1) := by decide +kernel
theorem dX4_putIn_20 : decode cX4_putIn 20 = .ok (.invokevirtual 137, 3) := by decide +kernel
theorem dX4_putIn_23 : decode cX4_putIn 23 = .ok (.ifCond .ne 11, 3) := by decide +kernel
theorem dX4_putIn_26 : decode cX4_putIn 26 = .ok (.aload_n 0, 1) := by decide +kernel
theorem dX4_putIn_27 : decode cX4_putIn 27 = .ok (.getfield 51, 3) := by decide +kernel
theorem dX4_putIn_30 : decode cX4_putIn 30 = .ok (.iload_n 1, 1) := by decide +kernel
theorem dX4_putIn_31 : decode cX4_putIn 31 = .ok (.iconst 3, 1) := by decide +kernel
theorem dX4_putIn_32 : decode cX4_putIn 32 = .ok (.iastore, 1) := by decide +kernel
theorem dX4_putIn_33 : decode cX4_putIn 33 = .ok (.return_, 1) := by decide +kernel
theorem dX4_putIn_34 : decode cX4_putIn 34 = .ok (.aload_n 0, 1) := by decide +kernel
theorem dX4_putIn_35 : decode cX4_putIn 35 = .ok (.getfield 96, 3) := by decide +kernel
theorem dX4_putIn_38 : decode cX4_putIn 38 = .ok (.iload_n 1, 1) := by decide +kernel
theorem dX4_putIn_39 : decode cX4_putIn 39 = .ok (.aload_n 0, 1) := by decide +kernel
theorem dX4_putIn_40 : decode cX4_putIn 40 = .ok (.getfield 93, 3) := by decide +kernel
theorem dX4_putIn_43 : decode cX4_putIn 43 = .ok (.iload_n 1, 1) := by decide +kernel
theorem dX4_putIn_44 : decode cX4_putIn 44 = .ok (.iaload, 1) := by decide +kernel
theorem dX4_putIn_45 : decode cX4_putIn 45 = .ok (.iastore, 1) := by decide +kernel
theorem dX4_putIn_46 : decode cX4_putIn 46 = .ok (.aload_n 0, 1) := by decide +kernel
theorem dX4_putIn_47 : decode cX4_putIn 47 = .ok (.getfield 93, 3) := by decide +kernel
theorem dX4_putIn_50 : decode cX4_putIn 50 = .ok (.iload_n 1, 1) := by decide +kernel
theorem dX4_putIn_51 : decode cX4_putIn 51 = .ok (.iconst (-1), 1) := by decide +kernel
theorem dX4_putIn_52 : decode cX4_putIn 52 = .ok (.iastore, 1) := by decide +kernel
theorem dX4_putIn_53 : decode cX4_putIn 53 = .ok (.aload_n 0, 1) := by decide +kernel
theorem dX4_putIn_54 : decode cX4_putIn 54 = .ok (.getfield 51, 3) := by decide +kernel
theorem dX4_putIn_57 : decode cX4_putIn 57 = .ok (.iload_n 1, 1) := by decide +kernel
theorem dX4_putIn_58 : decode cX4_putIn 58 = .ok (.bipush 9, 2) := by decide +kernel
theorem dX4_putIn_60 : decode cX4_putIn 60 = .ok (.iastore, 1) := by decide +kernel
theorem dX4_putIn_61 : decode cX4_putIn 61 = .ok (.aload_n 0, 1) := by decide +kernel
theorem dX4_putIn_62 : decode cX4_putIn 62 = .ok (.getfield 75, 3) := by decide +kernel
theorem dX4_putIn_65 : decode cX4_putIn 65 = .ok (.iload_n 1, 1) := by decide +kernel
theorem dX4_putIn_66 : decode cX4_putIn 66 = .ok (.iaload, 1) := by decide +kernel
theorem dX4_putIn_67 : decode cX4_putIn 67 = .ok (.ifCond .ne 21, 3) := by decide +kernel
theorem dX4_putIn_70 : decode cX4_putIn 70 = .ok (.aload_n 0, 1) := by decide +kernel
theorem dX4_putIn_71 : decode cX4_putIn 71 = .ok (.dup, 1) := by decide +kernel
theorem dX4_putIn_72 : decode cX4_putIn 72 = .ok (.getfield 45, 3) := by decide +kernel
theorem dX4_putIn_75 : decode cX4_putIn 75 = .ok (.iconst 1, 1) := by decide +kernel
theorem dX4_putIn_76 : decode cX4_putIn 76 = .ok (.iadd, 1) := by decide +kernel
theorem dX4_putIn_77 : decode cX4_putIn 77 = .ok (.putfield 45, 3) := by decide +kernel
theorem dX4_putIn_80 : decode cX4_putIn 80 = .ok (.aload_n 0, 1) := by decide +kernel
theorem dX4_putIn_81 : decode cX4_putIn 81 = .ok (.getfield 51, 3) := by decide +kernel
theorem dX4_putIn_84 : decode cX4_putIn 84 = .ok (.iload_n 1, 1) := by decide +kernel
theorem dX4_putIn_85 : decode cX4_putIn 85 = .ok (.bipush 13, 2) := by decide +kernel
theorem dX4_putIn_87 : decode cX4_putIn 87 = .ok (.iastore, 1) := by decide +kernel
theorem dX4_putIn_88 : decode cX4_putIn 88 = .ok (.return_, 1) := by decide +kernel
theorem dX4_giveBack_0 : decode cX4_giveBack 0 = .ok (.iconst 0, 1) := by decide +kernel
theorem dX4_giveBack_1 : decode cX4_giveBack 1 = .ok (.istore_n 2, 1) := by decide +kernel
theorem dX4_giveBack_2 : decode cX4_giveBack 2 = .ok (.iconst 0, 1) := by decide +kernel
theorem dX4_giveBack_3 : decode cX4_giveBack 3 = .ok (.istore_n 3, 1) := by decide +kernel
theorem dX4_giveBack_4 : decode cX4_giveBack 4 = .ok (.iload_n 3, 1) := by decide +kernel
theorem dX4_giveBack_5 : decode cX4_giveBack 5 = .ok (.aload_n 0, 1) := by decide +kernel
theorem dX4_giveBack_6 : decode cX4_giveBack 6 = .ok (.getfield 108, 3) := by decide +kernel
theorem dX4_giveBack_9 : decode cX4_giveBack 9 = .ok (.iload_n 1, 1) := by decide +kernel
theorem dX4_giveBack_10 : decode cX4_giveBack 10 = .ok (.iaload, 1) := by decide +kernel
theorem dX4_giveBack_11 : decode cX4_giveBack 11 = .ok (.if_icmp .ge 128, 3) := by decide +kernel
theorem dX4_giveBack_14 : decode cX4_giveBack 14 = .ok (.aload_n 0, 1) := by decide +kernel
theorem dX4_giveBack_15 : decode cX4_giveBack 15 = .ok (.getfield 105, 3) := by decide +kernel
theorem dX4_giveBack_18 : decode cX4_giveBack 18 = .ok (.bipush 64, 2) := by decide +kernel
theorem dX4_giveBack_20 : decode cX4_giveBack 20 = .ok (.iload_n 1, 1) := by decide +kernel
theorem dX4_giveBack_21 : decode cX4_giveBack 21 = .ok (.imul, 1) := by decide +kernel
theorem dX4_giveBack_22 : decode cX4_giveBack 22 = .ok (.iload_n 3, 1) := by decide +kernel
theorem dX4_giveBack_23 : decode cX4_giveBack 23 = .ok (.iadd, 1) := by decide +kernel
theorem dX4_giveBack_24 : decode cX4_giveBack 24 = .ok (.iaload, 1) := by decide +kernel
theorem dX4_giveBack_25 : decode cX4_giveBack 25 = .ok (.istore 4, 2) := by decide +kernel
theorem dX4_giveBack_27 : decode cX4_giveBack 27 = .ok (.iconst 0, 1) := by decide +kernel
theorem dX4_giveBack_28 : decode cX4_giveBack 28 = .ok (.istore 5, 2) := by decide +kernel
theorem dX4_giveBack_30 : decode cX4_giveBack 30 = .ok (.iconst 0, 1) := by decide +kernel
theorem dX4_giveBack_31 : decode cX4_giveBack 31 = .ok (.istore 6, 2) := by decide +kernel
theorem dX4_giveBack_33 : decode cX4_giveBack 33 = .ok (.iload 6, 2) := by decide +kernel
theorem dX4_giveBack_35 : decode cX4_giveBack 35 = .ok (.iconst 4, 1) := by decide +kernel
theorem dX4_giveBack_36 : decode cX4_giveBack 36 = .ok (.if_icmp .ge 65, 3) := by decide +kernel
theorem dX4_giveBack_39 : decode cX4_giveBack 39 = .ok (.iload 5, 2) := by decide +kernel
theorem dX4_giveBack_41 : decode cX4_giveBack 41 = .ok (.ifCond .ne 47, 3) := by decide +kernel
theorem dX4_giveBack_44 : decode cX4_giveBack 44 = .ok (.aload_n 0, 1) := by decide +kernel
theorem dX4_giveBack_45 : decode cX4_giveBack 45 = .ok (.getfield 51, 3) := by decide +kernel
theorem dX4_giveBack_48 : decode cX4_giveBack 48 = .ok (.iload 6, 2) := by decide +kernel
theorem dX4_giveBack_50 : decode cX4_giveBack 50 = .ok (.iaload, 1) := by decide +kernel
theorem dX4_giveBack_51 : decode cX4_giveBack 51 = .ok (.ifCond .eq 41, 3) := by decide +kernel
theorem dX4_giveBack_54 : decode cX4_giveBack 54 = .ok (.aload_n 0, 1) := by decide +kernel
theorem dX4_giveBack_55 : decode cX4_giveBack 55 = .ok (.getfield 63, 3) := by decide +kernel
theorem dX4_giveBack_58 : decode cX4_giveBack 58 = .ok (.iload 6, 2) := by decide +kernel
theorem dX4_giveBack_60 : decode cX4_giveBack 60 = .ok (.iaload, 1) := by decide +kernel
theorem dX4_giveBack_61 : decode cX4_giveBack 61 = .ok (.aload_n 0, 1) := by decide +kernel
theorem dX4_giveBack_62 : decode cX4_giveBack 62 = .ok (.getfield 36, 3) := by decide +kernel
theorem dX4_giveBack_65 : decode cX4_giveBack 65 = .ok (.iload 4, 2) := by decide +kernel
theorem dX4_giveBack_67 : decode cX4_giveBack 67 = .ok (.iaload, 1) := by decide +kernel
theorem dX4_giveBack_68 : decode cX4_giveBack 68 = .ok (.if_icmp .gt 24, 3) := by decide +kernel
theorem dX4_giveBack_71 : decode cX4_giveBack 71 = .ok (.aload_n 0, 1) := by decide +kernel
theorem dX4_giveBack_72 : decode cX4_giveBack 72 = .ok (.getfield 66, 3) := by decide +kernel
theorem dX4_giveBack_75 : decode cX4_giveBack 75 = .ok (.iload 6, 2) := by decide +kernel
theorem dX4_giveBack_77 : decode cX4_giveBack 77 = .ok (.iaload, 1) := by decide +kernel
theorem dX4_giveBack_78 : decode cX4_giveBack 78 = .ok (.aload_n 0, 1) := by decide +kernel
theorem dX4_giveBack_79 : decode cX4_giveBack 79 = .ok (.getfield 33, 3) := by decide +kernel
theorem dX4_giveBack_82 : decode cX4_giveBack 82 = .ok (.iload 4, 2) := by decide +kernel
theorem dX4_giveBack_84 : decode cX4_giveBack 84 = .ok (.iaload, 1) := by decide +kernel
theorem dX4_giveBack_85 : decode cX4_giveBack 85 = .ok (.if_icmp .lt 7, 3) := by decide +kernel
theorem dX4_giveBack_88 : decode cX4_giveBack 88 = .ok (.iconst 1, 1) := by decide +kernel
theorem dX4_giveBack_89 : decode cX4_giveBack 89 = .ok (.goto 4, 3) := by decide +kernel
theorem dX4_giveBack_92 : decode cX4_giveBack 92 = .ok (.iconst 0, 1) := by decide +kernel
theorem dX4_giveBack_93 : decode cX4_giveBack 93 = .ok (.istore 5, 2) := by decide +kernel
theorem dX4_giveBack_95 : decode cX4_giveBack 95 = .ok (.iinc 6 1, 3) := by decide +kernel
theorem dX4_giveBack_98 : decode cX4_giveBack 98 = .ok (.goto (-65), 3) := by decide +kernel
theorem dX4_giveBack_101 : decode cX4_giveBack 101 = .ok (.iload 5, 2) := by decide +kernel
theorem dX4_giveBack_103 : decode cX4_giveBack 103 = .ok (.ifCond .eq 22, 3) := by decide +kernel
theorem dX4_giveBack_106 : decode cX4_giveBack 106 = .ok (.aload_n 0, 1) := by decide +kernel
theorem dX4_giveBack_107 : decode cX4_giveBack 107 = .ok (.getfield 105, 3) := by decide +kernel
theorem dX4_giveBack_110 : decode cX4_giveBack 110 = .ok (.bipush 64, 2) := by decide +kernel
theorem dX4_giveBack_112 : decode cX4_giveBack 112 = .ok (.iload_n 1, 1) := by decide +kernel
theorem dX4_giveBack_113 : decode cX4_giveBack 113 = .ok (.imul, 1) := by decide +kernel
theorem dX4_giveBack_114 : decode cX4_giveBack 114 = .ok (.iload_n 2, 1) := by decide +kernel
theorem dX4_giveBack_115 : decode cX4_giveBack 115 = .ok (.iadd, 1) := by decide +kernel
theorem dX4_giveBack_116 : decode cX4_giveBack 116 = .ok (.iload 4, 2) := by decide +kernel
theorem dX4_giveBack_118 : decode cX4_giveBack 118 = .ok (.iastore, 1) := by decide +kernel
theorem dX4_giveBack_119 : decode cX4_giveBack 119 = .ok (.iinc 2 1, 3) := by decide +kernel
theorem dX4_giveBack_122 : decode cX4_giveBack 122 = .ok (.goto 11, 3) := by decide +kernel
theorem dX4_giveBack_125 : decode cX4_giveBack 125 = .ok (.aload_n 0, 1) := by decide +kernel
theorem dX4_giveBack_126 : decode cX4_giveBack 126 = .ok (.getfield 13, 3) := by decide +kernel
theorem dX4_giveBack_129 : decode cX4_giveBack 129 = .ok (.iload 4, 2) := by decide +kernel
theorem dX4_giveBack_131 : decode cX4_giveBack 131 = .ok (.iconst 0, 1) := by decide +kernel
theorem dX4_giveBack_132 : decode cX4_giveBack 132 = .ok (.iastore, 1) := by decide +kernel
theorem dX4_giveBack_133 : decode cX4_giveBack 133 = .ok (.iinc 3 1, 3) := by decide +kernel
theorem dX4_giveBack_136 : decode cX4_giveBack 136 = .ok (.goto (-132), 3) := by decide +kernel
theorem dX4_giveBack_139 : decode cX4_giveBack 139 = .ok (.aload_n 0, 1) := by decide +kernel
theorem dX4_giveBack_140 : decode cX4_giveBack 140 = .ok (.getfield 108, 3) := by decide +kernel
theorem dX4_giveBack_143 : decode cX4_giveBack 143 = .ok (.iload_n 1, 1) := by decide +kernel
theorem dX4_giveBack_144 : decode cX4_giveBack 144 = .ok (.iload_n 2, 1) := by decide +kernel
theorem dX4_giveBack_145 : decode cX4_giveBack 145 = .ok (.iastore, 1) := by decide +kernel
theorem dX4_giveBack_146 : decode cX4_giveBack 146 = .ok (.return_, 1) := by decide +kernel
theorem dX4_oneStep_0 : decode cX4_oneStep 0 = .ok (.aload_n 0, 1) := by decide +kernel
theorem dX4_oneStep_1 : decode cX4_oneStep 1 = .ok (.getfield 51, 3) := by decide +kernel
theorem dX4_oneStep_4 : decode cX4_oneStep 4 = .ok (.iload_n 1, 1) := by decide +kernel
theorem dX4_oneStep_5 : decode cX4_oneStep 5 = .ok (.iaload, 1) := by decide +kernel
theorem dX4_oneStep_6 : decode cX4_oneStep 6 = .ok (.istore_n 2, 1) := by decide +kernel
theorem dX4_oneStep_7 : decode cX4_oneStep 7 = .ok (.iload_n 2, 1) := by decide +kernel
theorem dX4_oneStep_8 : decode cX4_oneStep 8 = .ok (.iconst 1, 1) := by decide +kernel
theorem dX4_oneStep_9 : decode cX4_oneStep 9 = .ok (.if_icmp .ne 60, 3) := by decide +kernel
theorem dX4_oneStep_12 : decode cX4_oneStep 12 = .ok (.aload_n 0, 1) := by decide +kernel
theorem dX4_oneStep_13 : decode cX4_oneStep 13 = .ok (.getfield 63, 3) := by decide +kernel
theorem dX4_oneStep_16 : decode cX4_oneStep 16 = .ok (.iload_n 1, 1) := by decide +kernel
theorem dX4_oneStep_17 : decode cX4_oneStep 17 = .ok (.aload_n 0, 1) := by decide +kernel
theorem dX4_oneStep_18 : decode cX4_oneStep 18 = .ok (.getfield 48, 3) := by decide +kernel
theorem dX4_oneStep_21 : decode cX4_oneStep 21 = .ok (.iastore, 1) := by decide +kernel
theorem dX4_oneStep_22 : decode cX4_oneStep 22 = .ok (.aload_n 0, 1) := by decide +kernel
theorem dX4_oneStep_23 : decode cX4_oneStep 23 = .ok (.getfield 66, 3) := by decide +kernel
theorem dX4_oneStep_26 : decode cX4_oneStep 26 = .ok (.iload_n 1, 1) := by decide +kernel
theorem dX4_oneStep_27 : decode cX4_oneStep 27 = .ok (.aload_n 0, 1) := by decide +kernel
theorem dX4_oneStep_28 : decode cX4_oneStep 28 = .ok (.getfield 48, 3) := by decide +kernel
theorem dX4_oneStep_31 : decode cX4_oneStep 31 = .ok (.iastore, 1) := by decide +kernel
theorem dX4_oneStep_32 : decode cX4_oneStep 32 = .ok (.aload_n 0, 1) := by decide +kernel
theorem dX4_oneStep_33 : decode cX4_oneStep 33 = .ok (.getfield 69, 3) := by decide +kernel
theorem dX4_oneStep_36 : decode cX4_oneStep 36 = .ok (.iload_n 1, 1) := by decide +kernel
theorem dX4_oneStep_37 : decode cX4_oneStep 37 = .ok (.aload_n 0, 1) := by decide +kernel
theorem dX4_oneStep_38 : decode cX4_oneStep 38 = .ok (.getfield 57, 3) := by decide +kernel
theorem dX4_oneStep_41 : decode cX4_oneStep 41 = .ok (.iload_n 1, 1) := by decide +kernel
theorem dX4_oneStep_42 : decode cX4_oneStep 42 = .ok (.iaload, 1) := by decide +kernel
theorem dX4_oneStep_43 : decode cX4_oneStep 43 = .ok (.invokestatic 118, 3) := by decide +kernel
theorem dX4_oneStep_46 : decode cX4_oneStep 46 = .ok (.aload_n 0, 1) := by decide +kernel
theorem dX4_oneStep_47 : decode cX4_oneStep 47 = .ok (.getfield 42, 3) := by decide +kernel
theorem dX4_oneStep_50 : decode cX4_oneStep 50 = .ok (.irem, 1) := by decide +kernel
theorem dX4_oneStep_51 : decode cX4_oneStep 51 = .ok (.iastore, 1) := by decide +kernel
theorem dX4_oneStep_52 : decode cX4_oneStep 52 = .ok (.aload_n 0, 1) := by decide +kernel
theorem dX4_oneStep_53 : decode cX4_oneStep 53 = .ok (.getfield 75, 3) := by decide +kernel
theorem dX4_oneStep_56 : decode cX4_oneStep 56 = .ok (.iload_n 1, 1) := by decide +kernel
theorem dX4_oneStep_57 : decode cX4_oneStep 57 = .ok (.iconst 0, 1) := by decide +kernel
theorem dX4_oneStep_58 : decode cX4_oneStep 58 = .ok (.iastore, 1) := by decide +kernel
theorem dX4_oneStep_59 : decode cX4_oneStep 59 = .ok (.aload_n 0, 1) := by decide +kernel
theorem dX4_oneStep_60 : decode cX4_oneStep 60 = .ok (.getfield 51, 3) := by decide +kernel
theorem dX4_oneStep_63 : decode cX4_oneStep 63 = .ok (.iload_n 1, 1) := by decide +kernel
theorem dX4_oneStep_64 : decode cX4_oneStep 64 = .ok (.iconst 2, 1) := by decide +kernel
theorem dX4_oneStep_65 : decode cX4_oneStep 65 = .ok (.iastore, 1) := by decide +kernel
theorem dX4_oneStep_66 : decode cX4_oneStep 66 = .ok (.goto 660, 3) := by decide +kernel
theorem dX4_oneStep_69 : decode cX4_oneStep 69 = .ok (.iload_n 2, 1) := by decide +kernel
theorem dX4_oneStep_70 : decode cX4_oneStep 70 = .ok (.iconst 2, 1) := by decide +kernel
theorem dX4_oneStep_71 : decode cX4_oneStep 71 = .ok (.if_icmp .ne 94, 3) := by decide +kernel
theorem dX4_oneStep_74 : decode cX4_oneStep 74 = .ok (.aload_n 0, 1) := by decide +kernel
theorem dX4_oneStep_75 : decode cX4_oneStep 75 = .ok (.getfield 39, 3) := by decide +kernel
theorem dX4_oneStep_78 : decode cX4_oneStep 78 = .ok (.aload_n 0, 1) := by decide +kernel
theorem dX4_oneStep_79 : decode cX4_oneStep 79 = .ok (.getfield 69, 3) := by decide +kernel
theorem dX4_oneStep_82 : decode cX4_oneStep 82 = .ok (.iload_n 1, 1) := by decide +kernel
theorem dX4_oneStep_83 : decode cX4_oneStep 83 = .ok (.iaload, 1) := by decide +kernel
theorem dX4_oneStep_84 : decode cX4_oneStep 84 = .ok (.iaload, 1) := by decide +kernel
theorem dX4_oneStep_85 : decode cX4_oneStep 85 = .ok (.ifCond .lt 30, 3) := by decide +kernel
theorem dX4_oneStep_88 : decode cX4_oneStep 88 = .ok (.aload_n 0, 1) := by decide +kernel
theorem dX4_oneStep_89 : decode cX4_oneStep 89 = .ok (.getfield 78, 3) := by decide +kernel
theorem dX4_oneStep_92 : decode cX4_oneStep 92 = .ok (.iload_n 1, 1) := by decide +kernel
theorem dX4_oneStep_93 : decode cX4_oneStep 93 = .ok (.aload_n 0, 1) := by decide +kernel
theorem dX4_oneStep_94 : decode cX4_oneStep 94 = .ok (.getfield 39, 3) := by decide +kernel
theorem dX4_oneStep_97 : decode cX4_oneStep 97 = .ok (.aload_n 0, 1) := by decide +kernel
theorem dX4_oneStep_98 : decode cX4_oneStep 98 = .ok (.getfield 69, 3) := by decide +kernel
theorem dX4_oneStep_101 : decode cX4_oneStep 101 = .ok (.iload_n 1, 1) := by decide +kernel
theorem dX4_oneStep_102 : decode cX4_oneStep 102 = .ok (.iaload, 1) := by decide +kernel
theorem dX4_oneStep_103 : decode cX4_oneStep 103 = .ok (.iaload, 1) := by decide +kernel
theorem dX4_oneStep_104 : decode cX4_oneStep 104 = .ok (.iastore, 1) := by decide +kernel
theorem dX4_oneStep_105 : decode cX4_oneStep 105 = .ok (.aload_n 0, 1) := by decide +kernel
theorem dX4_oneStep_106 : decode cX4_oneStep 106 = .ok (.getfield 51, 3) := by decide +kernel
theorem dX4_oneStep_109 : decode cX4_oneStep 109 = .ok (.iload_n 1, 1) := by decide +kernel
theorem dX4_oneStep_110 : decode cX4_oneStep 110 = .ok (.iconst 3, 1) := by decide +kernel
theorem dX4_oneStep_111 : decode cX4_oneStep 111 = .ok (.iastore, 1) := by decide +kernel
theorem dX4_oneStep_112 : decode cX4_oneStep 112 = .ok (.goto 614, 3) := by decide +kernel
theorem dX4_oneStep_115 : decode cX4_oneStep 115 = .ok (.aload_n 0, 1) := by decide +kernel
theorem dX4_oneStep_116 : decode cX4_oneStep 116 = .ok (.getfield 72, 3) := by decide +kernel
theorem dX4_oneStep_119 : decode cX4_oneStep 119 = .ok (.bipush 16, 2) := by decide +kernel
theorem dX4_oneStep_121 : decode cX4_oneStep 121 = .ok (.iload_n 1, 1) := by decide +kernel
theorem dX4_oneStep_122 : decode cX4_oneStep 122 = .ok (.imul, 1) := by decide +kernel
theorem dX4_oneStep_123 : decode cX4_oneStep 123 = .ok (.aload_n 0, 1) := by decide +kernel
theorem dX4_oneStep_124 : decode cX4_oneStep 124 = .ok (.getfield 75, 3) := by decide +kernel
theorem dX4_oneStep_127 : decode cX4_oneStep 127 = .ok (.iload_n 1, 1) := by decide +kernel
theorem dX4_oneStep_128 : decode cX4_oneStep 128 = .ok (.iaload, 1) := by decide +kernel
theorem dX4_oneStep_129 : decode cX4_oneStep 129 = .ok (.iadd, 1) := by decide +kernel
theorem dX4_oneStep_130 : decode cX4_oneStep 130 = .ok (.aload_n 0, 1) := by decide +kernel
theorem dX4_oneStep_131 : decode cX4_oneStep 131 = .ok (.getfield 69, 3) := by decide +kernel
theorem dX4_oneStep_134 : decode cX4_oneStep 134 = .ok (.iload_n 1, 1) := by decide +kernel
theorem dX4_oneStep_135 : decode cX4_oneStep 135 = .ok (.iaload, 1) := by decide +kernel
theorem dX4_oneStep_136 : decode cX4_oneStep 136 = .ok (.iastore, 1) := by decide +kernel
theorem dX4_oneStep_137 : decode cX4_oneStep 137 = .ok (.aload_n 0, 1) := by decide +kernel
theorem dX4_oneStep_138 : decode cX4_oneStep 138 = .ok (.getfield 75, 3) := by decide +kernel
theorem dX4_oneStep_141 : decode cX4_oneStep 141 = .ok (.iload_n 1, 1) := by decide +kernel
theorem dX4_oneStep_142 : decode cX4_oneStep 142 = .ok (.dup2, 1) := by decide +kernel
theorem dX4_oneStep_143 : decode cX4_oneStep 143 = .ok (.iaload, 1) := by decide +kernel
theorem dX4_oneStep_144 : decode cX4_oneStep 144 = .ok (.iconst 1, 1) := by decide +kernel
theorem dX4_oneStep_145 : decode cX4_oneStep 145 = .ok (.iadd, 1) := by decide +kernel
theorem dX4_oneStep_146 : decode cX4_oneStep 146 = .ok (.iastore, 1) := by decide +kernel
theorem dX4_oneStep_147 : decode cX4_oneStep 147 = .ok (.aload_n 0, 1) := by decide +kernel
theorem dX4_oneStep_148 : decode cX4_oneStep 148 = .ok (.getfield 69, 3) := by decide +kernel
theorem dX4_oneStep_151 : decode cX4_oneStep 151 = .ok (.iload_n 1, 1) := by decide +kernel
theorem dX4_oneStep_152 : decode cX4_oneStep 152 = .ok (.aload_n 0, 1) := by decide +kernel
theorem dX4_oneStep_153 : decode cX4_oneStep 153 = .ok (.getfield 69, 3) := by decide +kernel
theorem dX4_oneStep_156 : decode cX4_oneStep 156 = .ok (.iload_n 1, 1) := by decide +kernel
theorem dX4_oneStep_157 : decode cX4_oneStep 157 = .ok (.iaload, 1) := by decide +kernel
theorem dX4_oneStep_158 : decode cX4_oneStep 158 = .ok (.invokestatic 141, 3) := by decide +kernel
theorem dX4_oneStep_161 : decode cX4_oneStep 161 = .ok (.iastore, 1) := by decide +kernel
theorem dX4_oneStep_162 : decode cX4_oneStep 162 = .ok (.goto 564, 3) := by decide +kernel
theorem dX4_oneStep_165 : decode cX4_oneStep 165 = .ok (.iload_n 2, 1) := by decide +kernel
theorem dX4_oneStep_166 : decode cX4_oneStep 166 = .ok (.iconst 3, 1) := by decide +kernel
theorem dX4_oneStep_167 : decode cX4_oneStep 167 = .ok (.if_icmp .ne 50, 3) := by decide +kernel
theorem dX4_oneStep_170 : decode cX4_oneStep 170 = .ok (.aload_n 0, 1) := by decide +kernel
theorem dX4_oneStep_171 : decode cX4_oneStep 171 = .ok (.iload_n 1, 1) := by decide +kernel
theorem dX4_oneStep_172 : decode cX4_oneStep 172 = .ok (.invokevirtual 144, 3) := by decide +kernel
theorem dX4_oneStep_175 : decode cX4_oneStep 175 = .ok (.ifCond .eq 551, 3) := by decide +kernel
theorem dX4_oneStep_178 : decode cX4_oneStep 178 = .ok (.aload_n 0, 1) := by decide +kernel
theorem dX4_oneStep_179 : decode cX4_oneStep 179 = .ok (.getfield 81, 3) := by decide +kernel
theorem dX4_oneStep_182 : decode cX4_oneStep 182 = .ok (.iload_n 1, 1) := by decide +kernel
theorem dX4_oneStep_183 : decode cX4_oneStep 183 = .ok (.aload_n 0, 1) := by decide +kernel
theorem dX4_oneStep_184 : decode cX4_oneStep 184 = .ok (.getfield 78, 3) := by decide +kernel
theorem dX4_oneStep_187 : decode cX4_oneStep 187 = .ok (.iload_n 1, 1) := by decide +kernel
theorem dX4_oneStep_188 : decode cX4_oneStep 188 = .ok (.iaload, 1) := by decide +kernel
theorem dX4_oneStep_189 : decode cX4_oneStep 189 = .ok (.iastore, 1) := by decide +kernel
theorem dX4_oneStep_190 : decode cX4_oneStep 190 = .ok (.aload_n 0, 1) := by decide +kernel
theorem dX4_oneStep_191 : decode cX4_oneStep 191 = .ok (.getfield 84, 3) := by decide +kernel
theorem dX4_oneStep_194 : decode cX4_oneStep 194 = .ok (.iload_n 1, 1) := by decide +kernel
theorem dX4_oneStep_195 : decode cX4_oneStep 195 = .ok (.aload_n 0, 1) := by decide +kernel
theorem dX4_oneStep_196 : decode cX4_oneStep 196 = .ok (.getfield 20, 3) := by decide +kernel
theorem dX4_oneStep_199 : decode cX4_oneStep 199 = .ok (.aload_n 0, 1) := by decide +kernel
theorem dX4_oneStep_200 : decode cX4_oneStep 200 = .ok (.getfield 78, 3) := by decide +kernel
theorem dX4_oneStep_203 : decode cX4_oneStep 203 = .ok (.iload_n 1, 1) := by decide +kernel
theorem dX4_oneStep_204 : decode cX4_oneStep 204 = .ok (.iaload, 1) := by decide +kernel
theorem dX4_oneStep_205 : decode cX4_oneStep 205 = .ok (.iaload, 1) := by decide +kernel
theorem dX4_oneStep_206 : decode cX4_oneStep 206 = .ok (.iastore, 1) := by decide +kernel
theorem dX4_oneStep_207 : decode cX4_oneStep 207 = .ok (.aload_n 0, 1) := by decide +kernel
theorem dX4_oneStep_208 : decode cX4_oneStep 208 = .ok (.getfield 51, 3) := by decide +kernel
theorem dX4_oneStep_211 : decode cX4_oneStep 211 = .ok (.iload_n 1, 1) := by decide +kernel
theorem dX4_oneStep_212 : decode cX4_oneStep 212 = .ok (.iconst 4, 1) := by decide +kernel
theorem dX4_oneStep_213 : decode cX4_oneStep 213 = .ok (.iastore, 1) := by decide +kernel
theorem dX4_oneStep_214 : decode cX4_oneStep 214 = .ok (.goto 512, 3) := by decide +kernel
theorem dX4_oneStep_217 : decode cX4_oneStep 217 = .ok (.iload_n 2, 1) := by decide +kernel
theorem dX4_oneStep_218 : decode cX4_oneStep 218 = .ok (.iconst 4, 1) := by decide +kernel
theorem dX4_oneStep_219 : decode cX4_oneStep 219 = .ok (.if_icmp .ne 73, 3) := by decide +kernel
theorem dX4_oneStep_222 : decode cX4_oneStep 222 = .ok (.aload_n 0, 1) := by decide +kernel
theorem dX4_oneStep_223 : decode cX4_oneStep 223 = .ok (.getfield 84, 3) := by decide +kernel
theorem dX4_oneStep_226 : decode cX4_oneStep 226 = .ok (.iload_n 1, 1) := by decide +kernel
theorem dX4_oneStep_227 : decode cX4_oneStep 227 = .ok (.iaload, 1) := by decide +kernel
theorem dX4_oneStep_228 : decode cX4_oneStep 228 = .ok (.ifCond .ge 12, 3) := by decide +kernel
theorem dX4_oneStep_231 : decode cX4_oneStep 231 = .ok (.aload_n 0, 1) := by decide +kernel
theorem dX4_oneStep_232 : decode cX4_oneStep 232 = .ok (.iload_n 1, 1) := by decide +kernel
theorem dX4_oneStep_233 : decode cX4_oneStep 233 = .ok (.iconst 0, 1) := by decide +kernel
theorem dX4_oneStep_234 : decode cX4_oneStep 234 = .ok (.invokevirtual 133, 3) := by decide +kernel
theorem dX4_oneStep_237 : decode cX4_oneStep 237 = .ok (.goto 489, 3) := by decide +kernel
theorem dX4_oneStep_240 : decode cX4_oneStep 240 = .ok (.aload_n 0, 1) := by decide +kernel
theorem dX4_oneStep_241 : decode cX4_oneStep 241 = .ok (.iload_n 1, 1) := by decide +kernel
theorem dX4_oneStep_242 : decode cX4_oneStep 242 = .ok (.invokevirtual 144, 3) := by decide +kernel
theorem dX4_oneStep_245 : decode cX4_oneStep 245 = .ok (.ifCond .eq 481, 3) := by decide +kernel
theorem dX4_oneStep_248 : decode cX4_oneStep 248 = .ok (.aload_n 0, 1) := by decide +kernel
theorem dX4_oneStep_249 : decode cX4_oneStep 249 = .ok (.getfield 87, 3) := by decide +kernel
theorem dX4_oneStep_252 : decode cX4_oneStep 252 = .ok (.iload_n 1, 1) := by decide +kernel
theorem dX4_oneStep_253 : decode cX4_oneStep 253 = .ok (.aload_n 0, 1) := by decide +kernel
theorem dX4_oneStep_254 : decode cX4_oneStep 254 = .ok (.getfield 20, 3) := by decide +kernel
theorem dX4_oneStep_257 : decode cX4_oneStep 257 = .ok (.aload_n 0, 1) := by decide +kernel
theorem dX4_oneStep_258 : decode cX4_oneStep 258 = .ok (.getfield 84, 3) := by decide +kernel
theorem dX4_oneStep_261 : decode cX4_oneStep 261 = .ok (.iload_n 1, 1) := by decide +kernel
theorem dX4_oneStep_262 : decode cX4_oneStep 262 = .ok (.iaload, 1) := by decide +kernel
theorem dX4_oneStep_263 : decode cX4_oneStep 263 = .ok (.iaload, 1) := by decide +kernel
theorem dX4_oneStep_264 : decode cX4_oneStep 264 = .ok (.iastore, 1) := by decide +kernel
theorem dX4_oneStep_265 : decode cX4_oneStep 265 = .ok (.aload_n 0, 1) := by decide +kernel
theorem dX4_oneStep_266 : decode cX4_oneStep 266 = .ok (.getfield 90, 3) := by decide +kernel
theorem dX4_oneStep_269 : decode cX4_oneStep 269 = .ok (.iload_n 1, 1) := by decide +kernel
theorem dX4_oneStep_270 : decode cX4_oneStep 270 = .ok (.aload_n 0, 1) := by decide +kernel
theorem dX4_oneStep_271 : decode cX4_oneStep 271 = .ok (.getfield 23, 3) := by decide +kernel
theorem dX4_oneStep_274 : decode cX4_oneStep 274 = .ok (.aload_n 0, 1) := by decide +kernel
theorem dX4_oneStep_275 : decode cX4_oneStep 275 = .ok (.getfield 84, 3) := by decide +kernel
theorem dX4_oneStep_278 : decode cX4_oneStep 278 = .ok (.iload_n 1, 1) := by decide +kernel
theorem dX4_oneStep_279 : decode cX4_oneStep 279 = .ok (.iaload, 1) := by decide +kernel
theorem dX4_oneStep_280 : decode cX4_oneStep 280 = .ok (.baload, 1) := by decide +kernel
theorem dX4_oneStep_281 : decode cX4_oneStep 281 = .ok (.bastore, 1) := by decide +kernel
theorem dX4_oneStep_282 : decode cX4_oneStep 282 = .ok (.aload_n 0, 1) := by decide +kernel
theorem dX4_oneStep_283 : decode cX4_oneStep 283 = .ok (.getfield 51, 3) := by decide +kernel
theorem dX4_oneStep_286 : decode cX4_oneStep 286 = .ok (.iload_n 1, 1) := by decide +kernel
theorem dX4_oneStep_287 : decode cX4_oneStep 287 = .ok (.iconst 5, 1) := by decide +kernel
theorem dX4_oneStep_288 : decode cX4_oneStep 288 = .ok (.iastore, 1) := by decide +kernel
theorem dX4_oneStep_289 : decode cX4_oneStep 289 = .ok (.goto 437, 3) := by decide +kernel
theorem dX4_oneStep_292 : decode cX4_oneStep 292 = .ok (.iload_n 2, 1) := by decide +kernel
theorem dX4_oneStep_293 : decode cX4_oneStep 293 = .ok (.iconst 5, 1) := by decide +kernel
theorem dX4_oneStep_294 : decode cX4_oneStep 294 = .ok (.if_icmp .ne 11, 3) := by decide +kernel
theorem dX4_oneStep_297 : decode cX4_oneStep 297 = .ok (.aload_n 0, 1) := by decide +kernel
theorem dX4_oneStep_298 : decode cX4_oneStep 298 = .ok (.iload_n 1, 1) := by decide +kernel
theorem dX4_oneStep_299 : decode cX4_oneStep 299 = .ok (.invokevirtual 148, 3) := by decide +kernel
theorem dX4_oneStep_302 : decode cX4_oneStep 302 = .ok (.goto 424, 3) := by decide +kernel
theorem dX4_oneStep_305 : decode cX4_oneStep 305 = .ok (.iload_n 2, 1) := by decide +kernel
theorem dX4_oneStep_306 : decode cX4_oneStep 306 = .ok (.bipush 6, 2) := by decide +kernel
theorem dX4_oneStep_308 : decode cX4_oneStep 308 = .ok (.if_icmp .ne 69, 3) := by decide +kernel
theorem dX4_oneStep_311 : decode cX4_oneStep 311 = .ok (.aload_n 0, 1) := by decide +kernel
theorem dX4_oneStep_312 : decode cX4_oneStep 312 = .ok (.getfield 51, 3) := by decide +kernel
theorem dX4_oneStep_315 : decode cX4_oneStep 315 = .ok (.iload_n 1, 1) := by decide +kernel
theorem dX4_oneStep_316 : decode cX4_oneStep 316 = .ok (.iconst 3, 1) := by decide +kernel
theorem dX4_oneStep_317 : decode cX4_oneStep 317 = .ok (.iastore, 1) := by decide +kernel
theorem dX4_oneStep_318 : decode cX4_oneStep 318 = .ok (.aload_n 0, 1) := by decide +kernel
theorem dX4_oneStep_319 : decode cX4_oneStep 319 = .ok (.aload_n 0, 1) := by decide +kernel
theorem dX4_oneStep_320 : decode cX4_oneStep 320 = .ok (.getfield 81, 3) := by decide +kernel
theorem dX4_oneStep_323 : decode cX4_oneStep 323 = .ok (.iload_n 1, 1) := by decide +kernel
theorem dX4_oneStep_324 : decode cX4_oneStep 324 = .ok (.iaload, 1) := by decide +kernel
theorem dX4_oneStep_325 : decode cX4_oneStep 325 = .ok (.aload_n 0, 1) := by decide +kernel
theorem dX4_oneStep_326 : decode cX4_oneStep 326 = .ok (.getfield 84, 3) := by decide +kernel
theorem dX4_oneStep_329 : decode cX4_oneStep 329 = .ok (.iload_n 1, 1) := by decide +kernel
theorem dX4_oneStep_330 : decode cX4_oneStep 330 = .ok (.iaload, 1) := by decide +kernel
theorem dX4_oneStep_331 : decode cX4_oneStep 331 = .ok (.aload_n 0, 1) := by decide +kernel
theorem dX4_oneStep_332 : decode cX4_oneStep 332 = .ok (.getfield 87, 3) := by decide +kernel
theorem dX4_oneStep_335 : decode cX4_oneStep 335 = .ok (.iload_n 1, 1) := by decide +kernel
theorem dX4_oneStep_336 : decode cX4_oneStep 336 = .ok (.iaload, 1) := by decide +kernel
theorem dX4_oneStep_337 : decode cX4_oneStep 337 = .ok (.iconst 0, 1) := by decide +kernel
theorem dX4_oneStep_338 : decode cX4_oneStep 338 = .ok (.invokevirtual 137, 3) := by decide +kernel
theorem dX4_oneStep_341 : decode cX4_oneStep 341 = .ok (.ifCond .eq 385, 3) := by decide +kernel
theorem dX4_oneStep_344 : decode cX4_oneStep 344 = .ok (.aload_n 0, 1) := by decide +kernel
theorem dX4_oneStep_345 : decode cX4_oneStep 345 = .ok (.iload_n 1, 1) := by decide +kernel
theorem dX4_oneStep_346 : decode cX4_oneStep 346 = .ok (.aload_n 0, 1) := by decide +kernel
theorem dX4_oneStep_347 : decode cX4_oneStep 347 = .ok (.getfield 84, 3) := by decide +kernel
theorem dX4_oneStep_350 : decode cX4_oneStep 350 = .ok (.iload_n 1, 1) := by decide +kernel
theorem dX4_oneStep_351 : decode cX4_oneStep 351 = .ok (.iaload, 1) := by decide +kernel
theorem dX4_oneStep_352 : decode cX4_oneStep 352 = .ok (.invokevirtual 152, 3) := by decide +kernel
theorem dX4_oneStep_355 : decode cX4_oneStep 355 = .ok (.aload_n 0, 1) := by decide +kernel
theorem dX4_oneStep_356 : decode cX4_oneStep 356 = .ok (.getfield 84, 3) := by decide +kernel
theorem dX4_oneStep_359 : decode cX4_oneStep 359 = .ok (.iload_n 1, 1) := by decide +kernel
theorem dX4_oneStep_360 : decode cX4_oneStep 360 = .ok (.aload_n 0, 1) := by decide +kernel
theorem dX4_oneStep_361 : decode cX4_oneStep 361 = .ok (.getfield 87, 3) := by decide +kernel
theorem dX4_oneStep_364 : decode cX4_oneStep 364 = .ok (.iload_n 1, 1) := by decide +kernel
theorem dX4_oneStep_365 : decode cX4_oneStep 365 = .ok (.iaload, 1) := by decide +kernel
theorem dX4_oneStep_366 : decode cX4_oneStep 366 = .ok (.iastore, 1) := by decide +kernel
theorem dX4_oneStep_367 : decode cX4_oneStep 367 = .ok (.aload_n 0, 1) := by decide +kernel
theorem dX4_oneStep_368 : decode cX4_oneStep 368 = .ok (.getfield 51, 3) := by decide +kernel
theorem dX4_oneStep_371 : decode cX4_oneStep 371 = .ok (.iload_n 1, 1) := by decide +kernel
theorem dX4_oneStep_372 : decode cX4_oneStep 372 = .ok (.iconst 4, 1) := by decide +kernel
theorem dX4_oneStep_373 : decode cX4_oneStep 373 = .ok (.iastore, 1) := by decide +kernel
theorem dX4_oneStep_374 : decode cX4_oneStep 374 = .ok (.goto 352, 3) := by decide +kernel
theorem dX4_oneStep_377 : decode cX4_oneStep 377 = .ok (.iload_n 2, 1) := by decide +kernel
theorem dX4_oneStep_378 : decode cX4_oneStep 378 = .ok (.bipush 7, 2) := by decide +kernel
theorem dX4_oneStep_380 : decode cX4_oneStep 380 = .ok (.if_icmp .ne 11, 3) := by decide +kernel
theorem dX4_oneStep_383 : decode cX4_oneStep 383 = .ok (.aload_n 0, 1) := by decide +kernel
theorem dX4_oneStep_384 : decode cX4_oneStep 384 = .ok (.iload_n 1, 1) := by decide +kernel
theorem dX4_oneStep_385 : decode cX4_oneStep 385 = .ok (.invokevirtual 155, 3) := by decide +kernel
theorem dX4_oneStep_388 : decode cX4_oneStep 388 = .ok (.goto 338, 3) := by decide +kernel
theorem dX4_oneStep_391 : decode cX4_oneStep 391 = .ok (.iload_n 2, 1) := by decide +kernel
theorem dX4_oneStep_392 : decode cX4_oneStep 392 = .ok (.bipush 8, 2) := by decide +kernel
theorem dX4_oneStep_394 : decode cX4_oneStep 394 = .ok (.if_icmp .ne 11, 3) := by decide +kernel
theorem dX4_oneStep_397 : decode cX4_oneStep 397 = .ok (.aload_n 0, 1) := by decide +kernel
theorem dX4_oneStep_398 : decode cX4_oneStep 398 = .ok (.iload_n 1, 1) := by decide +kernel
theorem dX4_oneStep_399 : decode cX4_oneStep 399 = .ok (.invokevirtual 158, 3) := by decide +kernel
theorem dX4_oneStep_402 : decode cX4_oneStep 402 = .ok (.goto 324, 3) := by decide +kernel
theorem dX4_oneStep_405 : decode cX4_oneStep 405 = .ok (.iload_n 2, 1) := by decide +kernel
theorem dX4_oneStep_406 : decode cX4_oneStep 406 = .ok (.bipush 9, 2) := by decide +kernel
theorem dX4_oneStep_408 : decode cX4_oneStep 408 = .ok (.if_icmp .ne 101, 3) := by decide +kernel
theorem dX4_oneStep_411 : decode cX4_oneStep 411 = .ok (.aload_n 0, 1) := by decide +kernel
theorem dX4_oneStep_412 : decode cX4_oneStep 412 = .ok (.getfield 93, 3) := by decide +kernel
theorem dX4_oneStep_415 : decode cX4_oneStep 415 = .ok (.iload_n 1, 1) := by decide +kernel
theorem dX4_oneStep_416 : decode cX4_oneStep 416 = .ok (.iaload, 1) := by decide +kernel
theorem dX4_oneStep_417 : decode cX4_oneStep 417 = .ok (.ifCond .lt 15, 3) := by decide +kernel
theorem dX4_oneStep_420 : decode cX4_oneStep 420 = .ok (.aload_n 0, 1) := by decide +kernel
theorem dX4_oneStep_421 : decode cX4_oneStep 421 = .ok (.getfield 13, 3) := by decide +kernel
theorem dX4_oneStep_424 : decode cX4_oneStep 424 = .ok (.aload_n 0, 1) := by decide +kernel
theorem dX4_oneStep_425 : decode cX4_oneStep 425 = .ok (.getfield 93, 3) := by decide +kernel
theorem dX4_oneStep_428 : decode cX4_oneStep 428 = .ok (.iload_n 1, 1) := by decide +kernel
theorem dX4_oneStep_429 : decode cX4_oneStep 429 = .ok (.iaload, 1) := by decide +kernel
theorem dX4_oneStep_430 : decode cX4_oneStep 430 = .ok (.iconst 0, 1) := by decide +kernel
theorem dX4_oneStep_431 : decode cX4_oneStep 431 = .ok (.iastore, 1) := by decide +kernel
theorem dX4_oneStep_432 : decode cX4_oneStep 432 = .ok (.aload_n 0, 1) := by decide +kernel
theorem dX4_oneStep_433 : decode cX4_oneStep 433 = .ok (.getfield 93, 3) := by decide +kernel
theorem dX4_oneStep_436 : decode cX4_oneStep 436 = .ok (.iload_n 1, 1) := by decide +kernel
theorem dX4_oneStep_437 : decode cX4_oneStep 437 = .ok (.iconst (-1), 1) := by decide +kernel
theorem dX4_oneStep_438 : decode cX4_oneStep 438 = .ok (.iastore, 1) := by decide +kernel
theorem dX4_oneStep_439 : decode cX4_oneStep 439 = .ok (.aload_n 0, 1) := by decide +kernel
theorem dX4_oneStep_440 : decode cX4_oneStep 440 = .ok (.getfield 75, 3) := by decide +kernel
theorem dX4_oneStep_443 : decode cX4_oneStep 443 = .ok (.iload_n 1, 1) := by decide +kernel
theorem dX4_oneStep_444 : decode cX4_oneStep 444 = .ok (.dup2, 1) := by decide +kernel
theorem dX4_oneStep_445 : decode cX4_oneStep 445 = .ok (.iaload, 1) := by decide +kernel
theorem dX4_oneStep_446 : decode cX4_oneStep 446 = .ok (.iconst 1, 1) := by decide +kernel
theorem dX4_oneStep_447 : decode cX4_oneStep 447 = .ok (.isub, 1) := by decide +kernel
theorem dX4_oneStep_448 : decode cX4_oneStep 448 = .ok (.iastore, 1) := by decide +kernel
theorem dX4_oneStep_449 : decode cX4_oneStep 449 = .ok (.aload_n 0, 1) := by decide +kernel
theorem dX4_oneStep_450 : decode cX4_oneStep 450 = .ok (.getfield 72, 3) := by decide +kernel
theorem dX4_oneStep_453 : decode cX4_oneStep 453 = .ok (.bipush 16, 2) := by decide +kernel
theorem dX4_oneStep_455 : decode cX4_oneStep 455 = .ok (.iload_n 1, 1) := by decide +kernel
theorem dX4_oneStep_456 : decode cX4_oneStep 456 = .ok (.imul, 1) := by decide +kernel
theorem dX4_oneStep_457 : decode cX4_oneStep 457 = .ok (.aload_n 0, 1) := by decide +kernel
theorem dX4_oneStep_458 : decode cX4_oneStep 458 = .ok (.getfield 75, 3) := by decide +kernel
theorem dX4_oneStep_461 : decode cX4_oneStep 461 = .ok (.iload_n 1, 1) := by decide +kernel
theorem dX4_oneStep_462 : decode cX4_oneStep 462 = .ok (.iaload, 1) := by decide +kernel
theorem dX4_oneStep_463 : decode cX4_oneStep 463 = .ok (.iadd, 1) := by decide +kernel
theorem dX4_oneStep_464 : decode cX4_oneStep 464 = .ok (.iaload, 1) := by decide +kernel
theorem dX4_oneStep_465 : decode cX4_oneStep 465 = .ok (.istore_n 3, 1) := by decide +kernel
theorem dX4_oneStep_466 : decode cX4_oneStep 466 = .ok (.aload_n 0, 1) := by decide +kernel
theorem dX4_oneStep_467 : decode cX4_oneStep 467 = .ok (.getfield 39, 3) := by decide +kernel
theorem dX4_oneStep_470 : decode cX4_oneStep 470 = .ok (.iload_n 3, 1) := by decide +kernel
theorem dX4_oneStep_471 : decode cX4_oneStep 471 = .ok (.iaload, 1) := by decide +kernel
theorem dX4_oneStep_472 : decode cX4_oneStep 472 = .ok (.ifCond .ge 15, 3) := by decide +kernel
theorem dX4_oneStep_475 : decode cX4_oneStep 475 = .ok (.aload_n 0, 1) := by decide +kernel
theorem dX4_oneStep_476 : decode cX4_oneStep 476 = .ok (.getfield 39, 3) := by decide +kernel
theorem dX4_oneStep_479 : decode cX4_oneStep 479 = .ok (.iload_n 3, 1) := by decide +kernel
theorem dX4_oneStep_480 : decode cX4_oneStep 480 = .ok (.aload_n 0, 1) := by decide +kernel
theorem dX4_oneStep_481 : decode cX4_oneStep 481 = .ok (.getfield 96, 3) := by decide +kernel
theorem dX4_oneStep_484 : decode cX4_oneStep 484 = .ok (.iload_n 1, 1) := by decide +kernel
theorem dX4_oneStep_485 : decode cX4_oneStep 485 = .ok (.iaload, 1) := by decide +kernel
theorem dX4_oneStep_486 : decode cX4_oneStep 486 = .ok (.iastore, 1) := by decide +kernel
theorem dX4_oneStep_487 : decode cX4_oneStep 487 = .ok (.aload_n 0, 1) := by decide +kernel
theorem dX4_oneStep_488 : decode cX4_oneStep 488 = .ok (.getfield 78, 3) := by decide +kernel
theorem dX4_oneStep_491 : decode cX4_oneStep 491 = .ok (.iload_n 1, 1) := by decide +kernel
theorem dX4_oneStep_492 : decode cX4_oneStep 492 = .ok (.aload_n 0, 1) := by decide +kernel
theorem dX4_oneStep_493 : decode cX4_oneStep 493 = .ok (.getfield 96, 3) := by decide +kernel
theorem dX4_oneStep_496 : decode cX4_oneStep 496 = .ok (.iload_n 1, 1) := by decide +kernel
theorem dX4_oneStep_497 : decode cX4_oneStep 497 = .ok (.iaload, 1) := by decide +kernel
theorem dX4_oneStep_498 : decode cX4_oneStep 498 = .ok (.iastore, 1) := by decide +kernel
theorem dX4_oneStep_499 : decode cX4_oneStep 499 = .ok (.aload_n 0, 1) := by decide +kernel
theorem dX4_oneStep_500 : decode cX4_oneStep 500 = .ok (.getfield 51, 3) := by decide +kernel
theorem dX4_oneStep_503 : decode cX4_oneStep 503 = .ok (.iload_n 1, 1) := by decide +kernel
theorem dX4_oneStep_504 : decode cX4_oneStep 504 = .ok (.iconst 3, 1) := by decide +kernel
theorem dX4_oneStep_505 : decode cX4_oneStep 505 = .ok (.iastore, 1) := by decide +kernel
theorem dX4_oneStep_506 : decode cX4_oneStep 506 = .ok (.goto 220, 3) := by decide +kernel
theorem dX4_oneStep_509 : decode cX4_oneStep 509 = .ok (.iload_n 2, 1) := by decide +kernel
theorem dX4_oneStep_510 : decode cX4_oneStep 510 = .ok (.bipush 10, 2) := by decide +kernel
theorem dX4_oneStep_512 : decode cX4_oneStep 512 = .ok (.if_icmp .ne 74, 3) := by decide +kernel
theorem dX4_oneStep_515 : decode cX4_oneStep 515 = .ok (.aload_n 0, 1) := by decide +kernel
theorem dX4_oneStep_516 : decode cX4_oneStep 516 = .ok (.getfield 51, 3) := by decide +kernel
theorem dX4_oneStep_519 : decode cX4_oneStep 519 = .ok (.iload_n 1, 1) := by decide +kernel
theorem dX4_oneStep_520 : decode cX4_oneStep 520 = .ok (.iconst 3, 1) := by decide +kernel
theorem dX4_oneStep_521 : decode cX4_oneStep 521 = .ok (.iastore, 1) := by decide +kernel
theorem dX4_oneStep_522 : decode cX4_oneStep 522 = .ok (.aload_n 0, 1) := by decide +kernel
theorem dX4_oneStep_523 : decode cX4_oneStep 523 = .ok (.aload_n 0, 1) := by decide +kernel
theorem dX4_oneStep_524 : decode cX4_oneStep 524 = .ok (.getfield 84, 3) := by decide +kernel
theorem dX4_oneStep_527 : decode cX4_oneStep 527 = .ok (.iload_n 1, 1) := by decide +kernel
theorem dX4_oneStep_528 : decode cX4_oneStep 528 = .ok (.iaload, 1) := by decide +kernel
theorem dX4_oneStep_529 : decode cX4_oneStep 529 = .ok (.aload_n 0, 1) := by decide +kernel
theorem dX4_oneStep_530 : decode cX4_oneStep 530 = .ok (.getfield 87, 3) := by decide +kernel
theorem dX4_oneStep_533 : decode cX4_oneStep 533 = .ok (.iload_n 1, 1) := by decide +kernel
theorem dX4_oneStep_534 : decode cX4_oneStep 534 = .ok (.iaload, 1) := by decide +kernel
theorem dX4_oneStep_535 : decode cX4_oneStep 535 = .ok (.aload_n 0, 1) := by decide +kernel
theorem dX4_oneStep_536 : decode cX4_oneStep 536 = .ok (.getfield 87, 3) := by decide +kernel
theorem dX4_oneStep_539 : decode cX4_oneStep 539 = .ok (.iload_n 1, 1) := by decide +kernel
theorem dX4_oneStep_540 : decode cX4_oneStep 540 = .ok (.iaload, 1) := by decide +kernel
theorem dX4_oneStep_541 : decode cX4_oneStep 541 = .ok (.iconst 1, 1) := by decide +kernel
theorem dX4_oneStep_542 : decode cX4_oneStep 542 = .ok (.invokevirtual 137, 3) := by decide +kernel
theorem dX4_oneStep_545 : decode cX4_oneStep 545 = .ok (.ifCond .eq 181, 3) := by decide +kernel
theorem dX4_oneStep_548 : decode cX4_oneStep 548 = .ok (.aload_n 0, 1) := by decide +kernel
theorem dX4_oneStep_549 : decode cX4_oneStep 549 = .ok (.dup, 1) := by decide +kernel
theorem dX4_oneStep_550 : decode cX4_oneStep 550 = .ok (.getfield 45, 3) := by decide +kernel
theorem dX4_oneStep_553 : decode cX4_oneStep 553 = .ok (.iconst 1, 1) := by decide +kernel
theorem dX4_oneStep_554 : decode cX4_oneStep 554 = .ok (.isub, 1) := by decide +kernel
theorem dX4_oneStep_555 : decode cX4_oneStep 555 = .ok (.putfield 45, 3) := by decide +kernel
theorem dX4_oneStep_558 : decode cX4_oneStep 558 = .ok (.aload_n 0, 1) := by decide +kernel
theorem dX4_oneStep_559 : decode cX4_oneStep 559 = .ok (.getfield 102, 3) := by decide +kernel
theorem dX4_oneStep_562 : decode cX4_oneStep 562 = .ok (.iload_n 1, 1) := by decide +kernel
theorem dX4_oneStep_563 : decode cX4_oneStep 563 = .ok (.aload_n 0, 1) := by decide +kernel
theorem dX4_oneStep_564 : decode cX4_oneStep 564 = .ok (.getfield 30, 3) := by decide +kernel
theorem dX4_oneStep_567 : decode cX4_oneStep 567 = .ok (.aload_n 0, 1) := by decide +kernel
theorem dX4_oneStep_568 : decode cX4_oneStep 568 = .ok (.getfield 84, 3) := by decide +kernel
theorem dX4_oneStep_571 : decode cX4_oneStep 571 = .ok (.iload_n 1, 1) := by decide +kernel
theorem dX4_oneStep_572 : decode cX4_oneStep 572 = .ok (.iaload, 1) := by decide +kernel
theorem dX4_oneStep_573 : decode cX4_oneStep 573 = .ok (.iaload, 1) := by decide +kernel
theorem dX4_oneStep_574 : decode cX4_oneStep 574 = .ok (.iastore, 1) := by decide +kernel
theorem dX4_oneStep_575 : decode cX4_oneStep 575 = .ok (.aload_n 0, 1) := by decide +kernel
theorem dX4_oneStep_576 : decode cX4_oneStep 576 = .ok (.getfield 51, 3) := by decide +kernel
theorem dX4_oneStep_579 : decode cX4_oneStep 579 = .ok (.iload_n 1, 1) := by decide +kernel
theorem dX4_oneStep_580 : decode cX4_oneStep 580 = .ok (.bipush 11, 2) := by decide +kernel
theorem dX4_oneStep_582 : decode cX4_oneStep 582 = .ok (.iastore, 1) := by decide +kernel
theorem dX4_oneStep_583 : decode cX4_oneStep 583 = .ok (.goto 143, 3) := by decide +kernel
theorem dX4_oneStep_586 : decode cX4_oneStep 586 = .ok (.iload_n 2, 1) := by decide +kernel
theorem dX4_oneStep_587 : decode cX4_oneStep 587 = .ok (.bipush 11, 2) := by decide +kernel
theorem dX4_oneStep_589 : decode cX4_oneStep 589 = .ok (.if_icmp .ne 68, 3) := by decide +kernel
theorem dX4_oneStep_592 : decode cX4_oneStep 592 = .ok (.aload_n 0, 1) := by decide +kernel
theorem dX4_oneStep_593 : decode cX4_oneStep 593 = .ok (.aload_n 0, 1) := by decide +kernel
theorem dX4_oneStep_594 : decode cX4_oneStep 594 = .ok (.getfield 81, 3) := by decide +kernel
theorem dX4_oneStep_597 : decode cX4_oneStep 597 = .ok (.iload_n 1, 1) := by decide +kernel
theorem dX4_oneStep_598 : decode cX4_oneStep 598 = .ok (.iaload, 1) := by decide +kernel
theorem dX4_oneStep_599 : decode cX4_oneStep 599 = .ok (.aload_n 0, 1) := by decide +kernel
theorem dX4_oneStep_600 : decode cX4_oneStep 600 = .ok (.getfield 84, 3) := by decide +kernel
theorem dX4_oneStep_603 : decode cX4_oneStep 603 = .ok (.iload_n 1, 1) := by decide +kernel
theorem dX4_oneStep_604 : decode cX4_oneStep 604 = .ok (.iaload, 1) := by decide +kernel
theorem dX4_oneStep_605 : decode cX4_oneStep 605 = .ok (.aload_n 0, 1) := by decide +kernel
theorem dX4_oneStep_606 : decode cX4_oneStep 606 = .ok (.getfield 87, 3) := by decide +kernel
theorem dX4_oneStep_609 : decode cX4_oneStep 609 = .ok (.iload_n 1, 1) := by decide +kernel
theorem dX4_oneStep_610 : decode cX4_oneStep 610 = .ok (.iaload, 1) := by decide +kernel
theorem dX4_oneStep_611 : decode cX4_oneStep 611 = .ok (.iconst 0, 1) := by decide +kernel
theorem dX4_oneStep_612 : decode cX4_oneStep 612 = .ok (.invokevirtual 137, 3) := by decide +kernel
theorem dX4_oneStep_615 : decode cX4_oneStep 615 = .ok (.ifCond .eq 25, 3) := by decide +kernel
theorem dX4_oneStep_618 : decode cX4_oneStep 618 = .ok (.aload_n 0, 1) := by decide +kernel
theorem dX4_oneStep_619 : decode cX4_oneStep 619 = .ok (.iload_n 1, 1) := by decide +kernel
theorem dX4_oneStep_620 : decode cX4_oneStep 620 = .ok (.aload_n 0, 1) := by decide +kernel
theorem dX4_oneStep_621 : decode cX4_oneStep 621 = .ok (.getfield 84, 3) := by decide +kernel
theorem dX4_oneStep_624 : decode cX4_oneStep 624 = .ok (.iload_n 1, 1) := by decide +kernel
theorem dX4_oneStep_625 : decode cX4_oneStep 625 = .ok (.iaload, 1) := by decide +kernel
theorem dX4_oneStep_626 : decode cX4_oneStep 626 = .ok (.invokevirtual 152, 3) := by decide +kernel
theorem dX4_oneStep_629 : decode cX4_oneStep 629 = .ok (.aload_n 0, 1) := by decide +kernel
theorem dX4_oneStep_630 : decode cX4_oneStep 630 = .ok (.getfield 51, 3) := by decide +kernel
theorem dX4_oneStep_633 : decode cX4_oneStep 633 = .ok (.iload_n 1, 1) := by decide +kernel
theorem dX4_oneStep_634 : decode cX4_oneStep 634 = .ok (.bipush 12, 2) := by decide +kernel
theorem dX4_oneStep_636 : decode cX4_oneStep 636 = .ok (.iastore, 1) := by decide +kernel
theorem dX4_oneStep_637 : decode cX4_oneStep 637 = .ok (.goto 89, 3) := by decide +kernel
theorem dX4_oneStep_640 : decode cX4_oneStep 640 = .ok (.aload_n 0, 1) := by decide +kernel
theorem dX4_oneStep_641 : decode cX4_oneStep 641 = .ok (.getfield 99, 3) := by decide +kernel
theorem dX4_oneStep_644 : decode cX4_oneStep 644 = .ok (.iload_n 1, 1) := by decide +kernel
theorem dX4_oneStep_645 : decode cX4_oneStep 645 = .ok (.iconst 1, 1) := by decide +kernel
theorem dX4_oneStep_646 : decode cX4_oneStep 646 = .ok (.bastore, 1) := by decide +kernel
theorem dX4_oneStep_647 : decode cX4_oneStep 647 = .ok (.aload_n 0, 1) := by decide +kernel
theorem dX4_oneStep_648 : decode cX4_oneStep 648 = .ok (.getfield 51, 3) := by decide +kernel
theorem dX4_oneStep_651 : decode cX4_oneStep 651 = .ok (.iload_n 1, 1) := by decide +kernel
theorem dX4_oneStep_652 : decode cX4_oneStep 652 = .ok (.iconst 3, 1) := by decide +kernel
theorem dX4_oneStep_653 : decode cX4_oneStep 653 = .ok (.iastore, 1) := by decide +kernel
theorem dX4_oneStep_654 : decode cX4_oneStep 654 = .ok (.goto 72, 3) := by decide +kernel
theorem dX4_oneStep_657 : decode cX4_oneStep 657 = .ok (.iload_n 2, 1) := by decide +kernel
theorem dX4_oneStep_658 : decode cX4_oneStep 658 = .ok (.bipush 12, 2) := by decide +kernel
theorem dX4_oneStep_660 : decode cX4_oneStep 660 = .ok (.if_icmp .ne 22, 3) := by decide +kernel
theorem dX4_oneStep_663 : decode cX4_oneStep 663 = .ok (.aload_n 0, 1) := by decide +kernel
theorem dX4_oneStep_664 : decode cX4_oneStep 664 = .ok (.iload_n 1, 1) := by decide +kernel
theorem dX4_oneStep_665 : decode cX4_oneStep 665 = .ok (.invokevirtual 161, 3) := by decide +kernel
theorem dX4_oneStep_668 : decode cX4_oneStep 668 = .ok (.aload_n 0, 1) := by decide +kernel
theorem dX4_oneStep_669 : decode cX4_oneStep 669 = .ok (.iload_n 1, 1) := by decide +kernel
theorem dX4_oneStep_670 : decode cX4_oneStep 670 = .ok (.aload_n 0, 1) := by decide +kernel
theorem dX4_oneStep_671 : decode cX4_oneStep 671 = .ok (.getfield 102, 3) := by decide +kernel
theorem dX4_oneStep_674 : decode cX4_oneStep 674 = .ok (.iload_n 1, 1) := by decide +kernel
theorem dX4_oneStep_675 : decode cX4_oneStep 675 = .ok (.iaload, 1) := by decide +kernel
theorem dX4_oneStep_676 : decode cX4_oneStep 676 = .ok (.invokevirtual 126, 3) := by decide +kernel
theorem dX4_oneStep_679 : decode cX4_oneStep 679 = .ok (.goto 47, 3) := by decide +kernel
theorem dX4_oneStep_682 : decode cX4_oneStep 682 = .ok (.iload_n 2, 1) := by decide +kernel
theorem dX4_oneStep_683 : decode cX4_oneStep 683 = .ok (.bipush 13, 2) := by decide +kernel
theorem dX4_oneStep_685 : decode cX4_oneStep 685 = .ok (.if_icmp .ne 41, 3) := by decide +kernel
theorem dX4_oneStep_688 : decode cX4_oneStep 688 = .ok (.aload_n 0, 1) := by decide +kernel
theorem dX4_oneStep_689 : decode cX4_oneStep 689 = .ok (.getfield 45, 3) := by decide +kernel
theorem dX4_oneStep_692 : decode cX4_oneStep 692 = .ok (.iconst 2, 1) := by decide +kernel
theorem dX4_oneStep_693 : decode cX4_oneStep 693 = .ok (.aload_n 0, 1) := by decide +kernel
theorem dX4_oneStep_694 : decode cX4_oneStep 694 = .ok (.getfield 42, 3) := by decide +kernel
theorem dX4_oneStep_697 : decode cX4_oneStep 697 = .ok (.imul, 1) := by decide +kernel
theorem dX4_oneStep_698 : decode cX4_oneStep 698 = .ok (.if_icmp .le 22, 3) := by decide +kernel
theorem dX4_oneStep_701 : decode cX4_oneStep 701 = .ok (.aload_n 0, 1) := by decide +kernel
theorem dX4_oneStep_702 : decode cX4_oneStep 702 = .ok (.getfield 42, 3) := by decide +kernel
theorem dX4_oneStep_705 : decode cX4_oneStep 705 = .ok (.bipush 16, 2) := by decide +kernel
theorem dX4_oneStep_707 : decode cX4_oneStep 707 = .ok (.if_icmp .ge 13, 3) := by decide +kernel
theorem dX4_oneStep_710 : decode cX4_oneStep 710 = .ok (.aload_n 0, 1) := by decide +kernel
theorem dX4_oneStep_711 : decode cX4_oneStep 711 = .ok (.dup, 1) := by decide +kernel
theorem dX4_oneStep_712 : decode cX4_oneStep 712 = .ok (.getfield 42, 3) := by decide +kernel
theorem dX4_oneStep_715 : decode cX4_oneStep 715 = .ok (.iconst 2, 1) := by decide +kernel
theorem dX4_oneStep_716 : decode cX4_oneStep 716 = .ok (.imul, 1) := by decide +kernel
theorem dX4_oneStep_717 : decode cX4_oneStep 717 = .ok (.putfield 42, 3) := by decide +kernel
theorem dX4_oneStep_720 : decode cX4_oneStep 720 = .ok (.aload_n 0, 1) := by decide +kernel
theorem dX4_oneStep_721 : decode cX4_oneStep 721 = .ok (.iload_n 1, 1) := by decide +kernel
theorem dX4_oneStep_722 : decode cX4_oneStep 722 = .ok (.iconst 1, 1) := by decide +kernel
theorem dX4_oneStep_723 : decode cX4_oneStep 723 = .ok (.invokevirtual 126, 3) := by decide +kernel
theorem dX4_oneStep_726 : decode cX4_oneStep 726 = .ok (.return_, 1) := by decide +kernel
theorem dX4_step_0 : decode cX4_step 0 = .ok (.aload_n 0, 1) := by decide +kernel
theorem dX4_step_1 : decode cX4_step 1 = .ok (.iconst 0, 1) := by decide +kernel
theorem dX4_step_2 : decode cX4_step 2 = .ok (.putfield 7, 3) := by decide +kernel
theorem dX4_step_5 : decode cX4_step 5 = .ok (.iload_n 1, 1) := by decide +kernel
theorem dX4_step_6 : decode cX4_step 6 = .ok (.iconst 0, 1) := by decide +kernel
theorem dX4_step_7 : decode cX4_step 7 = .ok (.iconst 3, 1) := by decide +kernel
theorem dX4_step_8 : decode cX4_step 8 = .ok (.invokestatic 121, 3) := by decide +kernel
theorem dX4_step_11 : decode cX4_step 11 = .ok (.ifCond .ne 5, 3) := by decide +kernel
theorem dX4_step_14 : decode cX4_step 14 = .ok (.iconst (-1), 1) := by decide +kernel
theorem dX4_step_15 : decode cX4_step 15 = .ok (.ireturn, 1) := by decide +kernel
theorem dX4_step_16 : decode cX4_step 16 = .ok (.aload_n 0, 1) := by decide +kernel
theorem dX4_step_17 : decode cX4_step 17 = .ok (.iload_n 1, 1) := by decide +kernel
theorem dX4_step_18 : decode cX4_step 18 = .ok (.invokevirtual 164, 3) := by decide +kernel
theorem dX4_step_21 : decode cX4_step 21 = .ok (.aload_n 0, 1) := by decide +kernel
theorem dX4_step_22 : decode cX4_step 22 = .ok (.getfield 51, 3) := by decide +kernel
theorem dX4_step_25 : decode cX4_step 25 = .ok (.iload_n 1, 1) := by decide +kernel
theorem dX4_step_26 : decode cX4_step 26 = .ok (.iaload, 1) := by decide +kernel
theorem dX4_step_27 : decode cX4_step 27 = .ok (.ireturn, 1) := by decide +kernel
theorem dX4_run_0 : decode cX4_run 0 = .ok (.aload_n 0, 1) := by decide +kernel
theorem dX4_run_1 : decode cX4_run 1 = .ok (.iconst 0, 1) := by decide +kernel
theorem dX4_run_2 : decode cX4_run 2 = .ok (.putfield 7, 3) := by decide +kernel
theorem dX4_run_5 : decode cX4_run 5 = .ok (.iload_n 1, 1) := by decide +kernel
theorem dX4_run_6 : decode cX4_run 6 = .ok (.iconst 0, 1) := by decide +kernel
theorem dX4_run_7 : decode cX4_run 7 = .ok (.iconst 3, 1) := by decide +kernel
theorem dX4_run_8 : decode cX4_run 8 = .ok (.invokestatic 121, 3) := by decide +kernel
theorem dX4_run_11 : decode cX4_run 11 = .ok (.ifCond .eq 14, 3) := by decide +kernel
theorem dX4_run_14 : decode cX4_run 14 = .ok (.iload_n 2, 1) := by decide +kernel
theorem dX4_run_15 : decode cX4_run 15 = .ok (.iconst 0, 1) := by decide +kernel
theorem dX4_run_16 : decode cX4_run 16 = .ok (.sipush 1000, 3) := by decide +kernel
theorem dX4_run_19 : decode cX4_run 19 = .ok (.invokestatic 121, 3) := by decide +kernel
theorem dX4_run_22 : decode cX4_run 22 = .ok (.ifCond .ne 5, 3) := by decide +kernel
theorem dX4_run_25 : decode cX4_run 25 = .ok (.iconst (-1), 1) := by decide +kernel
theorem dX4_run_26 : decode cX4_run 26 = .ok (.ireturn, 1) := by decide +kernel
theorem dX4_run_27 : decode cX4_run 27 = .ok (.iconst 0, 1) := by decide +kernel
theorem dX4_run_28 : decode cX4_run 28 = .ok (.istore_n 3, 1) := by decide +kernel
theorem dX4_run_29 : decode cX4_run 29 = .ok (.iload_n 3, 1) := by decide +kernel
theorem dX4_run_30 : decode cX4_run 30 = .ok (.iload_n 2, 1) := by decide +kernel
theorem dX4_run_31 : decode cX4_run 31 = .ok (.if_icmp .ge 23, 3) := by decide +kernel
theorem dX4_run_34 : decode cX4_run 34 = .ok (.aload_n 0, 1) := by decide +kernel
theorem dX4_run_35 : decode cX4_run 35 = .ok (.getfield 51, 3) := by decide +kernel
theorem dX4_run_38 : decode cX4_run 38 = .ok (.iload_n 1, 1) := by decide +kernel
theorem dX4_run_39 : decode cX4_run 39 = .ok (.iaload, 1) := by decide +kernel
theorem dX4_run_40 : decode cX4_run 40 = .ok (.ifCond .eq 14, 3) := by decide +kernel
theorem dX4_run_43 : decode cX4_run 43 = .ok (.aload_n 0, 1) := by decide +kernel
theorem dX4_run_44 : decode cX4_run 44 = .ok (.iload_n 1, 1) := by decide +kernel
theorem dX4_run_45 : decode cX4_run 45 = .ok (.invokevirtual 164, 3) := by decide +kernel
theorem dX4_run_48 : decode cX4_run 48 = .ok (.iinc 3 1, 3) := by decide +kernel
theorem dX4_run_51 : decode cX4_run 51 = .ok (.goto (-22), 3) := by decide +kernel
theorem dX4_run_54 : decode cX4_run 54 = .ok (.iload_n 3, 1) := by decide +kernel
theorem dX4_run_55 : decode cX4_run 55 = .ok (.ireturn, 1) := by decide +kernel
theorem dX4_result_0 : decode cX4_result 0 = .ok (.aload_n 0, 1) := by decide +kernel
theorem dX4_result_1 : decode cX4_result 1 = .ok (.iconst 0, 1) := by decide +kernel
theorem dX4_result_2 : decode cX4_result 2 = .ok (.putfield 7, 3) := by decide +kernel
theorem dX4_result_5 : decode cX4_result 5 = .ok (.iload_n 1, 1) := by decide +kernel
theorem dX4_result_6 : decode cX4_result 6 = .ok (.iconst 0, 1) := by decide +kernel
theorem dX4_result_7 : decode cX4_result 7 = .ok (.iconst 3, 1) := by decide +kernel
theorem dX4_result_8 : decode cX4_result 8 = .ok (.invokestatic 121, 3) := by decide +kernel
theorem dX4_result_11 : decode cX4_result 11 = .ok (.ifCond .ne 10, 3) := by decide +kernel
theorem dX4_result_14 : decode cX4_result 14 = .ok (.aload_n 0, 1) := by decide +kernel
theorem dX4_result_15 : decode cX4_result 15 = .ok (.iconst 1, 1) := by decide +kernel
theorem dX4_result_16 : decode cX4_result 16 = .ok (.putfield 7, 3) := by decide +kernel
theorem dX4_result_19 : decode cX4_result 19 = .ok (.iconst 0, 1) := by decide +kernel
theorem dX4_result_20 : decode cX4_result 20 = .ok (.ireturn, 1) := by decide +kernel
theorem dX4_result_21 : decode cX4_result 21 = .ok (.aload_n 0, 1) := by decide +kernel
theorem dX4_result_22 : decode cX4_result 22 = .ok (.getfield 111, 3) := by decide +kernel
theorem dX4_result_25 : decode cX4_result 25 = .ok (.iload_n 1, 1) := by decide +kernel
theorem dX4_result_26 : decode cX4_result 26 = .ok (.iaload, 1) := by decide +kernel
theorem dX4_result_27 : decode cX4_result 27 = .ok (.ireturn, 1) := by decide +kernel
theorem dX4_process_0 : decode cX4_process 0 = .ok (.aload_n 0, 1) := by decide +kernel
theorem dX4_process_1 : decode cX4_process 1 = .ok (.iconst 0, 1) := by decide +kernel
theorem dX4_process_2 : decode cX4_process 2 = .ok (.putfield 7, 3) := by decide +kernel
theorem dX4_process_5 : decode cX4_process 5 = .ok (.iload_n 1, 1) := by decide +kernel
theorem dX4_process_6 : decode cX4_process 6 = .ok (.istore_n 3, 1) := by decide +kernel
theorem dX4_process_7 : decode cX4_process 7 = .ok (.iload_n 3, 1) := by decide +kernel
theorem dX4_process_8 : decode cX4_process 8 = .ok (.iconst 0, 1) := by decide +kernel
theorem dX4_process_9 : decode cX4_process 9 = .ok (.iconst 3, 1) := by decide +kernel
theorem dX4_process_10 : decode cX4_process 10 = .ok (.invokestatic 121, 3) := by decide +kernel
theorem dX4_process_13 : decode cX4_process 13 = .ok (.ifCond .eq 13, 3) := by decide +kernel
theorem dX4_process_16 : decode cX4_process 16 = .ok (.iload_n 2, 1) := by decide +kernel
theorem dX4_process_17 : decode cX4_process 17 = .ok (.iconst 0, 1) := by decide +kernel
theorem dX4_process_18 : decode cX4_process 18 = .ok (.bipush 8, 2) := by decide +kernel
theorem dX4_process_20 : decode cX4_process 20 = .ok (.invokestatic 121, 3) := by decide +kernel
theorem dX4_process_23 : decode cX4_process 23 = .ok (.ifCond .ne 10, 3) := by decide +kernel
theorem dX4_process_26 : decode cX4_process 26 = .ok (.aload_n 0, 1) := by decide +kernel
theorem dX4_process_27 : decode cX4_process 27 = .ok (.iconst 1, 1) := by decide +kernel
theorem dX4_process_28 : decode cX4_process 28 = .ok (.putfield 7, 3) := by decide +kernel
theorem dX4_process_31 : decode cX4_process 31 = .ok (.iconst 0, 1) := by decide +kernel
theorem dX4_process_32 : decode cX4_process 32 = .ok (.ireturn, 1) := by decide +kernel
theorem dX4_process_33 : decode cX4_process 33 = .ok (.iload_n 2, 1) := by decide +kernel
theorem dX4_process_34 : decode cX4_process 34 = .ok (.ifCond .ne 10, 3) := by decide +kernel
theorem dX4_process_37 : decode cX4_process 37 = .ok (.aload_n 0, 1) := by decide +kernel
theorem dX4_process_38 : decode cX4_process 38 = .ok (.getfield 51, 3) := by decide +kernel
theorem dX4_process_41 : decode cX4_process 41 = .ok (.iload_n 3, 1) := by decide +kernel
theorem dX4_process_42 : decode cX4_process 42 = .ok (.iaload, 1) := by decide +kernel
theorem dX4_process_43 : decode cX4_process 43 = .ok (.ireturn, 1) := by decide +kernel
theorem dX4_process_44 : decode cX4_process 44 = .ok (.iload_n 2, 1) := by decide +kernel
theorem dX4_process_45 : decode cX4_process 45 = .ok (.iconst 1, 1) := by decide +kernel
theorem dX4_process_46 : decode cX4_process 46 = .ok (.if_icmp .ne 10, 3) := by decide +kernel
theorem dX4_process_49 : decode cX4_process 49 = .ok (.aload_n 0, 1) := by decide +kernel
theorem dX4_process_50 : decode cX4_process 50 = .ok (.getfield 63, 3) := by decide +kernel
theorem dX4_process_53 : decode cX4_process 53 = .ok (.iload_n 3, 1) := by decide +kernel
theorem dX4_process_54 : decode cX4_process 54 = .ok (.iaload, 1) := by decide +kernel
theorem dX4_process_55 : decode cX4_process 55 = .ok (.ireturn, 1) := by decide +kernel
theorem dX4_process_56 : decode cX4_process 56 = .ok (.iload_n 2, 1) := by decide +kernel
theorem dX4_process_57 : decode cX4_process 57 = .ok (.iconst 2, 1) := by decide +kernel
theorem dX4_process_58 : decode cX4_process 58 = .ok (.if_icmp .ne 10, 3) := by decide +kernel
theorem dX4_process_61 : decode cX4_process 61 = .ok (.aload_n 0, 1) := by decide +kernel
theorem dX4_process_62 : decode cX4_process 62 = .ok (.getfield 66, 3) := by decide +kernel
theorem dX4_process_65 : decode cX4_process 65 = .ok (.iload_n 3, 1) := by decide +kernel
theorem dX4_process_66 : decode cX4_process 66 = .ok (.iaload, 1) := by decide +kernel
theorem dX4_process_67 : decode cX4_process 67 = .ok (.ireturn, 1) := by decide +kernel
theorem dX4_process_68 : decode cX4_process 68 = .ok (.iload_n 2, 1) := by decide +kernel
theorem dX4_process_69 : decode cX4_process 69 = .ok (.iconst 3, 1) := by decide +kernel
theorem dX4_process_70 : decode cX4_process 70 = .ok (.if_icmp .ne 10, 3) := by decide +kernel
theorem dX4_process_73 : decode cX4_process 73 = .ok (.aload_n 0, 1) := by decide +kernel
theorem dX4_process_74 : decode cX4_process 74 = .ok (.getfield 108, 3) := by decide +kernel
theorem dX4_process_77 : decode cX4_process 77 = .ok (.iload_n 3, 1) := by decide +kernel
theorem dX4_process_78 : decode cX4_process 78 = .ok (.iaload, 1) := by decide +kernel
theorem dX4_process_79 : decode cX4_process 79 = .ok (.ireturn, 1) := by decide +kernel
theorem dX4_process_80 : decode cX4_process 80 = .ok (.iload_n 2, 1) := by decide +kernel
theorem dX4_process_81 : decode cX4_process 81 = .ok (.iconst 4, 1) := by decide +kernel
theorem dX4_process_82 : decode cX4_process 82 = .ok (.if_icmp .ne 10, 3) := by decide +kernel
theorem dX4_process_85 : decode cX4_process 85 = .ok (.aload_n 0, 1) := by decide +kernel
theorem dX4_process_86 : decode cX4_process 86 = .ok (.getfield 75, 3) := by decide +kernel
theorem dX4_process_89 : decode cX4_process 89 = .ok (.iload_n 3, 1) := by decide +kernel
theorem dX4_process_90 : decode cX4_process 90 = .ok (.iaload, 1) := by decide +kernel
theorem dX4_process_91 : decode cX4_process 91 = .ok (.ireturn, 1) := by decide +kernel
theorem dX4_process_92 : decode cX4_process 92 = .ok (.aload_n 0, 1) := by decide +kernel
theorem dX4_process_93 : decode cX4_process 93 = .ok (.getfield 51, 3) := by decide +kernel
theorem dX4_process_96 : decode cX4_process 96 = .ok (.iload_n 3, 1) := by decide +kernel
theorem dX4_process_97 : decode cX4_process 97 = .ok (.iaload, 1) := by decide +kernel
theorem dX4_process_98 : decode cX4_process 98 = .ok (.ifCond .ne 5, 3) := by decide +kernel
theorem dX4_process_101 : decode cX4_process 101 = .ok (.iconst (-1), 1) := by decide +kernel
theorem dX4_process_102 : decode cX4_process 102 = .ok (.ireturn, 1) := by decide +kernel
theorem dX4_process_103 : decode cX4_process 103 = .ok (.iload_n 2, 1) := by decide +kernel
theorem dX4_process_104 : decode cX4_process 104 = .ok (.iconst 5, 1) := by decide +kernel
theorem dX4_process_105 : decode cX4_process 105 = .ok (.if_icmp .ne 10, 3) := by decide +kernel
theorem dX4_process_108 : decode cX4_process 108 = .ok (.aload_n 0, 1) := by decide +kernel
theorem dX4_process_109 : decode cX4_process 109 = .ok (.getfield 81, 3) := by decide +kernel
theorem dX4_process_112 : decode cX4_process 112 = .ok (.iload_n 3, 1) := by decide +kernel
theorem dX4_process_113 : decode cX4_process 113 = .ok (.iaload, 1) := by decide +kernel
theorem dX4_process_114 : decode cX4_process 114 = .ok (.ireturn, 1) := by decide +kernel
theorem dX4_process_115 : decode cX4_process 115 = .ok (.iload_n 2, 1) := by decide +kernel
theorem dX4_process_116 : decode cX4_process 116 = .ok (.bipush 6, 2) := by decide +kernel
theorem dX4_process_118 : decode cX4_process 118 = .ok (.if_icmp .ne 10, 3) := by decide +kernel
theorem dX4_process_121 : decode cX4_process 121 = .ok (.aload_n 0, 1) := by decide +kernel
theorem dX4_process_122 : decode cX4_process 122 = .ok (.getfield 84, 3) := by decide +kernel
theorem dX4_process_125 : decode cX4_process 125 = .ok (.iload_n 3, 1) := by decide +kernel
theorem dX4_process_126 : decode cX4_process 126 = .ok (.iaload, 1) := by decide +kernel
theorem dX4_process_127 : decode cX4_process 127 = .ok (.ireturn, 1) := by decide +kernel
theorem dX4_process_128 : decode cX4_process 128 = .ok (.iload_n 2, 1) := by decide +kernel
theorem dX4_process_129 : decode cX4_process 129 = .ok (.bipush 7, 2) := by decide +kernel
theorem dX4_process_131 : decode cX4_process 131 = .ok (.if_icmp .ne 10, 3) := by decide +kernel
theorem dX4_process_134 : decode cX4_process 134 = .ok (.aload_n 0, 1) := by decide +kernel
theorem dX4_process_135 : decode cX4_process 135 = .ok (.getfield 87, 3) := by decide +kernel
theorem dX4_process_138 : decode cX4_process 138 = .ok (.iload_n 3, 1) := by decide +kernel
theorem dX4_process_139 : decode cX4_process 139 = .ok (.iaload, 1) := by decide +kernel
theorem dX4_process_140 : decode cX4_process 140 = .ok (.ireturn, 1) := by decide +kernel
theorem dX4_process_141 : decode cX4_process 141 = .ok (.aload_n 0, 1) := by decide +kernel
theorem dX4_process_142 : decode cX4_process 142 = .ok (.getfield 93, 3) := by decide +kernel
theorem dX4_process_145 : decode cX4_process 145 = .ok (.iload_n 3, 1) := by decide +kernel
theorem dX4_process_146 : decode cX4_process 146 = .ok (.iaload, 1) := by decide +kernel
theorem dX4_process_147 : decode cX4_process 147 = .ok (.ireturn, 1) := by decide +kernel
theorem dX4_node_0 : decode cX4_node 0 = .ok (.aload_n 0, 1) := by decide +kernel
theorem dX4_node_1 : decode cX4_node 1 = .ok (.iconst 0, 1) := by decide +kernel
theorem dX4_node_2 : decode cX4_node 2 = .ok (.putfield 7, 3) := by decide +kernel
theorem dX4_node_5 : decode cX4_node 5 = .ok (.iload_n 1, 1) := by decide +kernel
theorem dX4_node_6 : decode cX4_node 6 = .ok (.iconst 0, 1) := by decide +kernel
theorem dX4_node_7 : decode cX4_node 7 = .ok (.bipush 63, 2) := by decide +kernel
theorem dX4_node_9 : decode cX4_node 9 = .ok (.invokestatic 121, 3) := by decide +kernel
theorem dX4_node_12 : decode cX4_node 12 = .ok (.ifCond .eq 13, 3) := by decide +kernel
theorem dX4_node_15 : decode cX4_node 15 = .ok (.iload_n 2, 1) := by decide +kernel
theorem dX4_node_16 : decode cX4_node 16 = .ok (.iconst 0, 1) := by decide +kernel
theorem dX4_node_17 : decode cX4_node 17 = .ok (.bipush 7, 2) := by decide +kernel
theorem dX4_node_19 : decode cX4_node 19 = .ok (.invokestatic 121, 3) := by decide +kernel
theorem dX4_node_22 : decode cX4_node 22 = .ok (.ifCond .ne 10, 3) := by decide +kernel
theorem dX4_node_25 : decode cX4_node 25 = .ok (.aload_n 0, 1) := by decide +kernel
theorem dX4_node_26 : decode cX4_node 26 = .ok (.iconst 1, 1) := by decide +kernel
theorem dX4_node_27 : decode cX4_node 27 = .ok (.putfield 7, 3) := by decide +kernel
theorem dX4_node_30 : decode cX4_node 30 = .ok (.iconst 0, 1) := by decide +kernel
theorem dX4_node_31 : decode cX4_node 31 = .ok (.ireturn, 1) := by decide +kernel
theorem dX4_node_32 : decode cX4_node 32 = .ok (.iload_n 2, 1) := by decide +kernel
theorem dX4_node_33 : decode cX4_node 33 = .ok (.ifCond .ne 10, 3) := by decide +kernel
theorem dX4_node_36 : decode cX4_node 36 = .ok (.aload_n 0, 1) := by decide +kernel
theorem dX4_node_37 : decode cX4_node 37 = .ok (.getfield 13, 3) := by decide +kernel
theorem dX4_node_40 : decode cX4_node 40 = .ok (.iload_n 1, 1) := by decide +kernel
theorem dX4_node_41 : decode cX4_node 41 = .ok (.iaload, 1) := by decide +kernel
theorem dX4_node_42 : decode cX4_node 42 = .ok (.ireturn, 1) := by decide +kernel
theorem dX4_node_43 : decode cX4_node 43 = .ok (.iload_n 2, 1) := by decide +kernel
theorem dX4_node_44 : decode cX4_node 44 = .ok (.iconst 1, 1) := by decide +kernel
theorem dX4_node_45 : decode cX4_node 45 = .ok (.if_icmp .ne 10, 3) := by decide +kernel
theorem dX4_node_48 : decode cX4_node 48 = .ok (.aload_n 0, 1) := by decide +kernel
theorem dX4_node_49 : decode cX4_node 49 = .ok (.getfield 17, 3) := by decide +kernel
theorem dX4_node_52 : decode cX4_node 52 = .ok (.iload_n 1, 1) := by decide +kernel
theorem dX4_node_53 : decode cX4_node 53 = .ok (.iaload, 1) := by decide +kernel
theorem dX4_node_54 : decode cX4_node 54 = .ok (.ireturn, 1) := by decide +kernel
theorem dX4_node_55 : decode cX4_node 55 = .ok (.iload_n 2, 1) := by decide +kernel
theorem dX4_node_56 : decode cX4_node 56 = .ok (.iconst 2, 1) := by decide +kernel
theorem dX4_node_57 : decode cX4_node 57 = .ok (.if_icmp .ne 10, 3) := by decide +kernel
theorem dX4_node_60 : decode cX4_node 60 = .ok (.aload_n 0, 1) := by decide +kernel
theorem dX4_node_61 : decode cX4_node 61 = .ok (.getfield 20, 3) := by decide +kernel
theorem dX4_node_64 : decode cX4_node 64 = .ok (.iload_n 1, 1) := by decide +kernel
theorem dX4_node_65 : decode cX4_node 65 = .ok (.iaload, 1) := by decide +kernel
theorem dX4_node_66 : decode cX4_node 66 = .ok (.ireturn, 1) := by decide +kernel
theorem dX4_node_67 : decode cX4_node 67 = .ok (.iload_n 2, 1) := by decide +kernel
theorem dX4_node_68 : decode cX4_node 68 = .ok (.iconst 4, 1) := by decide +kernel
theorem dX4_node_69 : decode cX4_node 69 = .ok (.if_icmp .ne 10, 3) := by decide +kernel
theorem dX4_node_72 : decode cX4_node 72 = .ok (.aload_n 0, 1) := by decide +kernel
theorem dX4_node_73 : decode cX4_node 73 = .ok (.getfield 27, 3) := by decide +kernel
theorem dX4_node_76 : decode cX4_node 76 = .ok (.iload_n 1, 1) := by decide +kernel
theorem dX4_node_77 : decode cX4_node 77 = .ok (.iaload, 1) := by decide +kernel
theorem dX4_node_78 : decode cX4_node 78 = .ok (.ireturn, 1) := by decide +kernel
theorem dX4_node_79 : decode cX4_node 79 = .ok (.iload_n 2, 1) := by decide +kernel
theorem dX4_node_80 : decode cX4_node 80 = .ok (.iconst 5, 1) := by decide +kernel
theorem dX4_node_81 : decode cX4_node 81 = .ok (.if_icmp .ne 10, 3) := by decide +kernel
theorem dX4_node_84 : decode cX4_node 84 = .ok (.aload_n 0, 1) := by decide +kernel
theorem dX4_node_85 : decode cX4_node 85 = .ok (.getfield 30, 3) := by decide +kernel
theorem dX4_node_88 : decode cX4_node 88 = .ok (.iload_n 1, 1) := by decide +kernel
theorem dX4_node_89 : decode cX4_node 89 = .ok (.iaload, 1) := by decide +kernel
theorem dX4_node_90 : decode cX4_node 90 = .ok (.ireturn, 1) := by decide +kernel
theorem dX4_node_91 : decode cX4_node 91 = .ok (.iload_n 2, 1) := by decide +kernel
theorem dX4_node_92 : decode cX4_node 92 = .ok (.bipush 6, 2) := by decide +kernel
theorem dX4_node_94 : decode cX4_node 94 = .ok (.if_icmp .ne 10, 3) := by decide +kernel
theorem dX4_node_97 : decode cX4_node 97 = .ok (.aload_n 0, 1) := by decide +kernel
theorem dX4_node_98 : decode cX4_node 98 = .ok (.getfield 33, 3) := by decide +kernel
theorem dX4_node_101 : decode cX4_node 101 = .ok (.iload_n 1, 1) := by decide +kernel
theorem dX4_node_102 : decode cX4_node 102 = .ok (.iaload, 1) := by decide +kernel
theorem dX4_node_103 : decode cX4_node 103 = .ok (.ireturn, 1) := by decide +kernel
theorem dX4_node_104 : decode cX4_node 104 = .ok (.iload_n 2, 1) := by decide +kernel
theorem dX4_node_105 : decode cX4_node 105 = .ok (.bipush 7, 2) := by decide +kernel
theorem dX4_node_107 : decode cX4_node 107 = .ok (.if_icmp .ne 10, 3) := by decide +kernel
theorem dX4_node_110 : decode cX4_node 110 = .ok (.aload_n 0, 1) := by decide +kernel
theorem dX4_node_111 : decode cX4_node 111 = .ok (.getfield 36, 3) := by decide +kernel
theorem dX4_node_114 : decode cX4_node 114 = .ok (.iload_n 1, 1) := by decide +kernel
theorem dX4_node_115 : decode cX4_node 115 = .ok (.iaload, 1) := by decide +kernel
theorem dX4_node_116 : decode cX4_node 116 = .ok (.ireturn, 1) := by decide +kernel
theorem dX4_node_117 : decode cX4_node 117 = .ok (.aload_n 0, 1) := by decide +kernel
theorem dX4_node_118 : decode cX4_node 118 = .ok (.getfield 23, 3) := by decide +kernel
theorem dX4_node_121 : decode cX4_node 121 = .ok (.iload_n 1, 1) := by decide +kernel
theorem dX4_node_122 : decode cX4_node 122 = .ok (.baload, 1) := by decide +kernel
theorem dX4_node_123 : decode cX4_node 123 = .ok (.ifCond .eq 5, 3) := by decide +kernel
theorem dX4_node_126 : decode cX4_node 126 = .ok (.iconst 1, 1) := by decide +kernel
theorem dX4_node_127 : decode cX4_node 127 = .ok (.ireturn, 1) := by decide +kernel
theorem dX4_node_128 : decode cX4_node 128 = .ok (.iconst 0, 1) := by decide +kernel
theorem dX4_node_129 : decode cX4_node 129 = .ok (.ireturn, 1) := by decide +kernel
theorem dX4_bucket_0 : decode cX4_bucket 0 = .ok (.aload_n 0, 1) := by decide +kernel
theorem dX4_bucket_1 : decode cX4_bucket 1 = .ok (.iconst 0, 1) := by decide +kernel
theorem dX4_bucket_2 : decode cX4_bucket 2 = .ok (.putfield 7, 3) := by decide +kernel
theorem dX4_bucket_5 : decode cX4_bucket 5 = .ok (.iload_n 1, 1) := by decide +kernel
theorem dX4_bucket_6 : decode cX4_bucket 6 = .ok (.iconst 0, 1) := by decide +kernel
theorem dX4_bucket_7 : decode cX4_bucket 7 = .ok (.bipush 15, 2) := by decide +kernel
theorem dX4_bucket_9 : decode cX4_bucket 9 = .ok (.invokestatic 121, 3) := by decide +kernel
theorem dX4_bucket_12 : decode cX4_bucket 12 = .ok (.ifCond .ne 5, 3) := by decide +kernel
theorem dX4_bucket_15 : decode cX4_bucket 15 = .ok (.iconst (-1), 1) := by decide +kernel
theorem dX4_bucket_16 : decode cX4_bucket 16 = .ok (.ireturn, 1) := by decide +kernel
theorem dX4_bucket_17 : decode cX4_bucket 17 = .ok (.aload_n 0, 1) := by decide +kernel
theorem dX4_bucket_18 : decode cX4_bucket 18 = .ok (.getfield 39, 3) := by decide +kernel
theorem dX4_bucket_21 : decode cX4_bucket 21 = .ok (.iload_n 1, 1) := by decide +kernel
theorem dX4_bucket_22 : decode cX4_bucket 22 = .ok (.iaload, 1) := by decide +kernel
theorem dX4_bucket_23 : decode cX4_bucket 23 = .ok (.ireturn, 1) := by decide +kernel
theorem dX4_total_0 : decode cX4_total 0 = .ok (.aload_n 0, 1) := by decide +kernel
theorem dX4_total_1 : decode cX4_total 1 = .ok (.iconst 0, 1) := by decide +kernel
theorem dX4_total_2 : decode cX4_total 2 = .ok (.putfield 7, 3) := by decide +kernel
theorem dX4_total_5 : decode cX4_total 5 = .ok (.iload_n 1, 1) := by decide +kernel
theorem dX4_total_6 : decode cX4_total 6 = .ok (.ifCond .ne 8, 3) := by decide +kernel
theorem dX4_total_9 : decode cX4_total 9 = .ok (.aload_n 0, 1) := by decide +kernel
theorem dX4_total_10 : decode cX4_total 10 = .ok (.getfield 42, 3) := by decide +kernel
theorem dX4_total_13 : decode cX4_total 13 = .ok (.ireturn, 1) := by decide +kernel
theorem dX4_total_14 : decode cX4_total 14 = .ok (.iload_n 1, 1) := by decide +kernel
theorem dX4_total_15 : decode cX4_total 15 = .ok (.iconst 1, 1) := by decide +kernel
theorem dX4_total_16 : decode cX4_total 16 = .ok (.if_icmp .ne 8, 3) := by decide +kernel
theorem dX4_total_19 : decode cX4_total 19 = .ok (.aload_n 0, 1) := by decide +kernel
theorem dX4_total_20 : decode cX4_total 20 = .ok (.getfield 45, 3) := by decide +kernel
theorem dX4_total_23 : decode cX4_total 23 = .ok (.ireturn, 1) := by decide +kernel
theorem dX4_total_24 : decode cX4_total 24 = .ok (.iload_n 1, 1) := by decide +kernel
theorem dX4_total_25 : decode cX4_total 25 = .ok (.iconst 2, 1) := by decide +kernel
theorem dX4_total_26 : decode cX4_total 26 = .ok (.if_icmp .ne 8, 3) := by decide +kernel
theorem dX4_total_29 : decode cX4_total 29 = .ok (.aload_n 0, 1) := by decide +kernel
theorem dX4_total_30 : decode cX4_total 30 = .ok (.getfield 48, 3) := by decide +kernel
theorem dX4_total_33 : decode cX4_total 33 = .ok (.ireturn, 1) := by decide +kernel
theorem dX4_total_34 : decode cX4_total 34 = .ok (.iload_n 1, 1) := by decide +kernel
theorem dX4_total_35 : decode cX4_total 35 = .ok (.iconst 3, 1) := by decide +kernel
theorem dX4_total_36 : decode cX4_total 36 = .ok (.if_icmp .eq 10, 3) := by decide +kernel
theorem dX4_total_39 : decode cX4_total 39 = .ok (.iload_n 1, 1) := by decide +kernel
theorem dX4_total_40 : decode cX4_total 40 = .ok (.iconst 4, 1) := by decide +kernel
theorem dX4_total_41 : decode cX4_total 41 = .ok (.if_icmp .eq 5, 3) := by decide +kernel
theorem dX4_total_44 : decode cX4_total 44 = .ok (.iconst (-1), 1) := by decide +kernel
theorem dX4_total_45 : decode cX4_total 45 = .ok (.ireturn, 1) := by decide +kernel
theorem dX4_total_46 : decode cX4_total 46 = .ok (.iconst 0, 1) := by decide +kernel
theorem dX4_total_47 : decode cX4_total 47 = .ok (.istore_n 2, 1) := by decide +kernel
theorem dX4_total_48 : decode cX4_total 48 = .ok (.iconst 0, 1) := by decide +kernel
theorem dX4_total_49 : decode cX4_total 49 = .ok (.istore_n 3, 1) := by decide +kernel
theorem dX4_total_50 : decode cX4_total 50 = .ok (.iload_n 3, 1) := by decide +kernel
theorem dX4_total_51 : decode cX4_total 51 = .ok (.bipush 64, 2) := by decide +kernel
theorem dX4_total_53 : decode cX4_total 53 = .ok (.if_icmp .ge 31, 3) := by decide +kernel
theorem dX4_total_56 : decode cX4_total 56 = .ok (.aload_n 0, 1) := by decide +kernel
theorem dX4_total_57 : decode cX4_total 57 = .ok (.getfield 13, 3) := by decide +kernel
theorem dX4_total_60 : decode cX4_total 60 = .ok (.iload_n 3, 1) := by decide +kernel
theorem dX4_total_61 : decode cX4_total 61 = .ok (.iaload, 1) := by decide +kernel
theorem dX4_total_62 : decode cX4_total 62 = .ok (.iload_n 1, 1) := by decide +kernel
theorem dX4_total_63 : decode cX4_total 63 = .ok (.iconst 3, 1) := by decide +kernel
theorem dX4_total_64 : decode cX4_total 64 = .ok (.if_icmp .ne 7, 3) := by decide +kernel
theorem dX4_total_67 : decode cX4_total 67 = .ok (.iconst 0, 1) := by decide +kernel
theorem dX4_total_68 : decode cX4_total 68 = .ok (.goto 4, 3) := by decide +kernel
theorem dX4_total_71 : decode cX4_total 71 = .ok (.iconst 2, 1) := by decide +kernel
theorem dX4_total_72 : decode cX4_total 72 = .ok (.if_icmp .ne 6, 3) := by decide +kernel
theorem dX4_total_75 : decode cX4_total 75 = .ok (.iinc 2 1, 3) := by decide +kernel
theorem dX4_total_78 : decode cX4_total 78 = .ok (.iinc 3 1, 3) := by decide +kernel
theorem dX4_total_81 : decode cX4_total 81 = .ok (.goto (-31), 3) := by decide +kernel
theorem dX4_total_84 : decode cX4_total 84 = .ok (.iload_n 2, 1) := by decide +kernel
theorem dX4_total_85 : decode cX4_total 85 = .ok (.ireturn, 1) := by decide +kernel
