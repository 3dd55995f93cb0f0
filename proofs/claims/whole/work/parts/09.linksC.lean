theorem lkX0_9 : Cond.fieldLink RX0 9 "SplitStore$Node" "state" "I" ∈ zw_G := zw_mem 66 (by decide +kernel) rfl
theorem lkX3_108 : Cond.fieldLink RX3 108 "SplitStore$Node" "state" "I" ∈ zw_G := zw_mem 67 (by decide +kernel) rfl
theorem lkX0_15 : Cond.fieldLink RX0 15 "SplitStore$Node" "order" "I" ∈ zw_G := zw_mem 68 (by decide +kernel) rfl
theorem lkX3_111 : Cond.fieldLink RX3 111 "SplitStore$Node" "order" "I" ∈ zw_G := zw_mem 69 (by decide +kernel) rfl
theorem lkX0_18 : Cond.fieldLink RX0 18 "SplitStore$Node" "next" "I" ∈ zw_G := zw_mem 70 (by decide +kernel) rfl
theorem lkX3_114 : Cond.fieldLink RX3 114 "SplitStore$Node" "next" "I" ∈ zw_G := zw_mem 71 (by decide +kernel) rfl
theorem lkX0_21 : Cond.fieldLink RX0 21 "SplitStore$Node" "marked" "Z" ∈ zw_G := zw_mem 72 (by decide +kernel) rfl
theorem lkX3_117 : Cond.fieldLink RX3 117 "SplitStore$Node" "marked" "Z" ∈ zw_G := zw_mem 73 (by decide +kernel) rfl
theorem lkX0_25 : Cond.fieldLink RX0 25 "SplitStore$Node" "key" "I" ∈ zw_G := zw_mem 74 (by decide +kernel) rfl
theorem lkX3_121 : Cond.fieldLink RX3 121 "SplitStore$Node" "key" "I" ∈ zw_G := zw_mem 75 (by decide +kernel) rfl
theorem lkX0_28 : Cond.fieldLink RX0 28 "SplitStore$Node" "value" "I" ∈ zw_G := zw_mem 76 (by decide +kernel) rfl
theorem lkX3_124 : Cond.fieldLink RX3 124 "SplitStore$Node" "value" "I" ∈ zw_G := zw_mem 77 (by decide +kernel) rfl
theorem lkX0_31 : Cond.fieldLink RX0 31 "SplitStore$Node" "born" "I" ∈ zw_G := zw_mem 78 (by decide +kernel) rfl
theorem lkX3_127 : Cond.fieldLink RX3 127 "SplitStore$Node" "born" "I" ∈ zw_G := zw_mem 79 (by decide +kernel) rfl
theorem lkX0_34 : Cond.fieldLink RX0 34 "SplitStore$Node" "died" "I" ∈ zw_G := zw_mem 80 (by decide +kernel) rfl
theorem lkX3_130 : Cond.fieldLink RX3 130 "SplitStore$Node" "died" "I" ∈ zw_G := zw_mem 81 (by decide +kernel) rfl
theorem lkX1_15 : Cond.fieldLink RX1 15 "SplitStore$Numbers" "items" "[I" ∈ zw_G := zw_mem 111 (by decide +kernel) rfl
theorem lkX1_9 : Cond.fieldLink RX1 9 "SplitStore$Numbers" "length" "I" ∈ zw_G := zw_mem 112 (by decide +kernel) rfl
theorem lkX3_81 : Cond.fieldLink RX3 81 "SplitStore$Numbers" "length" "I" ∈ zw_G := zw_mem 113 (by decide +kernel) rfl
theorem lkX2_9 : Cond.fieldLink RX2 9 "SplitStore$Worker" "place" "I" ∈ zw_G := zw_mem 119 (by decide +kernel) rfl
theorem lkX3_50 : Cond.fieldLink RX3 50 "SplitStore$Worker" "place" "I" ∈ zw_G := zw_mem 120 (by decide +kernel) rfl
theorem lkX2_15 : Cond.fieldLink RX2 15 "SplitStore$Worker" "operation" "I" ∈ zw_G := zw_mem 121 (by decide +kernel) rfl
theorem lkX3_232 : Cond.fieldLink RX3 232 "SplitStore$Worker" "operation" "I" ∈ zw_G := zw_mem 122 (by decide +kernel) rfl
theorem lkX2_18 : Cond.fieldLink RX2 18 "SplitStore$Worker" "key" "I" ∈ zw_G := zw_mem 123 (by decide +kernel) rfl
theorem lkX3_180 : Cond.fieldLink RX3 180 "SplitStore$Worker" "key" "I" ∈ zw_G := zw_mem 124 (by decide +kernel) rfl
theorem lkX2_21 : Cond.fieldLink RX2 21 "SplitStore$Worker" "value" "I" ∈ zw_G := zw_mem 125 (by decide +kernel) rfl
theorem lkX3_286 : Cond.fieldLink RX3 286 "SplitStore$Worker" "value" "I" ∈ zw_G := zw_mem 126 (by decide +kernel) rfl
theorem lkX2_24 : Cond.fieldLink RX2 24 "SplitStore$Worker" "low" "I" ∈ zw_G := zw_mem 127 (by decide +kernel) rfl
theorem lkX3_71 : Cond.fieldLink RX3 71 "SplitStore$Worker" "low" "I" ∈ zw_G := zw_mem 128 (by decide +kernel) rfl
theorem lkX2_27 : Cond.fieldLink RX2 27 "SplitStore$Worker" "high" "I" ∈ zw_G := zw_mem 129 (by decide +kernel) rfl
theorem lkX3_74 : Cond.fieldLink RX3 74 "SplitStore$Worker" "high" "I" ∈ zw_G := zw_mem 130 (by decide +kernel) rfl
theorem lkX3_184 : Cond.fieldLink RX3 184 "SplitStore$Worker" "bucket" "I" ∈ zw_G := zw_mem 132 (by decide +kernel) rfl
theorem lkX2_38 : Cond.fieldLink RX2 38 "SplitStore$Worker" "stack" "LSplitStore$Numbers;" ∈ zw_G := zw_mem 133 (by decide +kernel) rfl
theorem lkX3_86 : Cond.fieldLink RX3 86 "SplitStore$Worker" "stack" "LSplitStore$Numbers;" ∈ zw_G := zw_mem 134 (by decide +kernel) rfl
theorem lkX3_191 : Cond.fieldLink RX3 191 "SplitStore$Worker" "start" "I" ∈ zw_G := zw_mem 136 (by decide +kernel) rfl
theorem lkX2_45 : Cond.fieldLink RX2 45 "SplitStore$Worker" "prev" "I" ∈ zw_G := zw_mem 137 (by decide +kernel) rfl
theorem lkX3_89 : Cond.fieldLink RX3 89 "SplitStore$Worker" "prev" "I" ∈ zw_G := zw_mem 138 (by decide +kernel) rfl
theorem lkX2_48 : Cond.fieldLink RX2 48 "SplitStore$Worker" "cur" "I" ∈ zw_G := zw_mem 139 (by decide +kernel) rfl
theorem lkX3_92 : Cond.fieldLink RX3 92 "SplitStore$Worker" "cur" "I" ∈ zw_G := zw_mem 140 (by decide +kernel) rfl
theorem lkX2_51 : Cond.fieldLink RX2 51 "SplitStore$Worker" "nxt" "I" ∈ zw_G := zw_mem 141 (by decide +kernel) rfl
theorem lkX3_95 : Cond.fieldLink RX3 95 "SplitStore$Worker" "nxt" "I" ∈ zw_G := zw_mem 142 (by decide +kernel) rfl
theorem lkX3_211 : Cond.fieldLink RX3 211 "SplitStore$Worker" "curMarked" "Z" ∈ zw_G := zw_mem 144 (by decide +kernel) rfl
theorem lkX3_98 : Cond.fieldLink RX3 98 "SplitStore$Worker" "own" "I" ∈ zw_G := zw_mem 146 (by decide +kernel) rfl
theorem lkX3_226 : Cond.fieldLink RX3 226 "SplitStore$Worker" "bucketNode" "I" ∈ zw_G := zw_mem 148 (by decide +kernel) rfl
theorem lkX2_64 : Cond.fieldLink RX2 64 "SplitStore$Worker" "cleans" "Z" ∈ zw_G := zw_mem 149 (by decide +kernel) rfl
theorem lkX3_229 : Cond.fieldLink RX3 229 "SplitStore$Worker" "cleans" "Z" ∈ zw_G := zw_mem 150 (by decide +kernel) rfl
theorem lkX3_269 : Cond.fieldLink RX3 269 "SplitStore$Worker" "answer" "I" ∈ zw_G := zw_mem 152 (by decide +kernel) rfl
theorem lkX2_70 : Cond.fieldLink RX2 70 "SplitStore$Worker" "latest" "I" ∈ zw_G := zw_mem 153 (by decide +kernel) rfl
theorem lkX3_68 : Cond.fieldLink RX3 68 "SplitStore$Worker" "latest" "I" ∈ zw_G := zw_mem 154 (by decide +kernel) rfl
theorem lkX3_77 : Cond.fieldLink RX3 77 "SplitStore$Worker" "row" "LSplitStore$Numbers;" ∈ zw_G := zw_mem 156 (by decide +kernel) rfl
theorem lkX3_37 : Cond.methodLink RX3 37 yX3_orderOfBucket ∈ zw_G := zw_mem 196 (by decide +kernel) rfl
theorem lkX3_290 : Cond.methodLink RX3 290 yX3_turned ∈ zw_G := zw_mem 199 (by decide +kernel) rfl
theorem lkX3_41 : Cond.methodLink RX3 41 yX0_appear ∈ zw_G := zw_mem 202 (by decide +kernel) rfl
theorem lkX0_37 : Cond.methodLink RX0 37 yX0_pointTo ∈ zw_G := zw_mem 206 (by decide +kernel) rfl
theorem lkX3_11 : Cond.fieldLink RX3 11 "SplitStore" "nodes" "[LSplitStore$Node;" ∈ zw_G := zw_mem 210 (by decide +kernel) rfl
theorem lkX3_17 : Cond.fieldLink RX3 17 "SplitStore" "workers" "[LSplitStore$Worker;" ∈ zw_G := zw_mem 211 (by decide +kernel) rfl
theorem lkX3_21 : Cond.fieldLink RX3 21 "SplitStore" "bucketNodes" "[I" ∈ zw_G := zw_mem 212 (by decide +kernel) rfl
theorem lkX3_25 : Cond.fieldLink RX3 25 "SplitStore" "size" "I" ∈ zw_G := zw_mem 213 (by decide +kernel) rfl
theorem lkX3_29 : Cond.fieldLink RX3 29 "SplitStore" "count" "I" ∈ zw_G := zw_mem 214 (by decide +kernel) rfl
theorem lkX3_32 : Cond.fieldLink RX3 32 "SplitStore" "era" "I" ∈ zw_G := zw_mem 215 (by decide +kernel) rfl
theorem lkX3_45 : Cond.methodLink RX3 45 yX3_isProcess ∈ zw_G := zw_mem 233 (by decide +kernel) rfl
theorem lkX3_49 : Cond.constant RX3 49 1000000 ∈ zw_G := zw_mem 236 (by decide +kernel) rfl
theorem lkX3_53 : Cond.methodLink RX3 53 yX2_begin ∈ zw_G := zw_mem 237 (by decide +kernel) rfl
theorem lkX3_57 : Cond.methodLink RX3 57 yX3_advance ∈ zw_G := zw_mem 245 (by decide +kernel) rfl
theorem lkX3_141 : Cond.methodLink RX3 141 yX3_enter ∈ zw_G := zw_mem 249 (by decide +kernel) rfl
theorem lkX3_181 : Cond.methodLink RX3 181 yX3_hashOf ∈ zw_G := zw_mem 253 (by decide +kernel) rfl
theorem lkX3_187 : Cond.methodLink RX3 187 yX1_cutTo ∈ zw_G := zw_mem 256 (by decide +kernel) rfl
theorem lkX3_144 : Cond.methodLink RX3 144 yX3_seekBucket ∈ zw_G := zw_mem 260 (by decide +kernel) rfl
theorem lkX3_135 : Cond.methodLink RX3 135 yX3_nodeOfBucket ∈ zw_G := zw_mem 264 (by decide +kernel) rfl
theorem lkX3_263 : Cond.methodLink RX3 263 yX3_isBucket ∈ zw_G := zw_mem 268 (by decide +kernel) rfl
theorem lkX3_194 : Cond.methodLink RX3 194 yX1_add ∈ zw_G := zw_mem 271 (by decide +kernel) rfl
theorem lkX3_197 : Cond.methodLink RX3 197 yX3_parentOf ∈ zw_G := zw_mem 275 (by decide +kernel) rfl
theorem lkX3_147 : Cond.methodLink RX3 147 yX3_loadStart ∈ zw_G := zw_mem 278 (by decide +kernel) rfl
theorem lkX3_200 : Cond.methodLink RX3 200 yX3_mayLoad ∈ zw_G := zw_mem 282 (by decide +kernel) rfl
theorem lkX3_204 : Cond.methodLink RX3 204 yX3_nextOf ∈ zw_G := zw_mem 286 (by decide +kernel) rfl
theorem lkX3_103 : Cond.methodLink RX3 103 yX3_isNode ∈ zw_G := zw_mem 290 (by decide +kernel) rfl
theorem lkX3_150 : Cond.methodLink RX3 150 yX3_loadCur ∈ zw_G := zw_mem 293 (by decide +kernel) rfl
theorem lkX3_207 : Cond.methodLink RX3 207 yX3_searchOver ∈ zw_G := zw_mem 297 (by decide +kernel) rfl
theorem lkX3_222 : Cond.methodLink RX3 222 yX1_isEmpty ∈ zw_G := zw_mem 301 (by decide +kernel) rfl
theorem lkX3_235 : Cond.methodLink RX3 235 yX3_valueOf ∈ zw_G := zw_mem 305 (by decide +kernel) rfl
theorem lkX3_238 : Cond.methodLink RX3 238 yX3_end ∈ zw_G := zw_mem 309 (by decide +kernel) rfl
theorem lkX3_256 : Cond.methodLink RX3 256 yX3_freeOwn ∈ zw_G := zw_mem 313 (by decide +kernel) rfl
theorem lkX3_283 : Cond.methodLink RX3 283 yX2_rest ∈ zw_G := zw_mem 317 (by decide +kernel) rfl
theorem lkX2_76 : Cond.methodLink RX2 76 yX1_cutTo ∈ zw_G := zw_mem 321 (by decide +kernel) rfl
theorem lkX3_153 : Cond.methodLink RX3 153 yX3_compare ∈ zw_G := zw_mem 322 (by decide +kernel) rfl
theorem lkX3_214 : Cond.methodLink RX3 214 yX3_leadsTo ∈ zw_G := zw_mem 326 (by decide +kernel) rfl
theorem lkX3_218 : Cond.methodLink RX3 218 yX3_wantedOrder ∈ zw_G := zw_mem 330 (by decide +kernel) rfl
theorem lkX3_287 : Cond.methodLink RX3 287 yX3_orderOfKey ∈ zw_G := zw_mem 333 (by decide +kernel) rfl
theorem lkX3_259 : Cond.methodLink RX3 259 yX1_top ∈ zw_G := zw_mem 336 (by decide +kernel) rfl
theorem lkX1_19 : Cond.methodLink RX1 19 yX1_at ∈ zw_G := zw_mem 340 (by decide +kernel) rfl
theorem lkX3_156 : Cond.methodLink RX3 156 yX3_unlinkMarked ∈ zw_G := zw_mem 344 (by decide +kernel) rfl
theorem lkX3_242 : Cond.methodLink RX3 242 yX3_change ∈ zw_G := zw_mem 348 (by decide +kernel) rfl
theorem lkX3_252 : Cond.methodLink RX3 252 yX0_pointTo ∈ zw_G := zw_mem 352 (by decide +kernel) rfl
theorem lkX3_246 : Cond.methodLink RX3 246 yX3_retire ∈ zw_G := zw_mem 353 (by decide +kernel) rfl
theorem lkX3_159 : Cond.methodLink RX3 159 yX3_prepare ∈ zw_G := zw_mem 357 (by decide +kernel) rfl
theorem lkX3_249 : Cond.methodLink RX3 249 yX3_takeFreeNode ∈ zw_G := zw_mem 361 (by decide +kernel) rfl
theorem lkX3_162 : Cond.methodLink RX3 162 yX3_link ∈ zw_G := zw_mem 365 (by decide +kernel) rfl
theorem lkX3_165 : Cond.methodLink RX3 165 yX3_setBucket ∈ zw_G := zw_mem 369 (by decide +kernel) rfl
theorem lkX3_266 : Cond.methodLink RX3 266 yX1_dropTop ∈ zw_G := zw_mem 373 (by decide +kernel) rfl
theorem lkX1_23 : Cond.methodLink RX1 23 yX1_cutTo ∈ zw_G := zw_mem 377 (by decide +kernel) rfl
theorem lkX3_168 : Cond.methodLink RX3 168 yX3_mark ∈ zw_G := zw_mem 378 (by decide +kernel) rfl
theorem lkX3_171 : Cond.methodLink RX3 171 yX3_unlinkRemoved ∈ zw_G := zw_mem 382 (by decide +kernel) rfl
theorem lkX3_174 : Cond.methodLink RX3 174 yX3_giveBack ∈ zw_G := zw_mem 386 (by decide +kernel) rfl
theorem lkX3_272 : Cond.methodLink RX3 272 yX1_at ∈ zw_G := zw_mem 390 (by decide +kernel) rfl
theorem lkX3_275 : Cond.methodLink RX3 275 yX3_canBeReached ∈ zw_G := zw_mem 391 (by decide +kernel) rfl
theorem lkX3_279 : Cond.methodLink RX3 279 yX1_put ∈ zw_G := zw_mem 395 (by decide +kernel) rfl
theorem lkX3_177 : Cond.methodLink RX3 177 yX3_grow ∈ zw_G := zw_mem 399 (by decide +kernel) rfl
theorem lkX3_138 : Cond.methodLink RX3 138 yX3_countNodes ∈ zw_G := zw_mem 415 (by decide +kernel) rfl
set_option maxRecDepth 20000 in
theorem pk_X0_pointTo : zw_Vt yX0_pointTo cX0_pointTo 3 none 2 := ⟨zw_mem 207 (by decide +kernel) rfl, zw_mem 208 (by decide +kernel) rfl, zw_mem 41 (by decide +kernel) rfl, zw_mem 209 rfl rfl, by decide +kernel⟩
set_option maxRecDepth 20000 in
theorem pk_X0_appear : zw_Vt yX0_appear cX0_appear 5 none 4 := ⟨zw_mem 203 (by decide +kernel) rfl, zw_mem 204 (by decide +kernel) rfl, zw_mem 41 (by decide +kernel) rfl, zw_mem 205 rfl rfl, by decide +kernel⟩
set_option maxRecDepth 20000 in
theorem pk_X1_isEmpty : zw_Vt yX1_isEmpty cX1_isEmpty 1 (some .boolean) 0 := ⟨zw_mem 302 (by decide +kernel) rfl, zw_mem 303 (by decide +kernel) rfl, zw_mem 43 (by decide +kernel) rfl, zw_mem 304 rfl rfl, by decide +kernel⟩
set_option maxRecDepth 20000 in
theorem pk_X1_add : zw_Vt yX1_add cX1_add 2 none 1 := ⟨zw_mem 272 (by decide +kernel) rfl, zw_mem 273 (by decide +kernel) rfl, zw_mem 43 (by decide +kernel) rfl, zw_mem 274 rfl rfl, by decide +kernel⟩
set_option maxRecDepth 20000 in
theorem pk_X1_at : zw_Vt yX1_at cX1_at 2 (some .int) 1 := ⟨zw_mem 341 (by decide +kernel) rfl, zw_mem 342 (by decide +kernel) rfl, zw_mem 43 (by decide +kernel) rfl, zw_mem 343 rfl rfl, by decide +kernel⟩
set_option maxRecDepth 20000 in
theorem pk_X1_put : zw_Vt yX1_put cX1_put 3 none 2 := ⟨zw_mem 396 (by decide +kernel) rfl, zw_mem 397 (by decide +kernel) rfl, zw_mem 43 (by decide +kernel) rfl, zw_mem 398 rfl rfl, by decide +kernel⟩
set_option maxRecDepth 20000 in
theorem pk_X1_top : zw_Vt yX1_top cX1_top 1 (some .int) 0 := ⟨zw_mem 337 (by decide +kernel) rfl, zw_mem 338 (by decide +kernel) rfl, zw_mem 43 (by decide +kernel) rfl, zw_mem 339 rfl rfl, by decide +kernel⟩
set_option maxRecDepth 20000 in
theorem pk_X1_cutTo : zw_Vt yX1_cutTo cX1_cutTo 2 none 1 := ⟨zw_mem 257 (by decide +kernel) rfl, zw_mem 258 (by decide +kernel) rfl, zw_mem 43 (by decide +kernel) rfl, zw_mem 259 rfl rfl, by decide +kernel⟩
set_option maxRecDepth 20000 in
theorem pk_X1_dropTop : zw_Vt yX1_dropTop cX1_dropTop 1 none 0 := ⟨zw_mem 374 (by decide +kernel) rfl, zw_mem 375 (by decide +kernel) rfl, zw_mem 43 (by decide +kernel) rfl, zw_mem 376 rfl rfl, by decide +kernel⟩
set_option maxRecDepth 20000 in
theorem pk_X2_begin : zw_Vt yX2_begin cX2_begin 4 none 3 := ⟨zw_mem 238 (by decide +kernel) rfl, zw_mem 239 (by decide +kernel) rfl, zw_mem 42 (by decide +kernel) rfl, zw_mem 240 rfl rfl, by decide +kernel⟩
set_option maxRecDepth 20000 in
theorem pk_X2_rest : zw_Vt yX2_rest cX2_rest 2 none 1 := ⟨zw_mem 318 (by decide +kernel) rfl, zw_mem 319 (by decide +kernel) rfl, zw_mem 42 (by decide +kernel) rfl, zw_mem 320 rfl rfl, by decide +kernel⟩
set_option maxRecDepth 20000 in
theorem pk_X3_isProcess : zw_St yX3_isProcess cX3_isProcess 1 (some .boolean) 1 := ⟨zw_mem 234 (by decide +kernel) rfl, zw_mem 40 (by decide +kernel) rfl, zw_mem 235 rfl rfl, by decide +kernel⟩
set_option maxRecDepth 20000 in
theorem pk_X3_isNode : zw_St yX3_isNode cX3_isNode 1 (some .boolean) 1 := ⟨zw_mem 291 (by decide +kernel) rfl, zw_mem 40 (by decide +kernel) rfl, zw_mem 292 rfl rfl, by decide +kernel⟩
set_option maxRecDepth 20000 in
theorem pk_X3_isBucket : zw_St yX3_isBucket cX3_isBucket 1 (some .boolean) 1 := ⟨zw_mem 269 (by decide +kernel) rfl, zw_mem 40 (by decide +kernel) rfl, zw_mem 270 rfl rfl, by decide +kernel⟩
set_option maxRecDepth 20000 in
theorem pk_X3_hashOf : zw_St yX3_hashOf cX3_hashOf 1 (some .int) 1 := ⟨zw_mem 254 (by decide +kernel) rfl, zw_mem 40 (by decide +kernel) rfl, zw_mem 255 rfl rfl, by decide +kernel⟩
set_option maxRecDepth 20000 in
theorem pk_X3_turned : zw_St yX3_turned cX3_turned 3 (some .int) 1 := ⟨zw_mem 200 (by decide +kernel) rfl, zw_mem 40 (by decide +kernel) rfl, zw_mem 201 rfl rfl, by decide +kernel⟩
set_option maxRecDepth 20000 in
theorem pk_X3_orderOfKey : zw_St yX3_orderOfKey cX3_orderOfKey 1 (some .int) 1 := ⟨zw_mem 334 (by decide +kernel) rfl, zw_mem 40 (by decide +kernel) rfl, zw_mem 335 rfl rfl, by decide +kernel⟩
set_option maxRecDepth 20000 in
theorem pk_X3_orderOfBucket : zw_St yX3_orderOfBucket cX3_orderOfBucket 1 (some .int) 1 := ⟨zw_mem 197 (by decide +kernel) rfl, zw_mem 40 (by decide +kernel) rfl, zw_mem 198 rfl rfl, by decide +kernel⟩
set_option maxRecDepth 20000 in
theorem pk_X3_wantedOrder : zw_St yX3_wantedOrder cX3_wantedOrder 1 (some .int) 1 := ⟨zw_mem 331 (by decide +kernel) rfl, zw_mem 40 (by decide +kernel) rfl, zw_mem 332 rfl rfl, by decide +kernel⟩
set_option maxRecDepth 20000 in
theorem pk_X3_parentOf : zw_St yX3_parentOf cX3_parentOf 2 (some .int) 1 := ⟨zw_mem 276 (by decide +kernel) rfl, zw_mem 40 (by decide +kernel) rfl, zw_mem 277 rfl rfl, by decide +kernel⟩
set_option maxRecDepth 20000 in
theorem pk_X3_nextOf : zw_Vt yX3_nextOf cX3_nextOf 2 (some .int) 1 := ⟨zw_mem 288 (by decide +kernel) rfl, zw_mem 6 (by decide +kernel) rfl, zw_mem 40 (by decide +kernel) rfl, zw_mem 289 rfl rfl, by decide +kernel⟩
set_option maxRecDepth 20000 in
theorem pk_X3_valueOf : zw_Vt yX3_valueOf cX3_valueOf 2 (some .int) 1 := ⟨zw_mem 307 (by decide +kernel) rfl, zw_mem 9 (by decide +kernel) rfl, zw_mem 40 (by decide +kernel) rfl, zw_mem 308 rfl rfl, by decide +kernel⟩
set_option maxRecDepth 20000 in
theorem pk_X3_nodeOfBucket : zw_Vt yX3_nodeOfBucket cX3_nodeOfBucket 2 (some .int) 1 := ⟨zw_mem 266 (by decide +kernel) rfl, zw_mem 3 (by decide +kernel) rfl, zw_mem 40 (by decide +kernel) rfl, zw_mem 267 rfl rfl, by decide +kernel⟩
set_option maxRecDepth 20000 in
theorem pk_X3_mayLoad : zw_Vt yX3_mayLoad cX3_mayLoad 2 (some .boolean) 1 := ⟨zw_mem 284 (by decide +kernel) rfl, zw_mem 5 (by decide +kernel) rfl, zw_mem 40 (by decide +kernel) rfl, zw_mem 285 rfl rfl, by decide +kernel⟩
set_option maxRecDepth 20000 in
theorem pk_X3_leadsTo : zw_Vt yX3_leadsTo cX3_leadsTo 3 (some .boolean) 2 := ⟨zw_mem 328 (by decide +kernel) rfl, zw_mem 13 (by decide +kernel) rfl, zw_mem 40 (by decide +kernel) rfl, zw_mem 329 rfl rfl, by decide +kernel⟩
set_option maxRecDepth 20000 in
theorem pk_X3_change : zw_Vt yX3_change cX3_change 5 (some .boolean) 4 := ⟨zw_mem 350 (by decide +kernel) rfl, zw_mem 15 (by decide +kernel) rfl, zw_mem 40 (by decide +kernel) rfl, zw_mem 351 rfl rfl, by decide +kernel⟩
set_option maxRecDepth 20000 in
theorem pk_X3_retire : zw_Vt yX3_retire cX3_retire 3 none 2 := ⟨zw_mem 355 (by decide +kernel) rfl, zw_mem 16 (by decide +kernel) rfl, zw_mem 40 (by decide +kernel) rfl, zw_mem 356 rfl rfl, by decide +kernel⟩
set_option maxRecDepth 20000 in
theorem pk_X3_freeOwn : zw_Vt yX3_freeOwn cX3_freeOwn 2 none 1 := ⟨zw_mem 315 (by decide +kernel) rfl, zw_mem 11 (by decide +kernel) rfl, zw_mem 40 (by decide +kernel) rfl, zw_mem 316 rfl rfl, by decide +kernel⟩
set_option maxRecDepth 20000 in
theorem pk_X3_end : zw_Vt yX3_end cX3_end 3 none 2 := ⟨zw_mem 311 (by decide +kernel) rfl, zw_mem 10 (by decide +kernel) rfl, zw_mem 40 (by decide +kernel) rfl, zw_mem 312 rfl rfl, by decide +kernel⟩
set_option maxRecDepth 20000 in
theorem pk_X3_canBeReached : zw_Vt yX3_canBeReached cX3_canBeReached 4 (some .boolean) 1 := ⟨zw_mem 393 (by decide +kernel) rfl, zw_mem 24 (by decide +kernel) rfl, zw_mem 40 (by decide +kernel) rfl, zw_mem 394 rfl rfl, by decide +kernel⟩
set_option maxRecDepth 20000 in
theorem pk_X3_countNodes : zw_Vt yX3_countNodes cX3_countNodes 4 (some .int) 1 := ⟨zw_mem 417 (by decide +kernel) rfl, zw_mem 26 (by decide +kernel) rfl, zw_mem 40 (by decide +kernel) rfl, zw_mem 418 rfl rfl, by decide +kernel⟩
set_option maxRecDepth 20000 in
theorem pk_X3_takeFreeNode : zw_Vt yX3_takeFreeNode cX3_takeFreeNode 4 (some .int) 1 := ⟨zw_mem 363 (by decide +kernel) rfl, zw_mem 18 (by decide +kernel) rfl, zw_mem 40 (by decide +kernel) rfl, zw_mem 364 rfl rfl, by decide +kernel⟩
set_option maxRecDepth 20000 in
theorem pk_X3_enter : zw_Vt yX3_enter cX3_enter 2 none 1 := ⟨zw_mem 251 (by decide +kernel) rfl, zw_mem 1 (by decide +kernel) rfl, zw_mem 40 (by decide +kernel) rfl, zw_mem 252 rfl rfl, by decide +kernel⟩
set_option maxRecDepth 20000 in
theorem pk_X3_seekBucket : zw_Vt yX3_seekBucket cX3_seekBucket 3 none 1 := ⟨zw_mem 262 (by decide +kernel) rfl, zw_mem 2 (by decide +kernel) rfl, zw_mem 40 (by decide +kernel) rfl, zw_mem 263 rfl rfl, by decide +kernel⟩
set_option maxRecDepth 20000 in
theorem pk_X3_loadStart : zw_Vt yX3_loadStart cX3_loadStart 2 none 1 := ⟨zw_mem 280 (by decide +kernel) rfl, zw_mem 4 (by decide +kernel) rfl, zw_mem 40 (by decide +kernel) rfl, zw_mem 281 rfl rfl, by decide +kernel⟩
set_option maxRecDepth 20000 in
theorem pk_X3_searchOver : zw_Vt yX3_searchOver cX3_searchOver 3 none 2 := ⟨zw_mem 299 (by decide +kernel) rfl, zw_mem 8 (by decide +kernel) rfl, zw_mem 40 (by decide +kernel) rfl, zw_mem 300 rfl rfl, by decide +kernel⟩
set_option maxRecDepth 20000 in
theorem pk_X3_loadCur : zw_Vt yX3_loadCur cX3_loadCur 2 none 1 := ⟨zw_mem 295 (by decide +kernel) rfl, zw_mem 7 (by decide +kernel) rfl, zw_mem 40 (by decide +kernel) rfl, zw_mem 296 rfl rfl, by decide +kernel⟩
set_option maxRecDepth 20000 in
theorem pk_X3_compare : zw_Vt yX3_compare cX3_compare 4 none 1 := ⟨zw_mem 324 (by decide +kernel) rfl, zw_mem 12 (by decide +kernel) rfl, zw_mem 40 (by decide +kernel) rfl, zw_mem 325 rfl rfl, by decide +kernel⟩
set_option maxRecDepth 20000 in
theorem pk_X3_unlinkMarked : zw_Vt yX3_unlinkMarked cX3_unlinkMarked 2 none 1 := ⟨zw_mem 346 (by decide +kernel) rfl, zw_mem 14 (by decide +kernel) rfl, zw_mem 40 (by decide +kernel) rfl, zw_mem 347 rfl rfl, by decide +kernel⟩
set_option maxRecDepth 20000 in
theorem pk_X3_prepare : zw_Vt yX3_prepare cX3_prepare 2 none 1 := ⟨zw_mem 359 (by decide +kernel) rfl, zw_mem 17 (by decide +kernel) rfl, zw_mem 40 (by decide +kernel) rfl, zw_mem 360 rfl rfl, by decide +kernel⟩
set_option maxRecDepth 20000 in
theorem pk_X3_link : zw_Vt yX3_link cX3_link 3 none 1 := ⟨zw_mem 367 (by decide +kernel) rfl, zw_mem 19 (by decide +kernel) rfl, zw_mem 40 (by decide +kernel) rfl, zw_mem 368 rfl rfl, by decide +kernel⟩
set_option maxRecDepth 20000 in
theorem pk_X3_setBucket : zw_Vt yX3_setBucket cX3_setBucket 3 none 1 := ⟨zw_mem 371 (by decide +kernel) rfl, zw_mem 20 (by decide +kernel) rfl, zw_mem 40 (by decide +kernel) rfl, zw_mem 372 rfl rfl, by decide +kernel⟩
set_option maxRecDepth 20000 in
theorem pk_X3_mark : zw_Vt yX3_mark cX3_mark 2 none 1 := ⟨zw_mem 380 (by decide +kernel) rfl, zw_mem 21 (by decide +kernel) rfl, zw_mem 40 (by decide +kernel) rfl, zw_mem 381 rfl rfl, by decide +kernel⟩
set_option maxRecDepth 20000 in
theorem pk_X3_unlinkRemoved : zw_Vt yX3_unlinkRemoved cX3_unlinkRemoved 2 none 1 := ⟨zw_mem 384 (by decide +kernel) rfl, zw_mem 22 (by decide +kernel) rfl, zw_mem 40 (by decide +kernel) rfl, zw_mem 385 rfl rfl, by decide +kernel⟩
set_option maxRecDepth 20000 in
theorem pk_X3_giveBack : zw_Vt yX3_giveBack cX3_giveBack 5 none 1 := ⟨zw_mem 388 (by decide +kernel) rfl, zw_mem 23 (by decide +kernel) rfl, zw_mem 40 (by decide +kernel) rfl, zw_mem 389 rfl rfl, by decide +kernel⟩
set_option maxRecDepth 20000 in
theorem pk_X3_grow : zw_Vt yX3_grow cX3_grow 2 none 1 := ⟨zw_mem 401 (by decide +kernel) rfl, zw_mem 25 (by decide +kernel) rfl, zw_mem 40 (by decide +kernel) rfl, zw_mem 402 rfl rfl, by decide +kernel⟩
set_option maxRecDepth 20000 in
theorem pk_X3_advance : zw_Vt yX3_advance cX3_advance 2 none 1 := ⟨zw_mem 247 (by decide +kernel) rfl, zw_mem 0 (by decide +kernel) rfl, zw_mem 40 (by decide +kernel) rfl, zw_mem 248 rfl rfl, by decide +kernel⟩
set_option maxRecDepth 20000 in
theorem pk_X3_start : zw_Vt yX3_start cX3_start 6 (some .boolean) 4 := ⟨zw_mem 230 (by decide +kernel) rfl, zw_mem 231 (by decide +kernel) rfl, zw_mem 40 (by decide +kernel) rfl, zw_mem 232 rfl rfl, by decide +kernel⟩
set_option maxRecDepth 20000 in
theorem pk_X3_step : zw_Vt yX3_step cX3_step 3 (some .int) 1 := ⟨zw_mem 242 (by decide +kernel) rfl, zw_mem 243 (by decide +kernel) rfl, zw_mem 40 (by decide +kernel) rfl, zw_mem 244 rfl rfl, by decide +kernel⟩
set_option maxRecDepth 20000 in
theorem pk_X3_run : zw_Vt yX3_run cX3_run 5 (some .int) 2 := ⟨zw_mem 404 (by decide +kernel) rfl, zw_mem 405 (by decide +kernel) rfl, zw_mem 40 (by decide +kernel) rfl, zw_mem 406 rfl rfl, by decide +kernel⟩
set_option maxRecDepth 20000 in
theorem pk_X3_bucket : zw_Vt yX3_bucket cX3_bucket 2 (some .int) 1 := ⟨zw_mem 408 (by decide +kernel) rfl, zw_mem 409 (by decide +kernel) rfl, zw_mem 40 (by decide +kernel) rfl, zw_mem 410 rfl rfl, by decide +kernel⟩
set_option maxRecDepth 20000 in
theorem pk_X3_total : zw_Vt yX3_total cX3_total 2 (some .int) 1 := ⟨zw_mem 412 (by decide +kernel) rfl, zw_mem 413 (by decide +kernel) rfl, zw_mem 40 (by decide +kernel) rfl, zw_mem 414 rfl rfl, by decide +kernel⟩
set_option maxRecDepth 20000 in
theorem pk_X3_result : zw_Vt yX3_result cX3_result 2 (some .int) 1 := ⟨zw_mem 424 (by decide +kernel) rfl, zw_mem 425 (by decide +kernel) rfl, zw_mem 40 (by decide +kernel) rfl, zw_mem 426 rfl rfl, by decide +kernel⟩
set_option maxRecDepth 20000 in
theorem pk_X3_process : zw_Vt yX3_process cX3_process 4 (some .int) 2 := ⟨zw_mem 497 (by decide +kernel) rfl, zw_mem 498 (by decide +kernel) rfl, zw_mem 40 (by decide +kernel) rfl, zw_mem 499 rfl rfl, by decide +kernel⟩
set_option maxRecDepth 20000 in
theorem pk_X3_node : zw_Vt yX3_node cX3_node 4 (some .int) 2 := ⟨zw_mem 505 (by decide +kernel) rfl, zw_mem 506 (by decide +kernel) rfl, zw_mem 40 (by decide +kernel) rfl, zw_mem 507 rfl rfl, by decide +kernel⟩
