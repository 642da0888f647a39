/-! the tables: links, methods, constants -/
set_option maxRecDepth 20000 in
theorem lk_X9_1 : Cond.methodLink RX9 1 objectInit ∈ am_B := tb_1 (i := 19) rfl rfl
set_option maxRecDepth 20000 in
theorem kl_X9_7 : Cond.classLink RX9 7 RX6 ∈ am_B := tb_1 (i := 22) rfl rfl
set_option maxRecDepth 20000 in
theorem lk_X9_9 : Cond.methodLink RX9 9 yX6_init ∈ am_B := tb_1 (i := 24) rfl rfl
set_option maxRecDepth 20000 in
theorem fl_X9_10 : am_lf RX9 10 8 0 := ⟨(RX9, TX9, 12), rfl, by decide, tb_2 (i := 37) rfl rfl, rfl⟩
set_option maxRecDepth 20000 in
theorem kl_X9_16 : Cond.classLink RX9 16 RX1 ∈ am_B := tb_1 (i := 50) rfl rfl
set_option maxRecDepth 20000 in
theorem lk_X9_18 : Cond.methodLinkNest RX9 18 yX1_init RX9 ∈ am_N := by simp [am_N]
set_option maxRecDepth 20000 in
theorem fl_X9_19 : am_lf RX9 19 8 1 := ⟨(RX9, TX9, 12), rfl, by decide, tb_2 (i := 38) rfl rfl, rfl⟩
set_option maxRecDepth 20000 in
theorem kl_X9_23 : Cond.classLink RX9 23 RX3 ∈ am_B := tb_1 (i := 77) rfl rfl
set_option maxRecDepth 20000 in
theorem lk_X9_25 : Cond.methodLinkNest RX9 25 yX3_init RX9 ∈ am_N := by simp [am_N]
set_option maxRecDepth 20000 in
theorem fl_X9_26 : am_lf RX9 26 8 2 := ⟨(RX9, TX9, 12), rfl, by decide, tb_2 (i := 39) rfl rfl, rfl⟩
set_option maxRecDepth 20000 in
theorem kl_X9_30 : Cond.classLink RX9 30 RX4 ∈ am_B := tb_1 (i := 130) rfl rfl
set_option maxRecDepth 20000 in
theorem lk_X9_32 : Cond.methodLinkNest RX9 32 yX4_init RX9 ∈ am_N := by simp [am_N]
set_option maxRecDepth 20000 in
theorem fl_X9_33 : am_lf RX9 33 8 3 := ⟨(RX9, TX9, 12), rfl, by decide, tb_2 (i := 40) rfl rfl, rfl⟩
set_option maxRecDepth 20000 in
theorem kl_X9_37 : Cond.classLink RX9 37 RX2 ∈ am_B := tb_1 (i := 170) rfl rfl
set_option maxRecDepth 20000 in
theorem lk_X9_39 : Cond.methodLink RX9 39 yX2_init ∈ am_B := tb_1 (i := 172) rfl rfl
set_option maxRecDepth 20000 in
theorem fl_X9_40 : am_lf RX9 40 8 4 := ⟨(RX9, TX9, 12), rfl, by decide, tb_2 (i := 41) rfl rfl, rfl⟩
set_option maxRecDepth 20000 in
theorem fl_X9_44 : am_lf RX9 44 8 5 := ⟨(RX9, TX9, 12), rfl, by decide, tb_2 (i := 42) rfl rfl, rfl⟩
set_option maxRecDepth 20000 in
theorem fl_X9_47 : am_lf RX9 47 8 6 := ⟨(RX9, TX9, 12), rfl, by decide, tb_2 (i := 43) rfl rfl, rfl⟩
set_option maxRecDepth 20000 in
theorem kl_X9_50 : Cond.classLink RX9 50 RX8 ∈ am_B := tb_1 (i := 210) rfl rfl
set_option maxRecDepth 20000 in
theorem lk_X9_52 : Cond.methodLinkNest RX9 52 yX8_init RX9 ∈ am_N := by simp [am_N]
set_option maxRecDepth 20000 in
theorem fl_X9_53 : am_lf RX9 53 8 7 := ⟨(RX9, TX9, 12), rfl, by decide, tb_2 (i := 44) rfl rfl, rfl⟩
set_option maxRecDepth 20000 in
theorem kl_X9_57 : Cond.classLink RX9 57 RX0 ∈ am_B := tb_1 (i := 226) rfl rfl
set_option maxRecDepth 20000 in
theorem lk_X9_59 : Cond.methodLinkNest RX9 59 yX0_init RX9 ∈ am_N := by simp [am_N]
set_option maxRecDepth 20000 in
theorem fl_X9_60 : am_lf RX9 60 8 8 := ⟨(RX9, TX9, 12), rfl, by decide, tb_2 (i := 45) rfl rfl, rfl⟩
set_option maxRecDepth 20000 in
theorem kl_X9_64 : Cond.classLink RX9 64 RX7 ∈ am_B := tb_2 (i := 12) rfl rfl
set_option maxRecDepth 20000 in
theorem fl_X9_66 : am_lf RX9 66 8 9 := ⟨(RX9, TX9, 12), rfl, by decide, tb_2 (i := 46) rfl rfl, rfl⟩
set_option maxRecDepth 20000 in
theorem fl_X9_70 : am_lf RX9 70 8 10 := ⟨(RX9, TX9, 12), rfl, by decide, tb_2 (i := 47) rfl rfl, rfl⟩
set_option maxRecDepth 20000 in
theorem lk_X9_74 : Cond.methodLinkNest RX9 74 yX7_init RX9 ∈ am_N := by simp [am_N]
set_option maxRecDepth 20000 in
theorem lk_X9_75 : Cond.methodLink RX9 75 yX9_within ∈ am_B := tb_2 (i := 78) rfl rfl
set_option maxRecDepth 20000 in
theorem fl_X9_79 : am_lf RX9 79 5 2 := ⟨(RX6, TX6, 5), rfl, by decide, tb_1 (i := 33) rfl rfl, rfl⟩
set_option maxRecDepth 20000 in
theorem lk_X9_83 : Cond.methodLink RX9 83 yX6_addPerson ∈ am_B := tb_2 (i := 81) rfl rfl
set_option maxRecDepth 20000 in
theorem lk_X9_87 : Cond.methodLink RX9 87 yX6_isPair ∈ am_B := tb_2 (i := 89) rfl rfl
set_option maxRecDepth 20000 in
theorem lk_X9_91 : Cond.methodLink RX9 91 yX9_isDebtSo ∈ am_B := tb_2 (i := 102) rfl rfl
set_option maxRecDepth 20000 in
theorem fl_X9_95 : am_lf RX9 95 4 5 := ⟨(RX4, TX4, 6), rfl, by decide, tb_1 (i := 156) rfl rfl, rfl⟩
set_option maxRecDepth 20000 in
theorem lk_X9_98 : Cond.methodLink RX9 98 yX4_add ∈ am_B := tb_2 (i := 105) rfl rfl
set_option maxRecDepth 20000 in
theorem lk_X9_102 : Cond.methodLink RX9 102 yX9_isShelf ∈ am_B := tb_2 (i := 113) rfl rfl
set_option maxRecDepth 20000 in
theorem lk_X9_105 : Cond.methodLink RX9 105 yX7_holdsNothing ∈ am_B := tb_2 (i := 116) rfl rfl
set_option maxRecDepth 20000 in
theorem fl_X9_109 : am_lf RX9 109 6 2 := ⟨(RX7, TX7, 4), rfl, by decide, tb_2 (i := 24) rfl rfl, rfl⟩
set_option maxRecDepth 20000 in
theorem cn_X9_112 : Cond.constantLong RX9 112 (Int64.ofInt (4)) ∈ am_B := tb_2 (i := 120) rfl rfl
set_option maxRecDepth 20000 in
theorem lk_X9_114 : Cond.methodLink RX9 114 yX9_debtComes ∈ am_B := tb_2 (i := 121) rfl rfl
set_option maxRecDepth 20000 in
theorem lk_X9_118 : Cond.methodLink RX9 118 yX6_isNumber ∈ am_B := tb_2 (i := 135) rfl rfl
set_option maxRecDepth 20000 in
theorem lk_X9_121 : Cond.methodLink RX9 121 yX6_allows ∈ am_B := tb_2 (i := 139) rfl rfl
set_option maxRecDepth 20000 in
theorem lk_X9_124 : Cond.methodLink RX9 124 yX6_told ∈ am_B := tb_2 (i := 143) rfl rfl
set_option maxRecDepth 20000 in
theorem lk_X9_128 : Cond.methodLink RX9 128 yX1_note ∈ am_B := tb_2 (i := 147) rfl rfl
set_option maxRecDepth 20000 in
theorem lk_X9_132 : Cond.methodLink RX9 132 yX6_tell ∈ am_B := tb_2 (i := 158) rfl rfl
set_option maxRecDepth 20000 in
theorem lk_X9_136 : Cond.methodLink RX9 136 yX4_isDebt ∈ am_B := tb_2 (i := 166) rfl rfl
set_option maxRecDepth 20000 in
theorem lk_X9_139 : Cond.methodLink RX9 139 yX9_ofDebt ∈ am_B := tb_2 (i := 171) rfl rfl
set_option maxRecDepth 20000 in
theorem cn_X9_142 : Cond.constant RX9 142 (Int32.ofInt (-2000000000)) ∈ am_B := tb_2 (i := 175) rfl rfl
set_option maxRecDepth 20000 in
theorem lk_X9_143 : Cond.methodLink RX9 143 yX6_isPerson ∈ am_B := tb_2 (i := 176) rfl rfl
set_option maxRecDepth 20000 in
theorem lk_X9_146 : Cond.methodLink RX9 146 yX9_ofPerson ∈ am_B := tb_2 (i := 177) rfl rfl
set_option maxRecDepth 20000 in
theorem lk_X9_149 : Cond.methodLink RX9 149 yX4_owed ∈ am_B := tb_2 (i := 189) rfl rfl
set_option maxRecDepth 20000 in
theorem lk_X9_152 : Cond.methodLink RX9 152 yX2_isAsk ∈ am_B := tb_2 (i := 193) rfl rfl
set_option maxRecDepth 20000 in
theorem lk_X9_155 : Cond.methodLink RX9 155 yX9_ofAsk ∈ am_B := tb_2 (i := 198) rfl rfl
set_option maxRecDepth 20000 in
theorem fl_X9_158 : am_lf RX9 158 3 6 := ⟨(RX3, TX3, 15), rfl, by decide, tb_1 (i := 90) rfl rfl, rfl⟩
set_option maxRecDepth 20000 in
theorem lk_X9_161 : Cond.methodLink RX9 161 yX3_tapeOn ∈ am_B := tb_2 (i := 206) rfl rfl
set_option maxRecDepth 20000 in
theorem lk_X9_164 : Cond.methodLink RX9 164 yX3_adoptTape ∈ am_B := tb_2 (i := 214) rfl rfl
set_option maxRecDepth 20000 in
theorem lk_X9_168 : Cond.methodLink RX9 168 yX9_isDay ∈ am_B := tb_3 (i := 33) rfl rfl
set_option maxRecDepth 20000 in
theorem lk_X9_171 : Cond.methodLink RX9 171 yX9_worthOf ∈ am_B := tb_3 (i := 36) rfl rfl
set_option maxRecDepth 20000 in
theorem fl_X9_175 : am_lf RX9 175 2 7 := ⟨(RX2, TX2, 8), rfl, by decide, tb_1 (i := 191) rfl rfl, rfl⟩
set_option maxRecDepth 20000 in
theorem lk_X9_178 : Cond.methodLink RX9 178 yX9_isHoly ∈ am_B := tb_3 (i := 67) rfl rfl
set_option maxRecDepth 20000 in
theorem lk_X9_181 : Cond.methodLink RX9 181 yX4_isOpen ∈ am_B := tb_3 (i := 70) rfl rfl
set_option maxRecDepth 20000 in
theorem fl_X9_184 : am_lf RX9 184 2 6 := ⟨(RX2, TX2, 8), rfl, by decide, tb_1 (i := 189) rfl rfl, rfl⟩
set_option maxRecDepth 20000 in
theorem lk_X9_187 : Cond.methodLink RX9 187 yX2_addAsk ∈ am_B := tb_3 (i := 75) rfl rfl
set_option maxRecDepth 20000 in
theorem lk_X9_190 : Cond.methodLink RX9 190 yX9_debtToWork ∈ am_B := tb_3 (i := 83) rfl rfl
set_option maxRecDepth 20000 in
theorem fl_X9_193 : am_lf RX9 193 4 1 := ⟨(RX4, TX4, 6), rfl, by decide, tb_1 (i := 143) rfl rfl, rfl⟩
set_option maxRecDepth 20000 in
theorem cn_X9_196 : Cond.constant RX9 196 (Int32.ofInt (1103515245)) ∈ am_B := tb_3 (i := 95) rfl rfl
set_option maxRecDepth 20000 in
theorem fl_X9_197 : am_lf RX9 197 5 4 := ⟨(RX6, TX6, 5), rfl, by decide, tb_1 (i := 37) rfl rfl, rfl⟩
set_option maxRecDepth 20000 in
theorem lk_X9_200 : Cond.methodLink RX9 200 yX9_worksToday ∈ am_B := tb_3 (i := 96) rfl rfl
set_option maxRecDepth 20000 in
theorem lk_X9_203 : Cond.methodLink RX9 203 yX2_endDay ∈ am_B := tb_3 (i := 115) rfl rfl
set_option maxRecDepth 20000 in
theorem lk_X9_206 : Cond.methodLink RX9 206 yX2_place ∈ am_B := tb_3 (i := 123) rfl rfl
set_option maxRecDepth 20000 in
theorem fl_X9_209 : am_lf RX9 209 2 3 := ⟨(RX2, TX2, 8), rfl, by decide, tb_1 (i := 183) rfl rfl, rfl⟩
set_option maxRecDepth 20000 in
theorem fl_X9_212 : am_lf RX9 212 2 4 := ⟨(RX2, TX2, 8), rfl, by decide, tb_1 (i := 185) rfl rfl, rfl⟩
set_option maxRecDepth 20000 in
theorem lk_X9_215 : Cond.methodLink RX9 215 yX2_waiting ∈ am_B := tb_3 (i := 128) rfl rfl
set_option maxRecDepth 20000 in
theorem fl_X9_218 : am_lf RX9 218 4 0 := ⟨(RX4, TX4, 6), rfl, by decide, tb_1 (i := 139) rfl rfl, rfl⟩
set_option maxRecDepth 20000 in
theorem lk_X9_221 : Cond.methodLink RX9 221 yX9_worthOfBestDays ∈ am_B := tb_3 (i := 140) rfl rfl
set_option maxRecDepth 20000 in
theorem lk_X9_224 : Cond.methodLink RX9 224 yX4_owedBy ∈ am_B := tb_2 (i := 181) rfl rfl
set_option maxRecDepth 20000 in
theorem lk_X9_227 : Cond.methodLink RX9 227 yX5_least ∈ am_B := tb_3 (i := 152) rfl rfl
set_option maxRecDepth 20000 in
theorem lk_X9_233 : Cond.methodLink RX9 233 yX8_fewest ∈ am_B := tb_3 (i := 167) rfl rfl
set_option maxRecDepth 20000 in
theorem lk_X9_237 : Cond.methodLink RX9 237 yX4_owedTo ∈ am_B := tb_2 (i := 185) rfl rfl
set_option maxRecDepth 20000 in
theorem lk_X9_240 : Cond.methodLink RX9 240 yX4_handOn ∈ am_B := tb_3 (i := 184) rfl rfl
set_option maxRecDepth 20000 in
theorem lk_X9_243 : Cond.methodLink RX9 243 yX4_strikeOut ∈ am_B := tb_3 (i := 193) rfl rfl
set_option maxRecDepth 20000 in
theorem lk_X9_246 : Cond.methodLink RX9 246 yX4_dropAllBy ∈ am_B := tb_3 (i := 201) rfl rfl
set_option maxRecDepth 20000 in
theorem lk_X9_249 : Cond.methodLink RX9 249 yX4_inherit ∈ am_B := tb_3 (i := 210) rfl rfl
set_option maxRecDepth 20000 in
theorem fl_X9_252 : am_lf RX9 252 6 3 := ⟨(RX7, TX7, 4), rfl, by decide, tb_2 (i := 26) rfl rfl, rfl⟩
set_option maxRecDepth 20000 in
theorem lk_X9_255 : Cond.methodLink RX9 255 yX9_isThreeSo ∈ am_B := tb_3 (i := 218) rfl rfl
set_option maxRecDepth 20000 in
theorem lk_X9_259 : Cond.methodLink RX9 259 yX7_number ∈ am_B := tb_2 (i := 126) rfl rfl
set_option maxRecDepth 20000 in
theorem lk_X9_262 : Cond.methodLink RX9 262 yX4_copyFrom ∈ am_B := tb_3 (i := 230) rfl rfl
set_option maxRecDepth 20000 in
theorem lk_X9_266 : Cond.methodLink RX9 266 yX2_copyFrom ∈ am_B := tb_3 (i := 235) rfl rfl
set_option maxRecDepth 20000 in
theorem fl_X9_269 : am_lf RX9 269 8 11 := ⟨(RX9, TX9, 12), rfl, by decide, tb_2 (i := 48) rfl rfl, rfl⟩
set_option maxRecDepth 20000 in
theorem fl_X9_273 : am_lf RX9 273 1 4 := ⟨(RX1, TX1, 6), rfl, by decide, tb_1 (i := 61) rfl rfl, rfl⟩
set_option maxRecDepth 20000 in
theorem lk_X9_276 : Cond.methodLink RX9 276 yX1_takeBack ∈ am_B := tb_4 (i := 8) rfl rfl
set_option maxRecDepth 20000 in
theorem fl_X9_280 : am_lf RX9 280 1 5 := ⟨(RX1, TX1, 6), rfl, by decide, tb_1 (i := 63) rfl rfl, rfl⟩
set_option maxRecDepth 20000 in
theorem lk_X9_283 : Cond.methodLink RX9 283 yX1_doAgain ∈ am_B := tb_4 (i := 17) rfl rfl
set_option maxRecDepth 20000 in
theorem fl_X9_286 : am_lf RX9 286 0 2 := ⟨(RX0, TX0, 5), rfl, by decide, tb_1 (i := 237) rfl rfl, rfl⟩
set_option maxRecDepth 20000 in
theorem lk_X9_287 : Cond.methodLink RX9 287 yX0_add ∈ am_B := tb_4 (i := 25) rfl rfl
set_option maxRecDepth 20000 in
theorem fl_X9_289 : am_lf RX9 289 0 3 := ⟨(RX0, TX0, 5), rfl, by decide, tb_1 (i := 239) rfl rfl, rfl⟩
set_option maxRecDepth 20000 in
theorem lk_X9_292 : Cond.methodLink RX9 292 yX0_isBody ∈ am_B := tb_4 (i := 33) rfl rfl
set_option maxRecDepth 20000 in
theorem lk_X9_295 : Cond.methodLink RX9 295 yX0_perform ∈ am_B := tb_4 (i := 38) rfl rfl
set_option maxRecDepth 20000 in
theorem lk_X9_298 : Cond.methodLink RX9 298 yJ9_min_7cf53 ∈ am_B := tb_3 (i := 57) rfl rfl
set_option maxRecDepth 20000 in
theorem fl_X9_303 : am_lf RX9 303 0 1 := ⟨(RX0, TX0, 5), rfl, by decide, tb_1 (i := 235) rfl rfl, rfl⟩
set_option maxRecDepth 20000 in
theorem lk_X9_306 : Cond.methodLink RX9 306 yX7_holdDay ∈ am_B := tb_4 (i := 74) rfl rfl
set_option maxRecDepth 20000 in
theorem lk_X9_310 : Cond.methodLink RX9 310 yX7_holdRow ∈ am_B := tb_4 (i := 82) rfl rfl
set_option maxRecDepth 20000 in
theorem lk_X9_314 : Cond.methodLink RX9 314 yX9_refusalOfElement ∈ am_B := tb_4 (i := 90) rfl rfl
set_option maxRecDepth 20000 in
theorem lk_X9_317 : Cond.methodLink RX9 317 yX7_setElement ∈ am_B := tb_4 (i := 102) rfl rfl
set_option maxRecDepth 20000 in
theorem cn_X9_323 : Cond.constantLong RX9 323 (Int64.ofInt (-9223372036854775808)) ∈ am_B := tb_4 (i := 110) rfl rfl
set_option maxRecDepth 20000 in
theorem fl_X9_325 : am_lf RX9 325 6 0 := ⟨(RX7, TX7, 4), rfl, by decide, tb_2 (i := 20) rfl rfl, rfl⟩
set_option maxRecDepth 20000 in
theorem lk_X9_329 : Cond.methodLink RX9 329 yX7_holdsRow ∈ am_B := tb_4 (i := 94) rfl rfl
set_option maxRecDepth 20000 in
theorem lk_X9_332 : Cond.methodLink RX9 332 yX7_hasPlaces ∈ am_B := tb_4 (i := 98) rfl rfl
set_option maxRecDepth 20000 in
theorem lk_X9_335 : Cond.methodLink RX9 335 arraycopyName ∈ am_B := tb_4 (i := 115) rfl rfl
set_option maxRecDepth 20000 in
theorem fl_X9_341 : am_lf RX9 341 6 1 := ⟨(RX7, TX7, 4), rfl, by decide, tb_2 (i := 22) rfl rfl, rfl⟩
set_option maxRecDepth 20000 in
theorem fl_X9_344 : am_lf RX9 344 0 0 := ⟨(RX0, TX0, 5), rfl, by decide, tb_1 (i := 233) rfl rfl, rfl⟩
set_option maxRecDepth 20000 in
theorem lk_X9_347 : Cond.methodLink RX9 347 yX0_isUnder ∈ am_B := tb_4 (i := 120) rfl rfl
set_option maxRecDepth 20000 in
theorem lk_X9_350 : Cond.methodLink RX9 350 yX4_open ∈ am_B := tb_4 (i := 127) rfl rfl
set_option maxRecDepth 20000 in
theorem cn_X9_353 : Cond.constantLong RX9 353 (Int64.ofInt (3)) ∈ am_B := tb_2 (i := 125) rfl rfl
set_option maxRecDepth 20000 in
theorem lk_X9_355 : Cond.methodLink RX9 355 yX6_areUnlike ∈ am_B := tb_2 (i := 130) rfl rfl
set_option maxRecDepth 20000 in
theorem fl_X9_358 : am_lf RX9 358 4 2 := ⟨(RX4, TX4, 6), rfl, by decide, tb_1 (i := 146) rfl rfl, rfl⟩
set_option maxRecDepth 20000 in
theorem fl_X9_361 : am_lf RX9 361 4 3 := ⟨(RX4, TX4, 6), rfl, by decide, tb_1 (i := 150) rfl rfl, rfl⟩
set_option maxRecDepth 20000 in
theorem fl_X9_364 : am_lf RX9 364 4 4 := ⟨(RX4, TX4, 6), rfl, by decide, tb_1 (i := 152) rfl rfl, rfl⟩
set_option maxRecDepth 20000 in
theorem fl_X9_367 : am_lf RX9 367 5 1 := ⟨(RX6, TX6, 5), rfl, by decide, tb_1 (i := 31) rfl rfl, rfl⟩
set_option maxRecDepth 20000 in
theorem fl_X9_370 : am_lf RX9 370 2 5 := ⟨(RX2, TX2, 8), rfl, by decide, tb_1 (i := 187) rfl rfl, rfl⟩
set_option maxRecDepth 20000 in
theorem fl_X9_373 : am_lf RX9 373 2 0 := ⟨(RX2, TX2, 8), rfl, by decide, tb_1 (i := 177) rfl rfl, rfl⟩
set_option maxRecDepth 20000 in
theorem fl_X9_376 : am_lf RX9 376 2 1 := ⟨(RX2, TX2, 8), rfl, by decide, tb_1 (i := 179) rfl rfl, rfl⟩
set_option maxRecDepth 20000 in
theorem fl_X9_379 : am_lf RX9 379 2 2 := ⟨(RX2, TX2, 8), rfl, by decide, tb_1 (i := 181) rfl rfl, rfl⟩
set_option maxRecDepth 20000 in
theorem fl_X9_383 : am_lf RX9 383 5 0 := ⟨(RX6, TX6, 5), rfl, by decide, tb_1 (i := 29) rfl rfl, rfl⟩
set_option maxRecDepth 20000 in
theorem lk_X9_386 : Cond.methodLink RX9 386 yX3_isGiven ∈ am_B := tb_3 (i := 40) rfl rfl
set_option maxRecDepth 20000 in
theorem lk_X9_389 : Cond.methodLink RX9 389 yX3_value ∈ am_B := tb_3 (i := 44) rfl rfl
set_option maxRecDepth 20000 in
theorem lk_X9_393 : Cond.methodLink RX9 393 yJ9_max_7cf53 ∈ am_B := tb_3 (i := 60) rfl rfl
set_option maxRecDepth 20000 in
theorem lk_X9_396 : Cond.methodLink RX9 396 yX9_meritOf ∈ am_B := tb_3 (i := 87) rfl rfl
set_option maxRecDepth 20000 in
theorem fl_X9_399 : am_lf RX9 399 5 3 := ⟨(RX6, TX6, 5), rfl, by decide, tb_1 (i := 35) rfl rfl, rfl⟩
set_option maxRecDepth 20000 in
theorem lk_X9_402 : Cond.methodLink RX9 402 yX2_lead ∈ am_B := tb_3 (i := 100) rfl rfl
set_option maxRecDepth 20000 in
theorem lk_X9_405 : Cond.methodLink RX9 405 yX4_workOff ∈ am_B := tb_3 (i := 107) rfl rfl
set_option maxRecDepth 20000 in
theorem lk_X0_3 : Cond.methodLink RX0 3 objectInit ∈ am_B := tb_1 (i := 231) rfl rfl
set_option maxRecDepth 20000 in
theorem fl_X0_9 : am_lf RX0 9 0 0 := ⟨(RX0, TX0, 5), rfl, by decide, tb_1 (i := 232) rfl rfl, rfl⟩
set_option maxRecDepth 20000 in
theorem fl_X0_15 : am_lf RX0 15 0 1 := ⟨(RX0, TX0, 5), rfl, by decide, tb_1 (i := 234) rfl rfl, rfl⟩
set_option maxRecDepth 20000 in
theorem fl_X0_18 : am_lf RX0 18 0 2 := ⟨(RX0, TX0, 5), rfl, by decide, tb_1 (i := 236) rfl rfl, rfl⟩
set_option maxRecDepth 20000 in
theorem lk_X0_22 : Cond.methodLinkNest RX0 22 yX9_within RX9 ∈ am_N := by simp [am_N]
set_option maxRecDepth 20000 in
theorem gs_X0_26 : Cond.fieldLink RX0 26 RX0 "ABOVE" "[I" ∈ am_B := tb_4 (i := 52) rfl rfl
set_option maxRecDepth 20000 in
theorem fl_X0_29 : am_lf RX0 29 0 4 := ⟨(RX0, TX0, 5), rfl, by decide, tb_2 (i := 0) rfl rfl, rfl⟩
set_option maxRecDepth 20000 in
theorem lk_X0_32 : Cond.methodLink RX0 32 yX0_own ∈ am_B := tb_4 (i := 42) rfl rfl
set_option maxRecDepth 20000 in
theorem lk_X0_36 : Cond.methodLink RX0 36 yX0_from ∈ am_B := tb_4 (i := 46) rfl rfl
set_option maxRecDepth 20000 in
theorem gs_X0_40 : Cond.fieldLink RX0 40 RX0 "OWN" "[I" ∈ am_B := tb_4 (i := 50) rfl rfl
set_option maxRecDepth 20000 in
theorem lk_X0_43 : Cond.methodLink RX0 43 yX0_note ∈ am_B := tb_4 (i := 54) rfl rfl
set_option maxRecDepth 20000 in
theorem lk_X0_47 : Cond.methodLink RX0 47 yX0_runOfDay ∈ am_B := tb_4 (i := 58) rfl rfl
set_option maxRecDepth 20000 in
theorem lk_X0_50 : Cond.methodLink RX0 50 yX0_runUnderDay ∈ am_B := tb_4 (i := 62) rfl rfl
set_option maxRecDepth 20000 in
theorem fl_X0_53 : am_lf RX0 53 0 3 := ⟨(RX0, TX0, 5), rfl, by decide, tb_1 (i := 238) rfl rfl, rfl⟩
set_option maxRecDepth 20000 in
theorem lk_X1_3 : Cond.methodLink RX1 3 objectInit ∈ am_B := tb_1 (i := 55) rfl rfl
set_option maxRecDepth 20000 in
theorem fl_X1_9 : am_lf RX1 9 1 0 := ⟨(RX1, TX1, 6), rfl, by decide, tb_1 (i := 56) rfl rfl, rfl⟩
set_option maxRecDepth 20000 in
theorem fl_X1_15 : am_lf RX1 15 1 1 := ⟨(RX1, TX1, 6), rfl, by decide, tb_1 (i := 57) rfl rfl, rfl⟩
set_option maxRecDepth 20000 in
theorem fl_X1_18 : am_lf RX1 18 1 2 := ⟨(RX1, TX1, 6), rfl, by decide, tb_1 (i := 58) rfl rfl, rfl⟩
set_option maxRecDepth 20000 in
theorem fl_X1_21 : am_lf RX1 21 1 3 := ⟨(RX1, TX1, 6), rfl, by decide, tb_1 (i := 59) rfl rfl, rfl⟩
set_option maxRecDepth 20000 in
theorem fl_X1_24 : am_lf RX1 24 1 4 := ⟨(RX1, TX1, 6), rfl, by decide, tb_1 (i := 60) rfl rfl, rfl⟩
set_option maxRecDepth 20000 in
theorem lk_X1_28 : Cond.methodLink RX1 28 yX1_forgetOldest ∈ am_B := tb_2 (i := 151) rfl rfl
set_option maxRecDepth 20000 in
theorem fl_X1_31 : am_lf RX1 31 1 5 := ⟨(RX1, TX1, 6), rfl, by decide, tb_1 (i := 62) rfl rfl, rfl⟩
set_option maxRecDepth 20000 in
theorem lk_X1_34 : Cond.methodLink RX1 34 arraycopyName ∈ am_B := tb_2 (i := 155) rfl rfl
set_option maxRecDepth 20000 in
theorem lk_X1_40 : Cond.methodLink RX1 40 yX6_tell ∈ am_B := tb_4 (i := 12) rfl rfl
set_option maxRecDepth 20000 in
theorem lk_X2_3 : Cond.methodLink RX2 3 objectInit ∈ am_B := tb_1 (i := 175) rfl rfl
set_option maxRecDepth 20000 in
theorem fl_X2_9 : am_lf RX2 9 2 0 := ⟨(RX2, TX2, 8), rfl, by decide, tb_1 (i := 176) rfl rfl, rfl⟩
set_option maxRecDepth 20000 in
theorem fl_X2_15 : am_lf RX2 15 2 1 := ⟨(RX2, TX2, 8), rfl, by decide, tb_1 (i := 178) rfl rfl, rfl⟩
set_option maxRecDepth 20000 in
theorem fl_X2_18 : am_lf RX2 18 2 2 := ⟨(RX2, TX2, 8), rfl, by decide, tb_1 (i := 180) rfl rfl, rfl⟩
set_option maxRecDepth 20000 in
theorem fl_X2_22 : am_lf RX2 22 2 3 := ⟨(RX2, TX2, 8), rfl, by decide, tb_1 (i := 182) rfl rfl, rfl⟩
set_option maxRecDepth 20000 in
theorem fl_X2_25 : am_lf RX2 25 2 4 := ⟨(RX2, TX2, 8), rfl, by decide, tb_1 (i := 184) rfl rfl, rfl⟩
set_option maxRecDepth 20000 in
theorem fl_X2_28 : am_lf RX2 28 2 5 := ⟨(RX2, TX2, 8), rfl, by decide, tb_1 (i := 186) rfl rfl, rfl⟩
set_option maxRecDepth 20000 in
theorem lk_X2_31 : Cond.methodLink RX2 31 arraycopyName ∈ am_B := tb_3 (i := 239) rfl rfl
set_option maxRecDepth 20000 in
theorem fl_X2_37 : am_lf RX2 37 2 6 := ⟨(RX2, TX2, 8), rfl, by decide, tb_1 (i := 188) rfl rfl, rfl⟩
set_option maxRecDepth 20000 in
theorem fl_X2_41 : am_lf RX2 41 2 7 := ⟨(RX2, TX2, 8), rfl, by decide, tb_1 (i := 190) rfl rfl, rfl⟩
set_option maxRecDepth 20000 in
theorem lk_X2_44 : Cond.methodLinkNest RX2 44 yX9_within RX9 ∈ am_N := by simp [am_N]
set_option maxRecDepth 20000 in
theorem lk_X2_48 : Cond.methodLink RX2 48 yX2_place ∈ am_B := tb_3 (i := 104) rfl rfl
set_option maxRecDepth 20000 in
theorem lk_X3_5 : Cond.methodLink RX3 5 objectInit ∈ am_B := tb_1 (i := 82) rfl rfl
set_option maxRecDepth 20000 in
theorem fl_X3_11 : am_lf RX3 11 3 0 := ⟨(RX3, TX3, 15), rfl, by decide, tb_1 (i := 83) rfl rfl, rfl⟩
set_option maxRecDepth 20000 in
theorem fl_X3_15 : am_lf RX3 15 3 1 := ⟨(RX3, TX3, 15), rfl, by decide, tb_1 (i := 84) rfl rfl, rfl⟩
set_option maxRecDepth 20000 in
theorem fl_X3_18 : am_lf RX3 18 3 2 := ⟨(RX3, TX3, 15), rfl, by decide, tb_1 (i := 85) rfl rfl, rfl⟩
set_option maxRecDepth 20000 in
theorem fl_X3_21 : am_lf RX3 21 3 3 := ⟨(RX3, TX3, 15), rfl, by decide, tb_1 (i := 86) rfl rfl, rfl⟩
set_option maxRecDepth 20000 in
theorem fl_X3_24 : am_lf RX3 24 3 4 := ⟨(RX3, TX3, 15), rfl, by decide, tb_1 (i := 87) rfl rfl, rfl⟩
set_option maxRecDepth 20000 in
theorem fl_X3_27 : am_lf RX3 27 3 5 := ⟨(RX3, TX3, 15), rfl, by decide, tb_1 (i := 88) rfl rfl, rfl⟩
set_option maxRecDepth 20000 in
theorem fl_X3_30 : am_lf RX3 30 3 6 := ⟨(RX3, TX3, 15), rfl, by decide, tb_1 (i := 89) rfl rfl, rfl⟩
set_option maxRecDepth 20000 in
theorem fl_X3_34 : am_lf RX3 34 3 7 := ⟨(RX3, TX3, 15), rfl, by decide, tb_1 (i := 91) rfl rfl, rfl⟩
set_option maxRecDepth 20000 in
theorem lk_X3_37 : Cond.methodLink RX3 37 yX3_faultOfTape ∈ am_B := tb_2 (i := 218) rfl rfl
set_option maxRecDepth 20000 in
theorem fl_X3_41 : am_lf RX3 41 3 8 := ⟨(RX3, TX3, 15), rfl, by decide, tb_1 (i := 92) rfl rfl, rfl⟩
set_option maxRecDepth 20000 in
theorem lk_X3_44 : Cond.methodLink RX3 44 arraycopyName ∈ am_B := tb_3 (i := 28) rfl rfl
set_option maxRecDepth 20000 in
theorem fl_X3_50 : am_lf RX3 50 3 9 := ⟨(RX3, TX3, 15), rfl, by decide, tb_1 (i := 93) rfl rfl, rfl⟩
set_option maxRecDepth 20000 in
theorem fl_X3_53 : am_lf RX3 53 3 10 := ⟨(RX3, TX3, 15), rfl, by decide, tb_1 (i := 94) rfl rfl, rfl⟩
set_option maxRecDepth 20000 in
theorem fl_X3_56 : am_lf RX3 56 3 11 := ⟨(RX3, TX3, 15), rfl, by decide, tb_1 (i := 95) rfl rfl, rfl⟩
set_option maxRecDepth 20000 in
theorem fl_X3_59 : am_lf RX3 59 3 13 := ⟨(RX3, TX3, 15), rfl, by decide, tb_1 (i := 97) rfl rfl, rfl⟩
set_option maxRecDepth 20000 in
theorem fl_X3_63 : am_lf RX3 63 3 14 := ⟨(RX3, TX3, 15), rfl, by decide, tb_1 (i := 98) rfl rfl, rfl⟩
set_option maxRecDepth 20000 in
theorem lk_X3_66 : Cond.methodLink RX3 66 yX3_takeForOperand ∈ am_B := tb_2 (i := 222) rfl rfl
set_option maxRecDepth 20000 in
theorem lk_X3_70 : Cond.methodLink RX3 70 yX3_takeBehindOperand ∈ am_B := tb_3 (i := 5) rfl rfl
set_option maxRecDepth 20000 in
theorem lk_X3_73 : Cond.methodLink RX3 73 yX3_settle ∈ am_B := tb_3 (i := 17) rfl rfl
set_option maxRecDepth 20000 in
theorem lk_X3_77 : Cond.methodLink RX3 77 yX3_emit ∈ am_B := tb_2 (i := 234) rfl rfl
set_option maxRecDepth 20000 in
theorem lk_X3_80 : Cond.methodLink RX3 80 yX3_isDigit ∈ am_B := tb_2 (i := 226) rfl rfl
set_option maxRecDepth 20000 in
theorem lk_X3_83 : Cond.methodLink RX3 83 yX3_endOperand ∈ am_B := tb_2 (i := 230) rfl rfl
set_option maxRecDepth 20000 in
theorem lk_X3_87 : Cond.methodLink RX3 87 yX3_nameOf ∈ am_B := tb_2 (i := 238) rfl rfl
set_option maxRecDepth 20000 in
theorem lk_X3_91 : Cond.methodLink RX3 91 yX3_push ∈ am_B := tb_3 (i := 1) rfl rfl
set_option maxRecDepth 20000 in
theorem fl_X3_94 : am_lf RX3 94 3 12 := ⟨(RX3, TX3, 15), rfl, by decide, tb_1 (i := 96) rfl rfl, rfl⟩
set_option maxRecDepth 20000 in
theorem lk_X3_97 : Cond.methodLink RX3 97 yX3_takeNextDigit ∈ am_B := tb_3 (i := 9) rfl rfl
set_option maxRecDepth 20000 in
theorem lk_X3_100 : Cond.methodLink RX3 100 yX3_takeBracketsEnd ∈ am_B := tb_3 (i := 13) rfl rfl
set_option maxRecDepth 20000 in
theorem lk_X3_104 : Cond.methodLink RX3 104 yX3_takeExpressionsEnd ∈ am_B := tb_3 (i := 24) rfl rfl
set_option maxRecDepth 20000 in
theorem lk_X3_107 : Cond.methodLink RX3 107 yX3_rankOf ∈ am_B := tb_3 (i := 21) rfl rfl
set_option maxRecDepth 20000 in
theorem lk_X3_110 : Cond.methodLinkNest RX3 110 yX9_within RX9 ∈ am_N := by simp [am_N]
set_option maxRecDepth 20000 in
theorem lk_X3_114 : Cond.methodLink RX3 114 yX3_operandsOf ∈ am_B := tb_3 (i := 48) rfl rfl
set_option maxRecDepth 20000 in
theorem lk_X3_117 : Cond.methodLink RX3 117 yX3_ofOne ∈ am_B := tb_3 (i := 51) rfl rfl
set_option maxRecDepth 20000 in
theorem lk_X3_121 : Cond.methodLink RX3 121 yX3_ofTwo ∈ am_B := tb_3 (i := 54) rfl rfl
set_option maxRecDepth 20000 in
theorem lk_X4_3 : Cond.methodLink RX4 3 objectInit ∈ am_B := tb_1 (i := 135) rfl rfl
set_option maxRecDepth 20000 in
theorem fl_X4_9 : am_lf RX4 9 4 0 := ⟨(RX4, TX4, 6), rfl, by decide, tb_1 (i := 136) rfl rfl, rfl⟩
set_option maxRecDepth 20000 in
theorem fl_X4_15 : am_lf RX4 15 4 1 := ⟨(RX4, TX4, 6), rfl, by decide, tb_1 (i := 140) rfl rfl, rfl⟩
set_option maxRecDepth 20000 in
theorem fl_X4_18 : am_lf RX4 18 4 2 := ⟨(RX4, TX4, 6), rfl, by decide, tb_1 (i := 144) rfl rfl, rfl⟩
set_option maxRecDepth 20000 in
theorem fl_X4_21 : am_lf RX4 21 4 3 := ⟨(RX4, TX4, 6), rfl, by decide, tb_1 (i := 147) rfl rfl, rfl⟩
set_option maxRecDepth 20000 in
theorem fl_X4_24 : am_lf RX4 24 4 4 := ⟨(RX4, TX4, 6), rfl, by decide, tb_1 (i := 151) rfl rfl, rfl⟩
set_option maxRecDepth 20000 in
theorem lk_X4_27 : Cond.methodLink RX4 27 arraycopyName ∈ am_B := tb_3 (i := 234) rfl rfl
set_option maxRecDepth 20000 in
theorem fl_X4_33 : am_lf RX4 33 4 5 := ⟨(RX4, TX4, 6), rfl, by decide, tb_1 (i := 154) rfl rfl, rfl⟩
set_option maxRecDepth 20000 in
theorem lk_X4_37 : Cond.methodLinkNest RX4 37 yX9_within RX9 ∈ am_N := by simp [am_N]
set_option maxRecDepth 20000 in
theorem lk_X4_41 : Cond.methodLink RX4 41 yX4_isDebt ∈ am_B := tb_3 (i := 74) rfl rfl
set_option maxRecDepth 20000 in
theorem lk_X4_45 : Cond.methodLink RX4 45 yX4_lessen ∈ am_B := tb_3 (i := 111) rfl rfl
set_option maxRecDepth 20000 in
theorem lk_X4_49 : Cond.methodLink RX4 49 yX4_isOpen ∈ am_B := tb_3 (i := 188) rfl rfl
set_option maxRecDepth 20000 in
theorem lk_X4_52 : Cond.methodLink RX4 52 yX4_owedBy ∈ am_B := tb_3 (i := 205) rfl rfl
set_option maxRecDepth 20000 in
theorem fl_X5_9 : am_lf RX5 9 4 5 := ⟨(RX4, TX4, 6), rfl, by decide, tb_1 (i := 153) rfl rfl, rfl⟩
set_option maxRecDepth 20000 in
theorem lk_X5_15 : Cond.methodLink RX5 15 yX4_isOpen ∈ am_B := tb_3 (i := 155) rfl rfl
set_option maxRecDepth 20000 in
theorem fl_X5_19 : am_lf RX5 19 4 0 := ⟨(RX4, TX4, 6), rfl, by decide, tb_1 (i := 137) rfl rfl, rfl⟩
set_option maxRecDepth 20000 in
theorem lk_X5_23 : Cond.methodLink RX5 23 yX5_follow ∈ am_B := tb_3 (i := 156) rfl rfl
set_option maxRecDepth 20000 in
theorem lk_X5_29 : Cond.methodLink RX5 29 yX5_lesser ∈ am_B := tb_3 (i := 159) rfl rfl
set_option maxRecDepth 20000 in
theorem fl_X5_33 : am_lf RX5 33 4 1 := ⟨(RX4, TX4, 6), rfl, by decide, tb_1 (i := 141) rfl rfl, rfl⟩
set_option maxRecDepth 20000 in
theorem fl_X5_36 : am_lf RX5 36 4 3 := ⟨(RX4, TX4, 6), rfl, by decide, tb_1 (i := 149) rfl rfl, rfl⟩
set_option maxRecDepth 20000 in
theorem lk_X5_39 : Cond.methodLink RX5 39 yJ9_min_7cf53 ∈ am_B := tb_3 (i := 162) rfl rfl
set_option maxRecDepth 20000 in
theorem lk_X6_3 : Cond.methodLink RX6 3 objectInit ∈ am_B := tb_1 (i := 27) rfl rfl
set_option maxRecDepth 20000 in
theorem fl_X6_9 : am_lf RX6 9 5 0 := ⟨(RX6, TX6, 5), rfl, by decide, tb_1 (i := 28) rfl rfl, rfl⟩
set_option maxRecDepth 20000 in
theorem fl_X6_15 : am_lf RX6 15 5 1 := ⟨(RX6, TX6, 5), rfl, by decide, tb_1 (i := 30) rfl rfl, rfl⟩
set_option maxRecDepth 20000 in
theorem fl_X6_18 : am_lf RX6 18 5 4 := ⟨(RX6, TX6, 5), rfl, by decide, tb_1 (i := 36) rfl rfl, rfl⟩
set_option maxRecDepth 20000 in
theorem fl_X6_22 : am_lf RX6 22 5 2 := ⟨(RX6, TX6, 5), rfl, by decide, tb_1 (i := 32) rfl rfl, rfl⟩
set_option maxRecDepth 20000 in
theorem lk_X6_25 : Cond.methodLinkNest RX6 25 yX9_within RX9 ∈ am_N := by simp [am_N]
set_option maxRecDepth 20000 in
theorem lk_X6_29 : Cond.methodLink RX6 29 yX6_isPerson ∈ am_B := tb_2 (i := 97) rfl rfl
set_option maxRecDepth 20000 in
theorem lk_X6_33 : Cond.methodLink RX6 33 yX6_areUnlike ∈ am_B := tb_2 (i := 93) rfl rfl
set_option maxRecDepth 20000 in
theorem fl_X6_37 : am_lf RX6 37 5 3 := ⟨(RX6, TX6, 5), rfl, by decide, tb_1 (i := 34) rfl rfl, rfl⟩
set_option maxRecDepth 20000 in
theorem lk_X7_3 : Cond.methodLink RX7 3 objectInit ∈ am_B := tb_2 (i := 18) rfl rfl
set_option maxRecDepth 20000 in
theorem fl_X7_9 : am_lf RX7 9 6 0 := ⟨(RX7, TX7, 4), rfl, by decide, tb_2 (i := 19) rfl rfl, rfl⟩
set_option maxRecDepth 20000 in
theorem fl_X7_15 : am_lf RX7 15 6 1 := ⟨(RX7, TX7, 4), rfl, by decide, tb_2 (i := 21) rfl rfl, rfl⟩
set_option maxRecDepth 20000 in
theorem fl_X7_19 : am_lf RX7 19 6 2 := ⟨(RX7, TX7, 4), rfl, by decide, tb_2 (i := 23) rfl rfl, rfl⟩
set_option maxRecDepth 20000 in
theorem fl_X7_22 : am_lf RX7 22 6 3 := ⟨(RX7, TX7, 4), rfl, by decide, tb_2 (i := 25) rfl rfl, rfl⟩
set_option maxRecDepth 20000 in
theorem lk_X8_3 : Cond.methodLink RX8 3 objectInit ∈ am_B := tb_1 (i := 215) rfl rfl
set_option maxRecDepth 20000 in
theorem fl_X8_9 : am_lf RX8 9 7 0 := ⟨(RX8, TX8, 3), rfl, by decide, tb_1 (i := 216) rfl rfl, rfl⟩
set_option maxRecDepth 20000 in
theorem fl_X8_15 : am_lf RX8 15 7 1 := ⟨(RX8, TX8, 3), rfl, by decide, tb_1 (i := 217) rfl rfl, rfl⟩
set_option maxRecDepth 20000 in
theorem fl_X8_18 : am_lf RX8 18 7 2 := ⟨(RX8, TX8, 3), rfl, by decide, tb_1 (i := 218) rfl rfl, rfl⟩
set_option maxRecDepth 20000 in
theorem lk_X8_21 : Cond.methodLink RX8 21 yX8_takeNet ∈ am_B := tb_3 (i := 171) rfl rfl
set_option maxRecDepth 20000 in
theorem lk_X8_25 : Cond.methodLink RX8 25 yJ9_max_7cf53 ∈ am_B := tb_3 (i := 175) rfl rfl
set_option maxRecDepth 20000 in
theorem fl_X8_31 : am_lf RX8 31 4 5 := ⟨(RX4, TX4, 6), rfl, by decide, tb_1 (i := 155) rfl rfl, rfl⟩
set_option maxRecDepth 20000 in
theorem fl_X8_37 : am_lf RX8 37 4 3 := ⟨(RX4, TX4, 6), rfl, by decide, tb_1 (i := 148) rfl rfl, rfl⟩
set_option maxRecDepth 20000 in
theorem fl_X8_40 : am_lf RX8 40 4 0 := ⟨(RX4, TX4, 6), rfl, by decide, tb_1 (i := 138) rfl rfl, rfl⟩
set_option maxRecDepth 20000 in
theorem fl_X8_43 : am_lf RX8 43 4 2 := ⟨(RX4, TX4, 6), rfl, by decide, tb_1 (i := 145) rfl rfl, rfl⟩
set_option maxRecDepth 20000 in
theorem fl_X8_46 : am_lf RX8 46 4 1 := ⟨(RX4, TX4, 6), rfl, by decide, tb_1 (i := 142) rfl rfl, rfl⟩
set_option maxRecDepth 20000 in
theorem kl_L_7 : Cond.classLink RL 7 RX9 ∈ am_B := tb_1 (i := 14) rfl rfl
set_option maxRecDepth 20000 in
theorem lk_L_9 : Cond.methodLink RL 9 yX9_init ∈ am_B := tb_1 (i := 16) rfl rfl
set_option maxRecDepth 20000 in
theorem kl_L_10 : Cond.classLink RL 10 RX10 ∈ am_B := tb_4 (i := 131) rfl rfl
set_option maxRecDepth 20000 in
theorem lk_L_12 : Cond.methodLink RL 12 yX10_init ∈ am_B := tb_4 (i := 133) rfl rfl
set_option maxRecDepth 20000 in
theorem lk_L_13 : Cond.methodLink RL 13 yX9_person ∈ am_B := tb_2 (i := 74) rfl rfl
set_option maxRecDepth 20000 in
theorem lk_L_17 : Cond.methodLink RL 17 yX10_person ∈ am_B := tb_5 (i := 53) rfl rfl
set_option maxRecDepth 20000 in
theorem lk_L_18 : Cond.methodLink RL 18 yX9_debt ∈ am_B := tb_2 (i := 85) rfl rfl
set_option maxRecDepth 20000 in
theorem lk_L_22 : Cond.methodLink RL 22 yX10_debt ∈ am_B := tb_5 (i := 61) rfl rfl
set_option maxRecDepth 20000 in
theorem lk_L_23 : Cond.methodLink RL 23 yX9_debts ∈ am_B := tb_2 (i := 109) rfl rfl
set_option maxRecDepth 20000 in
theorem lk_L_27 : Cond.methodLink RL 27 yX10_debts ∈ am_B := tb_5 (i := 74) rfl rfl
set_option maxRecDepth 20000 in
theorem lk_L_28 : Cond.methodLink RL 28 yX9_mend ∈ am_B := tb_2 (i := 131) rfl rfl
set_option maxRecDepth 20000 in
theorem lk_L_31 : Cond.methodLink RL 31 yX10_mend ∈ am_B := tb_5 (i := 83) rfl rfl
set_option maxRecDepth 20000 in
theorem lk_L_32 : Cond.methodLink RL 32 yX9_of ∈ am_B := tb_2 (i := 162) rfl rfl
set_option maxRecDepth 20000 in
theorem lk_L_35 : Cond.methodLink RL 35 yX10_of ∈ am_B := tb_5 (i := 97) rfl rfl
set_option maxRecDepth 20000 in
theorem lk_L_36 : Cond.methodLink RL 36 yX9_feed ∈ am_B := tb_2 (i := 202) rfl rfl
set_option maxRecDepth 20000 in
theorem lk_L_39 : Cond.methodLink RL 39 yX10_feed ∈ am_B := tb_5 (i := 127) rfl rfl
set_option maxRecDepth 20000 in
theorem lk_L_40 : Cond.methodLink RL 40 yX9_law ∈ am_B := tb_2 (i := 210) rfl rfl
set_option maxRecDepth 20000 in
theorem lk_L_44 : Cond.methodLink RL 44 yX10_law ∈ am_B := tb_5 (i := 132) rfl rfl
set_option maxRecDepth 20000 in
theorem lk_L_45 : Cond.methodLink RL 45 yX9_worth ∈ am_B := tb_3 (i := 29) rfl rfl
set_option maxRecDepth 20000 in
theorem lk_L_48 : Cond.methodLink RL 48 yX10_worth ∈ am_B := tb_5 (i := 179) rfl rfl
set_option maxRecDepth 20000 in
theorem lk_L_49 : Cond.methodLink RL 49 yX9_ask ∈ am_B := tb_3 (i := 63) rfl rfl
set_option maxRecDepth 20000 in
theorem lk_L_52 : Cond.methodLink RL 52 yX10_ask ∈ am_B := tb_5 (i := 191) rfl rfl
set_option maxRecDepth 20000 in
theorem lk_L_53 : Cond.methodLink RL 53 yX9_has ∈ am_B := tb_3 (i := 79) rfl rfl
set_option maxRecDepth 20000 in
theorem lk_L_56 : Cond.methodLink RL 56 yX10_has ∈ am_B := tb_5 (i := 206) rfl rfl
set_option maxRecDepth 20000 in
theorem lk_L_57 : Cond.methodLink RL 57 yX9_go ∈ am_B := tb_3 (i := 91) rfl rfl
set_option maxRecDepth 20000 in
theorem lk_L_60 : Cond.methodLink RL 60 yX10_go ∈ am_B := tb_5 (i := 222) rfl rfl
set_option maxRecDepth 20000 in
theorem lk_L_61 : Cond.methodLink RL 61 yX9_led ∈ am_B := tb_3 (i := 119) rfl rfl
set_option maxRecDepth 20000 in
theorem lk_L_64 : Cond.methodLink RL 64 yX10_led ∈ am_B := tb_6 (i := 0) rfl rfl
set_option maxRecDepth 20000 in
theorem lk_L_65 : Cond.methodLink RL 65 yX9_waits ∈ am_B := tb_3 (i := 124) rfl rfl
set_option maxRecDepth 20000 in
theorem lk_L_68 : Cond.methodLink RL 68 yX10_waits ∈ am_B := tb_5 (i := 218) rfl rfl
set_option maxRecDepth 20000 in
theorem lk_L_69 : Cond.methodLink RL 69 yX9_bestDay ∈ am_B := tb_3 (i := 132) rfl rfl
set_option maxRecDepth 20000 in
theorem lk_L_72 : Cond.methodLink RL 72 yX10_bestDay ∈ am_B := tb_6 (i := 4) rfl rfl
set_option maxRecDepth 20000 in
theorem lk_L_73 : Cond.methodLink RL 73 yX9_plan ∈ am_B := tb_3 (i := 136) rfl rfl
set_option maxRecDepth 20000 in
theorem lk_L_76 : Cond.methodLink RL 76 yX10_plan ∈ am_B := tb_6 (i := 8) rfl rfl
set_option maxRecDepth 20000 in
theorem lk_L_77 : Cond.methodLink RL 77 yX9_free ∈ am_B := tb_3 (i := 144) rfl rfl
set_option maxRecDepth 20000 in
theorem lk_L_80 : Cond.methodLink RL 80 yX10_free ∈ am_B := tb_6 (i := 16) rfl rfl
set_option maxRecDepth 20000 in
theorem lk_L_81 : Cond.methodLink RL 81 yX9_ring ∈ am_B := tb_3 (i := 148) rfl rfl
set_option maxRecDepth 20000 in
theorem lk_L_84 : Cond.methodLink RL 84 yX10_ring ∈ am_B := tb_6 (i := 20) rfl rfl
set_option maxRecDepth 20000 in
theorem lk_L_85 : Cond.methodLink RL 85 yX9_wiped ∈ am_B := tb_3 (i := 163) rfl rfl
set_option maxRecDepth 20000 in
theorem lk_L_88 : Cond.methodLink RL 88 yX10_wiped ∈ am_B := tb_6 (i := 31) rfl rfl
set_option maxRecDepth 20000 in
theorem lk_L_89 : Cond.methodLink RL 89 yX9_balance ∈ am_B := tb_3 (i := 176) rfl rfl
set_option maxRecDepth 20000 in
theorem lk_L_92 : Cond.methodLink RL 92 yX10_balance ∈ am_B := tb_6 (i := 39) rfl rfl
set_option maxRecDepth 20000 in
theorem lk_L_93 : Cond.methodLink RL 93 yX9_hand ∈ am_B := tb_3 (i := 180) rfl rfl
set_option maxRecDepth 20000 in
theorem lk_L_96 : Cond.methodLink RL 96 yX10_hand ∈ am_B := tb_6 (i := 43) rfl rfl
set_option maxRecDepth 20000 in
theorem lk_L_97 : Cond.methodLink RL 97 yX9_strike ∈ am_B := tb_3 (i := 189) rfl rfl
set_option maxRecDepth 20000 in
theorem lk_L_100 : Cond.methodLink RL 100 yX10_strike ∈ am_B := tb_6 (i := 47) rfl rfl
set_option maxRecDepth 20000 in
theorem lk_L_101 : Cond.methodLink RL 101 yX9_runaway ∈ am_B := tb_3 (i := 197) rfl rfl
set_option maxRecDepth 20000 in
theorem lk_L_104 : Cond.methodLink RL 104 yX10_runaway ∈ am_B := tb_6 (i := 52) rfl rfl
set_option maxRecDepth 20000 in
theorem lk_L_105 : Cond.methodLink RL 105 yX9_heir ∈ am_B := tb_3 (i := 206) rfl rfl
set_option maxRecDepth 20000 in
theorem lk_L_108 : Cond.methodLink RL 108 yX10_heir ∈ am_B := tb_6 (i := 56) rfl rfl
set_option maxRecDepth 20000 in
theorem lk_L_109 : Cond.methodLink RL 109 yX9_judge ∈ am_B := tb_3 (i := 214) rfl rfl
set_option maxRecDepth 20000 in
theorem lk_L_112 : Cond.methodLink RL 112 yX10_judge ∈ am_B := tb_6 (i := 60) rfl rfl
set_option maxRecDepth 20000 in
theorem lk_L_113 : Cond.methodLink RL 113 yX9_wet ∈ am_B := tb_3 (i := 222) rfl rfl
set_option maxRecDepth 20000 in
theorem lk_L_116 : Cond.methodLink RL 116 yX10_wet ∈ am_B := tb_6 (i := 73) rfl rfl
set_option maxRecDepth 20000 in
theorem lk_L_117 : Cond.methodLink RL 117 yX9_image ∈ am_B := tb_3 (i := 226) rfl rfl
set_option maxRecDepth 20000 in
theorem lk_L_120 : Cond.methodLink RL 120 yX10_image ∈ am_B := tb_6 (i := 77) rfl rfl
set_option maxRecDepth 20000 in
theorem lk_L_121 : Cond.methodLink RL 121 yX9_back ∈ am_B := tb_4 (i := 0) rfl rfl
set_option maxRecDepth 20000 in
theorem lk_L_124 : Cond.methodLink RL 124 yX10_back ∈ am_B := tb_6 (i := 84) rfl rfl
set_option maxRecDepth 20000 in
theorem lk_L_125 : Cond.methodLink RL 125 yX9_undo ∈ am_B := tb_4 (i := 4) rfl rfl
set_option maxRecDepth 20000 in
theorem lk_L_128 : Cond.methodLink RL 128 yX10_undo ∈ am_B := tb_5 (i := 45) rfl rfl
set_option maxRecDepth 20000 in
theorem lk_L_129 : Cond.methodLink RL 129 yX9_redo ∈ am_B := tb_4 (i := 13) rfl rfl
set_option maxRecDepth 20000 in
theorem lk_L_132 : Cond.methodLink RL 132 yX10_redo ∈ am_B := tb_5 (i := 49) rfl rfl
set_option maxRecDepth 20000 in
theorem lk_L_133 : Cond.methodLink RL 133 yX9_body ∈ am_B := tb_4 (i := 21) rfl rfl
set_option maxRecDepth 20000 in
theorem lk_L_136 : Cond.methodLink RL 136 yX10_body ∈ am_B := tb_6 (i := 88) rfl rfl
set_option maxRecDepth 20000 in
theorem lk_L_137 : Cond.methodLink RL 137 yX9_act ∈ am_B := tb_4 (i := 29) rfl rfl
set_option maxRecDepth 20000 in
theorem lk_L_140 : Cond.methodLink RL 140 yX10_act ∈ am_B := tb_6 (i := 93) rfl rfl
set_option maxRecDepth 20000 in
theorem lk_L_141 : Cond.methodLink RL 141 yX9_trace ∈ am_B := tb_4 (i := 66) rfl rfl
set_option maxRecDepth 20000 in
theorem lk_L_144 : Cond.methodLink RL 144 yX10_trace ∈ am_B := tb_6 (i := 121) rfl rfl
set_option maxRecDepth 20000 in
theorem lk_L_145 : Cond.methodLink RL 145 yX9_keep ∈ am_B := tb_4 (i := 70) rfl rfl
set_option maxRecDepth 20000 in
theorem lk_L_148 : Cond.methodLink RL 148 yX10_keep ∈ am_B := tb_6 (i := 125) rfl rfl
set_option maxRecDepth 20000 in
theorem lk_L_149 : Cond.methodLink RL 149 yX9_row ∈ am_B := tb_4 (i := 78) rfl rfl
set_option maxRecDepth 20000 in
theorem lk_L_152 : Cond.methodLink RL 152 yX10_row ∈ am_B := tb_6 (i := 129) rfl rfl
set_option maxRecDepth 20000 in
theorem cn_L_153 : Cond.constantLong RL 153 (Int64.ofInt (4294967295)) ∈ am_B := tb_6 (i := 172) rfl rfl
set_option maxRecDepth 20000 in
theorem lk_L_155 : Cond.methodLink RL 155 yX9_put ∈ am_B := tb_4 (i := 86) rfl rfl
set_option maxRecDepth 20000 in
theorem lk_L_159 : Cond.methodLink RL 159 yX10_put ∈ am_B := tb_6 (i := 133) rfl rfl
set_option maxRecDepth 20000 in
theorem lk_L_160 : Cond.methodLink RL 160 yX9_element ∈ am_B := tb_4 (i := 106) rfl rfl
set_option maxRecDepth 20000 in
theorem lk_L_164 : Cond.methodLink RL 164 yX10_element ∈ am_B := tb_6 (i := 144) rfl rfl
set_option maxRecDepth 20000 in
theorem lk_L_165 : Cond.methodLink RL 165 yX9_shift ∈ am_B := tb_4 (i := 111) rfl rfl
set_option maxRecDepth 20000 in
theorem lk_L_169 : Cond.methodLink RL 169 yX10_shift ∈ am_B := tb_6 (i := 149) rfl rfl
set_option maxRecDepth 20000 in
theorem lk_L_170 : Cond.methodLink RL 170 yX9_taken ∈ am_B := tb_4 (i := 116) rfl rfl
set_option maxRecDepth 20000 in
theorem lk_L_173 : Cond.methodLink RL 173 yX10_taken ∈ am_B := tb_6 (i := 153) rfl rfl
set_option maxRecDepth 20000 in
theorem lk_L_174 : Cond.methodLink RL 174 yX9_count ∈ am_B := tb_4 (i := 123) rfl rfl
set_option maxRecDepth 20000 in
theorem lk_L_177 : Cond.methodLink RL 177 yX10_count ∈ am_B := tb_6 (i := 164) rfl rfl
set_option maxRecDepth 20000 in
theorem lk_X10_3 : Cond.methodLink RX10 3 objectInit ∈ am_B := tb_4 (i := 136) rfl rfl
set_option maxRecDepth 20000 in
theorem fl_X10_9 : am_lf RX10 9 9 0 := ⟨(RX10, TX10, 49), rfl, by decide, tb_4 (i := 137) rfl rfl, rfl⟩
set_option maxRecDepth 20000 in
theorem fl_X10_13 : am_lf RX10 13 9 1 := ⟨(RX10, TX10, 49), rfl, by decide, tb_4 (i := 138) rfl rfl, rfl⟩
set_option maxRecDepth 20000 in
theorem fl_X10_16 : am_lf RX10 16 9 2 := ⟨(RX10, TX10, 49), rfl, by decide, tb_4 (i := 139) rfl rfl, rfl⟩
set_option maxRecDepth 20000 in
theorem fl_X10_19 : am_lf RX10 19 9 3 := ⟨(RX10, TX10, 49), rfl, by decide, tb_4 (i := 140) rfl rfl, rfl⟩
set_option maxRecDepth 20000 in
theorem fl_X10_22 : am_lf RX10 22 9 8 := ⟨(RX10, TX10, 49), rfl, by decide, tb_4 (i := 145) rfl rfl, rfl⟩
set_option maxRecDepth 20000 in
theorem fl_X10_25 : am_lf RX10 25 9 10 := ⟨(RX10, TX10, 49), rfl, by decide, tb_4 (i := 147) rfl rfl, rfl⟩
set_option maxRecDepth 20000 in
theorem fl_X10_28 : am_lf RX10 28 9 12 := ⟨(RX10, TX10, 49), rfl, by decide, tb_4 (i := 149) rfl rfl, rfl⟩
set_option maxRecDepth 20000 in
theorem fl_X10_31 : am_lf RX10 31 9 19 := ⟨(RX10, TX10, 49), rfl, by decide, tb_4 (i := 156) rfl rfl, rfl⟩
set_option maxRecDepth 20000 in
theorem fl_X10_34 : am_lf RX10 34 9 21 := ⟨(RX10, TX10, 49), rfl, by decide, tb_4 (i := 158) rfl rfl, rfl⟩
set_option maxRecDepth 20000 in
theorem fl_X10_37 : am_lf RX10 37 9 22 := ⟨(RX10, TX10, 49), rfl, by decide, tb_4 (i := 159) rfl rfl, rfl⟩
set_option maxRecDepth 20000 in
theorem fl_X10_40 : am_lf RX10 40 9 23 := ⟨(RX10, TX10, 49), rfl, by decide, tb_4 (i := 160) rfl rfl, rfl⟩
set_option maxRecDepth 20000 in
theorem fl_X10_43 : am_lf RX10 43 9 24 := ⟨(RX10, TX10, 49), rfl, by decide, tb_4 (i := 161) rfl rfl, rfl⟩
set_option maxRecDepth 20000 in
theorem fl_X10_46 : am_lf RX10 46 9 26 := ⟨(RX10, TX10, 49), rfl, by decide, tb_4 (i := 163) rfl rfl, rfl⟩
set_option maxRecDepth 20000 in
theorem fl_X10_50 : am_lf RX10 50 9 28 := ⟨(RX10, TX10, 49), rfl, by decide, tb_4 (i := 165) rfl rfl, rfl⟩
set_option maxRecDepth 20000 in
theorem fl_X10_53 : am_lf RX10 53 9 29 := ⟨(RX10, TX10, 49), rfl, by decide, tb_4 (i := 166) rfl rfl, rfl⟩
set_option maxRecDepth 20000 in
theorem fl_X10_56 : am_lf RX10 56 9 34 := ⟨(RX10, TX10, 49), rfl, by decide, tb_4 (i := 171) rfl rfl, rfl⟩
set_option maxRecDepth 20000 in
theorem fl_X10_59 : am_lf RX10 59 9 35 := ⟨(RX10, TX10, 49), rfl, by decide, tb_4 (i := 172) rfl rfl, rfl⟩
set_option maxRecDepth 20000 in
theorem fl_X10_62 : am_lf RX10 62 9 36 := ⟨(RX10, TX10, 49), rfl, by decide, tb_4 (i := 173) rfl rfl, rfl⟩
set_option maxRecDepth 20000 in
theorem fl_X10_65 : am_lf RX10 65 9 37 := ⟨(RX10, TX10, 49), rfl, by decide, tb_4 (i := 174) rfl rfl, rfl⟩
set_option maxRecDepth 20000 in
theorem fl_X10_68 : am_lf RX10 68 9 38 := ⟨(RX10, TX10, 49), rfl, by decide, tb_4 (i := 175) rfl rfl, rfl⟩
set_option maxRecDepth 20000 in
theorem fl_X10_71 : am_lf RX10 71 9 40 := ⟨(RX10, TX10, 49), rfl, by decide, tb_4 (i := 177) rfl rfl, rfl⟩
set_option maxRecDepth 20000 in
theorem fl_X10_74 : am_lf RX10 74 9 41 := ⟨(RX10, TX10, 49), rfl, by decide, tb_4 (i := 178) rfl rfl, rfl⟩
set_option maxRecDepth 20000 in
theorem fl_X10_77 : am_lf RX10 77 9 45 := ⟨(RX10, TX10, 49), rfl, by decide, tb_4 (i := 182) rfl rfl, rfl⟩
set_option maxRecDepth 20000 in
theorem fl_X10_80 : am_lf RX10 80 9 46 := ⟨(RX10, TX10, 49), rfl, by decide, tb_4 (i := 183) rfl rfl, rfl⟩
set_option maxRecDepth 20000 in
theorem fl_X10_83 : am_lf RX10 83 9 47 := ⟨(RX10, TX10, 49), rfl, by decide, tb_4 (i := 184) rfl rfl, rfl⟩
set_option maxRecDepth 20000 in
theorem fl_X10_87 : am_lf RX10 87 9 48 := ⟨(RX10, TX10, 49), rfl, by decide, tb_4 (i := 185) rfl rfl, rfl⟩
set_option maxRecDepth 20000 in
theorem fl_X10_90 : am_lf RX10 90 9 13 := ⟨(RX10, TX10, 49), rfl, by decide, tb_4 (i := 150) rfl rfl, rfl⟩
set_option maxRecDepth 20000 in
theorem fl_X10_94 : am_lf RX10 94 9 5 := ⟨(RX10, TX10, 49), rfl, by decide, tb_4 (i := 142) rfl rfl, rfl⟩
set_option maxRecDepth 20000 in
theorem fl_X10_97 : am_lf RX10 97 9 4 := ⟨(RX10, TX10, 49), rfl, by decide, tb_4 (i := 141) rfl rfl, rfl⟩
set_option maxRecDepth 20000 in
theorem fl_X10_100 : am_lf RX10 100 9 6 := ⟨(RX10, TX10, 49), rfl, by decide, tb_4 (i := 143) rfl rfl, rfl⟩
set_option maxRecDepth 20000 in
theorem lk_X10_103 : Cond.methodLink RX10 103 yX10_within ∈ am_B := tb_5 (i := 58) rfl rfl
set_option maxRecDepth 20000 in
theorem lk_X10_107 : Cond.methodLink RX10 107 yX10_isPerson ∈ am_B := tb_5 (i := 92) rfl rfl
set_option maxRecDepth 20000 in
theorem fl_X10_111 : am_lf RX10 111 9 7 := ⟨(RX10, TX10, 49), rfl, by decide, tb_4 (i := 144) rfl rfl, rfl⟩
set_option maxRecDepth 20000 in
theorem cn_X10_114 : Cond.constantLong RX10 114 (Int64.ofInt (47)) ∈ am_B := tb_5 (i := 186) rfl rfl
set_option maxRecDepth 20000 in
theorem cn_X10_116 : Cond.constantLong RX10 116 (Int64.ofInt (9)) ∈ am_B := tb_5 (i := 57) rfl rfl
set_option maxRecDepth 20000 in
theorem cn_X10_118 : Cond.constantLong RX10 118 (Int64.ofInt (12)) ∈ am_B := tb_5 (i := 69) rfl rfl
set_option maxRecDepth 20000 in
theorem lk_X10_120 : Cond.methodLink RX10 120 yX10_isOne ∈ am_B := tb_5 (i := 65) rfl rfl
set_option maxRecDepth 20000 in
theorem lk_X10_124 : Cond.methodLink RX10 124 yX10_adds ∈ am_B := tb_5 (i := 70) rfl rfl
set_option maxRecDepth 20000 in
theorem lk_X10_128 : Cond.methodLink RX10 128 yX10_isShelf ∈ am_B := tb_5 (i := 78) rfl rfl
set_option maxRecDepth 20000 in
theorem cn_X10_131 : Cond.constantLong RX10 131 (Int64.ofInt (15)) ∈ am_B := tb_5 (i := 82) rfl rfl
set_option maxRecDepth 20000 in
theorem cn_X10_133 : Cond.constantLong RX10 133 (Int64.ofInt (11)) ∈ am_B := tb_5 (i := 87) rfl rfl
set_option maxRecDepth 20000 in
theorem lk_X10_135 : Cond.methodLink RX10 135 yX10_becomes ∈ am_B := tb_5 (i := 88) rfl rfl
set_option maxRecDepth 20000 in
theorem cn_X10_139 : Cond.constantLong RX10 139 (Int64.ofInt (2)) ∈ am_B := tb_5 (i := 96) rfl rfl
set_option maxRecDepth 20000 in
theorem lk_X10_141 : Cond.methodLink RX10 141 yX10_sumOf ∈ am_B := tb_5 (i := 113) rfl rfl
set_option maxRecDepth 20000 in
theorem cn_X10_144 : Cond.constantLong RX10 144 (Int64.ofInt (4)) ∈ am_B := tb_5 (i := 101) rfl rfl
set_option maxRecDepth 20000 in
theorem lk_X10_146 : Cond.methodLink RX10 146 yX10_isDebt ∈ am_B := tb_5 (i := 102) rfl rfl
set_option maxRecDepth 20000 in
theorem cn_X10_149 : Cond.constant RX10 149 (Int32.ofInt (-2000000000)) ∈ am_B := tb_5 (i := 106) rfl rfl
set_option maxRecDepth 20000 in
theorem cn_X10_150 : Cond.constantLong RX10 150 (Int64.ofInt (10)) ∈ am_B := tb_5 (i := 107) rfl rfl
set_option maxRecDepth 20000 in
theorem cn_X10_152 : Cond.constantLong RX10 152 (Int64.ofInt (13)) ∈ am_B := tb_5 (i := 108) rfl rfl
set_option maxRecDepth 20000 in
theorem lk_X10_154 : Cond.methodLink RX10 154 yX10_ofPerson ∈ am_B := tb_5 (i := 109) rfl rfl
set_option maxRecDepth 20000 in
theorem cn_X10_157 : Cond.constantLong RX10 157 (Int64.ofInt (40)) ∈ am_B := tb_5 (i := 117) rfl rfl
set_option maxRecDepth 20000 in
theorem cn_X10_159 : Cond.constantLong RX10 159 (Int64.ofInt (42)) ∈ am_B := tb_5 (i := 118) rfl rfl
set_option maxRecDepth 20000 in
theorem fl_X10_161 : am_lf RX10 161 9 20 := ⟨(RX10, TX10, 49), rfl, by decide, tb_4 (i := 157) rfl rfl, rfl⟩
set_option maxRecDepth 20000 in
theorem lk_X10_164 : Cond.methodLink RX10 164 yX10_isPq ∈ am_B := tb_5 (i := 119) rfl rfl
set_option maxRecDepth 20000 in
theorem lk_X10_167 : Cond.methodLink RX10 167 yX10_owedBetween ∈ am_B := tb_5 (i := 123) rfl rfl
set_option maxRecDepth 20000 in
theorem cn_X10_170 : Cond.constantLong RX10 170 (Int64.ofInt (255)) ∈ am_B := tb_5 (i := 131) rfl rfl
set_option maxRecDepth 20000 in
theorem fl_X10_172 : am_lf RX10 172 9 11 := ⟨(RX10, TX10, 49), rfl, by decide, tb_4 (i := 148) rfl rfl, rfl⟩
set_option maxRecDepth 20000 in
theorem fl_X10_175 : am_lf RX10 175 9 15 := ⟨(RX10, TX10, 49), rfl, by decide, tb_4 (i := 152) rfl rfl, rfl⟩
set_option maxRecDepth 20000 in
theorem fl_X10_178 : am_lf RX10 178 9 16 := ⟨(RX10, TX10, 49), rfl, by decide, tb_4 (i := 153) rfl rfl, rfl⟩
set_option maxRecDepth 20000 in
theorem fl_X10_181 : am_lf RX10 181 9 14 := ⟨(RX10, TX10, 49), rfl, by decide, tb_4 (i := 151) rfl rfl, rfl⟩
set_option maxRecDepth 20000 in
theorem fl_X10_184 : am_lf RX10 184 9 17 := ⟨(RX10, TX10, 49), rfl, by decide, tb_4 (i := 154) rfl rfl, rfl⟩
set_option maxRecDepth 20000 in
theorem lk_X10_187 : Cond.methodLink RX10 187 yX10_byteAt ∈ am_B := tb_5 (i := 164) rfl rfl
set_option maxRecDepth 20000 in
theorem lk_X10_191 : Cond.methodLink RX10 191 yX10_both ∈ am_B := tb_5 (i := 144) rfl rfl
set_option maxRecDepth 20000 in
theorem lk_X10_194 : Cond.methodLink RX10 194 yX10_takes ∈ am_B := tb_5 (i := 172) rfl rfl
set_option maxRecDepth 20000 in
theorem lk_X10_197 : Cond.methodLink RX10 197 yX10_compared ∈ am_B := tb_5 (i := 148) rfl rfl
set_option maxRecDepth 20000 in
theorem lk_X10_200 : Cond.methodLink RX10 200 yX10_sums ∈ am_B := tb_5 (i := 152) rfl rfl
set_option maxRecDepth 20000 in
theorem lk_X10_202 : Cond.methodLink RX10 202 yX10_product ∈ am_B := tb_5 (i := 156) rfl rfl
set_option maxRecDepth 20000 in
theorem lk_X10_205 : Cond.methodLink RX10 205 yX10_one ∈ am_B := tb_5 (i := 160) rfl rfl
set_option maxRecDepth 20000 in
theorem fl_X10_208 : am_lf RX10 208 9 18 := ⟨(RX10, TX10, 49), rfl, by decide, tb_4 (i := 155) rfl rfl, rfl⟩
set_option maxRecDepth 20000 in
theorem lk_X10_211 : Cond.methodLink RX10 211 yX10_wrong ∈ am_B := tb_5 (i := 168) rfl rfl
set_option maxRecDepth 20000 in
theorem lk_X10_214 : Cond.methodLink RX10 214 yX10_either ∈ am_B := tb_5 (i := 140) rfl rfl
set_option maxRecDepth 20000 in
theorem lk_X10_217 : Cond.methodLink RX10 217 yX10_nameOf ∈ am_B := tb_5 (i := 176) rfl rfl
set_option maxRecDepth 20000 in
theorem lk_X10_221 : Cond.methodLink RX10 221 yX10_workOut ∈ am_B := tb_5 (i := 136) rfl rfl
set_option maxRecDepth 20000 in
theorem lk_X10_224 : Cond.methodLink RX10 224 yX10_isDay ∈ am_B := tb_5 (i := 183) rfl rfl
set_option maxRecDepth 20000 in
theorem lk_X10_227 : Cond.methodLink RX10 227 yX10_worthOf ∈ am_B := tb_5 (i := 187) rfl rfl
set_option maxRecDepth 20000 in
theorem fl_X10_231 : am_lf RX10 231 9 9 := ⟨(RX10, TX10, 49), rfl, by decide, tb_4 (i := 146) rfl rfl, rfl⟩
set_option maxRecDepth 20000 in
theorem lk_X10_234 : Cond.methodLink RX10 234 yX10_isHoly ∈ am_B := tb_5 (i := 199) rfl rfl
set_option maxRecDepth 20000 in
theorem lk_X10_237 : Cond.methodLink RX10 237 yX10_mayAsk ∈ am_B := tb_5 (i := 195) rfl rfl
set_option maxRecDepth 20000 in
theorem lk_X10_240 : Cond.methodLink RX10 240 yX10_isOpen ∈ am_B := tb_5 (i := 202) rfl rfl
set_option maxRecDepth 20000 in
theorem lk_X10_243 : Cond.methodLink RX10 243 yX10_weightOf ∈ am_B := tb_5 (i := 214) rfl rfl
set_option maxRecDepth 20000 in
theorem lk_X10_246 : Cond.methodLink RX10 246 yX10_askFor ∈ am_B := tb_5 (i := 210) rfl rfl
set_option maxRecDepth 20000 in
theorem lk_X10_249 : Cond.methodLink RX10 249 yX10_loses ∈ am_B := tb_5 (i := 236) rfl rfl
set_option maxRecDepth 20000 in
theorem fl_X10_253 : am_lf RX10 253 9 25 := ⟨(RX10, TX10, 49), rfl, by decide, tb_4 (i := 162) rfl rfl, rfl⟩
set_option maxRecDepth 20000 in
theorem cn_X10_256 : Cond.constant RX10 256 (Int32.ofInt (1103515245)) ∈ am_B := tb_5 (i := 231) rfl rfl
set_option maxRecDepth 20000 in
theorem lk_X10_257 : Cond.methodLink RX10 257 yX10_worksOff ∈ am_B := tb_5 (i := 232) rfl rfl
set_option maxRecDepth 20000 in
theorem cn_X10_260 : Cond.constantLong RX10 260 (Int64.ofInt (48)) ∈ am_B := tb_5 (i := 226) rfl rfl
set_option maxRecDepth 20000 in
theorem lk_X10_262 : Cond.methodLink RX10 262 yX10_dayGoes ∈ am_B := tb_5 (i := 227) rfl rfl
set_option maxRecDepth 20000 in
theorem lk_X10_265 : Cond.methodLink RX10 265 yX10_bestSum ∈ am_B := tb_6 (i := 12) rfl rfl
set_option maxRecDepth 20000 in
theorem fl_X10_269 : am_lf RX10 269 9 27 := ⟨(RX10, TX10, 49), rfl, by decide, tb_4 (i := 164) rfl rfl, rfl⟩
set_option maxRecDepth 20000 in
theorem lk_X10_272 : Cond.methodLink RX10 272 yX10_bitsOf ∈ am_B := tb_6 (i := 28) rfl rfl
set_option maxRecDepth 20000 in
theorem lk_X10_275 : Cond.methodLink RX10 275 yX10_ringsFrom ∈ am_B := tb_6 (i := 24) rfl rfl
set_option maxRecDepth 20000 in
theorem lk_X10_278 : Cond.methodLink RX10 278 yX10_balanceOfAny ∈ am_B := tb_6 (i := 35) rfl rfl
set_option maxRecDepth 20000 in
theorem lk_X10_281 : Cond.methodLink RX10 281 yX10_ring ∈ am_B := tb_6 (i := 51) rfl rfl
set_option maxRecDepth 20000 in
theorem cn_X10_284 : Cond.constantLong RX10 284 (Int64.ofInt (-1)) ∈ am_B := tb_6 (i := 72) rfl rfl
set_option maxRecDepth 20000 in
theorem lk_X10_286 : Cond.methodLink RX10 286 yX10_bookIs ∈ am_B := tb_6 (i := 64) rfl rfl
set_option maxRecDepth 20000 in
theorem lk_X10_289 : Cond.methodLink RX10 289 yX10_isSo ∈ am_B := tb_6 (i := 68) rfl rfl
set_option maxRecDepth 20000 in
theorem fl_X10_292 : am_lf RX10 292 9 30 := ⟨(RX10, TX10, 49), rfl, by decide, tb_4 (i := 167) rfl rfl, rfl⟩
set_option maxRecDepth 20000 in
theorem fl_X10_296 : am_lf RX10 296 9 31 := ⟨(RX10, TX10, 49), rfl, by decide, tb_4 (i := 168) rfl rfl, rfl⟩
set_option maxRecDepth 20000 in
theorem fl_X10_299 : am_lf RX10 299 9 32 := ⟨(RX10, TX10, 49), rfl, by decide, tb_4 (i := 169) rfl rfl, rfl⟩
set_option maxRecDepth 20000 in
theorem fl_X10_302 : am_lf RX10 302 9 33 := ⟨(RX10, TX10, 49), rfl, by decide, tb_4 (i := 170) rfl rfl, rfl⟩
set_option maxRecDepth 20000 in
theorem lk_X10_305 : Cond.methodLink RX10 305 yX10_copies ∈ am_B := tb_6 (i := 81) rfl rfl
set_option maxRecDepth 20000 in
theorem fl_X10_309 : am_lf RX10 309 9 39 := ⟨(RX10, TX10, 49), rfl, by decide, tb_4 (i := 176) rfl rfl, rfl⟩
set_option maxRecDepth 20000 in
theorem cn_X10_312 : Cond.constantLong RX10 312 (Int64.ofInt (7)) ∈ am_B := tb_6 (i := 92) rfl rfl
set_option maxRecDepth 20000 in
theorem fl_X10_314 : am_lf RX10 314 9 42 := ⟨(RX10, TX10, 49), rfl, by decide, tb_4 (i := 179) rfl rfl, rfl⟩
set_option maxRecDepth 20000 in
theorem lk_X10_317 : Cond.methodLink RX10 317 yX10_begins ∈ am_B := tb_6 (i := 105) rfl rfl
set_option maxRecDepth 20000 in
theorem lk_X10_321 : Cond.methodLink RX10 321 yX10_owesAs ∈ am_B := tb_6 (i := 101) rfl rfl
set_option maxRecDepth 20000 in
theorem fl_X10_324 : am_lf RX10 324 9 44 := ⟨(RX10, TX10, 49), rfl, by decide, tb_4 (i := 181) rfl rfl, rfl⟩
set_option maxRecDepth 20000 in
theorem lk_X10_327 : Cond.methodLink RX10 327 yX10_worksAs ∈ am_B := tb_6 (i := 109) rfl rfl
set_option maxRecDepth 20000 in
theorem fl_X10_330 : am_lf RX10 330 9 43 := ⟨(RX10, TX10, 49), rfl, by decide, tb_4 (i := 180) rfl rfl, rfl⟩
set_option maxRecDepth 20000 in
theorem lk_X10_333 : Cond.methodLink RX10 333 yX10_asksAs ∈ am_B := tb_6 (i := 113) rfl rfl
set_option maxRecDepth 20000 in
theorem lk_X10_336 : Cond.methodLink RX10 336 yX10_tellsAs ∈ am_B := tb_6 (i := 117) rfl rfl
set_option maxRecDepth 20000 in
theorem lk_X10_339 : Cond.methodLink RX10 339 yX10_isBody ∈ am_B := tb_6 (i := 97) rfl rfl
set_option maxRecDepth 20000 in
theorem cn_X10_342 : Cond.constantLong RX10 342 (Int64.ofInt (5)) ∈ am_B := tb_5 (i := 81) rfl rfl
set_option maxRecDepth 20000 in
theorem lk_X10_344 : Cond.methodLink RX10 344 yX10_refusal ∈ am_B := tb_6 (i := 137) rfl rfl
set_option maxRecDepth 20000 in
theorem lk_X10_347 : Cond.methodLink RX10 347 yX10_asSort ∈ am_B := tb_6 (i := 141) rfl rfl
set_option maxRecDepth 20000 in
theorem cn_X10_353 : Cond.constantLong RX10 353 (Int64.ofInt (-9223372036854775808)) ∈ am_B := tb_6 (i := 148) rfl rfl
set_option maxRecDepth 20000 in
theorem lk_X10_355 : Cond.methodLink RX10 355 yX10_kindOf ∈ am_B := tb_6 (i := 157) rfl rfl
set_option maxRecDepth 20000 in
theorem lk_X10_358 : Cond.methodLink RX10 358 yX10_above ∈ am_B := tb_6 (i := 161) rfl rfl
set_option maxRecDepth 20000 in
theorem lk_X10_361 : Cond.methodLink RX10 361 yX10_openMany ∈ am_B := tb_6 (i := 168) rfl rfl
theorem in_X0 : Cond.initialized RX0 ∈ am_B := tb_1 (i := 8) rfl rfl
theorem nw_X0 : Cond.instantiable RX0 5 ∈ am_B := tb_1 (i := 227) rfl rfl
theorem in_X1 : Cond.initialized RX1 ∈ am_B := tb_1 (i := 3) rfl rfl
theorem nw_X1 : Cond.instantiable RX1 6 ∈ am_B := tb_1 (i := 51) rfl rfl
theorem in_X2 : Cond.initialized RX2 ∈ am_B := tb_1 (i := 6) rfl rfl
theorem nw_X2 : Cond.instantiable RX2 8 ∈ am_B := tb_1 (i := 171) rfl rfl
theorem in_X3 : Cond.initialized RX3 ∈ am_B := tb_1 (i := 4) rfl rfl
theorem nw_X3 : Cond.instantiable RX3 15 ∈ am_B := tb_1 (i := 78) rfl rfl
theorem in_X4 : Cond.initialized RX4 ∈ am_B := tb_1 (i := 5) rfl rfl
theorem nw_X4 : Cond.instantiable RX4 6 ∈ am_B := tb_1 (i := 131) rfl rfl
theorem in_X5 : Cond.initialized RX5 ∈ am_B := tb_1 (i := 13) rfl rfl
theorem in_X6 : Cond.initialized RX6 ∈ am_B := tb_1 (i := 2) rfl rfl
theorem nw_X6 : Cond.instantiable RX6 5 ∈ am_B := tb_1 (i := 23) rfl rfl
theorem in_X7 : Cond.initialized RX7 ∈ am_B := tb_1 (i := 9) rfl rfl
theorem nw_X7 : Cond.instantiable RX7 4 ∈ am_B := tb_2 (i := 14) rfl rfl
theorem in_X8 : Cond.initialized RX8 ∈ am_B := tb_1 (i := 7) rfl rfl
theorem nw_X8 : Cond.instantiable RX8 3 ∈ am_B := tb_1 (i := 211) rfl rfl
theorem in_X9 : Cond.initialized RX9 ∈ am_B := tb_1 (i := 1) rfl rfl
theorem nw_X9 : Cond.instantiable RX9 12 ∈ am_B := tb_1 (i := 15) rfl rfl
theorem in_X10 : Cond.initialized RX10 ∈ am_B := tb_1 (i := 10) rfl rfl
theorem nw_X10 : Cond.instantiable RX10 49 ∈ am_B := tb_4 (i := 132) rfl rfl
theorem sp_1 {q : MethodName × Nat} {i : Nat} (h9 : lw_privs_1[i]? = some q) : Cond.selects q.1.cls q.1 q.1 ∈ am_B := by
  have h : q ∈ lw_privs_1 := List.mem_of_getElem? h9
  exact am_Bin (List.mem_append_left _ (List.mem_map.mpr ⟨q, (show q ∈ lw_privs_1 ++ (lw_privs_2 ++ (lw_privs_3 ++ (lw_privs_4 ++ (lw_privs_5)))) from List.mem_append_left _ h), rfl⟩)) rfl
theorem sp_2 {q : MethodName × Nat} {i : Nat} (h9 : lw_privs_2[i]? = some q) : Cond.selects q.1.cls q.1 q.1 ∈ am_B := by
  have h : q ∈ lw_privs_2 := List.mem_of_getElem? h9
  exact am_Bin (List.mem_append_left _ (List.mem_map.mpr ⟨q, (show q ∈ lw_privs_1 ++ (lw_privs_2 ++ (lw_privs_3 ++ (lw_privs_4 ++ (lw_privs_5)))) from List.mem_append_right _ (List.mem_append_left _ h)), rfl⟩)) rfl
theorem sp_3 {q : MethodName × Nat} {i : Nat} (h9 : lw_privs_3[i]? = some q) : Cond.selects q.1.cls q.1 q.1 ∈ am_B := by
  have h : q ∈ lw_privs_3 := List.mem_of_getElem? h9
  exact am_Bin (List.mem_append_left _ (List.mem_map.mpr ⟨q, (show q ∈ lw_privs_1 ++ (lw_privs_2 ++ (lw_privs_3 ++ (lw_privs_4 ++ (lw_privs_5)))) from List.mem_append_right _ (List.mem_append_right _ (List.mem_append_left _ h))), rfl⟩)) rfl
theorem sp_4 {q : MethodName × Nat} {i : Nat} (h9 : lw_privs_4[i]? = some q) : Cond.selects q.1.cls q.1 q.1 ∈ am_B := by
  have h : q ∈ lw_privs_4 := List.mem_of_getElem? h9
  exact am_Bin (List.mem_append_left _ (List.mem_map.mpr ⟨q, (show q ∈ lw_privs_1 ++ (lw_privs_2 ++ (lw_privs_3 ++ (lw_privs_4 ++ (lw_privs_5)))) from List.mem_append_right _ (List.mem_append_right _ (List.mem_append_right _ (List.mem_append_left _ h)))), rfl⟩)) rfl
theorem sp_5 {q : MethodName × Nat} {i : Nat} (h9 : lw_privs_5[i]? = some q) : Cond.selects q.1.cls q.1 q.1 ∈ am_B := by
  have h : q ∈ lw_privs_5 := List.mem_of_getElem? h9
  exact am_Bin (List.mem_append_left _ (List.mem_map.mpr ⟨q, (show q ∈ lw_privs_1 ++ (lw_privs_2 ++ (lw_privs_3 ++ (lw_privs_4 ++ (lw_privs_5)))) from List.mem_append_right _ (List.mem_append_right _ (List.mem_append_right _ (List.mem_append_right _ (h))))), rfl⟩)) rfl
set_option maxRecDepth 20000 in
theorem mf_X9_init : am_mi yX9_init cX9_init 2 0 := ⟨tb_1 (i := 17) rfl rfl, in_X9, tb_1 (i := 18) rfl rfl, rfl, ⟨by decide +kernel, by decide +kernel, by decide +kernel⟩⟩
set_option maxRecDepth 20000 in
theorem mf_X6_init : am_mi yX6_init cX6_init 2 0 := ⟨tb_1 (i := 25) rfl rfl, in_X6, tb_1 (i := 26) rfl rfl, rfl, ⟨by decide +kernel, by decide +kernel, by decide +kernel⟩⟩
set_option maxRecDepth 20000 in
theorem mf_X1_init : am_mi yX1_init cX1_init 1 0 := ⟨tb_1 (i := 53) rfl rfl, in_X1, tb_1 (i := 54) rfl rfl, rfl, ⟨by decide +kernel, by decide +kernel, by decide +kernel⟩⟩
set_option maxRecDepth 20000 in
theorem mf_X3_init : am_mi yX3_init cX3_init 1 0 := ⟨tb_1 (i := 80) rfl rfl, in_X3, tb_1 (i := 81) rfl rfl, rfl, ⟨by decide +kernel, by decide +kernel, by decide +kernel⟩⟩
set_option maxRecDepth 20000 in
theorem mf_X4_init : am_mi yX4_init cX4_init 1 0 := ⟨tb_1 (i := 133) rfl rfl, in_X4, tb_1 (i := 134) rfl rfl, rfl, ⟨by decide +kernel, by decide +kernel, by decide +kernel⟩⟩
set_option maxRecDepth 20000 in
theorem mf_X2_init : am_mi yX2_init cX2_init 2 0 := ⟨tb_1 (i := 173) rfl rfl, in_X2, tb_1 (i := 174) rfl rfl, rfl, ⟨by decide +kernel, by decide +kernel, by decide +kernel⟩⟩
set_option maxRecDepth 20000 in
theorem mf_X8_init : am_mi yX8_init cX8_init 1 0 := ⟨tb_1 (i := 213) rfl rfl, in_X8, tb_1 (i := 214) rfl rfl, rfl, ⟨by decide +kernel, by decide +kernel, by decide +kernel⟩⟩
set_option maxRecDepth 20000 in
theorem mf_X0_init : am_mi yX0_init cX0_init 1 0 := ⟨tb_1 (i := 229) rfl rfl, in_X0, tb_1 (i := 230) rfl rfl, rfl, ⟨by decide +kernel, by decide +kernel, by decide +kernel⟩⟩
set_option maxRecDepth 20000 in
theorem mf_X7_init : am_mi yX7_init cX7_init 1 0 := ⟨tb_2 (i := 16) rfl rfl, in_X7, tb_2 (i := 17) rfl rfl, rfl, ⟨by decide +kernel, by decide +kernel, by decide +kernel⟩⟩
set_option maxRecDepth 20000 in
theorem mf_X9_person : am_mv yX9_person cX9_person 2 (some .int) 1 := ⟨tb_2 (i := 75) rfl rfl, tb_2 (i := 76) rfl rfl, in_X9, tb_2 (i := 77) rfl rfl, ⟨by decide +kernel, by decide +kernel, by decide +kernel⟩⟩
set_option maxRecDepth 20000 in
theorem mf_X9_within : am_ms yX9_within cX9_within 3 (some .boolean) 3 := ⟨tb_2 (i := 79) rfl rfl, in_X9, tb_2 (i := 80) rfl rfl, ⟨by decide +kernel, by decide +kernel, by decide +kernel⟩⟩
set_option maxRecDepth 20000 in
theorem mf_X6_addPerson : am_mv yX6_addPerson cX6_addPerson 2 (some .int) 1 := ⟨tb_2 (i := 82) rfl rfl, tb_2 (i := 83) rfl rfl, in_X6, tb_2 (i := 84) rfl rfl, ⟨by decide +kernel, by decide +kernel, by decide +kernel⟩⟩
set_option maxRecDepth 20000 in
theorem mf_X9_debt : am_mv yX9_debt cX9_debt 3 (some .int) 2 := ⟨tb_2 (i := 86) rfl rfl, tb_2 (i := 87) rfl rfl, in_X9, tb_2 (i := 88) rfl rfl, ⟨by decide +kernel, by decide +kernel, by decide +kernel⟩⟩
set_option maxRecDepth 20000 in
theorem mf_X6_isPair : am_mv yX6_isPair cX6_isPair 2 (some .boolean) 1 := ⟨tb_2 (i := 90) rfl rfl, tb_2 (i := 91) rfl rfl, in_X6, tb_2 (i := 92) rfl rfl, ⟨by decide +kernel, by decide +kernel, by decide +kernel⟩⟩
set_option maxRecDepth 20000 in
theorem mf_X6_areUnlike : am_mv yX6_areUnlike cX6_areUnlike 3 (some .boolean) 2 := ⟨tb_2 (i := 94) rfl rfl, tb_2 (i := 95) rfl rfl, in_X6, tb_2 (i := 96) rfl rfl, ⟨by decide +kernel, by decide +kernel, by decide +kernel⟩⟩
set_option maxRecDepth 20000 in
theorem mf_X6_isPerson : am_mv yX6_isPerson cX6_isPerson 2 (some .boolean) 1 := ⟨tb_2 (i := 98) rfl rfl, tb_2 (i := 99) rfl rfl, in_X6, tb_2 (i := 100) rfl rfl, ⟨by decide +kernel, by decide +kernel, by decide +kernel⟩⟩
set_option maxRecDepth 20000 in
theorem mf_X9_isDebtSo : am_ms yX9_isDebtSo cX9_isDebtSo 2 (some .boolean) 2 := ⟨tb_2 (i := 103) rfl rfl, in_X9, tb_2 (i := 104) rfl rfl, ⟨by decide +kernel, by decide +kernel, by decide +kernel⟩⟩
set_option maxRecDepth 20000 in
theorem mf_X4_add : am_mv yX4_add cX4_add 5 (some .int) 4 := ⟨tb_2 (i := 106) rfl rfl, tb_2 (i := 107) rfl rfl, in_X4, tb_2 (i := 108) rfl rfl, ⟨by decide +kernel, by decide +kernel, by decide +kernel⟩⟩
set_option maxRecDepth 20000 in
theorem mf_X9_debts : am_mv yX9_debts cX9_debts 7 (some .int) 3 := ⟨tb_2 (i := 110) rfl rfl, tb_2 (i := 111) rfl rfl, in_X9, tb_2 (i := 112) rfl rfl, ⟨by decide +kernel, by decide +kernel, by decide +kernel⟩⟩
set_option maxRecDepth 20000 in
theorem mf_X9_isShelf : am_ms yX9_isShelf cX9_isShelf 1 (some .boolean) 1 := ⟨tb_2 (i := 114) rfl rfl, in_X9, tb_2 (i := 115) rfl rfl, ⟨by decide +kernel, by decide +kernel, by decide +kernel⟩⟩
set_option maxRecDepth 20000 in
theorem mf_X7_holdsNothing : am_mv yX7_holdsNothing cX7_holdsNothing 1 (some .boolean) 0 := ⟨tb_2 (i := 117) rfl rfl, tb_2 (i := 118) rfl rfl, in_X7, tb_2 (i := 119) rfl rfl, ⟨by decide +kernel, by decide +kernel, by decide +kernel⟩⟩
set_option maxRecDepth 20000 in
theorem mf_X9_debtComes : am_mv yX9_debtComes cX9_debtComes 9 (some .boolean) 2 := ⟨tb_2 (i := 123) rfl rfl, sp_1 (q := (yX9_debtComes, 12)) (i := 0) rfl, in_X9, tb_2 (i := 124) rfl rfl, ⟨by decide +kernel, by decide +kernel, by decide +kernel⟩⟩
set_option maxRecDepth 20000 in
theorem mf_X7_number : am_mv yX7_number cX7_number 2 (some .int) 1 := ⟨tb_2 (i := 127) rfl rfl, tb_2 (i := 128) rfl rfl, in_X7, tb_2 (i := 129) rfl rfl, ⟨by decide +kernel, by decide +kernel, by decide +kernel⟩⟩
set_option maxRecDepth 20000 in
theorem mf_X9_mend : am_mv yX9_mend cX9_mend 5 (some .int) 3 := ⟨tb_2 (i := 132) rfl rfl, tb_2 (i := 133) rfl rfl, in_X9, tb_2 (i := 134) rfl rfl, ⟨by decide +kernel, by decide +kernel, by decide +kernel⟩⟩
set_option maxRecDepth 20000 in
theorem mf_X6_isNumber : am_mv yX6_isNumber cX6_isNumber 3 (some .boolean) 2 := ⟨tb_2 (i := 136) rfl rfl, tb_2 (i := 137) rfl rfl, in_X6, tb_2 (i := 138) rfl rfl, ⟨by decide +kernel, by decide +kernel, by decide +kernel⟩⟩
set_option maxRecDepth 20000 in
theorem mf_X6_allows : am_mv yX6_allows cX6_allows 3 (some .boolean) 2 := ⟨tb_2 (i := 140) rfl rfl, tb_2 (i := 141) rfl rfl, in_X6, tb_2 (i := 142) rfl rfl, ⟨by decide +kernel, by decide +kernel, by decide +kernel⟩⟩
set_option maxRecDepth 20000 in
theorem mf_X6_told : am_mv yX6_told cX6_told 3 (some .int) 2 := ⟨tb_2 (i := 144) rfl rfl, tb_2 (i := 145) rfl rfl, in_X6, tb_2 (i := 146) rfl rfl, ⟨by decide +kernel, by decide +kernel, by decide +kernel⟩⟩
set_option maxRecDepth 20000 in
theorem mf_X1_note : am_mv yX1_note cX1_note 5 none 4 := ⟨tb_2 (i := 148) rfl rfl, tb_2 (i := 149) rfl rfl, in_X1, tb_2 (i := 150) rfl rfl, ⟨by decide +kernel, by decide +kernel, by decide +kernel⟩⟩
set_option maxRecDepth 20000 in
theorem mf_X1_forgetOldest : am_mv yX1_forgetOldest cX1_forgetOldest 1 none 0 := ⟨tb_2 (i := 153) rfl rfl, sp_1 (q := (yX1_forgetOldest, 6)) (i := 1) rfl, in_X1, tb_2 (i := 154) rfl rfl, ⟨by decide +kernel, by decide +kernel, by decide +kernel⟩⟩
set_option maxRecDepth 20000 in
theorem mf_X6_tell : am_mv yX6_tell cX6_tell 4 none 3 := ⟨tb_2 (i := 159) rfl rfl, tb_2 (i := 160) rfl rfl, in_X6, tb_2 (i := 161) rfl rfl, ⟨by decide +kernel, by decide +kernel, by decide +kernel⟩⟩
set_option maxRecDepth 20000 in
theorem mf_X9_of : am_mv yX9_of cX9_of 4 (some .int) 2 := ⟨tb_2 (i := 163) rfl rfl, tb_2 (i := 164) rfl rfl, in_X9, tb_2 (i := 165) rfl rfl, ⟨by decide +kernel, by decide +kernel, by decide +kernel⟩⟩
set_option maxRecDepth 20000 in
theorem mf_X4_isDebt : am_mv yX4_isDebt cX4_isDebt 2 (some .boolean) 1 := ⟨tb_2 (i := 167) rfl rfl, tb_2 (i := 168) rfl rfl, in_X4, tb_2 (i := 169) rfl rfl, ⟨by decide +kernel, by decide +kernel, by decide +kernel⟩⟩
set_option maxRecDepth 20000 in
theorem mf_X9_ofDebt : am_mv yX9_ofDebt cX9_ofDebt 3 (some .int) 2 := ⟨tb_2 (i := 173) rfl rfl, sp_1 (q := (yX9_ofDebt, 12)) (i := 2) rfl, in_X9, tb_2 (i := 174) rfl rfl, ⟨by decide +kernel, by decide +kernel, by decide +kernel⟩⟩
set_option maxRecDepth 20000 in
theorem mf_X9_ofPerson : am_mv yX9_ofPerson cX9_ofPerson 3 (some .int) 2 := ⟨tb_2 (i := 179) rfl rfl, sp_1 (q := (yX9_ofPerson, 12)) (i := 3) rfl, in_X9, tb_2 (i := 180) rfl rfl, ⟨by decide +kernel, by decide +kernel, by decide +kernel⟩⟩
set_option maxRecDepth 20000 in
theorem mf_X4_owedBy : am_mv yX4_owedBy cX4_owedBy 4 (some .int) 1 := ⟨tb_2 (i := 182) rfl rfl, tb_2 (i := 183) rfl rfl, in_X4, tb_2 (i := 184) rfl rfl, ⟨by decide +kernel, by decide +kernel, by decide +kernel⟩⟩
set_option maxRecDepth 20000 in
theorem mf_X4_owedTo : am_mv yX4_owedTo cX4_owedTo 4 (some .int) 1 := ⟨tb_2 (i := 186) rfl rfl, tb_2 (i := 187) rfl rfl, in_X4, tb_2 (i := 188) rfl rfl, ⟨by decide +kernel, by decide +kernel, by decide +kernel⟩⟩
set_option maxRecDepth 20000 in
theorem mf_X4_owed : am_mv yX4_owed cX4_owed 5 (some .int) 2 := ⟨tb_2 (i := 190) rfl rfl, tb_2 (i := 191) rfl rfl, in_X4, tb_2 (i := 192) rfl rfl, ⟨by decide +kernel, by decide +kernel, by decide +kernel⟩⟩
set_option maxRecDepth 20000 in
theorem mf_X2_isAsk : am_mv yX2_isAsk cX2_isAsk 2 (some .boolean) 1 := ⟨tb_2 (i := 194) rfl rfl, tb_2 (i := 195) rfl rfl, in_X2, tb_2 (i := 196) rfl rfl, ⟨by decide +kernel, by decide +kernel, by decide +kernel⟩⟩
set_option maxRecDepth 20000 in
theorem mf_X9_ofAsk : am_mv yX9_ofAsk cX9_ofAsk 3 (some .int) 2 := ⟨tb_2 (i := 200) rfl rfl, sp_1 (q := (yX9_ofAsk, 12)) (i := 4) rfl, in_X9, tb_2 (i := 201) rfl rfl, ⟨by decide +kernel, by decide +kernel, by decide +kernel⟩⟩
set_option maxRecDepth 20000 in
theorem mf_X9_feed : am_mv yX9_feed cX9_feed 2 (some .int) 1 := ⟨tb_2 (i := 203) rfl rfl, tb_2 (i := 204) rfl rfl, in_X9, tb_2 (i := 205) rfl rfl, ⟨by decide +kernel, by decide +kernel, by decide +kernel⟩⟩
set_option maxRecDepth 20000 in
theorem mf_X3_tapeOn : am_mv yX3_tapeOn cX3_tapeOn 2 (some .int) 1 := ⟨tb_2 (i := 207) rfl rfl, tb_2 (i := 208) rfl rfl, in_X3, tb_2 (i := 209) rfl rfl, ⟨by decide +kernel, by decide +kernel, by decide +kernel⟩⟩
set_option maxRecDepth 20000 in
theorem mf_X9_law : am_mv yX9_law cX9_law 1 (some .int) 0 := ⟨tb_2 (i := 211) rfl rfl, tb_2 (i := 212) rfl rfl, in_X9, tb_2 (i := 213) rfl rfl, ⟨by decide +kernel, by decide +kernel, by decide +kernel⟩⟩
set_option maxRecDepth 20000 in
theorem mf_X3_adoptTape : am_mv yX3_adoptTape cX3_adoptTape 2 (some .int) 0 := ⟨tb_2 (i := 215) rfl rfl, tb_2 (i := 216) rfl rfl, in_X3, tb_2 (i := 217) rfl rfl, ⟨by decide +kernel, by decide +kernel, by decide +kernel⟩⟩
set_option maxRecDepth 20000 in
theorem mf_X3_faultOfTape : am_mv yX3_faultOfTape cX3_faultOfTape 3 (some .int) 0 := ⟨tb_2 (i := 220) rfl rfl, sp_1 (q := (yX3_faultOfTape, 15)) (i := 5) rfl, in_X3, tb_2 (i := 221) rfl rfl, ⟨by decide +kernel, by decide +kernel, by decide +kernel⟩⟩
set_option maxRecDepth 20000 in
theorem mf_X3_takeForOperand : am_mv yX3_takeForOperand cX3_takeForOperand 3 (some .boolean) 1 := ⟨tb_2 (i := 224) rfl rfl, sp_1 (q := (yX3_takeForOperand, 15)) (i := 6) rfl, in_X3, tb_2 (i := 225) rfl rfl, ⟨by decide +kernel, by decide +kernel, by decide +kernel⟩⟩
set_option maxRecDepth 20000 in
theorem mf_X3_isDigit : am_ms yX3_isDigit cX3_isDigit 1 (some .boolean) 1 := ⟨tb_2 (i := 227) rfl rfl, in_X3, tb_2 (i := 228) rfl rfl, ⟨by decide +kernel, by decide +kernel, by decide +kernel⟩⟩
set_option maxRecDepth 20000 in
theorem mf_X3_endOperand : am_mv yX3_endOperand cX3_endOperand 3 none 2 := ⟨tb_2 (i := 232) rfl rfl, sp_1 (q := (yX3_endOperand, 15)) (i := 7) rfl, in_X3, tb_2 (i := 233) rfl rfl, ⟨by decide +kernel, by decide +kernel, by decide +kernel⟩⟩
set_option maxRecDepth 20000 in
theorem mf_X3_emit : am_mv yX3_emit cX3_emit 2 none 1 := ⟨tb_2 (i := 236) rfl rfl, sp_1 (q := (yX3_emit, 15)) (i := 8) rfl, in_X3, tb_2 (i := 237) rfl rfl, ⟨by decide +kernel, by decide +kernel, by decide +kernel⟩⟩
set_option maxRecDepth 20000 in
theorem mf_X3_nameOf : am_ms yX3_nameOf cX3_nameOf 1 (some .int) 1 := ⟨tb_2 (i := 239) rfl rfl, in_X3, tb_3 (i := 0) rfl rfl, ⟨by decide +kernel, by decide +kernel, by decide +kernel⟩⟩
set_option maxRecDepth 20000 in
theorem mf_X3_push : am_mv yX3_push cX3_push 2 none 1 := ⟨tb_3 (i := 3) rfl rfl, sp_1 (q := (yX3_push, 15)) (i := 9) rfl, in_X3, tb_3 (i := 4) rfl rfl, ⟨by decide +kernel, by decide +kernel, by decide +kernel⟩⟩
set_option maxRecDepth 20000 in
theorem mf_X3_takeBehindOperand : am_mv yX3_takeBehindOperand cX3_takeBehindOperand 4 (some .boolean) 1 := ⟨tb_3 (i := 7) rfl rfl, sp_1 (q := (yX3_takeBehindOperand, 15)) (i := 10) rfl, in_X3, tb_3 (i := 8) rfl rfl, ⟨by decide +kernel, by decide +kernel, by decide +kernel⟩⟩
set_option maxRecDepth 20000 in
theorem mf_X3_takeNextDigit : am_mv yX3_takeNextDigit cX3_takeNextDigit 2 (some .boolean) 1 := ⟨tb_3 (i := 11) rfl rfl, sp_1 (q := (yX3_takeNextDigit, 15)) (i := 11) rfl, in_X3, tb_3 (i := 12) rfl rfl, ⟨by decide +kernel, by decide +kernel, by decide +kernel⟩⟩
set_option maxRecDepth 20000 in
theorem mf_X3_takeBracketsEnd : am_mv yX3_takeBracketsEnd cX3_takeBracketsEnd 1 (some .boolean) 0 := ⟨tb_3 (i := 15) rfl rfl, sp_1 (q := (yX3_takeBracketsEnd, 15)) (i := 12) rfl, in_X3, tb_3 (i := 16) rfl rfl, ⟨by decide +kernel, by decide +kernel, by decide +kernel⟩⟩
set_option maxRecDepth 20000 in
theorem mf_X3_settle : am_mv yX3_settle cX3_settle 2 none 1 := ⟨tb_3 (i := 19) rfl rfl, sp_1 (q := (yX3_settle, 15)) (i := 13) rfl, in_X3, tb_3 (i := 20) rfl rfl, ⟨by decide +kernel, by decide +kernel, by decide +kernel⟩⟩
set_option maxRecDepth 20000 in
theorem mf_X3_rankOf : am_ms yX3_rankOf cX3_rankOf 1 (some .int) 1 := ⟨tb_3 (i := 22) rfl rfl, in_X3, tb_3 (i := 23) rfl rfl, ⟨by decide +kernel, by decide +kernel, by decide +kernel⟩⟩
set_option maxRecDepth 20000 in
theorem mf_X3_takeExpressionsEnd : am_mv yX3_takeExpressionsEnd cX3_takeExpressionsEnd 2 (some .boolean) 1 := ⟨tb_3 (i := 26) rfl rfl, sp_1 (q := (yX3_takeExpressionsEnd, 15)) (i := 14) rfl, in_X3, tb_3 (i := 27) rfl rfl, ⟨by decide +kernel, by decide +kernel, by decide +kernel⟩⟩
set_option maxRecDepth 20000 in
theorem mf_X9_worth : am_mv yX9_worth cX9_worth 3 (some .int) 2 := ⟨tb_3 (i := 30) rfl rfl, tb_3 (i := 31) rfl rfl, in_X9, tb_3 (i := 32) rfl rfl, ⟨by decide +kernel, by decide +kernel, by decide +kernel⟩⟩
set_option maxRecDepth 20000 in
theorem mf_X9_isDay : am_ms yX9_isDay cX9_isDay 1 (some .boolean) 1 := ⟨tb_3 (i := 34) rfl rfl, in_X9, tb_3 (i := 35) rfl rfl, ⟨by decide +kernel, by decide +kernel, by decide +kernel⟩⟩
set_option maxRecDepth 20000 in
theorem mf_X9_worthOf : am_mv yX9_worthOf cX9_worthOf 7 (some .int) 3 := ⟨tb_3 (i := 38) rfl rfl, sp_1 (q := (yX9_worthOf, 12)) (i := 15) rfl, in_X9, tb_3 (i := 39) rfl rfl, ⟨by decide +kernel, by decide +kernel, by decide +kernel⟩⟩
set_option maxRecDepth 20000 in
theorem mf_X3_isGiven : am_mv yX3_isGiven cX3_isGiven 1 (some .boolean) 0 := ⟨tb_3 (i := 41) rfl rfl, tb_3 (i := 42) rfl rfl, in_X3, tb_3 (i := 43) rfl rfl, ⟨by decide +kernel, by decide +kernel, by decide +kernel⟩⟩
set_option maxRecDepth 20000 in
theorem mf_X3_value : am_mv yX3_value cX3_value 10 (some .int) 5 := ⟨tb_3 (i := 45) rfl rfl, tb_3 (i := 46) rfl rfl, in_X3, tb_3 (i := 47) rfl rfl, ⟨by decide +kernel, by decide +kernel, by decide +kernel⟩⟩
set_option maxRecDepth 20000 in
theorem mf_X3_operandsOf : am_ms yX3_operandsOf cX3_operandsOf 1 (some .int) 1 := ⟨tb_3 (i := 49) rfl rfl, in_X3, tb_3 (i := 50) rfl rfl, ⟨by decide +kernel, by decide +kernel, by decide +kernel⟩⟩
set_option maxRecDepth 20000 in
theorem mf_X3_ofOne : am_ms yX3_ofOne cX3_ofOne 2 (some .int) 2 := ⟨tb_3 (i := 52) rfl rfl, in_X3, tb_3 (i := 53) rfl rfl, ⟨by decide +kernel, by decide +kernel, by decide +kernel⟩⟩
set_option maxRecDepth 20000 in
theorem mf_X3_ofTwo : am_ms yX3_ofTwo cX3_ofTwo 3 (some .int) 3 := ⟨tb_3 (i := 55) rfl rfl, in_X3, tb_3 (i := 56) rfl rfl, ⟨by decide +kernel, by decide +kernel, by decide +kernel⟩⟩
set_option maxRecDepth 20000 in
theorem mf_X9_ask : am_mv yX9_ask cX9_ask 3 (some .int) 2 := ⟨tb_3 (i := 64) rfl rfl, tb_3 (i := 65) rfl rfl, in_X9, tb_3 (i := 66) rfl rfl, ⟨by decide +kernel, by decide +kernel, by decide +kernel⟩⟩
set_option maxRecDepth 20000 in
theorem mf_X9_isHoly : am_ms yX9_isHoly cX9_isHoly 1 (some .boolean) 1 := ⟨tb_3 (i := 68) rfl rfl, in_X9, tb_3 (i := 69) rfl rfl, ⟨by decide +kernel, by decide +kernel, by decide +kernel⟩⟩
set_option maxRecDepth 20000 in
theorem mf_X4_isOpen : am_mv yX4_isOpen cX4_isOpen 2 (some .boolean) 1 := ⟨tb_3 (i := 71) rfl rfl, tb_3 (i := 72) rfl rfl, in_X4, tb_3 (i := 73) rfl rfl, ⟨by decide +kernel, by decide +kernel, by decide +kernel⟩⟩
set_option maxRecDepth 20000 in
theorem mf_X2_addAsk : am_mv yX2_addAsk cX2_addAsk 3 (some .int) 2 := ⟨tb_3 (i := 76) rfl rfl, tb_3 (i := 77) rfl rfl, in_X2, tb_3 (i := 78) rfl rfl, ⟨by decide +kernel, by decide +kernel, by decide +kernel⟩⟩
set_option maxRecDepth 20000 in
theorem mf_X9_has : am_mv yX9_has cX9_has 4 (some .int) 2 := ⟨tb_3 (i := 80) rfl rfl, tb_3 (i := 81) rfl rfl, in_X9, tb_3 (i := 82) rfl rfl, ⟨by decide +kernel, by decide +kernel, by decide +kernel⟩⟩
set_option maxRecDepth 20000 in
theorem mf_X9_debtToWork : am_mv yX9_debtToWork cX9_debtToWork 8 (some .int) 2 := ⟨tb_3 (i := 85) rfl rfl, sp_2 (q := (yX9_debtToWork, 12)) (i := 0) rfl, in_X9, tb_3 (i := 86) rfl rfl, ⟨by decide +kernel, by decide +kernel, by decide +kernel⟩⟩
set_option maxRecDepth 20000 in
theorem mf_X9_meritOf : am_mv yX9_meritOf cX9_meritOf 3 (some .int) 2 := ⟨tb_3 (i := 89) rfl rfl, sp_2 (q := (yX9_meritOf, 12)) (i := 1) rfl, in_X9, tb_3 (i := 90) rfl rfl, ⟨by decide +kernel, by decide +kernel, by decide +kernel⟩⟩
set_option maxRecDepth 20000 in
theorem mf_X9_go : am_mv yX9_go cX9_go 8 (some .int) 2 := ⟨tb_3 (i := 92) rfl rfl, tb_3 (i := 93) rfl rfl, in_X9, tb_3 (i := 94) rfl rfl, ⟨by decide +kernel, by decide +kernel, by decide +kernel⟩⟩
set_option maxRecDepth 20000 in
theorem mf_X9_worksToday : am_mv yX9_worksToday cX9_worksToday 7 (some .boolean) 1 := ⟨tb_3 (i := 98) rfl rfl, sp_2 (q := (yX9_worksToday, 12)) (i := 2) rfl, in_X9, tb_3 (i := 99) rfl rfl, ⟨by decide +kernel, by decide +kernel, by decide +kernel⟩⟩
set_option maxRecDepth 20000 in
theorem mf_X2_lead : am_mv yX2_lead cX2_lead 6 none 4 := ⟨tb_3 (i := 101) rfl rfl, tb_3 (i := 102) rfl rfl, in_X2, tb_3 (i := 103) rfl rfl, ⟨by decide +kernel, by decide +kernel, by decide +kernel⟩⟩
set_option maxRecDepth 20000 in
theorem mf_X2_place : am_ms yX2_place cX2_place 2 (some .int) 2 := ⟨tb_3 (i := 105) rfl rfl, in_X2, tb_3 (i := 106) rfl rfl, ⟨by decide +kernel, by decide +kernel, by decide +kernel⟩⟩
set_option maxRecDepth 20000 in
theorem mf_X4_workOff : am_mv yX4_workOff cX4_workOff 3 none 2 := ⟨tb_3 (i := 108) rfl rfl, tb_3 (i := 109) rfl rfl, in_X4, tb_3 (i := 110) rfl rfl, ⟨by decide +kernel, by decide +kernel, by decide +kernel⟩⟩
set_option maxRecDepth 20000 in
theorem mf_X4_lessen : am_mv yX4_lessen cX4_lessen 3 none 2 := ⟨tb_3 (i := 113) rfl rfl, sp_2 (q := (yX4_lessen, 6)) (i := 3) rfl, in_X4, tb_3 (i := 114) rfl rfl, ⟨by decide +kernel, by decide +kernel, by decide +kernel⟩⟩
set_option maxRecDepth 20000 in
theorem mf_X2_endDay : am_mv yX2_endDay cX2_endDay 2 none 0 := ⟨tb_3 (i := 116) rfl rfl, tb_3 (i := 117) rfl rfl, in_X2, tb_3 (i := 118) rfl rfl, ⟨by decide +kernel, by decide +kernel, by decide +kernel⟩⟩
set_option maxRecDepth 20000 in
theorem mf_X9_led : am_mv yX9_led cX9_led 4 (some .int) 2 := ⟨tb_3 (i := 120) rfl rfl, tb_3 (i := 121) rfl rfl, in_X9, tb_3 (i := 122) rfl rfl, ⟨by decide +kernel, by decide +kernel, by decide +kernel⟩⟩
set_option maxRecDepth 20000 in
theorem mf_X9_waits : am_mv yX9_waits cX9_waits 1 (some .int) 0 := ⟨tb_3 (i := 125) rfl rfl, tb_3 (i := 126) rfl rfl, in_X9, tb_3 (i := 127) rfl rfl, ⟨by decide +kernel, by decide +kernel, by decide +kernel⟩⟩
set_option maxRecDepth 20000 in
theorem mf_X2_waiting : am_mv yX2_waiting cX2_waiting 3 (some .int) 0 := ⟨tb_3 (i := 129) rfl rfl, tb_3 (i := 130) rfl rfl, in_X2, tb_3 (i := 131) rfl rfl, ⟨by decide +kernel, by decide +kernel, by decide +kernel⟩⟩
set_option maxRecDepth 20000 in
theorem mf_X9_bestDay : am_mv yX9_bestDay cX9_bestDay 7 (some .int) 2 := ⟨tb_3 (i := 133) rfl rfl, tb_3 (i := 134) rfl rfl, in_X9, tb_3 (i := 135) rfl rfl, ⟨by decide +kernel, by decide +kernel, by decide +kernel⟩⟩
set_option maxRecDepth 20000 in
theorem mf_X9_plan : am_mv yX9_plan cX9_plan 6 (some .int) 2 := ⟨tb_3 (i := 137) rfl rfl, tb_3 (i := 138) rfl rfl, in_X9, tb_3 (i := 139) rfl rfl, ⟨by decide +kernel, by decide +kernel, by decide +kernel⟩⟩
set_option maxRecDepth 20000 in
theorem mf_X9_worthOfBestDays : am_mv yX9_worthOfBestDays cX9_worthOfBestDays 9 (some .int) 4 := ⟨tb_3 (i := 142) rfl rfl, sp_2 (q := (yX9_worthOfBestDays, 12)) (i := 4) rfl, in_X9, tb_3 (i := 143) rfl rfl, ⟨by decide +kernel, by decide +kernel, by decide +kernel⟩⟩
set_option maxRecDepth 20000 in
theorem mf_X9_free : am_mv yX9_free cX9_free 5 (some .int) 2 := ⟨tb_3 (i := 145) rfl rfl, tb_3 (i := 146) rfl rfl, in_X9, tb_3 (i := 147) rfl rfl, ⟨by decide +kernel, by decide +kernel, by decide +kernel⟩⟩
set_option maxRecDepth 20000 in
theorem mf_X9_ring : am_mv yX9_ring cX9_ring 2 (some .int) 0 := ⟨tb_3 (i := 149) rfl rfl, tb_3 (i := 150) rfl rfl, in_X9, tb_3 (i := 151) rfl rfl, ⟨by decide +kernel, by decide +kernel, by decide +kernel⟩⟩
set_option maxRecDepth 20000 in
theorem mf_X5_least : am_ms yX5_least cX5_least 4 (some .int) 1 := ⟨tb_3 (i := 153) rfl rfl, in_X5, tb_3 (i := 154) rfl rfl, ⟨by decide +kernel, by decide +kernel, by decide +kernel⟩⟩
set_option maxRecDepth 20000 in
theorem mf_X5_follow : am_ms yX5_follow cX5_follow 9 (some .int) 6 := ⟨tb_3 (i := 157) rfl rfl, in_X5, tb_3 (i := 158) rfl rfl, ⟨by decide +kernel, by decide +kernel, by decide +kernel⟩⟩
set_option maxRecDepth 20000 in
theorem mf_X5_lesser : am_ms yX5_lesser cX5_lesser 2 (some .int) 2 := ⟨tb_3 (i := 160) rfl rfl, in_X5, tb_3 (i := 161) rfl rfl, ⟨by decide +kernel, by decide +kernel, by decide +kernel⟩⟩
set_option maxRecDepth 20000 in
theorem mf_X9_wiped : am_mv yX9_wiped cX9_wiped 1 (some .int) 0 := ⟨tb_3 (i := 164) rfl rfl, tb_3 (i := 165) rfl rfl, in_X9, tb_3 (i := 166) rfl rfl, ⟨by decide +kernel, by decide +kernel, by decide +kernel⟩⟩
set_option maxRecDepth 20000 in
theorem mf_X8_fewest : am_mv yX8_fewest cX8_fewest 7 (some .int) 2 := ⟨tb_3 (i := 168) rfl rfl, tb_3 (i := 169) rfl rfl, in_X8, tb_3 (i := 170) rfl rfl, ⟨by decide +kernel, by decide +kernel, by decide +kernel⟩⟩
set_option maxRecDepth 20000 in
theorem mf_X8_takeNet : am_mv yX8_takeNet cX8_takeNet 3 none 1 := ⟨tb_3 (i := 173) rfl rfl, sp_2 (q := (yX8_takeNet, 3)) (i := 5) rfl, in_X8, tb_3 (i := 174) rfl rfl, ⟨by decide +kernel, by decide +kernel, by decide +kernel⟩⟩
set_option maxRecDepth 20000 in
theorem mf_X9_balance : am_mv yX9_balance cX9_balance 2 (some .int) 1 := ⟨tb_3 (i := 177) rfl rfl, tb_3 (i := 178) rfl rfl, in_X9, tb_3 (i := 179) rfl rfl, ⟨by decide +kernel, by decide +kernel, by decide +kernel⟩⟩
set_option maxRecDepth 20000 in
theorem mf_X9_hand : am_mv yX9_hand cX9_hand 2 (some .int) 1 := ⟨tb_3 (i := 181) rfl rfl, tb_3 (i := 182) rfl rfl, in_X9, tb_3 (i := 183) rfl rfl, ⟨by decide +kernel, by decide +kernel, by decide +kernel⟩⟩
set_option maxRecDepth 20000 in
theorem mf_X4_handOn : am_mv yX4_handOn cX4_handOn 4 (some .boolean) 2 := ⟨tb_3 (i := 185) rfl rfl, tb_3 (i := 186) rfl rfl, in_X4, tb_3 (i := 187) rfl rfl, ⟨by decide +kernel, by decide +kernel, by decide +kernel⟩⟩
set_option maxRecDepth 20000 in
theorem mf_X9_strike : am_mv yX9_strike cX9_strike 2 (some .int) 0 := ⟨tb_3 (i := 190) rfl rfl, tb_3 (i := 191) rfl rfl, in_X9, tb_3 (i := 192) rfl rfl, ⟨by decide +kernel, by decide +kernel, by decide +kernel⟩⟩
set_option maxRecDepth 20000 in
theorem mf_X4_strikeOut : am_mv yX4_strikeOut cX4_strikeOut 4 (some .int) 1 := ⟨tb_3 (i := 194) rfl rfl, tb_3 (i := 195) rfl rfl, in_X4, tb_3 (i := 196) rfl rfl, ⟨by decide +kernel, by decide +kernel, by decide +kernel⟩⟩
set_option maxRecDepth 20000 in
theorem mf_X9_runaway : am_mv yX9_runaway cX9_runaway 2 (some .int) 1 := ⟨tb_3 (i := 198) rfl rfl, tb_3 (i := 199) rfl rfl, in_X9, tb_3 (i := 200) rfl rfl, ⟨by decide +kernel, by decide +kernel, by decide +kernel⟩⟩
set_option maxRecDepth 20000 in
theorem mf_X4_dropAllBy : am_mv yX4_dropAllBy cX4_dropAllBy 4 (some .int) 1 := ⟨tb_3 (i := 202) rfl rfl, tb_3 (i := 203) rfl rfl, in_X4, tb_3 (i := 204) rfl rfl, ⟨by decide +kernel, by decide +kernel, by decide +kernel⟩⟩
set_option maxRecDepth 20000 in
theorem mf_X9_heir : am_mv yX9_heir cX9_heir 2 (some .int) 1 := ⟨tb_3 (i := 207) rfl rfl, tb_3 (i := 208) rfl rfl, in_X9, tb_3 (i := 209) rfl rfl, ⟨by decide +kernel, by decide +kernel, by decide +kernel⟩⟩
set_option maxRecDepth 20000 in
theorem mf_X4_inherit : am_mv yX4_inherit cX4_inherit 7 (some .int) 2 := ⟨tb_3 (i := 211) rfl rfl, tb_3 (i := 212) rfl rfl, in_X4, tb_3 (i := 213) rfl rfl, ⟨by decide +kernel, by decide +kernel, by decide +kernel⟩⟩
set_option maxRecDepth 20000 in
theorem mf_X9_judge : am_mv yX9_judge cX9_judge 4 (some .int) 1 := ⟨tb_3 (i := 215) rfl rfl, tb_3 (i := 216) rfl rfl, in_X9, tb_3 (i := 217) rfl rfl, ⟨by decide +kernel, by decide +kernel, by decide +kernel⟩⟩
set_option maxRecDepth 20000 in
theorem mf_X9_isThreeSo : am_mv yX9_isThreeSo cX9_isThreeSo 6 (some .boolean) 2 := ⟨tb_3 (i := 220) rfl rfl, sp_2 (q := (yX9_isThreeSo, 12)) (i := 6) rfl, in_X9, tb_3 (i := 221) rfl rfl, ⟨by decide +kernel, by decide +kernel, by decide +kernel⟩⟩
set_option maxRecDepth 20000 in
theorem mf_X9_wet : am_mv yX9_wet cX9_wet 7 (some .int) 2 := ⟨tb_3 (i := 223) rfl rfl, tb_3 (i := 224) rfl rfl, in_X9, tb_3 (i := 225) rfl rfl, ⟨by decide +kernel, by decide +kernel, by decide +kernel⟩⟩
set_option maxRecDepth 20000 in
theorem mf_X9_image : am_mv yX9_image cX9_image 1 (some .int) 0 := ⟨tb_3 (i := 227) rfl rfl, tb_3 (i := 228) rfl rfl, in_X9, tb_3 (i := 229) rfl rfl, ⟨by decide +kernel, by decide +kernel, by decide +kernel⟩⟩
set_option maxRecDepth 20000 in
theorem mf_X4_copyFrom : am_mv yX4_copyFrom cX4_copyFrom 2 none 1 := ⟨tb_3 (i := 231) rfl rfl, tb_3 (i := 232) rfl rfl, in_X4, tb_3 (i := 233) rfl rfl, ⟨by decide +kernel, by decide +kernel, by decide +kernel⟩⟩
set_option maxRecDepth 20000 in
theorem mf_X2_copyFrom : am_mv yX2_copyFrom cX2_copyFrom 2 none 1 := ⟨tb_3 (i := 236) rfl rfl, tb_3 (i := 237) rfl rfl, in_X2, tb_3 (i := 238) rfl rfl, ⟨by decide +kernel, by decide +kernel, by decide +kernel⟩⟩
set_option maxRecDepth 20000 in
theorem mf_X9_back : am_mv yX9_back cX9_back 1 (some .int) 0 := ⟨tb_4 (i := 1) rfl rfl, tb_4 (i := 2) rfl rfl, in_X9, tb_4 (i := 3) rfl rfl, ⟨by decide +kernel, by decide +kernel, by decide +kernel⟩⟩
set_option maxRecDepth 20000 in
theorem mf_X9_undo : am_mv yX9_undo cX9_undo 1 (some .int) 0 := ⟨tb_4 (i := 5) rfl rfl, tb_4 (i := 6) rfl rfl, in_X9, tb_4 (i := 7) rfl rfl, ⟨by decide +kernel, by decide +kernel, by decide +kernel⟩⟩
set_option maxRecDepth 20000 in
theorem mf_X1_takeBack : am_mv yX1_takeBack cX1_takeBack 2 (some .int) 1 := ⟨tb_4 (i := 9) rfl rfl, tb_4 (i := 10) rfl rfl, in_X1, tb_4 (i := 11) rfl rfl, ⟨by decide +kernel, by decide +kernel, by decide +kernel⟩⟩
set_option maxRecDepth 20000 in
theorem mf_X9_redo : am_mv yX9_redo cX9_redo 1 (some .int) 0 := ⟨tb_4 (i := 14) rfl rfl, tb_4 (i := 15) rfl rfl, in_X9, tb_4 (i := 16) rfl rfl, ⟨by decide +kernel, by decide +kernel, by decide +kernel⟩⟩
set_option maxRecDepth 20000 in
theorem mf_X1_doAgain : am_mv yX1_doAgain cX1_doAgain 2 (some .int) 1 := ⟨tb_4 (i := 18) rfl rfl, tb_4 (i := 19) rfl rfl, in_X1, tb_4 (i := 20) rfl rfl, ⟨by decide +kernel, by decide +kernel, by decide +kernel⟩⟩
set_option maxRecDepth 20000 in
theorem mf_X9_body : am_mv yX9_body cX9_body 2 (some .int) 1 := ⟨tb_4 (i := 22) rfl rfl, tb_4 (i := 23) rfl rfl, in_X9, tb_4 (i := 24) rfl rfl, ⟨by decide +kernel, by decide +kernel, by decide +kernel⟩⟩
set_option maxRecDepth 20000 in
theorem mf_X0_add : am_mv yX0_add cX0_add 2 (some .int) 1 := ⟨tb_4 (i := 26) rfl rfl, tb_4 (i := 27) rfl rfl, in_X0, tb_4 (i := 28) rfl rfl, ⟨by decide +kernel, by decide +kernel, by decide +kernel⟩⟩
set_option maxRecDepth 20000 in
theorem mf_X9_act : am_mv yX9_act cX9_act 4 (some .int) 3 := ⟨tb_4 (i := 30) rfl rfl, tb_4 (i := 31) rfl rfl, in_X9, tb_4 (i := 32) rfl rfl, ⟨by decide +kernel, by decide +kernel, by decide +kernel⟩⟩
set_option maxRecDepth 20000 in
theorem mf_X0_isBody : am_mv yX0_isBody cX0_isBody 2 (some .boolean) 1 := ⟨tb_4 (i := 34) rfl rfl, tb_4 (i := 35) rfl rfl, in_X0, tb_4 (i := 36) rfl rfl, ⟨by decide +kernel, by decide +kernel, by decide +kernel⟩⟩
set_option maxRecDepth 20000 in
theorem mf_X0_perform : am_mv yX0_perform cX0_perform 4 (some .int) 3 := ⟨tb_4 (i := 39) rfl rfl, tb_4 (i := 40) rfl rfl, in_X0, tb_4 (i := 41) rfl rfl, ⟨by decide +kernel, by decide +kernel, by decide +kernel⟩⟩
set_option maxRecDepth 20000 in
theorem mf_X0_own : am_mv yX0_own cX0_own 4 (some .int) 3 := ⟨tb_4 (i := 44) rfl rfl, sp_2 (q := (yX0_own, 5)) (i := 7) rfl, in_X0, tb_4 (i := 45) rfl rfl, ⟨by decide +kernel, by decide +kernel, by decide +kernel⟩⟩
set_option maxRecDepth 20000 in
theorem mf_X0_from : am_mv yX0_from cX0_from 7 (some .int) 4 := ⟨tb_4 (i := 48) rfl rfl, sp_2 (q := (yX0_from, 5)) (i := 8) rfl, in_X0, tb_4 (i := 49) rfl rfl, ⟨by decide +kernel, by decide +kernel, by decide +kernel⟩⟩
set_option maxRecDepth 20000 in
theorem mf_X0_note : am_mv yX0_note cX0_note 2 none 1 := ⟨tb_4 (i := 56) rfl rfl, sp_2 (q := (yX0_note, 5)) (i := 9) rfl, in_X0, tb_4 (i := 57) rfl rfl, ⟨by decide +kernel, by decide +kernel, by decide +kernel⟩⟩
set_option maxRecDepth 20000 in
theorem mf_X0_runOfDay : am_mv yX0_runOfDay cX0_runOfDay 4 (some .int) 3 := ⟨tb_4 (i := 60) rfl rfl, sp_2 (q := (yX0_runOfDay, 5)) (i := 10) rfl, in_X0, tb_4 (i := 61) rfl rfl, ⟨by decide +kernel, by decide +kernel, by decide +kernel⟩⟩
set_option maxRecDepth 20000 in
theorem mf_X0_runUnderDay : am_mv yX0_runUnderDay cX0_runUnderDay 5 (some .int) 4 := ⟨tb_4 (i := 64) rfl rfl, sp_2 (q := (yX0_runUnderDay, 5)) (i := 11) rfl, in_X0, tb_4 (i := 65) rfl rfl, ⟨by decide +kernel, by decide +kernel, by decide +kernel⟩⟩
set_option maxRecDepth 20000 in
theorem mf_X9_trace : am_mv yX9_trace cX9_trace 2 (some .int) 1 := ⟨tb_4 (i := 67) rfl rfl, tb_4 (i := 68) rfl rfl, in_X9, tb_4 (i := 69) rfl rfl, ⟨by decide +kernel, by decide +kernel, by decide +kernel⟩⟩
set_option maxRecDepth 20000 in
theorem mf_X9_keep : am_mv yX9_keep cX9_keep 3 (some .int) 2 := ⟨tb_4 (i := 71) rfl rfl, tb_4 (i := 72) rfl rfl, in_X9, tb_4 (i := 73) rfl rfl, ⟨by decide +kernel, by decide +kernel, by decide +kernel⟩⟩
set_option maxRecDepth 20000 in
theorem mf_X7_holdDay : am_mv yX7_holdDay cX7_holdDay 2 none 1 := ⟨tb_4 (i := 75) rfl rfl, tb_4 (i := 76) rfl rfl, in_X7, tb_4 (i := 77) rfl rfl, ⟨by decide +kernel, by decide +kernel, by decide +kernel⟩⟩
set_option maxRecDepth 20000 in
theorem mf_X9_row : am_mv yX9_row cX9_row 4 (some .int) 3 := ⟨tb_4 (i := 79) rfl rfl, tb_4 (i := 80) rfl rfl, in_X9, tb_4 (i := 81) rfl rfl, ⟨by decide +kernel, by decide +kernel, by decide +kernel⟩⟩
set_option maxRecDepth 20000 in
theorem mf_X7_holdRow : am_mv yX7_holdRow cX7_holdRow 4 none 2 := ⟨tb_4 (i := 83) rfl rfl, tb_4 (i := 84) rfl rfl, in_X7, tb_4 (i := 85) rfl rfl, ⟨by decide +kernel, by decide +kernel, by decide +kernel⟩⟩
set_option maxRecDepth 20000 in
theorem mf_X9_put : am_mv yX9_put cX9_put 6 (some .int) 3 := ⟨tb_4 (i := 87) rfl rfl, tb_4 (i := 88) rfl rfl, in_X9, tb_4 (i := 89) rfl rfl, ⟨by decide +kernel, by decide +kernel, by decide +kernel⟩⟩
set_option maxRecDepth 20000 in
theorem mf_X9_refusalOfElement : am_mv yX9_refusalOfElement cX9_refusalOfElement 4 (some .int) 2 := ⟨tb_4 (i := 92) rfl rfl, sp_2 (q := (yX9_refusalOfElement, 12)) (i := 12) rfl, in_X9, tb_4 (i := 93) rfl rfl, ⟨by decide +kernel, by decide +kernel, by decide +kernel⟩⟩
set_option maxRecDepth 20000 in
theorem mf_X7_holdsRow : am_mv yX7_holdsRow cX7_holdsRow 1 (some .boolean) 0 := ⟨tb_4 (i := 95) rfl rfl, tb_4 (i := 96) rfl rfl, in_X7, tb_4 (i := 97) rfl rfl, ⟨by decide +kernel, by decide +kernel, by decide +kernel⟩⟩
set_option maxRecDepth 20000 in
theorem mf_X7_hasPlaces : am_mv yX7_hasPlaces cX7_hasPlaces 3 (some .boolean) 2 := ⟨tb_4 (i := 99) rfl rfl, tb_4 (i := 100) rfl rfl, in_X7, tb_4 (i := 101) rfl rfl, ⟨by decide +kernel, by decide +kernel, by decide +kernel⟩⟩
set_option maxRecDepth 20000 in
theorem mf_X7_setElement : am_mv yX7_setElement cX7_setElement 4 none 2 := ⟨tb_4 (i := 103) rfl rfl, tb_4 (i := 104) rfl rfl, in_X7, tb_4 (i := 105) rfl rfl, ⟨by decide +kernel, by decide +kernel, by decide +kernel⟩⟩
set_option maxRecDepth 20000 in
theorem mf_X9_element : am_mv yX9_element cX9_element 3 (some .long) 2 := ⟨tb_4 (i := 107) rfl rfl, tb_4 (i := 108) rfl rfl, in_X9, tb_4 (i := 109) rfl rfl, ⟨by decide +kernel, by decide +kernel, by decide +kernel⟩⟩
set_option maxRecDepth 20000 in
theorem mf_X9_shift : am_mv yX9_shift cX9_shift 8 (some .int) 5 := ⟨tb_4 (i := 112) rfl rfl, tb_4 (i := 113) rfl rfl, in_X9, tb_4 (i := 114) rfl rfl, ⟨by decide +kernel, by decide +kernel, by decide +kernel⟩⟩
set_option maxRecDepth 20000 in
theorem mf_X9_taken : am_mv yX9_taken cX9_taken 4 (some .int) 2 := ⟨tb_4 (i := 117) rfl rfl, tb_4 (i := 118) rfl rfl, in_X9, tb_4 (i := 119) rfl rfl, ⟨by decide +kernel, by decide +kernel, by decide +kernel⟩⟩
set_option maxRecDepth 20000 in
theorem mf_X0_isUnder : am_ms yX0_isUnder cX0_isUnder 4 (some .boolean) 2 := ⟨tb_4 (i := 121) rfl rfl, in_X0, tb_4 (i := 122) rfl rfl, ⟨by decide +kernel, by decide +kernel, by decide +kernel⟩⟩
set_option maxRecDepth 20000 in
theorem mf_X9_count : am_mv yX9_count cX9_count 2 (some .int) 1 := ⟨tb_4 (i := 124) rfl rfl, tb_4 (i := 125) rfl rfl, in_X9, tb_4 (i := 126) rfl rfl, ⟨by decide +kernel, by decide +kernel, by decide +kernel⟩⟩
set_option maxRecDepth 20000 in
theorem mf_X4_open : am_mv yX4_open cX4_open 3 (some .int) 0 := ⟨tb_4 (i := 128) rfl rfl, tb_4 (i := 129) rfl rfl, in_X4, tb_4 (i := 130) rfl rfl, ⟨by decide +kernel, by decide +kernel, by decide +kernel⟩⟩
set_option maxRecDepth 20000 in
theorem mf_X10_init : am_mi yX10_init cX10_init 2 0 := ⟨tb_4 (i := 134) rfl rfl, in_X10, tb_4 (i := 135) rfl rfl, rfl, ⟨by decide +kernel, by decide +kernel, by decide +kernel⟩⟩
set_option maxRecDepth 20000 in
theorem mf_X10_undo : am_mv yX10_undo cX10_undo 1 (some .int) 0 := ⟨tb_5 (i := 46) rfl rfl, tb_5 (i := 47) rfl rfl, in_X10, tb_5 (i := 48) rfl rfl, ⟨by decide +kernel, by decide +kernel, by decide +kernel⟩⟩
set_option maxRecDepth 20000 in
theorem mf_X10_redo : am_mv yX10_redo cX10_redo 1 (some .int) 0 := ⟨tb_5 (i := 50) rfl rfl, tb_5 (i := 51) rfl rfl, in_X10, tb_5 (i := 52) rfl rfl, ⟨by decide +kernel, by decide +kernel, by decide +kernel⟩⟩
set_option maxRecDepth 20000 in
theorem mf_X10_person : am_mv yX10_person cX10_person 2 (some .int) 1 := ⟨tb_5 (i := 54) rfl rfl, tb_5 (i := 55) rfl rfl, in_X10, tb_5 (i := 56) rfl rfl, ⟨by decide +kernel, by decide +kernel, by decide +kernel⟩⟩
set_option maxRecDepth 20000 in
theorem mf_X10_within : am_ms yX10_within cX10_within 6 (some .boolean) 3 := ⟨tb_5 (i := 59) rfl rfl, in_X10, tb_5 (i := 60) rfl rfl, ⟨by decide +kernel, by decide +kernel, by decide +kernel⟩⟩
set_option maxRecDepth 20000 in
theorem mf_X10_debt : am_mv yX10_debt cX10_debt 3 (some .int) 2 := ⟨tb_5 (i := 62) rfl rfl, tb_5 (i := 63) rfl rfl, in_X10, tb_5 (i := 64) rfl rfl, ⟨by decide +kernel, by decide +kernel, by decide +kernel⟩⟩
set_option maxRecDepth 20000 in
theorem mf_X10_isOne : am_mv yX10_isOne cX10_isOne 9 (some .boolean) 4 := ⟨tb_5 (i := 67) rfl rfl, sp_2 (q := (yX10_isOne, 49)) (i := 13) rfl, in_X10, tb_5 (i := 68) rfl rfl, ⟨by decide +kernel, by decide +kernel, by decide +kernel⟩⟩
set_option maxRecDepth 20000 in
theorem mf_X10_adds : am_mv yX10_adds cX10_adds 5 none 4 := ⟨tb_5 (i := 72) rfl rfl, sp_2 (q := (yX10_adds, 49)) (i := 14) rfl, in_X10, tb_5 (i := 73) rfl rfl, ⟨by decide +kernel, by decide +kernel, by decide +kernel⟩⟩
set_option maxRecDepth 20000 in
theorem mf_X10_debts : am_mv yX10_debts cX10_debts 7 (some .int) 3 := ⟨tb_5 (i := 75) rfl rfl, tb_5 (i := 76) rfl rfl, in_X10, tb_5 (i := 77) rfl rfl, ⟨by decide +kernel, by decide +kernel, by decide +kernel⟩⟩
set_option maxRecDepth 20000 in
theorem mf_X10_isShelf : am_ms yX10_isShelf cX10_isShelf 1 (some .boolean) 1 := ⟨tb_5 (i := 79) rfl rfl, in_X10, tb_5 (i := 80) rfl rfl, ⟨by decide +kernel, by decide +kernel, by decide +kernel⟩⟩
set_option maxRecDepth 20000 in
theorem mf_X10_mend : am_mv yX10_mend cX10_mend 4 (some .int) 3 := ⟨tb_5 (i := 84) rfl rfl, tb_5 (i := 85) rfl rfl, in_X10, tb_5 (i := 86) rfl rfl, ⟨by decide +kernel, by decide +kernel, by decide +kernel⟩⟩
set_option maxRecDepth 20000 in
theorem mf_X10_becomes : am_mv yX10_becomes cX10_becomes 5 (some .int) 2 := ⟨tb_5 (i := 90) rfl rfl, sp_2 (q := (yX10_becomes, 49)) (i := 15) rfl, in_X10, tb_5 (i := 91) rfl rfl, ⟨by decide +kernel, by decide +kernel, by decide +kernel⟩⟩
set_option maxRecDepth 20000 in
theorem mf_X10_isPerson : am_mv yX10_isPerson cX10_isPerson 2 (some .boolean) 1 := ⟨tb_5 (i := 94) rfl rfl, sp_3 (q := (yX10_isPerson, 49)) (i := 0) rfl, in_X10, tb_5 (i := 95) rfl rfl, ⟨by decide +kernel, by decide +kernel, by decide +kernel⟩⟩
set_option maxRecDepth 20000 in
theorem mf_X10_of : am_mv yX10_of cX10_of 3 (some .int) 2 := ⟨tb_5 (i := 98) rfl rfl, tb_5 (i := 99) rfl rfl, in_X10, tb_5 (i := 100) rfl rfl, ⟨by decide +kernel, by decide +kernel, by decide +kernel⟩⟩
set_option maxRecDepth 20000 in
theorem mf_X10_isDebt : am_mv yX10_isDebt cX10_isDebt 2 (some .boolean) 1 := ⟨tb_5 (i := 104) rfl rfl, sp_3 (q := (yX10_isDebt, 49)) (i := 1) rfl, in_X10, tb_5 (i := 105) rfl rfl, ⟨by decide +kernel, by decide +kernel, by decide +kernel⟩⟩
set_option maxRecDepth 20000 in
theorem mf_X10_ofPerson : am_mv yX10_ofPerson cX10_ofPerson 3 (some .int) 2 := ⟨tb_5 (i := 111) rfl rfl, sp_3 (q := (yX10_ofPerson, 49)) (i := 2) rfl, in_X10, tb_5 (i := 112) rfl rfl, ⟨by decide +kernel, by decide +kernel, by decide +kernel⟩⟩
set_option maxRecDepth 20000 in
theorem mf_X10_sumOf : am_mv yX10_sumOf cX10_sumOf 5 (some .int) 2 := ⟨tb_5 (i := 115) rfl rfl, sp_3 (q := (yX10_sumOf, 49)) (i := 3) rfl, in_X10, tb_5 (i := 116) rfl rfl, ⟨by decide +kernel, by decide +kernel, by decide +kernel⟩⟩
set_option maxRecDepth 20000 in
theorem mf_X10_isPq : am_mv yX10_isPq cX10_isPq 2 (some .boolean) 1 := ⟨tb_5 (i := 121) rfl rfl, sp_3 (q := (yX10_isPq, 49)) (i := 4) rfl, in_X10, tb_5 (i := 122) rfl rfl, ⟨by decide +kernel, by decide +kernel, by decide +kernel⟩⟩
set_option maxRecDepth 20000 in
theorem mf_X10_owedBetween : am_mv yX10_owedBetween cX10_owedBetween 5 (some .int) 2 := ⟨tb_5 (i := 125) rfl rfl, sp_3 (q := (yX10_owedBetween, 49)) (i := 5) rfl, in_X10, tb_5 (i := 126) rfl rfl, ⟨by decide +kernel, by decide +kernel, by decide +kernel⟩⟩
set_option maxRecDepth 20000 in
theorem mf_X10_feed : am_mv yX10_feed cX10_feed 2 (some .int) 1 := ⟨tb_5 (i := 128) rfl rfl, tb_5 (i := 129) rfl rfl, in_X10, tb_5 (i := 130) rfl rfl, ⟨by decide +kernel, by decide +kernel, by decide +kernel⟩⟩
set_option maxRecDepth 20000 in
theorem mf_X10_law : am_mv yX10_law cX10_law 4 (some .int) 0 := ⟨tb_5 (i := 133) rfl rfl, tb_5 (i := 134) rfl rfl, in_X10, tb_5 (i := 135) rfl rfl, ⟨by decide +kernel, by decide +kernel, by decide +kernel⟩⟩
set_option maxRecDepth 20000 in
theorem mf_X10_workOut : am_mv yX10_workOut cX10_workOut 8 (some .int) 2 := ⟨tb_5 (i := 138) rfl rfl, sp_3 (q := (yX10_workOut, 49)) (i := 6) rfl, in_X10, tb_5 (i := 139) rfl rfl, ⟨by decide +kernel, by decide +kernel, by decide +kernel⟩⟩
set_option maxRecDepth 20000 in
theorem mf_X10_either : am_mv yX10_either cX10_either 3 (some .int) 0 := ⟨tb_5 (i := 142) rfl rfl, sp_3 (q := (yX10_either, 49)) (i := 7) rfl, in_X10, tb_5 (i := 143) rfl rfl, ⟨by decide +kernel, by decide +kernel, by decide +kernel⟩⟩
set_option maxRecDepth 20000 in
theorem mf_X10_both : am_mv yX10_both cX10_both 3 (some .int) 0 := ⟨tb_5 (i := 146) rfl rfl, sp_3 (q := (yX10_both, 49)) (i := 8) rfl, in_X10, tb_5 (i := 147) rfl rfl, ⟨by decide +kernel, by decide +kernel, by decide +kernel⟩⟩
set_option maxRecDepth 20000 in
theorem mf_X10_compared : am_mv yX10_compared cX10_compared 4 (some .int) 0 := ⟨tb_5 (i := 150) rfl rfl, sp_3 (q := (yX10_compared, 49)) (i := 9) rfl, in_X10, tb_5 (i := 151) rfl rfl, ⟨by decide +kernel, by decide +kernel, by decide +kernel⟩⟩
set_option maxRecDepth 20000 in
theorem mf_X10_sums : am_mv yX10_sums cX10_sums 4 (some .int) 0 := ⟨tb_5 (i := 154) rfl rfl, sp_3 (q := (yX10_sums, 49)) (i := 10) rfl, in_X10, tb_5 (i := 155) rfl rfl, ⟨by decide +kernel, by decide +kernel, by decide +kernel⟩⟩
set_option maxRecDepth 20000 in
theorem mf_X10_product : am_mv yX10_product cX10_product 4 (some .int) 0 := ⟨tb_5 (i := 158) rfl rfl, sp_3 (q := (yX10_product, 49)) (i := 11) rfl, in_X10, tb_5 (i := 159) rfl rfl, ⟨by decide +kernel, by decide +kernel, by decide +kernel⟩⟩
set_option maxRecDepth 20000 in
theorem mf_X10_one : am_mv yX10_one cX10_one 5 (some .int) 0 := ⟨tb_5 (i := 162) rfl rfl, sp_3 (q := (yX10_one, 49)) (i := 12) rfl, in_X10, tb_5 (i := 163) rfl rfl, ⟨by decide +kernel, by decide +kernel, by decide +kernel⟩⟩
set_option maxRecDepth 20000 in
theorem mf_X10_byteAt : am_mv yX10_byteAt cX10_byteAt 1 (some .int) 0 := ⟨tb_5 (i := 166) rfl rfl, sp_3 (q := (yX10_byteAt, 49)) (i := 13) rfl, in_X10, tb_5 (i := 167) rfl rfl, ⟨by decide +kernel, by decide +kernel, by decide +kernel⟩⟩
set_option maxRecDepth 20000 in
theorem mf_X10_wrong : am_mv yX10_wrong cX10_wrong 1 (some .int) 0 := ⟨tb_5 (i := 170) rfl rfl, sp_3 (q := (yX10_wrong, 49)) (i := 14) rfl, in_X10, tb_5 (i := 171) rfl rfl, ⟨by decide +kernel, by decide +kernel, by decide +kernel⟩⟩
set_option maxRecDepth 20000 in
theorem mf_X10_takes : am_mv yX10_takes cX10_takes 2 (some .boolean) 1 := ⟨tb_5 (i := 174) rfl rfl, sp_3 (q := (yX10_takes, 49)) (i := 15) rfl, in_X10, tb_5 (i := 175) rfl rfl, ⟨by decide +kernel, by decide +kernel, by decide +kernel⟩⟩
set_option maxRecDepth 20000 in
theorem mf_X10_nameOf : am_ms yX10_nameOf cX10_nameOf 1 (some .int) 1 := ⟨tb_5 (i := 177) rfl rfl, in_X10, tb_5 (i := 178) rfl rfl, ⟨by decide +kernel, by decide +kernel, by decide +kernel⟩⟩
set_option maxRecDepth 20000 in
theorem mf_X10_worth : am_mv yX10_worth cX10_worth 3 (some .int) 2 := ⟨tb_5 (i := 180) rfl rfl, tb_5 (i := 181) rfl rfl, in_X10, tb_5 (i := 182) rfl rfl, ⟨by decide +kernel, by decide +kernel, by decide +kernel⟩⟩
set_option maxRecDepth 20000 in
theorem mf_X10_isDay : am_ms yX10_isDay cX10_isDay 1 (some .boolean) 1 := ⟨tb_5 (i := 184) rfl rfl, in_X10, tb_5 (i := 185) rfl rfl, ⟨by decide +kernel, by decide +kernel, by decide +kernel⟩⟩
set_option maxRecDepth 20000 in
theorem mf_X10_worthOf : am_mv yX10_worthOf cX10_worthOf 6 (some .int) 3 := ⟨tb_5 (i := 189) rfl rfl, sp_4 (q := (yX10_worthOf, 49)) (i := 0) rfl, in_X10, tb_5 (i := 190) rfl rfl, ⟨by decide +kernel, by decide +kernel, by decide +kernel⟩⟩
set_option maxRecDepth 20000 in
theorem mf_X10_ask : am_mv yX10_ask cX10_ask 3 (some .int) 2 := ⟨tb_5 (i := 192) rfl rfl, tb_5 (i := 193) rfl rfl, in_X10, tb_5 (i := 194) rfl rfl, ⟨by decide +kernel, by decide +kernel, by decide +kernel⟩⟩
set_option maxRecDepth 20000 in
theorem mf_X10_mayAsk : am_mv yX10_mayAsk cX10_mayAsk 2 (some .boolean) 1 := ⟨tb_5 (i := 197) rfl rfl, sp_4 (q := (yX10_mayAsk, 49)) (i := 1) rfl, in_X10, tb_5 (i := 198) rfl rfl, ⟨by decide +kernel, by decide +kernel, by decide +kernel⟩⟩
set_option maxRecDepth 20000 in
theorem mf_X10_isHoly : am_ms yX10_isHoly cX10_isHoly 1 (some .boolean) 1 := ⟨tb_5 (i := 200) rfl rfl, in_X10, tb_5 (i := 201) rfl rfl, ⟨by decide +kernel, by decide +kernel, by decide +kernel⟩⟩
set_option maxRecDepth 20000 in
theorem mf_X10_isOpen : am_mv yX10_isOpen cX10_isOpen 2 (some .boolean) 1 := ⟨tb_5 (i := 204) rfl rfl, sp_4 (q := (yX10_isOpen, 49)) (i := 2) rfl, in_X10, tb_5 (i := 205) rfl rfl, ⟨by decide +kernel, by decide +kernel, by decide +kernel⟩⟩
set_option maxRecDepth 20000 in
theorem mf_X10_has : am_mv yX10_has cX10_has 4 (some .int) 2 := ⟨tb_5 (i := 207) rfl rfl, tb_5 (i := 208) rfl rfl, in_X10, tb_5 (i := 209) rfl rfl, ⟨by decide +kernel, by decide +kernel, by decide +kernel⟩⟩
set_option maxRecDepth 20000 in
theorem mf_X10_askFor : am_mv yX10_askFor cX10_askFor 8 (some .int) 2 := ⟨tb_5 (i := 212) rfl rfl, sp_4 (q := (yX10_askFor, 49)) (i := 3) rfl, in_X10, tb_5 (i := 213) rfl rfl, ⟨by decide +kernel, by decide +kernel, by decide +kernel⟩⟩
set_option maxRecDepth 20000 in
theorem mf_X10_weightOf : am_mv yX10_weightOf cX10_weightOf 5 (some .int) 1 := ⟨tb_5 (i := 216) rfl rfl, sp_4 (q := (yX10_weightOf, 49)) (i := 4) rfl, in_X10, tb_5 (i := 217) rfl rfl, ⟨by decide +kernel, by decide +kernel, by decide +kernel⟩⟩
set_option maxRecDepth 20000 in
theorem mf_X10_waits : am_mv yX10_waits cX10_waits 3 (some .int) 0 := ⟨tb_5 (i := 219) rfl rfl, tb_5 (i := 220) rfl rfl, in_X10, tb_5 (i := 221) rfl rfl, ⟨by decide +kernel, by decide +kernel, by decide +kernel⟩⟩
set_option maxRecDepth 20000 in
theorem mf_X10_go : am_mv yX10_go cX10_go 5 (some .int) 2 := ⟨tb_5 (i := 223) rfl rfl, tb_5 (i := 224) rfl rfl, in_X10, tb_5 (i := 225) rfl rfl, ⟨by decide +kernel, by decide +kernel, by decide +kernel⟩⟩
set_option maxRecDepth 20000 in
theorem mf_X10_dayGoes : am_mv yX10_dayGoes cX10_dayGoes 8 (some .int) 0 := ⟨tb_5 (i := 229) rfl rfl, sp_4 (q := (yX10_dayGoes, 49)) (i := 5) rfl, in_X10, tb_5 (i := 230) rfl rfl, ⟨by decide +kernel, by decide +kernel, by decide +kernel⟩⟩
set_option maxRecDepth 20000 in
theorem mf_X10_worksOff : am_mv yX10_worksOff cX10_worksOff 4 none 2 := ⟨tb_5 (i := 234) rfl rfl, sp_4 (q := (yX10_worksOff, 49)) (i := 6) rfl, in_X10, tb_5 (i := 235) rfl rfl, ⟨by decide +kernel, by decide +kernel, by decide +kernel⟩⟩
set_option maxRecDepth 20000 in
theorem mf_X10_loses : am_mv yX10_loses cX10_loses 3 none 2 := ⟨tb_5 (i := 238) rfl rfl, sp_4 (q := (yX10_loses, 49)) (i := 7) rfl, in_X10, tb_5 (i := 239) rfl rfl, ⟨by decide +kernel, by decide +kernel, by decide +kernel⟩⟩
set_option maxRecDepth 20000 in
theorem mf_X10_led : am_mv yX10_led cX10_led 4 (some .int) 2 := ⟨tb_6 (i := 1) rfl rfl, tb_6 (i := 2) rfl rfl, in_X10, tb_6 (i := 3) rfl rfl, ⟨by decide +kernel, by decide +kernel, by decide +kernel⟩⟩
set_option maxRecDepth 20000 in
theorem mf_X10_bestDay : am_mv yX10_bestDay cX10_bestDay 7 (some .int) 2 := ⟨tb_6 (i := 5) rfl rfl, tb_6 (i := 6) rfl rfl, in_X10, tb_6 (i := 7) rfl rfl, ⟨by decide +kernel, by decide +kernel, by decide +kernel⟩⟩
set_option maxRecDepth 20000 in
theorem mf_X10_plan : am_mv yX10_plan cX10_plan 5 (some .int) 2 := ⟨tb_6 (i := 9) rfl rfl, tb_6 (i := 10) rfl rfl, in_X10, tb_6 (i := 11) rfl rfl, ⟨by decide +kernel, by decide +kernel, by decide +kernel⟩⟩
set_option maxRecDepth 20000 in
theorem mf_X10_bestSum : am_mv yX10_bestSum cX10_bestSum 11 (some .int) 4 := ⟨tb_6 (i := 14) rfl rfl, sp_4 (q := (yX10_bestSum, 49)) (i := 8) rfl, in_X10, tb_6 (i := 15) rfl rfl, ⟨by decide +kernel, by decide +kernel, by decide +kernel⟩⟩
set_option maxRecDepth 20000 in
theorem mf_X10_free : am_mv yX10_free cX10_free 5 (some .int) 2 := ⟨tb_6 (i := 17) rfl rfl, tb_6 (i := 18) rfl rfl, in_X10, tb_6 (i := 19) rfl rfl, ⟨by decide +kernel, by decide +kernel, by decide +kernel⟩⟩
set_option maxRecDepth 20000 in
theorem mf_X10_ring : am_mv yX10_ring cX10_ring 2 (some .int) 0 := ⟨tb_6 (i := 21) rfl rfl, tb_6 (i := 22) rfl rfl, in_X10, tb_6 (i := 23) rfl rfl, ⟨by decide +kernel, by decide +kernel, by decide +kernel⟩⟩
set_option maxRecDepth 20000 in
theorem mf_X10_ringsFrom : am_mv yX10_ringsFrom cX10_ringsFrom 7 none 4 := ⟨tb_6 (i := 26) rfl rfl, sp_4 (q := (yX10_ringsFrom, 49)) (i := 9) rfl, in_X10, tb_6 (i := 27) rfl rfl, ⟨by decide +kernel, by decide +kernel, by decide +kernel⟩⟩
set_option maxRecDepth 20000 in
theorem mf_X10_bitsOf : am_ms yX10_bitsOf cX10_bitsOf 3 (some .int) 1 := ⟨tb_6 (i := 29) rfl rfl, in_X10, tb_6 (i := 30) rfl rfl, ⟨by decide +kernel, by decide +kernel, by decide +kernel⟩⟩
set_option maxRecDepth 20000 in
theorem mf_X10_wiped : am_mv yX10_wiped cX10_wiped 5 (some .int) 0 := ⟨tb_6 (i := 32) rfl rfl, tb_6 (i := 33) rfl rfl, in_X10, tb_6 (i := 34) rfl rfl, ⟨by decide +kernel, by decide +kernel, by decide +kernel⟩⟩
set_option maxRecDepth 20000 in
theorem mf_X10_balanceOfAny : am_mv yX10_balanceOfAny cX10_balanceOfAny 5 (some .int) 1 := ⟨tb_6 (i := 37) rfl rfl, sp_4 (q := (yX10_balanceOfAny, 49)) (i := 10) rfl, in_X10, tb_6 (i := 38) rfl rfl, ⟨by decide +kernel, by decide +kernel, by decide +kernel⟩⟩
set_option maxRecDepth 20000 in
theorem mf_X10_balance : am_mv yX10_balance cX10_balance 2 (some .int) 1 := ⟨tb_6 (i := 40) rfl rfl, tb_6 (i := 41) rfl rfl, in_X10, tb_6 (i := 42) rfl rfl, ⟨by decide +kernel, by decide +kernel, by decide +kernel⟩⟩
set_option maxRecDepth 20000 in
theorem mf_X10_hand : am_mv yX10_hand cX10_hand 5 (some .int) 1 := ⟨tb_6 (i := 44) rfl rfl, tb_6 (i := 45) rfl rfl, in_X10, tb_6 (i := 46) rfl rfl, ⟨by decide +kernel, by decide +kernel, by decide +kernel⟩⟩
set_option maxRecDepth 20000 in
theorem mf_X10_strike : am_mv yX10_strike cX10_strike 4 (some .int) 0 := ⟨tb_6 (i := 48) rfl rfl, tb_6 (i := 49) rfl rfl, in_X10, tb_6 (i := 50) rfl rfl, ⟨by decide +kernel, by decide +kernel, by decide +kernel⟩⟩
set_option maxRecDepth 20000 in
theorem mf_X10_runaway : am_mv yX10_runaway cX10_runaway 4 (some .int) 1 := ⟨tb_6 (i := 53) rfl rfl, tb_6 (i := 54) rfl rfl, in_X10, tb_6 (i := 55) rfl rfl, ⟨by decide +kernel, by decide +kernel, by decide +kernel⟩⟩
set_option maxRecDepth 20000 in
theorem mf_X10_heir : am_mv yX10_heir cX10_heir 8 (some .int) 1 := ⟨tb_6 (i := 57) rfl rfl, tb_6 (i := 58) rfl rfl, in_X10, tb_6 (i := 59) rfl rfl, ⟨by decide +kernel, by decide +kernel, by decide +kernel⟩⟩
set_option maxRecDepth 20000 in
theorem mf_X10_judge : am_mv yX10_judge cX10_judge 4 (some .int) 1 := ⟨tb_6 (i := 61) rfl rfl, tb_6 (i := 62) rfl rfl, in_X10, tb_6 (i := 63) rfl rfl, ⟨by decide +kernel, by decide +kernel, by decide +kernel⟩⟩
set_option maxRecDepth 20000 in
theorem mf_X10_bookIs : am_mv yX10_bookIs cX10_bookIs 2 (some .int) 1 := ⟨tb_6 (i := 66) rfl rfl, sp_4 (q := (yX10_bookIs, 49)) (i := 11) rfl, in_X10, tb_6 (i := 67) rfl rfl, ⟨by decide +kernel, by decide +kernel, by decide +kernel⟩⟩
set_option maxRecDepth 20000 in
theorem mf_X10_isSo : am_mv yX10_isSo cX10_isSo 7 (some .boolean) 3 := ⟨tb_6 (i := 70) rfl rfl, sp_4 (q := (yX10_isSo, 49)) (i := 12) rfl, in_X10, tb_6 (i := 71) rfl rfl, ⟨by decide +kernel, by decide +kernel, by decide +kernel⟩⟩
set_option maxRecDepth 20000 in
theorem mf_X10_wet : am_mv yX10_wet cX10_wet 7 (some .int) 2 := ⟨tb_6 (i := 74) rfl rfl, tb_6 (i := 75) rfl rfl, in_X10, tb_6 (i := 76) rfl rfl, ⟨by decide +kernel, by decide +kernel, by decide +kernel⟩⟩
set_option maxRecDepth 20000 in
theorem mf_X10_image : am_mv yX10_image cX10_image 1 (some .int) 0 := ⟨tb_6 (i := 78) rfl rfl, tb_6 (i := 79) rfl rfl, in_X10, tb_6 (i := 80) rfl rfl, ⟨by decide +kernel, by decide +kernel, by decide +kernel⟩⟩
set_option maxRecDepth 20000 in
theorem mf_X10_copies : am_ms yX10_copies cX10_copies 3 none 2 := ⟨tb_6 (i := 82) rfl rfl, in_X10, tb_6 (i := 83) rfl rfl, ⟨by decide +kernel, by decide +kernel, by decide +kernel⟩⟩
set_option maxRecDepth 20000 in
theorem mf_X10_back : am_mv yX10_back cX10_back 1 (some .int) 0 := ⟨tb_6 (i := 85) rfl rfl, tb_6 (i := 86) rfl rfl, in_X10, tb_6 (i := 87) rfl rfl, ⟨by decide +kernel, by decide +kernel, by decide +kernel⟩⟩
set_option maxRecDepth 20000 in
theorem mf_X10_body : am_mv yX10_body cX10_body 2 (some .int) 1 := ⟨tb_6 (i := 89) rfl rfl, tb_6 (i := 90) rfl rfl, in_X10, tb_6 (i := 91) rfl rfl, ⟨by decide +kernel, by decide +kernel, by decide +kernel⟩⟩
set_option maxRecDepth 20000 in
theorem mf_X10_act : am_mv yX10_act cX10_act 4 (some .int) 3 := ⟨tb_6 (i := 94) rfl rfl, tb_6 (i := 95) rfl rfl, in_X10, tb_6 (i := 96) rfl rfl, ⟨by decide +kernel, by decide +kernel, by decide +kernel⟩⟩
set_option maxRecDepth 20000 in
theorem mf_X10_isBody : am_mv yX10_isBody cX10_isBody 2 (some .boolean) 1 := ⟨tb_6 (i := 99) rfl rfl, sp_4 (q := (yX10_isBody, 49)) (i := 13) rfl, in_X10, tb_6 (i := 100) rfl rfl, ⟨by decide +kernel, by decide +kernel, by decide +kernel⟩⟩
set_option maxRecDepth 20000 in
theorem mf_X10_owesAs : am_mv yX10_owesAs cX10_owesAs 3 (some .int) 2 := ⟨tb_6 (i := 103) rfl rfl, sp_4 (q := (yX10_owesAs, 49)) (i := 14) rfl, in_X10, tb_6 (i := 104) rfl rfl, ⟨by decide +kernel, by decide +kernel, by decide +kernel⟩⟩
set_option maxRecDepth 20000 in
theorem mf_X10_begins : am_mv yX10_begins cX10_begins 2 none 1 := ⟨tb_6 (i := 107) rfl rfl, sp_4 (q := (yX10_begins, 49)) (i := 15) rfl, in_X10, tb_6 (i := 108) rfl rfl, ⟨by decide +kernel, by decide +kernel, by decide +kernel⟩⟩
set_option maxRecDepth 20000 in
theorem mf_X10_worksAs : am_mv yX10_worksAs cX10_worksAs 4 (some .int) 2 := ⟨tb_6 (i := 111) rfl rfl, sp_5 (q := (yX10_worksAs, 49)) (i := 0) rfl, in_X10, tb_6 (i := 112) rfl rfl, ⟨by decide +kernel, by decide +kernel, by decide +kernel⟩⟩
set_option maxRecDepth 20000 in
theorem mf_X10_asksAs : am_mv yX10_asksAs cX10_asksAs 4 (some .int) 2 := ⟨tb_6 (i := 115) rfl rfl, sp_5 (q := (yX10_asksAs, 49)) (i := 1) rfl, in_X10, tb_6 (i := 116) rfl rfl, ⟨by decide +kernel, by decide +kernel, by decide +kernel⟩⟩
set_option maxRecDepth 20000 in
theorem mf_X10_tellsAs : am_mv yX10_tellsAs cX10_tellsAs 4 (some .int) 2 := ⟨tb_6 (i := 119) rfl rfl, sp_5 (q := (yX10_tellsAs, 49)) (i := 2) rfl, in_X10, tb_6 (i := 120) rfl rfl, ⟨by decide +kernel, by decide +kernel, by decide +kernel⟩⟩
set_option maxRecDepth 20000 in
theorem mf_X10_trace : am_mv yX10_trace cX10_trace 2 (some .int) 1 := ⟨tb_6 (i := 122) rfl rfl, tb_6 (i := 123) rfl rfl, in_X10, tb_6 (i := 124) rfl rfl, ⟨by decide +kernel, by decide +kernel, by decide +kernel⟩⟩
set_option maxRecDepth 20000 in
theorem mf_X10_keep : am_mv yX10_keep cX10_keep 3 (some .int) 2 := ⟨tb_6 (i := 126) rfl rfl, tb_6 (i := 127) rfl rfl, in_X10, tb_6 (i := 128) rfl rfl, ⟨by decide +kernel, by decide +kernel, by decide +kernel⟩⟩
set_option maxRecDepth 20000 in
theorem mf_X10_row : am_mv yX10_row cX10_row 5 (some .int) 3 := ⟨tb_6 (i := 130) rfl rfl, tb_6 (i := 131) rfl rfl, in_X10, tb_6 (i := 132) rfl rfl, ⟨by decide +kernel, by decide +kernel, by decide +kernel⟩⟩
set_option maxRecDepth 20000 in
theorem mf_X10_put : am_mv yX10_put cX10_put 6 (some .int) 3 := ⟨tb_6 (i := 134) rfl rfl, tb_6 (i := 135) rfl rfl, in_X10, tb_6 (i := 136) rfl rfl, ⟨by decide +kernel, by decide +kernel, by decide +kernel⟩⟩
set_option maxRecDepth 20000 in
theorem mf_X10_refusal : am_mv yX10_refusal cX10_refusal 3 (some .int) 2 := ⟨tb_6 (i := 139) rfl rfl, sp_5 (q := (yX10_refusal, 49)) (i := 3) rfl, in_X10, tb_6 (i := 140) rfl rfl, ⟨by decide +kernel, by decide +kernel, by decide +kernel⟩⟩
set_option maxRecDepth 20000 in
theorem mf_X10_asSort : am_ms yX10_asSort cX10_asSort 3 (some .long) 2 := ⟨tb_6 (i := 142) rfl rfl, in_X10, tb_6 (i := 143) rfl rfl, ⟨by decide +kernel, by decide +kernel, by decide +kernel⟩⟩
set_option maxRecDepth 20000 in
theorem mf_X10_element : am_mv yX10_element cX10_element 3 (some .long) 2 := ⟨tb_6 (i := 145) rfl rfl, tb_6 (i := 146) rfl rfl, in_X10, tb_6 (i := 147) rfl rfl, ⟨by decide +kernel, by decide +kernel, by decide +kernel⟩⟩
set_option maxRecDepth 20000 in
theorem mf_X10_shift : am_mv yX10_shift cX10_shift 7 (some .int) 5 := ⟨tb_6 (i := 150) rfl rfl, tb_6 (i := 151) rfl rfl, in_X10, tb_6 (i := 152) rfl rfl, ⟨by decide +kernel, by decide +kernel, by decide +kernel⟩⟩
set_option maxRecDepth 20000 in
theorem mf_X10_taken : am_mv yX10_taken cX10_taken 4 (some .int) 2 := ⟨tb_6 (i := 154) rfl rfl, tb_6 (i := 155) rfl rfl, in_X10, tb_6 (i := 156) rfl rfl, ⟨by decide +kernel, by decide +kernel, by decide +kernel⟩⟩
set_option maxRecDepth 20000 in
theorem mf_X10_kindOf : am_mv yX10_kindOf cX10_kindOf 2 (some .int) 1 := ⟨tb_6 (i := 159) rfl rfl, sp_5 (q := (yX10_kindOf, 49)) (i := 4) rfl, in_X10, tb_6 (i := 160) rfl rfl, ⟨by decide +kernel, by decide +kernel, by decide +kernel⟩⟩
set_option maxRecDepth 20000 in
theorem mf_X10_above : am_ms yX10_above cX10_above 1 (some .int) 1 := ⟨tb_6 (i := 162) rfl rfl, in_X10, tb_6 (i := 163) rfl rfl, ⟨by decide +kernel, by decide +kernel, by decide +kernel⟩⟩
set_option maxRecDepth 20000 in
theorem mf_X10_count : am_mv yX10_count cX10_count 2 (some .int) 1 := ⟨tb_6 (i := 165) rfl rfl, tb_6 (i := 166) rfl rfl, in_X10, tb_6 (i := 167) rfl rfl, ⟨by decide +kernel, by decide +kernel, by decide +kernel⟩⟩
set_option maxRecDepth 20000 in
theorem mf_X10_openMany : am_mv yX10_openMany cX10_openMany 3 (some .int) 0 := ⟨tb_6 (i := 170) rfl rfl, sp_5 (q := (yX10_openMany, 49)) (i := 5) rfl, in_X10, tb_6 (i := 171) rfl rfl, ⟨by decide +kernel, by decide +kernel, by decide +kernel⟩⟩
