/-! the law: one call on both sides, then the next -/
def lwL (i : Int) : List (Option am_V) := [some (vr 1002), some (vr 0), some (vr 63), some (vi i)]
set_option maxHeartbeats 4000000 in
set_option maxRecDepth 100000 in
theorem lw_op_0 {K : am_K} {n : Nat} {xs : Nat → Int32} (X : am_X K cL_law RL) (hY : am_Y K 2048 600000 7302250) (hXs : am_Xs K n xs) (hn : n ≤ 3072) {i : Int} (h0 : 0 ≤ i) (h1 : i + 6 ≤ n) {σ : am_H} (hR : RR σ σ) (hnext : ∀ σ' : am_H, RR σ' σ' → am_G K 1322 (lwL i) [] SH σ') : am_G K 204 (lwL i) [] SH σ := by
  show am_G K 204 [some (vr 1002), some (vr 0), some (vr 63), some (vi i)] [] SH σ
  refine am_aload_n (x := 0) X (by rfl) dL_law_204 ?_
  refine am_aload_n (x := 1002) X (by rfl) dL_law_205 ?_
  refine am_iload_n (x := i) X (by rfl) dL_law_206 ?_
  refine am_ic X (by decide) dL_law_207 ?_
  refine am_add (v := (i + 1)) X (by first | rfl | omega) (by omega) dL_law_208 ?_
  refine am_sld X hXs (by omega) (by omega) dL_law_209 ?_
  refine am_callVi (ci := 8) X hY lk_L_13 mf_X9_person (k9_person (a := ((xs ((i + 1)).toNat).toInt)) (h := hR)) (Nat.le_of_ble_eq_true rfl) (by decide) (by rw [sh_len]; decide) (by rw [sh_sl]; decide) sh_0 rfl rfl rfl (Nat.le_of_ble_eq_true rfl) dL_law_210 (fun r1 sh1 σ1 hr1 hp1 => ?_)
  obtain ⟨rfl, q1⟩ := hp1
  refine am_aload_n (x := 63) X (by rfl) dL_law_213 ?_
  refine am_aload_n (x := 1002) X (by rfl) dL_law_214 ?_
  refine am_iload_n (x := i) X (by rfl) dL_law_215 ?_
  refine am_ic X (by decide) dL_law_216 ?_
  refine am_add (v := (i + 1)) X (by first | rfl | omega) (by omega) dL_law_217 ?_
  refine am_sld X hXs (by omega) (by omega) dL_law_218 ?_
  refine am_callVi (ci := 9) X hY lk_L_17 mf_X10_person (k10_person (a := ((xs ((i + 1)).toNat).toInt)) (h := (xx_mid hR (xf_person q1)))) (Nat.le_of_ble_eq_true rfl) (by decide) (by rw [sh_len]; decide) (by rw [sh_sl]; decide) sh_63 rfl rfl rfl (Nat.le_of_ble_eq_true rfl) dL_law_219 (fun r2 sh2 σ2 hr2 hp2 => ?_)
  obtain ⟨rfl, q2⟩ := hp2
  obtain ⟨e2, hR2⟩ := xc_person hR q1 q2
  refine am_icmp_eq (tgt := 1322) X dL_law_222 (by decide) (fun _ => hnext _ hR2) (fun h => absurd e2.symm h)

set_option maxHeartbeats 4000000 in
set_option maxRecDepth 100000 in
theorem lw_op_1 {K : am_K} {n : Nat} {xs : Nat → Int32} (X : am_X K cL_law RL) (hY : am_Y K 2048 600000 7302250) (hXs : am_Xs K n xs) (hn : n ≤ 3072) {i : Int} (h0 : 0 ≤ i) (h1 : i + 6 ≤ n) {σ : am_H} (hR : RR σ σ) (hnext : ∀ σ' : am_H, RR σ' σ' → am_G K 1322 (lwL i) [] SH σ') : am_G K 227 (lwL i) [] SH σ := by
  show am_G K 227 [some (vr 1002), some (vr 0), some (vr 63), some (vi i)] [] SH σ
  refine am_aload_n (x := 0) X (by rfl) dL_law_227 ?_
  refine am_aload_n (x := 1002) X (by rfl) dL_law_228 ?_
  refine am_iload_n (x := i) X (by rfl) dL_law_229 ?_
  refine am_ic X (by decide) dL_law_230 ?_
  refine am_add (v := (i + 1)) X (by first | rfl | omega) (by omega) dL_law_231 ?_
  refine am_sld X hXs (by omega) (by omega) dL_law_232 ?_
  refine am_aload_n (x := 1002) X (by rfl) dL_law_233 ?_
  refine am_iload_n (x := i) X (by rfl) dL_law_234 ?_
  refine am_ic X (by decide) dL_law_235 ?_
  refine am_add (v := (i + 2)) X (by first | rfl | omega) (by omega) dL_law_236 ?_
  refine am_sld X hXs (by omega) (by omega) dL_law_237 ?_
  refine am_callVi (ci := 8) X hY lk_L_18 mf_X9_debt (k9_debt (a := ((xs ((i + 1)).toNat).toInt)) (b := ((xs ((i + 2)).toNat).toInt)) (h := hR)) (Nat.le_of_ble_eq_true rfl) (by decide) (by rw [sh_len]; decide) (by rw [sh_sl]; decide) sh_0 rfl rfl rfl (Nat.le_of_ble_eq_true rfl) dL_law_238 (fun r1 sh1 σ1 hr1 hp1 => ?_)
  obtain ⟨rfl, q1⟩ := hp1
  refine am_aload_n (x := 63) X (by rfl) dL_law_241 ?_
  refine am_aload_n (x := 1002) X (by rfl) dL_law_242 ?_
  refine am_iload_n (x := i) X (by rfl) dL_law_243 ?_
  refine am_ic X (by decide) dL_law_244 ?_
  refine am_add (v := (i + 1)) X (by first | rfl | omega) (by omega) dL_law_245 ?_
  refine am_sld X hXs (by omega) (by omega) dL_law_246 ?_
  refine am_aload_n (x := 1002) X (by rfl) dL_law_247 ?_
  refine am_iload_n (x := i) X (by rfl) dL_law_248 ?_
  refine am_ic X (by decide) dL_law_249 ?_
  refine am_add (v := (i + 2)) X (by first | rfl | omega) (by omega) dL_law_250 ?_
  refine am_sld X hXs (by omega) (by omega) dL_law_251 ?_
  refine am_callVi (ci := 9) X hY lk_L_22 mf_X10_debt (k10_debt (a := ((xs ((i + 1)).toNat).toInt)) (b := ((xs ((i + 2)).toNat).toInt)) (h := (xx_mid hR (xf_debt q1)))) (Nat.le_of_ble_eq_true rfl) (by decide) (by rw [sh_len]; decide) (by rw [sh_sl]; decide) sh_63 rfl rfl rfl (Nat.le_of_ble_eq_true rfl) dL_law_252 (fun r2 sh2 σ2 hr2 hp2 => ?_)
  obtain ⟨rfl, q2⟩ := hp2
  obtain ⟨e2, hR2⟩ := xc_debt hR q1 q2
  refine am_icmp_eq (tgt := 1322) X dL_law_255 (by decide) (fun _ => hnext _ hR2) (fun h => absurd e2.symm h)

set_option maxHeartbeats 4000000 in
set_option maxRecDepth 100000 in
theorem lw_op_2 {K : am_K} {n : Nat} {xs : Nat → Int32} (X : am_X K cL_law RL) (hY : am_Y K 2048 600000 7302250) (hXs : am_Xs K n xs) (hn : n ≤ 3072) {i : Int} (h0 : 0 ≤ i) (h1 : i + 6 ≤ n) {σ : am_H} (hR : RR σ σ) (hnext : ∀ σ' : am_H, RR σ' σ' → am_G K 1322 (lwL i) [] SH σ') : am_G K 260 (lwL i) [] SH σ := by
  show am_G K 260 [some (vr 1002), some (vr 0), some (vr 63), some (vi i)] [] SH σ
  refine am_aload_n (x := 0) X (by rfl) dL_law_260 ?_
  refine am_aload_n (x := 1002) X (by rfl) dL_law_261 ?_
  refine am_iload_n (x := i) X (by rfl) dL_law_262 ?_
  refine am_ic X (by decide) dL_law_263 ?_
  refine am_add (v := (i + 1)) X (by first | rfl | omega) (by omega) dL_law_264 ?_
  refine am_sld X hXs (by omega) (by omega) dL_law_265 ?_
  refine am_aload_n (x := 1002) X (by rfl) dL_law_266 ?_
  refine am_iload_n (x := i) X (by rfl) dL_law_267 ?_
  refine am_ic X (by decide) dL_law_268 ?_
  refine am_add (v := (i + 2)) X (by first | rfl | omega) (by omega) dL_law_269 ?_
  refine am_sld X hXs (by omega) (by omega) dL_law_270 ?_
  refine am_aload_n (x := 1002) X (by rfl) dL_law_271 ?_
  refine am_iload_n (x := i) X (by rfl) dL_law_272 ?_
  refine am_ic X (by decide) dL_law_273 ?_
  refine am_add (v := (i + 3)) X (by first | rfl | omega) (by omega) dL_law_274 ?_
  refine am_sld X hXs (by omega) (by omega) dL_law_275 ?_
  refine am_callVi (ci := 8) X hY lk_L_23 mf_X9_debts (k9_debts (a := ((xs ((i + 1)).toNat).toInt)) (i := ((xs ((i + 2)).toNat).toInt)) (n := ((xs ((i + 3)).toNat).toInt)) (hi := R32_i _) (h := hR)) (Nat.le_of_ble_eq_true rfl) (by decide) (by rw [sh_len]; decide) (by rw [sh_sl]; decide) sh_0 rfl rfl rfl (Nat.le_of_ble_eq_true rfl) dL_law_276 (fun r1 sh1 σ1 hr1 hp1 => ?_)
  obtain ⟨rfl, q1⟩ := hp1
  refine am_aload_n (x := 63) X (by rfl) dL_law_279 ?_
  refine am_aload_n (x := 1002) X (by rfl) dL_law_280 ?_
  refine am_iload_n (x := i) X (by rfl) dL_law_281 ?_
  refine am_ic X (by decide) dL_law_282 ?_
  refine am_add (v := (i + 1)) X (by first | rfl | omega) (by omega) dL_law_283 ?_
  refine am_sld X hXs (by omega) (by omega) dL_law_284 ?_
  refine am_aload_n (x := 1002) X (by rfl) dL_law_285 ?_
  refine am_iload_n (x := i) X (by rfl) dL_law_286 ?_
  refine am_ic X (by decide) dL_law_287 ?_
  refine am_add (v := (i + 2)) X (by first | rfl | omega) (by omega) dL_law_288 ?_
  refine am_sld X hXs (by omega) (by omega) dL_law_289 ?_
  refine am_aload_n (x := 1002) X (by rfl) dL_law_290 ?_
  refine am_iload_n (x := i) X (by rfl) dL_law_291 ?_
  refine am_ic X (by decide) dL_law_292 ?_
  refine am_add (v := (i + 3)) X (by first | rfl | omega) (by omega) dL_law_293 ?_
  refine am_sld X hXs (by omega) (by omega) dL_law_294 ?_
  refine am_callVi (ci := 9) X hY lk_L_27 mf_X10_debts (k10_debts (a := ((xs ((i + 1)).toNat).toInt)) (i := ((xs ((i + 2)).toNat).toInt)) (n := ((xs ((i + 3)).toNat).toInt)) (hi := R32_i _) (h := (xx_mid hR (xf_debts q1)))) (Nat.le_of_ble_eq_true rfl) (by decide) (by rw [sh_len]; decide) (by rw [sh_sl]; decide) sh_63 rfl rfl rfl (Nat.le_of_ble_eq_true rfl) dL_law_295 (fun r2 sh2 σ2 hr2 hp2 => ?_)
  obtain ⟨rfl, q2⟩ := hp2
  obtain ⟨e2, hR2⟩ := xc_debts hR q1 q2
  refine am_icmp_eq (tgt := 1322) X dL_law_298 (by decide) (fun _ => hnext _ hR2) (fun h => absurd e2.symm h)

set_option maxHeartbeats 4000000 in
set_option maxRecDepth 100000 in
theorem lw_op_3 {K : am_K} {n : Nat} {xs : Nat → Int32} (X : am_X K cL_law RL) (hY : am_Y K 2048 600000 7302250) (hXs : am_Xs K n xs) (hn : n ≤ 3072) {i : Int} (h0 : 0 ≤ i) (h1 : i + 6 ≤ n) {σ : am_H} (hR : RR σ σ) (hnext : ∀ σ' : am_H, RR σ' σ' → am_G K 1322 (lwL i) [] SH σ') : am_G K 303 (lwL i) [] SH σ := by
  show am_G K 303 [some (vr 1002), some (vr 0), some (vr 63), some (vi i)] [] SH σ
  refine am_aload_n (x := 0) X (by rfl) dL_law_303 ?_
  refine am_aload_n (x := 1002) X (by rfl) dL_law_304 ?_
  refine am_iload_n (x := i) X (by rfl) dL_law_305 ?_
  refine am_ic X (by decide) dL_law_306 ?_
  refine am_add (v := (i + 1)) X (by first | rfl | omega) (by omega) dL_law_307 ?_
  refine am_sld X hXs (by omega) (by omega) dL_law_308 ?_
  refine am_aload_n (x := 1002) X (by rfl) dL_law_309 ?_
  refine am_iload_n (x := i) X (by rfl) dL_law_310 ?_
  refine am_ic X (by decide) dL_law_311 ?_
  refine am_add (v := (i + 2)) X (by first | rfl | omega) (by omega) dL_law_312 ?_
  refine am_sld X hXs (by omega) (by omega) dL_law_313 ?_
  refine am_aload_n (x := 1002) X (by rfl) dL_law_314 ?_
  refine am_iload_n (x := i) X (by rfl) dL_law_315 ?_
  refine am_ic X (by decide) dL_law_316 ?_
  refine am_add (v := (i + 3)) X (by first | rfl | omega) (by omega) dL_law_317 ?_
  refine am_sld X hXs (by omega) (by omega) dL_law_318 ?_
  refine am_callVi (ci := 8) X hY lk_L_28 mf_X9_mend (k9_mend (a := ((xs ((i + 1)).toNat).toInt)) (b := ((xs ((i + 2)).toNat).toInt)) (c := ((xs ((i + 3)).toNat).toInt)) (h := hR)) (Nat.le_of_ble_eq_true rfl) (by decide) (by rw [sh_len]; decide) (by rw [sh_sl]; decide) sh_0 rfl rfl rfl (Nat.le_of_ble_eq_true rfl) dL_law_319 (fun r1 sh1 σ1 hr1 hp1 => ?_)
  obtain ⟨rfl, q1⟩ := hp1
  refine am_aload_n (x := 63) X (by rfl) dL_law_322 ?_
  refine am_aload_n (x := 1002) X (by rfl) dL_law_323 ?_
  refine am_iload_n (x := i) X (by rfl) dL_law_324 ?_
  refine am_ic X (by decide) dL_law_325 ?_
  refine am_add (v := (i + 1)) X (by first | rfl | omega) (by omega) dL_law_326 ?_
  refine am_sld X hXs (by omega) (by omega) dL_law_327 ?_
  refine am_aload_n (x := 1002) X (by rfl) dL_law_328 ?_
  refine am_iload_n (x := i) X (by rfl) dL_law_329 ?_
  refine am_ic X (by decide) dL_law_330 ?_
  refine am_add (v := (i + 2)) X (by first | rfl | omega) (by omega) dL_law_331 ?_
  refine am_sld X hXs (by omega) (by omega) dL_law_332 ?_
  refine am_aload_n (x := 1002) X (by rfl) dL_law_333 ?_
  refine am_iload_n (x := i) X (by rfl) dL_law_334 ?_
  refine am_ic X (by decide) dL_law_335 ?_
  refine am_add (v := (i + 3)) X (by first | rfl | omega) (by omega) dL_law_336 ?_
  refine am_sld X hXs (by omega) (by omega) dL_law_337 ?_
  refine am_callVi (ci := 9) X hY lk_L_31 mf_X10_mend (k10_mend (a := ((xs ((i + 1)).toNat).toInt)) (b := ((xs ((i + 2)).toNat).toInt)) (c := ((xs ((i + 3)).toNat).toInt)) (h := (xx_mid hR (xf_mend q1)))) (Nat.le_of_ble_eq_true rfl) (by decide) (by rw [sh_len]; decide) (by rw [sh_sl]; decide) sh_63 rfl rfl rfl (Nat.le_of_ble_eq_true rfl) dL_law_338 (fun r2 sh2 σ2 hr2 hp2 => ?_)
  obtain ⟨rfl, q2⟩ := hp2
  obtain ⟨e2, hR2⟩ := xc_mend hR q1 q2
  refine am_icmp_eq (tgt := 1322) X dL_law_341 (by decide) (fun _ => hnext _ hR2) (fun h => absurd e2.symm h)

set_option maxHeartbeats 4000000 in
set_option maxRecDepth 100000 in
theorem lw_op_4 {K : am_K} {n : Nat} {xs : Nat → Int32} (X : am_X K cL_law RL) (hY : am_Y K 2048 600000 7302250) (hXs : am_Xs K n xs) (hn : n ≤ 3072) {i : Int} (h0 : 0 ≤ i) (h1 : i + 6 ≤ n) {σ : am_H} (hR : RR σ σ) (hnext : ∀ σ' : am_H, RR σ' σ' → am_G K 1322 (lwL i) [] SH σ') : am_G K 346 (lwL i) [] SH σ := by
  show am_G K 346 [some (vr 1002), some (vr 0), some (vr 63), some (vi i)] [] SH σ
  refine am_aload_n (x := 0) X (by rfl) dL_law_346 ?_
  refine am_aload_n (x := 1002) X (by rfl) dL_law_347 ?_
  refine am_iload_n (x := i) X (by rfl) dL_law_348 ?_
  refine am_ic X (by decide) dL_law_349 ?_
  refine am_add (v := (i + 1)) X (by first | rfl | omega) (by omega) dL_law_350 ?_
  refine am_sld X hXs (by omega) (by omega) dL_law_351 ?_
  refine am_aload_n (x := 1002) X (by rfl) dL_law_352 ?_
  refine am_iload_n (x := i) X (by rfl) dL_law_353 ?_
  refine am_ic X (by decide) dL_law_354 ?_
  refine am_add (v := (i + 2)) X (by first | rfl | omega) (by omega) dL_law_355 ?_
  refine am_sld X hXs (by omega) (by omega) dL_law_356 ?_
  refine am_callVi (ci := 8) X hY lk_L_32 mf_X9_of (k9_of (a := ((xs ((i + 1)).toNat).toInt)) (b := ((xs ((i + 2)).toNat).toInt)) (h := hR)) (Nat.le_of_ble_eq_true rfl) (by decide) (by rw [sh_len]; decide) (by rw [sh_sl]; decide) sh_0 rfl rfl rfl (Nat.le_of_ble_eq_true rfl) dL_law_357 (fun r1 sh1 σ1 hr1 hp1 => ?_)
  obtain ⟨rfl, q1⟩ := hp1
  refine am_aload_n (x := 63) X (by rfl) dL_law_360 ?_
  refine am_aload_n (x := 1002) X (by rfl) dL_law_361 ?_
  refine am_iload_n (x := i) X (by rfl) dL_law_362 ?_
  refine am_ic X (by decide) dL_law_363 ?_
  refine am_add (v := (i + 1)) X (by first | rfl | omega) (by omega) dL_law_364 ?_
  refine am_sld X hXs (by omega) (by omega) dL_law_365 ?_
  refine am_aload_n (x := 1002) X (by rfl) dL_law_366 ?_
  refine am_iload_n (x := i) X (by rfl) dL_law_367 ?_
  refine am_ic X (by decide) dL_law_368 ?_
  refine am_add (v := (i + 2)) X (by first | rfl | omega) (by omega) dL_law_369 ?_
  refine am_sld X hXs (by omega) (by omega) dL_law_370 ?_
  refine am_callVi (ci := 9) X hY lk_L_35 mf_X10_of (k10_of (a := ((xs ((i + 1)).toNat).toInt)) (b := ((xs ((i + 2)).toNat).toInt)) (h := (xx_mid hR (xf_of q1)))) (Nat.le_of_ble_eq_true rfl) (by decide) (by rw [sh_len]; decide) (by rw [sh_sl]; decide) sh_63 rfl rfl rfl (Nat.le_of_ble_eq_true rfl) dL_law_371 (fun r2 sh2 σ2 hr2 hp2 => ?_)
  obtain ⟨rfl, q2⟩ := hp2
  obtain ⟨e2, hR2⟩ := xc_of hR q1 q2
  refine am_icmp_eq (tgt := 1322) X dL_law_374 (by decide) (fun _ => hnext _ hR2) (fun h => absurd e2.symm h)

set_option maxHeartbeats 4000000 in
set_option maxRecDepth 100000 in
theorem lw_op_5 {K : am_K} {n : Nat} {xs : Nat → Int32} (X : am_X K cL_law RL) (hY : am_Y K 2048 600000 7302250) (hXs : am_Xs K n xs) (hn : n ≤ 3072) {i : Int} (h0 : 0 ≤ i) (h1 : i + 6 ≤ n) {σ : am_H} (hR : RR σ σ) (hnext : ∀ σ' : am_H, RR σ' σ' → am_G K 1322 (lwL i) [] SH σ') : am_G K 379 (lwL i) [] SH σ := by
  show am_G K 379 [some (vr 1002), some (vr 0), some (vr 63), some (vi i)] [] SH σ
  refine am_aload_n (x := 0) X (by rfl) dL_law_379 ?_
  refine am_aload_n (x := 1002) X (by rfl) dL_law_380 ?_
  refine am_iload_n (x := i) X (by rfl) dL_law_381 ?_
  refine am_ic X (by decide) dL_law_382 ?_
  refine am_add (v := (i + 1)) X (by first | rfl | omega) (by omega) dL_law_383 ?_
  refine am_sld X hXs (by omega) (by omega) dL_law_384 ?_
  refine am_callVi (ci := 8) X hY lk_L_36 mf_X9_feed (k9_feed (a := ((xs ((i + 1)).toNat).toInt)) (h := hR)) (Nat.le_of_ble_eq_true rfl) (by decide) (by rw [sh_len]; decide) (by rw [sh_sl]; decide) sh_0 rfl rfl rfl (Nat.le_of_ble_eq_true rfl) dL_law_385 (fun r1 sh1 σ1 hr1 hp1 => ?_)
  obtain ⟨rfl, q1⟩ := hp1
  refine am_aload_n (x := 63) X (by rfl) dL_law_388 ?_
  refine am_aload_n (x := 1002) X (by rfl) dL_law_389 ?_
  refine am_iload_n (x := i) X (by rfl) dL_law_390 ?_
  refine am_ic X (by decide) dL_law_391 ?_
  refine am_add (v := (i + 1)) X (by first | rfl | omega) (by omega) dL_law_392 ?_
  refine am_sld X hXs (by omega) (by omega) dL_law_393 ?_
  refine am_callVi (ci := 9) X hY lk_L_39 mf_X10_feed (k10_feed (a := ((xs ((i + 1)).toNat).toInt)) (h := (xx_mid hR (xf_feed q1)))) (Nat.le_of_ble_eq_true rfl) (by decide) (by rw [sh_len]; decide) (by rw [sh_sl]; decide) sh_63 rfl rfl rfl (Nat.le_of_ble_eq_true rfl) dL_law_394 (fun r2 sh2 σ2 hr2 hp2 => ?_)
  obtain ⟨rfl, q2⟩ := hp2
  obtain ⟨e2, hR2⟩ := xc_feed hR q1 q2
  refine am_icmp_eq (tgt := 1322) X dL_law_397 (by decide) (fun _ => hnext _ hR2) (fun h => absurd e2.symm h)

set_option maxHeartbeats 4000000 in
set_option maxRecDepth 100000 in
theorem lw_op_6 {K : am_K} {n : Nat} {xs : Nat → Int32} (X : am_X K cL_law RL) (hY : am_Y K 2048 600000 7302250) (hXs : am_Xs K n xs) (hn : n ≤ 3072) {i : Int} (h0 : 0 ≤ i) (h1 : i + 6 ≤ n) {σ : am_H} (hR : RR σ σ) (hnext : ∀ σ' : am_H, RR σ' σ' → am_G K 1322 (lwL i) [] SH σ') : am_G K 402 (lwL i) [] SH σ := by
  show am_G K 402 [some (vr 1002), some (vr 0), some (vr 63), some (vi i)] [] SH σ
  refine am_aload_n (x := 0) X (by rfl) dL_law_402 ?_
  refine am_callVi (ci := 8) X hY lk_L_40 mf_X9_law (k9_law (h := hR)) (Nat.le_of_ble_eq_true rfl) (by decide) (by rw [sh_len]; decide) (by rw [sh_sl]; decide) sh_0 rfl rfl rfl (Nat.le_of_ble_eq_true rfl) dL_law_403 (fun r1 sh1 σ1 hr1 hp1 => ?_)
  obtain ⟨rfl, q1⟩ := hp1
  refine am_aload_n (x := 63) X (by rfl) dL_law_406 ?_
  refine am_callVi (ci := 9) X hY lk_L_44 mf_X10_law (k10_law (h := (xx_mid hR (xf_law q1)))) (Nat.le_of_ble_eq_true rfl) (by decide) (by rw [sh_len]; decide) (by rw [sh_sl]; decide) sh_63 rfl rfl rfl (Nat.le_of_ble_eq_true rfl) dL_law_407 (fun r2 sh2 σ2 hr2 hp2 => ?_)
  obtain ⟨rfl, q2⟩ := hp2
  obtain ⟨e2, hR2⟩ := xc_law hR q1 q2
  refine am_icmp_eq (tgt := 1322) X dL_law_410 (by decide) (fun _ => hnext _ hR2) (fun h => absurd e2.symm h)

set_option maxHeartbeats 4000000 in
set_option maxRecDepth 100000 in
theorem lw_op_7 {K : am_K} {n : Nat} {xs : Nat → Int32} (X : am_X K cL_law RL) (hY : am_Y K 2048 600000 7302250) (hXs : am_Xs K n xs) (hn : n ≤ 3072) {i : Int} (h0 : 0 ≤ i) (h1 : i + 6 ≤ n) {σ : am_H} (hR : RR σ σ) (hnext : ∀ σ' : am_H, RR σ' σ' → am_G K 1322 (lwL i) [] SH σ') : am_G K 415 (lwL i) [] SH σ := by
  show am_G K 415 [some (vr 1002), some (vr 0), some (vr 63), some (vi i)] [] SH σ
  refine am_aload_n (x := 0) X (by rfl) dL_law_415 ?_
  refine am_aload_n (x := 1002) X (by rfl) dL_law_416 ?_
  refine am_iload_n (x := i) X (by rfl) dL_law_417 ?_
  refine am_ic X (by decide) dL_law_418 ?_
  refine am_add (v := (i + 1)) X (by first | rfl | omega) (by omega) dL_law_419 ?_
  refine am_sld X hXs (by omega) (by omega) dL_law_420 ?_
  refine am_aload_n (x := 1002) X (by rfl) dL_law_421 ?_
  refine am_iload_n (x := i) X (by rfl) dL_law_422 ?_
  refine am_ic X (by decide) dL_law_423 ?_
  refine am_add (v := (i + 2)) X (by first | rfl | omega) (by omega) dL_law_424 ?_
  refine am_sld X hXs (by omega) (by omega) dL_law_425 ?_
  refine am_callVi (ci := 8) X hY lk_L_45 mf_X9_worth (k9_worth (a := ((xs ((i + 1)).toNat).toInt)) (b := ((xs ((i + 2)).toNat).toInt)) (h := hR)) (Nat.le_of_ble_eq_true rfl) (by decide) (by rw [sh_len]; decide) (by rw [sh_sl]; decide) sh_0 rfl rfl rfl (Nat.le_of_ble_eq_true rfl) dL_law_426 (fun r1 sh1 σ1 hr1 hp1 => ?_)
  obtain ⟨rfl, q1⟩ := hp1
  refine am_aload_n (x := 63) X (by rfl) dL_law_429 ?_
  refine am_aload_n (x := 1002) X (by rfl) dL_law_430 ?_
  refine am_iload_n (x := i) X (by rfl) dL_law_431 ?_
  refine am_ic X (by decide) dL_law_432 ?_
  refine am_add (v := (i + 1)) X (by first | rfl | omega) (by omega) dL_law_433 ?_
  refine am_sld X hXs (by omega) (by omega) dL_law_434 ?_
  refine am_aload_n (x := 1002) X (by rfl) dL_law_435 ?_
  refine am_iload_n (x := i) X (by rfl) dL_law_436 ?_
  refine am_ic X (by decide) dL_law_437 ?_
  refine am_add (v := (i + 2)) X (by first | rfl | omega) (by omega) dL_law_438 ?_
  refine am_sld X hXs (by omega) (by omega) dL_law_439 ?_
  refine am_callVi (ci := 9) X hY lk_L_48 mf_X10_worth (k10_worth (a := ((xs ((i + 1)).toNat).toInt)) (b := ((xs ((i + 2)).toNat).toInt)) (h := (xx_mid hR (xf_worth q1)))) (Nat.le_of_ble_eq_true rfl) (by decide) (by rw [sh_len]; decide) (by rw [sh_sl]; decide) sh_63 rfl rfl rfl (Nat.le_of_ble_eq_true rfl) dL_law_440 (fun r2 sh2 σ2 hr2 hp2 => ?_)
  obtain ⟨rfl, q2⟩ := hp2
  obtain ⟨e2, hR2⟩ := xc_worth hR q1 q2
  refine am_icmp_eq (tgt := 1322) X dL_law_443 (by decide) (fun _ => hnext _ hR2) (fun h => absurd e2.symm h)

set_option maxHeartbeats 4000000 in
set_option maxRecDepth 100000 in
theorem lw_op_8 {K : am_K} {n : Nat} {xs : Nat → Int32} (X : am_X K cL_law RL) (hY : am_Y K 2048 600000 7302250) (hXs : am_Xs K n xs) (hn : n ≤ 3072) {i : Int} (h0 : 0 ≤ i) (h1 : i + 6 ≤ n) {σ : am_H} (hR : RR σ σ) (hnext : ∀ σ' : am_H, RR σ' σ' → am_G K 1322 (lwL i) [] SH σ') : am_G K 448 (lwL i) [] SH σ := by
  show am_G K 448 [some (vr 1002), some (vr 0), some (vr 63), some (vi i)] [] SH σ
  refine am_aload_n (x := 0) X (by rfl) dL_law_448 ?_
  refine am_aload_n (x := 1002) X (by rfl) dL_law_449 ?_
  refine am_iload_n (x := i) X (by rfl) dL_law_450 ?_
  refine am_ic X (by decide) dL_law_451 ?_
  refine am_add (v := (i + 1)) X (by first | rfl | omega) (by omega) dL_law_452 ?_
  refine am_sld X hXs (by omega) (by omega) dL_law_453 ?_
  refine am_aload_n (x := 1002) X (by rfl) dL_law_454 ?_
  refine am_iload_n (x := i) X (by rfl) dL_law_455 ?_
  refine am_ic X (by decide) dL_law_456 ?_
  refine am_add (v := (i + 2)) X (by first | rfl | omega) (by omega) dL_law_457 ?_
  refine am_sld X hXs (by omega) (by omega) dL_law_458 ?_
  refine am_callVi (ci := 8) X hY lk_L_49 mf_X9_ask (k9_ask (a := ((xs ((i + 1)).toNat).toInt)) (b := ((xs ((i + 2)).toNat).toInt)) (h := hR)) (Nat.le_of_ble_eq_true rfl) (by decide) (by rw [sh_len]; decide) (by rw [sh_sl]; decide) sh_0 rfl rfl rfl (Nat.le_of_ble_eq_true rfl) dL_law_459 (fun r1 sh1 σ1 hr1 hp1 => ?_)
  obtain ⟨rfl, q1⟩ := hp1
  refine am_aload_n (x := 63) X (by rfl) dL_law_462 ?_
  refine am_aload_n (x := 1002) X (by rfl) dL_law_463 ?_
  refine am_iload_n (x := i) X (by rfl) dL_law_464 ?_
  refine am_ic X (by decide) dL_law_465 ?_
  refine am_add (v := (i + 1)) X (by first | rfl | omega) (by omega) dL_law_466 ?_
  refine am_sld X hXs (by omega) (by omega) dL_law_467 ?_
  refine am_aload_n (x := 1002) X (by rfl) dL_law_468 ?_
  refine am_iload_n (x := i) X (by rfl) dL_law_469 ?_
  refine am_ic X (by decide) dL_law_470 ?_
  refine am_add (v := (i + 2)) X (by first | rfl | omega) (by omega) dL_law_471 ?_
  refine am_sld X hXs (by omega) (by omega) dL_law_472 ?_
  refine am_callVi (ci := 9) X hY lk_L_52 mf_X10_ask (k10_ask (a := ((xs ((i + 1)).toNat).toInt)) (b := ((xs ((i + 2)).toNat).toInt)) (h := (xx_mid hR (xf_ask q1)))) (Nat.le_of_ble_eq_true rfl) (by decide) (by rw [sh_len]; decide) (by rw [sh_sl]; decide) sh_63 rfl rfl rfl (Nat.le_of_ble_eq_true rfl) dL_law_473 (fun r2 sh2 σ2 hr2 hp2 => ?_)
  obtain ⟨rfl, q2⟩ := hp2
  obtain ⟨e2, hR2⟩ := xc_ask hR q1 q2
  refine am_icmp_eq (tgt := 1322) X dL_law_476 (by decide) (fun _ => hnext _ hR2) (fun h => absurd e2.symm h)

set_option maxHeartbeats 4000000 in
set_option maxRecDepth 100000 in
theorem lw_op_9 {K : am_K} {n : Nat} {xs : Nat → Int32} (X : am_X K cL_law RL) (hY : am_Y K 2048 600000 7302250) (hXs : am_Xs K n xs) (hn : n ≤ 3072) {i : Int} (h0 : 0 ≤ i) (h1 : i + 6 ≤ n) {σ : am_H} (hR : RR σ σ) (hnext : ∀ σ' : am_H, RR σ' σ' → am_G K 1322 (lwL i) [] SH σ') : am_G K 481 (lwL i) [] SH σ := by
  show am_G K 481 [some (vr 1002), some (vr 0), some (vr 63), some (vi i)] [] SH σ
  refine am_aload_n (x := 0) X (by rfl) dL_law_481 ?_
  refine am_aload_n (x := 1002) X (by rfl) dL_law_482 ?_
  refine am_iload_n (x := i) X (by rfl) dL_law_483 ?_
  refine am_ic X (by decide) dL_law_484 ?_
  refine am_add (v := (i + 1)) X (by first | rfl | omega) (by omega) dL_law_485 ?_
  refine am_sld X hXs (by omega) (by omega) dL_law_486 ?_
  refine am_aload_n (x := 1002) X (by rfl) dL_law_487 ?_
  refine am_iload_n (x := i) X (by rfl) dL_law_488 ?_
  refine am_ic X (by decide) dL_law_489 ?_
  refine am_add (v := (i + 2)) X (by first | rfl | omega) (by omega) dL_law_490 ?_
  refine am_sld X hXs (by omega) (by omega) dL_law_491 ?_
  refine am_callVi (ci := 8) X hY lk_L_53 mf_X9_has (k9_has (a := ((xs ((i + 1)).toNat).toInt)) (b := ((xs ((i + 2)).toNat).toInt)) (h := hR)) (Nat.le_of_ble_eq_true rfl) (by decide) (by rw [sh_len]; decide) (by rw [sh_sl]; decide) sh_0 rfl rfl rfl (Nat.le_of_ble_eq_true rfl) dL_law_492 (fun r1 sh1 σ1 hr1 hp1 => ?_)
  obtain ⟨rfl, q1⟩ := hp1
  refine am_aload_n (x := 63) X (by rfl) dL_law_495 ?_
  refine am_aload_n (x := 1002) X (by rfl) dL_law_496 ?_
  refine am_iload_n (x := i) X (by rfl) dL_law_497 ?_
  refine am_ic X (by decide) dL_law_498 ?_
  refine am_add (v := (i + 1)) X (by first | rfl | omega) (by omega) dL_law_499 ?_
  refine am_sld X hXs (by omega) (by omega) dL_law_500 ?_
  refine am_aload_n (x := 1002) X (by rfl) dL_law_501 ?_
  refine am_iload_n (x := i) X (by rfl) dL_law_502 ?_
  refine am_ic X (by decide) dL_law_503 ?_
  refine am_add (v := (i + 2)) X (by first | rfl | omega) (by omega) dL_law_504 ?_
  refine am_sld X hXs (by omega) (by omega) dL_law_505 ?_
  refine am_callVi (ci := 9) X hY lk_L_56 mf_X10_has (k10_has (a := ((xs ((i + 1)).toNat).toInt)) (b := ((xs ((i + 2)).toNat).toInt)) (h := (xx_mid hR (xf_has q1)))) (Nat.le_of_ble_eq_true rfl) (by decide) (by rw [sh_len]; decide) (by rw [sh_sl]; decide) sh_63 rfl rfl rfl (Nat.le_of_ble_eq_true rfl) dL_law_506 (fun r2 sh2 σ2 hr2 hp2 => ?_)
  obtain ⟨rfl, q2⟩ := hp2
  obtain ⟨e2, hR2⟩ := xc_has hR q1 q2
  refine am_icmp_eq (tgt := 1322) X dL_law_509 (by decide) (fun _ => hnext _ hR2) (fun h => absurd e2.symm h)

set_option maxHeartbeats 4000000 in
set_option maxRecDepth 100000 in
theorem lw_op_10 {K : am_K} {n : Nat} {xs : Nat → Int32} (X : am_X K cL_law RL) (hY : am_Y K 2048 600000 7302250) (hXs : am_Xs K n xs) (hn : n ≤ 3072) {i : Int} (h0 : 0 ≤ i) (h1 : i + 6 ≤ n) {σ : am_H} (hR : RR σ σ) (hnext : ∀ σ' : am_H, RR σ' σ' → am_G K 1322 (lwL i) [] SH σ') : am_G K 514 (lwL i) [] SH σ := by
  show am_G K 514 [some (vr 1002), some (vr 0), some (vr 63), some (vi i)] [] SH σ
  refine am_aload_n (x := 0) X (by rfl) dL_law_514 ?_
  refine am_aload_n (x := 1002) X (by rfl) dL_law_515 ?_
  refine am_iload_n (x := i) X (by rfl) dL_law_516 ?_
  refine am_ic X (by decide) dL_law_517 ?_
  refine am_add (v := (i + 1)) X (by first | rfl | omega) (by omega) dL_law_518 ?_
  refine am_sld X hXs (by omega) (by omega) dL_law_519 ?_
  refine am_aload_n (x := 1002) X (by rfl) dL_law_520 ?_
  refine am_iload_n (x := i) X (by rfl) dL_law_521 ?_
  refine am_ic X (by decide) dL_law_522 ?_
  refine am_add (v := (i + 2)) X (by first | rfl | omega) (by omega) dL_law_523 ?_
  refine am_sld X hXs (by omega) (by omega) dL_law_524 ?_
  refine am_callVi (ci := 8) X hY lk_L_57 mf_X9_go (k9_go (seed := ((xs ((i + 1)).toNat).toInt)) (n := ((xs ((i + 2)).toNat).toInt)) (h := hR)) (Nat.le_of_ble_eq_true rfl) (by decide) (by rw [sh_len]; decide) (by rw [sh_sl]; decide) sh_0 rfl rfl rfl (Nat.le_of_ble_eq_true rfl) dL_law_525 (fun r1 sh1 σ1 hr1 hp1 => ?_)
  obtain ⟨rfl, q1⟩ := hp1
  refine am_aload_n (x := 63) X (by rfl) dL_law_528 ?_
  refine am_aload_n (x := 1002) X (by rfl) dL_law_529 ?_
  refine am_iload_n (x := i) X (by rfl) dL_law_530 ?_
  refine am_ic X (by decide) dL_law_531 ?_
  refine am_add (v := (i + 1)) X (by first | rfl | omega) (by omega) dL_law_532 ?_
  refine am_sld X hXs (by omega) (by omega) dL_law_533 ?_
  refine am_aload_n (x := 1002) X (by rfl) dL_law_534 ?_
  refine am_iload_n (x := i) X (by rfl) dL_law_535 ?_
  refine am_ic X (by decide) dL_law_536 ?_
  refine am_add (v := (i + 2)) X (by first | rfl | omega) (by omega) dL_law_537 ?_
  refine am_sld X hXs (by omega) (by omega) dL_law_538 ?_
  refine am_callVi (ci := 9) X hY lk_L_60 mf_X10_go (k10_go (seed := ((xs ((i + 1)).toNat).toInt)) (n := ((xs ((i + 2)).toNat).toInt)) (h := (xx_mid hR (xf_go q1)))) (Nat.le_of_ble_eq_true rfl) (by decide) (by rw [sh_len]; decide) (by rw [sh_sl]; decide) sh_63 rfl rfl rfl (Nat.le_of_ble_eq_true rfl) dL_law_539 (fun r2 sh2 σ2 hr2 hp2 => ?_)
  obtain ⟨rfl, q2⟩ := hp2
  obtain ⟨e2, hR2⟩ := xc_go hR q1 q2
  refine am_icmp_eq (tgt := 1322) X dL_law_542 (by decide) (fun _ => hnext _ hR2) (fun h => absurd e2.symm h)

set_option maxHeartbeats 4000000 in
set_option maxRecDepth 100000 in
theorem lw_op_11 {K : am_K} {n : Nat} {xs : Nat → Int32} (X : am_X K cL_law RL) (hY : am_Y K 2048 600000 7302250) (hXs : am_Xs K n xs) (hn : n ≤ 3072) {i : Int} (h0 : 0 ≤ i) (h1 : i + 6 ≤ n) {σ : am_H} (hR : RR σ σ) (hnext : ∀ σ' : am_H, RR σ' σ' → am_G K 1322 (lwL i) [] SH σ') : am_G K 547 (lwL i) [] SH σ := by
  show am_G K 547 [some (vr 1002), some (vr 0), some (vr 63), some (vi i)] [] SH σ
  refine am_aload_n (x := 0) X (by rfl) dL_law_547 ?_
  refine am_aload_n (x := 1002) X (by rfl) dL_law_548 ?_
  refine am_iload_n (x := i) X (by rfl) dL_law_549 ?_
  refine am_ic X (by decide) dL_law_550 ?_
  refine am_add (v := (i + 1)) X (by first | rfl | omega) (by omega) dL_law_551 ?_
  refine am_sld X hXs (by omega) (by omega) dL_law_552 ?_
  refine am_aload_n (x := 1002) X (by rfl) dL_law_553 ?_
  refine am_iload_n (x := i) X (by rfl) dL_law_554 ?_
  refine am_ic X (by decide) dL_law_555 ?_
  refine am_add (v := (i + 2)) X (by first | rfl | omega) (by omega) dL_law_556 ?_
  refine am_sld X hXs (by omega) (by omega) dL_law_557 ?_
  refine am_callVi (ci := 8) X hY lk_L_61 mf_X9_led (k9_led (a := ((xs ((i + 1)).toNat).toInt)) (b := ((xs ((i + 2)).toNat).toInt)) (h := hR)) (Nat.le_of_ble_eq_true rfl) (by decide) (by rw [sh_len]; decide) (by rw [sh_sl]; decide) sh_0 rfl rfl rfl (Nat.le_of_ble_eq_true rfl) dL_law_558 (fun r1 sh1 σ1 hr1 hp1 => ?_)
  obtain ⟨rfl, q1⟩ := hp1
  refine am_aload_n (x := 63) X (by rfl) dL_law_561 ?_
  refine am_aload_n (x := 1002) X (by rfl) dL_law_562 ?_
  refine am_iload_n (x := i) X (by rfl) dL_law_563 ?_
  refine am_ic X (by decide) dL_law_564 ?_
  refine am_add (v := (i + 1)) X (by first | rfl | omega) (by omega) dL_law_565 ?_
  refine am_sld X hXs (by omega) (by omega) dL_law_566 ?_
  refine am_aload_n (x := 1002) X (by rfl) dL_law_567 ?_
  refine am_iload_n (x := i) X (by rfl) dL_law_568 ?_
  refine am_ic X (by decide) dL_law_569 ?_
  refine am_add (v := (i + 2)) X (by first | rfl | omega) (by omega) dL_law_570 ?_
  refine am_sld X hXs (by omega) (by omega) dL_law_571 ?_
  refine am_callVi (ci := 9) X hY lk_L_64 mf_X10_led (k10_led (a := ((xs ((i + 1)).toNat).toInt)) (b := ((xs ((i + 2)).toNat).toInt)) (h := (xx_mid hR (xf_led q1)))) (Nat.le_of_ble_eq_true rfl) (by decide) (by rw [sh_len]; decide) (by rw [sh_sl]; decide) sh_63 rfl rfl rfl (Nat.le_of_ble_eq_true rfl) dL_law_572 (fun r2 sh2 σ2 hr2 hp2 => ?_)
  obtain ⟨rfl, q2⟩ := hp2
  obtain ⟨e2, hR2⟩ := xc_led hR q1 q2
  refine am_icmp_eq (tgt := 1322) X dL_law_575 (by decide) (fun _ => hnext _ hR2) (fun h => absurd e2.symm h)

set_option maxHeartbeats 4000000 in
set_option maxRecDepth 100000 in
theorem lw_op_12 {K : am_K} {n : Nat} {xs : Nat → Int32} (X : am_X K cL_law RL) (hY : am_Y K 2048 600000 7302250) (hXs : am_Xs K n xs) (hn : n ≤ 3072) {i : Int} (h0 : 0 ≤ i) (h1 : i + 6 ≤ n) {σ : am_H} (hR : RR σ σ) (hnext : ∀ σ' : am_H, RR σ' σ' → am_G K 1322 (lwL i) [] SH σ') : am_G K 580 (lwL i) [] SH σ := by
  show am_G K 580 [some (vr 1002), some (vr 0), some (vr 63), some (vi i)] [] SH σ
  refine am_aload_n (x := 0) X (by rfl) dL_law_580 ?_
  refine am_callVi (ci := 8) X hY lk_L_65 mf_X9_waits (k9_waits (h := hR)) (Nat.le_of_ble_eq_true rfl) (by decide) (by rw [sh_len]; decide) (by rw [sh_sl]; decide) sh_0 rfl rfl rfl (Nat.le_of_ble_eq_true rfl) dL_law_581 (fun r1 sh1 σ1 hr1 hp1 => ?_)
  obtain ⟨rfl, q1⟩ := hp1
  refine am_aload_n (x := 63) X (by rfl) dL_law_584 ?_
  refine am_callVi (ci := 9) X hY lk_L_68 mf_X10_waits (k10_waits (h := (xx_mid hR (xf_waits q1)))) (Nat.le_of_ble_eq_true rfl) (by decide) (by rw [sh_len]; decide) (by rw [sh_sl]; decide) sh_63 rfl rfl rfl (Nat.le_of_ble_eq_true rfl) dL_law_585 (fun r2 sh2 σ2 hr2 hp2 => ?_)
  obtain ⟨rfl, q2⟩ := hp2
  obtain ⟨e2, hR2⟩ := xc_waits hR q1 q2
  refine am_icmp_eq (tgt := 1322) X dL_law_588 (by decide) (fun _ => hnext _ hR2) (fun h => absurd e2.symm h)

set_option maxHeartbeats 4000000 in
set_option maxRecDepth 100000 in
theorem lw_op_13 {K : am_K} {n : Nat} {xs : Nat → Int32} (X : am_X K cL_law RL) (hY : am_Y K 2048 600000 7302250) (hXs : am_Xs K n xs) (hn : n ≤ 3072) {i : Int} (h0 : 0 ≤ i) (h1 : i + 6 ≤ n) {σ : am_H} (hR : RR σ σ) (hnext : ∀ σ' : am_H, RR σ' σ' → am_G K 1322 (lwL i) [] SH σ') : am_G K 593 (lwL i) [] SH σ := by
  show am_G K 593 [some (vr 1002), some (vr 0), some (vr 63), some (vi i)] [] SH σ
  refine am_aload_n (x := 0) X (by rfl) dL_law_593 ?_
  refine am_aload_n (x := 1002) X (by rfl) dL_law_594 ?_
  refine am_iload_n (x := i) X (by rfl) dL_law_595 ?_
  refine am_ic X (by decide) dL_law_596 ?_
  refine am_add (v := (i + 1)) X (by first | rfl | omega) (by omega) dL_law_597 ?_
  refine am_sld X hXs (by omega) (by omega) dL_law_598 ?_
  refine am_aload_n (x := 1002) X (by rfl) dL_law_599 ?_
  refine am_iload_n (x := i) X (by rfl) dL_law_600 ?_
  refine am_ic X (by decide) dL_law_601 ?_
  refine am_add (v := (i + 2)) X (by first | rfl | omega) (by omega) dL_law_602 ?_
  refine am_sld X hXs (by omega) (by omega) dL_law_603 ?_
  refine am_callVi (ci := 8) X hY lk_L_69 mf_X9_bestDay (k9_bestDay (a := ((xs ((i + 1)).toNat).toInt)) (b := ((xs ((i + 2)).toNat).toInt)) (h := hR)) (Nat.le_of_ble_eq_true rfl) (by decide) (by rw [sh_len]; decide) (by rw [sh_sl]; decide) sh_0 rfl rfl rfl (Nat.le_of_ble_eq_true rfl) dL_law_604 (fun r1 sh1 σ1 hr1 hp1 => ?_)
  obtain ⟨rfl, q1⟩ := hp1
  refine am_aload_n (x := 63) X (by rfl) dL_law_607 ?_
  refine am_aload_n (x := 1002) X (by rfl) dL_law_608 ?_
  refine am_iload_n (x := i) X (by rfl) dL_law_609 ?_
  refine am_ic X (by decide) dL_law_610 ?_
  refine am_add (v := (i + 1)) X (by first | rfl | omega) (by omega) dL_law_611 ?_
  refine am_sld X hXs (by omega) (by omega) dL_law_612 ?_
  refine am_aload_n (x := 1002) X (by rfl) dL_law_613 ?_
  refine am_iload_n (x := i) X (by rfl) dL_law_614 ?_
  refine am_ic X (by decide) dL_law_615 ?_
  refine am_add (v := (i + 2)) X (by first | rfl | omega) (by omega) dL_law_616 ?_
  refine am_sld X hXs (by omega) (by omega) dL_law_617 ?_
  refine am_callVi (ci := 9) X hY lk_L_72 mf_X10_bestDay (k10_bestDay (a := ((xs ((i + 1)).toNat).toInt)) (b := ((xs ((i + 2)).toNat).toInt)) (h := (xx_mid hR (xf_bestDay q1)))) (Nat.le_of_ble_eq_true rfl) (by decide) (by rw [sh_len]; decide) (by rw [sh_sl]; decide) sh_63 rfl rfl rfl (Nat.le_of_ble_eq_true rfl) dL_law_618 (fun r2 sh2 σ2 hr2 hp2 => ?_)
  obtain ⟨rfl, q2⟩ := hp2
  obtain ⟨e2, hR2⟩ := xc_bestDay hR q1 q2
  refine am_icmp_eq (tgt := 1322) X dL_law_621 (by decide) (fun _ => hnext _ hR2) (fun h => absurd e2.symm h)

set_option maxHeartbeats 4000000 in
set_option maxRecDepth 100000 in
theorem lw_op_14 {K : am_K} {n : Nat} {xs : Nat → Int32} (X : am_X K cL_law RL) (hY : am_Y K 2048 600000 7302250) (hXs : am_Xs K n xs) (hn : n ≤ 3072) {i : Int} (h0 : 0 ≤ i) (h1 : i + 6 ≤ n) {σ : am_H} (hR : RR σ σ) (hnext : ∀ σ' : am_H, RR σ' σ' → am_G K 1322 (lwL i) [] SH σ') : am_G K 626 (lwL i) [] SH σ := by
  show am_G K 626 [some (vr 1002), some (vr 0), some (vr 63), some (vi i)] [] SH σ
  refine am_aload_n (x := 0) X (by rfl) dL_law_626 ?_
  refine am_aload_n (x := 1002) X (by rfl) dL_law_627 ?_
  refine am_iload_n (x := i) X (by rfl) dL_law_628 ?_
  refine am_ic X (by decide) dL_law_629 ?_
  refine am_add (v := (i + 1)) X (by first | rfl | omega) (by omega) dL_law_630 ?_
  refine am_sld X hXs (by omega) (by omega) dL_law_631 ?_
  refine am_aload_n (x := 1002) X (by rfl) dL_law_632 ?_
  refine am_iload_n (x := i) X (by rfl) dL_law_633 ?_
  refine am_ic X (by decide) dL_law_634 ?_
  refine am_add (v := (i + 2)) X (by first | rfl | omega) (by omega) dL_law_635 ?_
  refine am_sld X hXs (by omega) (by omega) dL_law_636 ?_
  refine am_callVi (ci := 8) X hY lk_L_73 mf_X9_plan (k9_plan (a := ((xs ((i + 1)).toNat).toInt)) (b := ((xs ((i + 2)).toNat).toInt)) (h := hR)) (Nat.le_of_ble_eq_true rfl) (by decide) (by rw [sh_len]; decide) (by rw [sh_sl]; decide) sh_0 rfl rfl rfl (Nat.le_of_ble_eq_true rfl) dL_law_637 (fun r1 sh1 σ1 hr1 hp1 => ?_)
  obtain ⟨rfl, q1⟩ := hp1
  refine am_aload_n (x := 63) X (by rfl) dL_law_640 ?_
  refine am_aload_n (x := 1002) X (by rfl) dL_law_641 ?_
  refine am_iload_n (x := i) X (by rfl) dL_law_642 ?_
  refine am_ic X (by decide) dL_law_643 ?_
  refine am_add (v := (i + 1)) X (by first | rfl | omega) (by omega) dL_law_644 ?_
  refine am_sld X hXs (by omega) (by omega) dL_law_645 ?_
  refine am_aload_n (x := 1002) X (by rfl) dL_law_646 ?_
  refine am_iload_n (x := i) X (by rfl) dL_law_647 ?_
  refine am_ic X (by decide) dL_law_648 ?_
  refine am_add (v := (i + 2)) X (by first | rfl | omega) (by omega) dL_law_649 ?_
  refine am_sld X hXs (by omega) (by omega) dL_law_650 ?_
  refine am_callVi (ci := 9) X hY lk_L_76 mf_X10_plan (k10_plan (a := ((xs ((i + 1)).toNat).toInt)) (b := ((xs ((i + 2)).toNat).toInt)) (h := (xx_mid hR (xf_plan q1)))) (Nat.le_of_ble_eq_true rfl) (by decide) (by rw [sh_len]; decide) (by rw [sh_sl]; decide) sh_63 rfl rfl rfl (Nat.le_of_ble_eq_true rfl) dL_law_651 (fun r2 sh2 σ2 hr2 hp2 => ?_)
  obtain ⟨rfl, q2⟩ := hp2
  obtain ⟨e2, hR2⟩ := xc_plan hR q1 q2
  refine am_icmp_eq (tgt := 1322) X dL_law_654 (by decide) (fun _ => hnext _ hR2) (fun h => absurd e2.symm h)

set_option maxHeartbeats 4000000 in
set_option maxRecDepth 100000 in
theorem lw_op_15 {K : am_K} {n : Nat} {xs : Nat → Int32} (X : am_X K cL_law RL) (hY : am_Y K 2048 600000 7302250) (hXs : am_Xs K n xs) (hn : n ≤ 3072) {i : Int} (h0 : 0 ≤ i) (h1 : i + 6 ≤ n) {σ : am_H} (hR : RR σ σ) (hnext : ∀ σ' : am_H, RR σ' σ' → am_G K 1322 (lwL i) [] SH σ') : am_G K 659 (lwL i) [] SH σ := by
  show am_G K 659 [some (vr 1002), some (vr 0), some (vr 63), some (vi i)] [] SH σ
  refine am_aload_n (x := 0) X (by rfl) dL_law_659 ?_
  refine am_aload_n (x := 1002) X (by rfl) dL_law_660 ?_
  refine am_iload_n (x := i) X (by rfl) dL_law_661 ?_
  refine am_ic X (by decide) dL_law_662 ?_
  refine am_add (v := (i + 1)) X (by first | rfl | omega) (by omega) dL_law_663 ?_
  refine am_sld X hXs (by omega) (by omega) dL_law_664 ?_
  refine am_aload_n (x := 1002) X (by rfl) dL_law_665 ?_
  refine am_iload_n (x := i) X (by rfl) dL_law_666 ?_
  refine am_ic X (by decide) dL_law_667 ?_
  refine am_add (v := (i + 2)) X (by first | rfl | omega) (by omega) dL_law_668 ?_
  refine am_sld X hXs (by omega) (by omega) dL_law_669 ?_
  refine am_callVi (ci := 8) X hY lk_L_77 mf_X9_free (k9_free (a := ((xs ((i + 1)).toNat).toInt)) (b := ((xs ((i + 2)).toNat).toInt)) (h := hR)) (Nat.le_of_ble_eq_true rfl) (by decide) (by rw [sh_len]; decide) (by rw [sh_sl]; decide) sh_0 rfl rfl rfl (Nat.le_of_ble_eq_true rfl) dL_law_670 (fun r1 sh1 σ1 hr1 hp1 => ?_)
  obtain ⟨rfl, q1⟩ := hp1
  refine am_aload_n (x := 63) X (by rfl) dL_law_673 ?_
  refine am_aload_n (x := 1002) X (by rfl) dL_law_674 ?_
  refine am_iload_n (x := i) X (by rfl) dL_law_675 ?_
  refine am_ic X (by decide) dL_law_676 ?_
  refine am_add (v := (i + 1)) X (by first | rfl | omega) (by omega) dL_law_677 ?_
  refine am_sld X hXs (by omega) (by omega) dL_law_678 ?_
  refine am_aload_n (x := 1002) X (by rfl) dL_law_679 ?_
  refine am_iload_n (x := i) X (by rfl) dL_law_680 ?_
  refine am_ic X (by decide) dL_law_681 ?_
  refine am_add (v := (i + 2)) X (by first | rfl | omega) (by omega) dL_law_682 ?_
  refine am_sld X hXs (by omega) (by omega) dL_law_683 ?_
  refine am_callVi (ci := 9) X hY lk_L_80 mf_X10_free (k10_free (a := ((xs ((i + 1)).toNat).toInt)) (b := ((xs ((i + 2)).toNat).toInt)) (h := (xx_mid hR (xf_free q1)))) (Nat.le_of_ble_eq_true rfl) (by decide) (by rw [sh_len]; decide) (by rw [sh_sl]; decide) sh_63 rfl rfl rfl (Nat.le_of_ble_eq_true rfl) dL_law_684 (fun r2 sh2 σ2 hr2 hp2 => ?_)
  obtain ⟨rfl, q2⟩ := hp2
  obtain ⟨e2, hR2⟩ := xc_free hR q1 q2
  refine am_icmp_eq (tgt := 1322) X dL_law_687 (by decide) (fun _ => hnext _ hR2) (fun h => absurd e2.symm h)

set_option maxHeartbeats 4000000 in
set_option maxRecDepth 100000 in
theorem lw_op_16 {K : am_K} {n : Nat} {xs : Nat → Int32} (X : am_X K cL_law RL) (hY : am_Y K 2048 600000 7302250) (hXs : am_Xs K n xs) (hn : n ≤ 3072) {i : Int} (h0 : 0 ≤ i) (h1 : i + 6 ≤ n) {σ : am_H} (hR : RR σ σ) (hnext : ∀ σ' : am_H, RR σ' σ' → am_G K 1322 (lwL i) [] SH σ') : am_G K 692 (lwL i) [] SH σ := by
  show am_G K 692 [some (vr 1002), some (vr 0), some (vr 63), some (vi i)] [] SH σ
  refine am_aload_n (x := 0) X (by rfl) dL_law_692 ?_
  refine am_callVi (ci := 8) X hY lk_L_81 mf_X9_ring (k9_ring (h := hR)) (Nat.le_of_ble_eq_true rfl) (by decide) (by rw [sh_len]; decide) (by rw [sh_sl]; decide) sh_0 rfl rfl rfl (Nat.le_of_ble_eq_true rfl) dL_law_693 (fun r1 sh1 σ1 hr1 hp1 => ?_)
  obtain ⟨rfl, q1⟩ := hp1
  refine am_aload_n (x := 63) X (by rfl) dL_law_696 ?_
  refine am_callVi (ci := 9) X hY lk_L_84 mf_X10_ring (k10_ring (h := (xx_mid hR (xf_ring q1)))) (Nat.le_of_ble_eq_true rfl) (by decide) (by rw [sh_len]; decide) (by rw [sh_sl]; decide) sh_63 rfl rfl rfl (Nat.le_of_ble_eq_true rfl) dL_law_697 (fun r2 sh2 σ2 hr2 hp2 => ?_)
  obtain ⟨rfl, q2⟩ := hp2
  obtain ⟨e2, hR2⟩ := xc_ring hR q1 q2
  refine am_icmp_eq (tgt := 1322) X dL_law_700 (by decide) (fun _ => hnext _ hR2) (fun h => absurd e2.symm h)

set_option maxHeartbeats 4000000 in
set_option maxRecDepth 100000 in
theorem lw_op_17 {K : am_K} {n : Nat} {xs : Nat → Int32} (X : am_X K cL_law RL) (hY : am_Y K 2048 600000 7302250) (hXs : am_Xs K n xs) (hn : n ≤ 3072) {i : Int} (h0 : 0 ≤ i) (h1 : i + 6 ≤ n) {σ : am_H} (hR : RR σ σ) (hnext : ∀ σ' : am_H, RR σ' σ' → am_G K 1322 (lwL i) [] SH σ') : am_G K 705 (lwL i) [] SH σ := by
  show am_G K 705 [some (vr 1002), some (vr 0), some (vr 63), some (vi i)] [] SH σ
  refine am_aload_n (x := 0) X (by rfl) dL_law_705 ?_
  refine am_callVi (ci := 8) X hY lk_L_85 mf_X9_wiped (k9_wiped (h := hR)) (Nat.le_of_ble_eq_true rfl) (by decide) (by rw [sh_len]; decide) (by rw [sh_sl]; decide) sh_0 rfl rfl rfl (Nat.le_of_ble_eq_true rfl) dL_law_706 (fun r1 sh1 σ1 hr1 hp1 => ?_)
  obtain ⟨rfl, q1⟩ := hp1
  refine am_aload_n (x := 63) X (by rfl) dL_law_709 ?_
  refine am_callVi (ci := 9) X hY lk_L_88 mf_X10_wiped (k10_wiped (h := (xx_mid hR (xf_wiped q1)))) (Nat.le_of_ble_eq_true rfl) (by decide) (by rw [sh_len]; decide) (by rw [sh_sl]; decide) sh_63 rfl rfl rfl (Nat.le_of_ble_eq_true rfl) dL_law_710 (fun r2 sh2 σ2 hr2 hp2 => ?_)
  obtain ⟨rfl, q2⟩ := hp2
  obtain ⟨e2, hR2⟩ := xc_wiped hR q1 q2
  refine am_icmp_eq (tgt := 1322) X dL_law_713 (by decide) (fun _ => hnext _ hR2) (fun h => absurd e2.symm h)

set_option maxHeartbeats 4000000 in
set_option maxRecDepth 100000 in
theorem lw_op_18 {K : am_K} {n : Nat} {xs : Nat → Int32} (X : am_X K cL_law RL) (hY : am_Y K 2048 600000 7302250) (hXs : am_Xs K n xs) (hn : n ≤ 3072) {i : Int} (h0 : 0 ≤ i) (h1 : i + 6 ≤ n) {σ : am_H} (hR : RR σ σ) (hnext : ∀ σ' : am_H, RR σ' σ' → am_G K 1322 (lwL i) [] SH σ') : am_G K 718 (lwL i) [] SH σ := by
  show am_G K 718 [some (vr 1002), some (vr 0), some (vr 63), some (vi i)] [] SH σ
  refine am_aload_n (x := 0) X (by rfl) dL_law_718 ?_
  refine am_aload_n (x := 1002) X (by rfl) dL_law_719 ?_
  refine am_iload_n (x := i) X (by rfl) dL_law_720 ?_
  refine am_ic X (by decide) dL_law_721 ?_
  refine am_add (v := (i + 1)) X (by first | rfl | omega) (by omega) dL_law_722 ?_
  refine am_sld X hXs (by omega) (by omega) dL_law_723 ?_
  refine am_callVi (ci := 8) X hY lk_L_89 mf_X9_balance (k9_balance (a := ((xs ((i + 1)).toNat).toInt)) (h := hR)) (Nat.le_of_ble_eq_true rfl) (by decide) (by rw [sh_len]; decide) (by rw [sh_sl]; decide) sh_0 rfl rfl rfl (Nat.le_of_ble_eq_true rfl) dL_law_724 (fun r1 sh1 σ1 hr1 hp1 => ?_)
  obtain ⟨rfl, q1⟩ := hp1
  refine am_aload_n (x := 63) X (by rfl) dL_law_727 ?_
  refine am_aload_n (x := 1002) X (by rfl) dL_law_728 ?_
  refine am_iload_n (x := i) X (by rfl) dL_law_729 ?_
  refine am_ic X (by decide) dL_law_730 ?_
  refine am_add (v := (i + 1)) X (by first | rfl | omega) (by omega) dL_law_731 ?_
  refine am_sld X hXs (by omega) (by omega) dL_law_732 ?_
  refine am_callVi (ci := 9) X hY lk_L_92 mf_X10_balance (k10_balance (a := ((xs ((i + 1)).toNat).toInt)) (h := (xx_mid hR (xf_balance q1)))) (Nat.le_of_ble_eq_true rfl) (by decide) (by rw [sh_len]; decide) (by rw [sh_sl]; decide) sh_63 rfl rfl rfl (Nat.le_of_ble_eq_true rfl) dL_law_733 (fun r2 sh2 σ2 hr2 hp2 => ?_)
  obtain ⟨rfl, q2⟩ := hp2
  obtain ⟨e2, hR2⟩ := xc_balance hR q1 q2
  refine am_icmp_eq (tgt := 1322) X dL_law_736 (by decide) (fun _ => hnext _ hR2) (fun h => absurd e2.symm h)

set_option maxHeartbeats 4000000 in
set_option maxRecDepth 100000 in
theorem lw_op_19 {K : am_K} {n : Nat} {xs : Nat → Int32} (X : am_X K cL_law RL) (hY : am_Y K 2048 600000 7302250) (hXs : am_Xs K n xs) (hn : n ≤ 3072) {i : Int} (h0 : 0 ≤ i) (h1 : i + 6 ≤ n) {σ : am_H} (hR : RR σ σ) (hnext : ∀ σ' : am_H, RR σ' σ' → am_G K 1322 (lwL i) [] SH σ') : am_G K 741 (lwL i) [] SH σ := by
  show am_G K 741 [some (vr 1002), some (vr 0), some (vr 63), some (vi i)] [] SH σ
  refine am_aload_n (x := 0) X (by rfl) dL_law_741 ?_
  refine am_aload_n (x := 1002) X (by rfl) dL_law_742 ?_
  refine am_iload_n (x := i) X (by rfl) dL_law_743 ?_
  refine am_ic X (by decide) dL_law_744 ?_
  refine am_add (v := (i + 1)) X (by first | rfl | omega) (by omega) dL_law_745 ?_
  refine am_sld X hXs (by omega) (by omega) dL_law_746 ?_
  refine am_callVi (ci := 8) X hY lk_L_93 mf_X9_hand (k9_hand (a := ((xs ((i + 1)).toNat).toInt)) (h := hR)) (Nat.le_of_ble_eq_true rfl) (by decide) (by rw [sh_len]; decide) (by rw [sh_sl]; decide) sh_0 rfl rfl rfl (Nat.le_of_ble_eq_true rfl) dL_law_747 (fun r1 sh1 σ1 hr1 hp1 => ?_)
  obtain ⟨rfl, q1⟩ := hp1
  refine am_aload_n (x := 63) X (by rfl) dL_law_750 ?_
  refine am_aload_n (x := 1002) X (by rfl) dL_law_751 ?_
  refine am_iload_n (x := i) X (by rfl) dL_law_752 ?_
  refine am_ic X (by decide) dL_law_753 ?_
  refine am_add (v := (i + 1)) X (by first | rfl | omega) (by omega) dL_law_754 ?_
  refine am_sld X hXs (by omega) (by omega) dL_law_755 ?_
  refine am_callVi (ci := 9) X hY lk_L_96 mf_X10_hand (k10_hand (a := ((xs ((i + 1)).toNat).toInt)) (h := (xx_mid hR (xf_hand q1)))) (Nat.le_of_ble_eq_true rfl) (by decide) (by rw [sh_len]; decide) (by rw [sh_sl]; decide) sh_63 rfl rfl rfl (Nat.le_of_ble_eq_true rfl) dL_law_756 (fun r2 sh2 σ2 hr2 hp2 => ?_)
  obtain ⟨rfl, q2⟩ := hp2
  obtain ⟨e2, hR2⟩ := xc_hand hR q1 q2
  refine am_icmp_eq (tgt := 1322) X dL_law_759 (by decide) (fun _ => hnext _ hR2) (fun h => absurd e2.symm h)

set_option maxHeartbeats 4000000 in
set_option maxRecDepth 100000 in
theorem lw_op_20 {K : am_K} {n : Nat} {xs : Nat → Int32} (X : am_X K cL_law RL) (hY : am_Y K 2048 600000 7302250) (hXs : am_Xs K n xs) (hn : n ≤ 3072) {i : Int} (h0 : 0 ≤ i) (h1 : i + 6 ≤ n) {σ : am_H} (hR : RR σ σ) (hnext : ∀ σ' : am_H, RR σ' σ' → am_G K 1322 (lwL i) [] SH σ') : am_G K 764 (lwL i) [] SH σ := by
  show am_G K 764 [some (vr 1002), some (vr 0), some (vr 63), some (vi i)] [] SH σ
  refine am_aload_n (x := 0) X (by rfl) dL_law_764 ?_
  refine am_callVi (ci := 8) X hY lk_L_97 mf_X9_strike (k9_strike (n := 0) (h := hR)) (Nat.le_of_ble_eq_true rfl) (by decide) (by rw [sh_len]; decide) (by rw [sh_sl]; decide) sh_0 rfl rfl rfl (Nat.le_of_ble_eq_true rfl) dL_law_765 (fun r1 sh1 σ1 hr1 hp1 => ?_)
  obtain ⟨rfl, q1⟩ := hp1
  refine am_aload_n (x := 63) X (by rfl) dL_law_768 ?_
  refine am_callVi (ci := 9) X hY lk_L_100 mf_X10_strike (k10_strike (n := 0) (h := (xx_mid hR (xf_strike q1)))) (Nat.le_of_ble_eq_true rfl) (by decide) (by rw [sh_len]; decide) (by rw [sh_sl]; decide) sh_63 rfl rfl rfl (Nat.le_of_ble_eq_true rfl) dL_law_769 (fun r2 sh2 σ2 hr2 hp2 => ?_)
  obtain ⟨rfl, q2⟩ := hp2
  obtain ⟨e2, hR2⟩ := xc_strike hR q1 q2
  refine am_icmp_eq (tgt := 1322) X dL_law_772 (by decide) (fun _ => hnext _ hR2) (fun h => absurd e2.symm h)

set_option maxHeartbeats 4000000 in
set_option maxRecDepth 100000 in
theorem lw_op_21 {K : am_K} {n : Nat} {xs : Nat → Int32} (X : am_X K cL_law RL) (hY : am_Y K 2048 600000 7302250) (hXs : am_Xs K n xs) (hn : n ≤ 3072) {i : Int} (h0 : 0 ≤ i) (h1 : i + 6 ≤ n) {σ : am_H} (hR : RR σ σ) (hnext : ∀ σ' : am_H, RR σ' σ' → am_G K 1322 (lwL i) [] SH σ') : am_G K 777 (lwL i) [] SH σ := by
  show am_G K 777 [some (vr 1002), some (vr 0), some (vr 63), some (vi i)] [] SH σ
  refine am_aload_n (x := 0) X (by rfl) dL_law_777 ?_
  refine am_aload_n (x := 1002) X (by rfl) dL_law_778 ?_
  refine am_iload_n (x := i) X (by rfl) dL_law_779 ?_
  refine am_ic X (by decide) dL_law_780 ?_
  refine am_add (v := (i + 1)) X (by first | rfl | omega) (by omega) dL_law_781 ?_
  refine am_sld X hXs (by omega) (by omega) dL_law_782 ?_
  refine am_callVi (ci := 8) X hY lk_L_101 mf_X9_runaway (k9_runaway (a := ((xs ((i + 1)).toNat).toInt)) (h := hR)) (Nat.le_of_ble_eq_true rfl) (by decide) (by rw [sh_len]; decide) (by rw [sh_sl]; decide) sh_0 rfl rfl rfl (Nat.le_of_ble_eq_true rfl) dL_law_783 (fun r1 sh1 σ1 hr1 hp1 => ?_)
  obtain ⟨rfl, q1⟩ := hp1
  refine am_aload_n (x := 63) X (by rfl) dL_law_786 ?_
  refine am_aload_n (x := 1002) X (by rfl) dL_law_787 ?_
  refine am_iload_n (x := i) X (by rfl) dL_law_788 ?_
  refine am_ic X (by decide) dL_law_789 ?_
  refine am_add (v := (i + 1)) X (by first | rfl | omega) (by omega) dL_law_790 ?_
  refine am_sld X hXs (by omega) (by omega) dL_law_791 ?_
  refine am_callVi (ci := 9) X hY lk_L_104 mf_X10_runaway (k10_runaway (a := ((xs ((i + 1)).toNat).toInt)) (h := (xx_mid hR (xf_runaway q1)))) (Nat.le_of_ble_eq_true rfl) (by decide) (by rw [sh_len]; decide) (by rw [sh_sl]; decide) sh_63 rfl rfl rfl (Nat.le_of_ble_eq_true rfl) dL_law_792 (fun r2 sh2 σ2 hr2 hp2 => ?_)
  obtain ⟨rfl, q2⟩ := hp2
  obtain ⟨e2, hR2⟩ := xc_runaway hR q1 q2
  refine am_icmp_eq (tgt := 1322) X dL_law_795 (by decide) (fun _ => hnext _ hR2) (fun h => absurd e2.symm h)

set_option maxHeartbeats 4000000 in
set_option maxRecDepth 100000 in
theorem lw_op_22 {K : am_K} {n : Nat} {xs : Nat → Int32} (X : am_X K cL_law RL) (hY : am_Y K 2048 600000 7302250) (hXs : am_Xs K n xs) (hn : n ≤ 3072) {i : Int} (h0 : 0 ≤ i) (h1 : i + 6 ≤ n) {σ : am_H} (hR : RR σ σ) (hnext : ∀ σ' : am_H, RR σ' σ' → am_G K 1322 (lwL i) [] SH σ') : am_G K 800 (lwL i) [] SH σ := by
  show am_G K 800 [some (vr 1002), some (vr 0), some (vr 63), some (vi i)] [] SH σ
  refine am_aload_n (x := 0) X (by rfl) dL_law_800 ?_
  refine am_aload_n (x := 1002) X (by rfl) dL_law_801 ?_
  refine am_iload_n (x := i) X (by rfl) dL_law_802 ?_
  refine am_ic X (by decide) dL_law_803 ?_
  refine am_add (v := (i + 1)) X (by first | rfl | omega) (by omega) dL_law_804 ?_
  refine am_sld X hXs (by omega) (by omega) dL_law_805 ?_
  refine am_callVi (ci := 8) X hY lk_L_105 mf_X9_heir (k9_heir (a := ((xs ((i + 1)).toNat).toInt)) (h := hR)) (Nat.le_of_ble_eq_true rfl) (by decide) (by rw [sh_len]; decide) (by rw [sh_sl]; decide) sh_0 rfl rfl rfl (Nat.le_of_ble_eq_true rfl) dL_law_806 (fun r1 sh1 σ1 hr1 hp1 => ?_)
  obtain ⟨rfl, q1⟩ := hp1
  refine am_aload_n (x := 63) X (by rfl) dL_law_809 ?_
  refine am_aload_n (x := 1002) X (by rfl) dL_law_810 ?_
  refine am_iload_n (x := i) X (by rfl) dL_law_811 ?_
  refine am_ic X (by decide) dL_law_812 ?_
  refine am_add (v := (i + 1)) X (by first | rfl | omega) (by omega) dL_law_813 ?_
  refine am_sld X hXs (by omega) (by omega) dL_law_814 ?_
  refine am_callVi (ci := 9) X hY lk_L_108 mf_X10_heir (k10_heir (a := ((xs ((i + 1)).toNat).toInt)) (h := (xx_mid hR (xf_heir q1)))) (Nat.le_of_ble_eq_true rfl) (by decide) (by rw [sh_len]; decide) (by rw [sh_sl]; decide) sh_63 rfl rfl rfl (Nat.le_of_ble_eq_true rfl) dL_law_815 (fun r2 sh2 σ2 hr2 hp2 => ?_)
  obtain ⟨rfl, q2⟩ := hp2
  obtain ⟨e2, hR2⟩ := xc_heir hR q1 q2
  refine am_icmp_eq (tgt := 1322) X dL_law_818 (by decide) (fun _ => hnext _ hR2) (fun h => absurd e2.symm h)

set_option maxHeartbeats 4000000 in
set_option maxRecDepth 100000 in
theorem lw_op_23 {K : am_K} {n : Nat} {xs : Nat → Int32} (X : am_X K cL_law RL) (hY : am_Y K 2048 600000 7302250) (hXs : am_Xs K n xs) (hn : n ≤ 3072) {i : Int} (h0 : 0 ≤ i) (h1 : i + 6 ≤ n) {σ : am_H} (hR : RR σ σ) (hnext : ∀ σ' : am_H, RR σ' σ' → am_G K 1322 (lwL i) [] SH σ') : am_G K 823 (lwL i) [] SH σ := by
  show am_G K 823 [some (vr 1002), some (vr 0), some (vr 63), some (vi i)] [] SH σ
  refine am_aload_n (x := 0) X (by rfl) dL_law_823 ?_
  refine am_aload_n (x := 1002) X (by rfl) dL_law_824 ?_
  refine am_iload_n (x := i) X (by rfl) dL_law_825 ?_
  refine am_ic X (by decide) dL_law_826 ?_
  refine am_add (v := (i + 1)) X (by first | rfl | omega) (by omega) dL_law_827 ?_
  refine am_sld X hXs (by omega) (by omega) dL_law_828 ?_
  refine am_callVi (ci := 8) X hY lk_L_109 mf_X9_judge (k9_judge (a := ((xs ((i + 1)).toNat).toInt)) (h := hR)) (Nat.le_of_ble_eq_true rfl) (by decide) (by rw [sh_len]; decide) (by rw [sh_sl]; decide) sh_0 rfl rfl rfl (Nat.le_of_ble_eq_true rfl) dL_law_829 (fun r1 sh1 σ1 hr1 hp1 => ?_)
  obtain ⟨rfl, q1⟩ := hp1
  refine am_aload_n (x := 63) X (by rfl) dL_law_832 ?_
  refine am_aload_n (x := 1002) X (by rfl) dL_law_833 ?_
  refine am_iload_n (x := i) X (by rfl) dL_law_834 ?_
  refine am_ic X (by decide) dL_law_835 ?_
  refine am_add (v := (i + 1)) X (by first | rfl | omega) (by omega) dL_law_836 ?_
  refine am_sld X hXs (by omega) (by omega) dL_law_837 ?_
  refine am_callVi (ci := 9) X hY lk_L_112 mf_X10_judge (k10_judge (a := ((xs ((i + 1)).toNat).toInt)) (h := (xx_mid hR (xf_judge q1)))) (Nat.le_of_ble_eq_true rfl) (by decide) (by rw [sh_len]; decide) (by rw [sh_sl]; decide) sh_63 rfl rfl rfl (Nat.le_of_ble_eq_true rfl) dL_law_838 (fun r2 sh2 σ2 hr2 hp2 => ?_)
  obtain ⟨rfl, q2⟩ := hp2
  obtain ⟨e2, hR2⟩ := xc_judge hR q1 q2
  refine am_icmp_eq (tgt := 1322) X dL_law_841 (by decide) (fun _ => hnext _ hR2) (fun h => absurd e2.symm h)

set_option maxHeartbeats 4000000 in
set_option maxRecDepth 100000 in
theorem lw_op_24 {K : am_K} {n : Nat} {xs : Nat → Int32} (X : am_X K cL_law RL) (hY : am_Y K 2048 600000 7302250) (hXs : am_Xs K n xs) (hn : n ≤ 3072) {i : Int} (h0 : 0 ≤ i) (h1 : i + 6 ≤ n) {σ : am_H} (hR : RR σ σ) (hnext : ∀ σ' : am_H, RR σ' σ' → am_G K 1322 (lwL i) [] SH σ') : am_G K 846 (lwL i) [] SH σ := by
  show am_G K 846 [some (vr 1002), some (vr 0), some (vr 63), some (vi i)] [] SH σ
  refine am_aload_n (x := 0) X (by rfl) dL_law_846 ?_
  refine am_aload_n (x := 1002) X (by rfl) dL_law_847 ?_
  refine am_iload_n (x := i) X (by rfl) dL_law_848 ?_
  refine am_ic X (by decide) dL_law_849 ?_
  refine am_add (v := (i + 1)) X (by first | rfl | omega) (by omega) dL_law_850 ?_
  refine am_sld X hXs (by omega) (by omega) dL_law_851 ?_
  refine am_aload_n (x := 1002) X (by rfl) dL_law_852 ?_
  refine am_iload_n (x := i) X (by rfl) dL_law_853 ?_
  refine am_ic X (by decide) dL_law_854 ?_
  refine am_add (v := (i + 2)) X (by first | rfl | omega) (by omega) dL_law_855 ?_
  refine am_sld X hXs (by omega) (by omega) dL_law_856 ?_
  refine am_callVi (ci := 8) X hY lk_L_113 mf_X9_wet (k9_wet (a := ((xs ((i + 1)).toNat).toInt)) (b := ((xs ((i + 2)).toNat).toInt)) (h := hR)) (Nat.le_of_ble_eq_true rfl) (by decide) (by rw [sh_len]; decide) (by rw [sh_sl]; decide) sh_0 rfl rfl rfl (Nat.le_of_ble_eq_true rfl) dL_law_857 (fun r1 sh1 σ1 hr1 hp1 => ?_)
  obtain ⟨rfl, q1⟩ := hp1
  refine am_aload_n (x := 63) X (by rfl) dL_law_860 ?_
  refine am_aload_n (x := 1002) X (by rfl) dL_law_861 ?_
  refine am_iload_n (x := i) X (by rfl) dL_law_862 ?_
  refine am_ic X (by decide) dL_law_863 ?_
  refine am_add (v := (i + 1)) X (by first | rfl | omega) (by omega) dL_law_864 ?_
  refine am_sld X hXs (by omega) (by omega) dL_law_865 ?_
  refine am_aload_n (x := 1002) X (by rfl) dL_law_866 ?_
  refine am_iload_n (x := i) X (by rfl) dL_law_867 ?_
  refine am_ic X (by decide) dL_law_868 ?_
  refine am_add (v := (i + 2)) X (by first | rfl | omega) (by omega) dL_law_869 ?_
  refine am_sld X hXs (by omega) (by omega) dL_law_870 ?_
  refine am_callVi (ci := 9) X hY lk_L_116 mf_X10_wet (k10_wet (a := ((xs ((i + 1)).toNat).toInt)) (b := ((xs ((i + 2)).toNat).toInt)) (h := (xx_mid hR (xf_wet q1)))) (Nat.le_of_ble_eq_true rfl) (by decide) (by rw [sh_len]; decide) (by rw [sh_sl]; decide) sh_63 rfl rfl rfl (Nat.le_of_ble_eq_true rfl) dL_law_871 (fun r2 sh2 σ2 hr2 hp2 => ?_)
  obtain ⟨rfl, q2⟩ := hp2
  obtain ⟨e2, hR2⟩ := xc_wet hR q1 q2
  refine am_icmp_eq (tgt := 1322) X dL_law_874 (by decide) (fun _ => hnext _ hR2) (fun h => absurd e2.symm h)

set_option maxHeartbeats 4000000 in
set_option maxRecDepth 100000 in
theorem lw_op_25 {K : am_K} {n : Nat} {xs : Nat → Int32} (X : am_X K cL_law RL) (hY : am_Y K 2048 600000 7302250) (hXs : am_Xs K n xs) (hn : n ≤ 3072) {i : Int} (h0 : 0 ≤ i) (h1 : i + 6 ≤ n) {σ : am_H} (hR : RR σ σ) (hnext : ∀ σ' : am_H, RR σ' σ' → am_G K 1322 (lwL i) [] SH σ') : am_G K 879 (lwL i) [] SH σ := by
  show am_G K 879 [some (vr 1002), some (vr 0), some (vr 63), some (vi i)] [] SH σ
  refine am_aload_n (x := 0) X (by rfl) dL_law_879 ?_
  refine am_callVi (ci := 8) X hY lk_L_117 mf_X9_image (k9_image (h := hR)) (Nat.le_of_ble_eq_true rfl) (by decide) (by rw [sh_len]; decide) (by rw [sh_sl]; decide) sh_0 rfl rfl rfl (Nat.le_of_ble_eq_true rfl) dL_law_880 (fun r1 sh1 σ1 hr1 hp1 => ?_)
  obtain ⟨rfl, q1⟩ := hp1
  refine am_aload_n (x := 63) X (by rfl) dL_law_883 ?_
  refine am_callVi (ci := 9) X hY lk_L_120 mf_X10_image (k10_image (h := (xx_mid hR (xf_image q1)))) (Nat.le_of_ble_eq_true rfl) (by decide) (by rw [sh_len]; decide) (by rw [sh_sl]; decide) sh_63 rfl rfl rfl (Nat.le_of_ble_eq_true rfl) dL_law_884 (fun r2 sh2 σ2 hr2 hp2 => ?_)
  obtain ⟨rfl, q2⟩ := hp2
  obtain ⟨e2, hR2⟩ := xc_image hR q1 q2
  refine am_icmp_eq (tgt := 1322) X dL_law_887 (by decide) (fun _ => hnext _ hR2) (fun h => absurd e2.symm h)

set_option maxHeartbeats 4000000 in
set_option maxRecDepth 100000 in
theorem lw_op_26 {K : am_K} {n : Nat} {xs : Nat → Int32} (X : am_X K cL_law RL) (hY : am_Y K 2048 600000 7302250) (hXs : am_Xs K n xs) (hn : n ≤ 3072) {i : Int} (h0 : 0 ≤ i) (h1 : i + 6 ≤ n) {σ : am_H} (hR : RR σ σ) (hnext : ∀ σ' : am_H, RR σ' σ' → am_G K 1322 (lwL i) [] SH σ') : am_G K 892 (lwL i) [] SH σ := by
  show am_G K 892 [some (vr 1002), some (vr 0), some (vr 63), some (vi i)] [] SH σ
  refine am_aload_n (x := 0) X (by rfl) dL_law_892 ?_
  refine am_callVi (ci := 8) X hY lk_L_121 mf_X9_back (k9_back (h := hR)) (Nat.le_of_ble_eq_true rfl) (by decide) (by rw [sh_len]; decide) (by rw [sh_sl]; decide) sh_0 rfl rfl rfl (Nat.le_of_ble_eq_true rfl) dL_law_893 (fun r1 sh1 σ1 hr1 hp1 => ?_)
  obtain ⟨rfl, q1⟩ := hp1
  refine am_aload_n (x := 63) X (by rfl) dL_law_896 ?_
  refine am_callVi (ci := 9) X hY lk_L_124 mf_X10_back (k10_back (h := (xx_mid hR (xf_back q1)))) (Nat.le_of_ble_eq_true rfl) (by decide) (by rw [sh_len]; decide) (by rw [sh_sl]; decide) sh_63 rfl rfl rfl (Nat.le_of_ble_eq_true rfl) dL_law_897 (fun r2 sh2 σ2 hr2 hp2 => ?_)
  obtain ⟨rfl, q2⟩ := hp2
  obtain ⟨e2, hR2⟩ := xc_back hR q1 q2
  refine am_icmp_eq (tgt := 1322) X dL_law_900 (by decide) (fun _ => hnext _ hR2) (fun h => absurd e2.symm h)

set_option maxHeartbeats 4000000 in
set_option maxRecDepth 100000 in
theorem lw_op_27 {K : am_K} {n : Nat} {xs : Nat → Int32} (X : am_X K cL_law RL) (hY : am_Y K 2048 600000 7302250) (hXs : am_Xs K n xs) (hn : n ≤ 3072) {i : Int} (h0 : 0 ≤ i) (h1 : i + 6 ≤ n) {σ : am_H} (hR : RR σ σ) (hnext : ∀ σ' : am_H, RR σ' σ' → am_G K 1322 (lwL i) [] SH σ') : am_G K 905 (lwL i) [] SH σ := by
  show am_G K 905 [some (vr 1002), some (vr 0), some (vr 63), some (vi i)] [] SH σ
  refine am_aload_n (x := 0) X (by rfl) dL_law_905 ?_
  refine am_callVi (ci := 8) X hY lk_L_125 mf_X9_undo (k9_undo (k := 0) (h := hR)) (Nat.le_of_ble_eq_true rfl) (by decide) (by rw [sh_len]; decide) (by rw [sh_sl]; decide) sh_0 rfl rfl rfl (Nat.le_of_ble_eq_true rfl) dL_law_906 (fun r1 sh1 σ1 hr1 hp1 => ?_)
  obtain ⟨rfl, q1⟩ := hp1
  refine am_aload_n (x := 63) X (by rfl) dL_law_909 ?_
  refine am_callVi (ci := 9) X hY lk_L_128 mf_X10_undo (k10_undo (k := 0) (h := (xx_mid hR (xf_undo q1)))) (Nat.le_of_ble_eq_true rfl) (by decide) (by rw [sh_len]; decide) (by rw [sh_sl]; decide) sh_63 rfl rfl rfl (Nat.le_of_ble_eq_true rfl) dL_law_910 (fun r2 sh2 σ2 hr2 hp2 => ?_)
  obtain ⟨rfl, q2⟩ := hp2
  obtain ⟨e2, hR2⟩ := xc_undo hR q1 q2
  refine am_icmp_eq (tgt := 1322) X dL_law_913 (by decide) (fun _ => hnext _ hR2) (fun h => absurd e2.symm h)

set_option maxHeartbeats 4000000 in
set_option maxRecDepth 100000 in
theorem lw_op_28 {K : am_K} {n : Nat} {xs : Nat → Int32} (X : am_X K cL_law RL) (hY : am_Y K 2048 600000 7302250) (hXs : am_Xs K n xs) (hn : n ≤ 3072) {i : Int} (h0 : 0 ≤ i) (h1 : i + 6 ≤ n) {σ : am_H} (hR : RR σ σ) (hnext : ∀ σ' : am_H, RR σ' σ' → am_G K 1322 (lwL i) [] SH σ') : am_G K 918 (lwL i) [] SH σ := by
  show am_G K 918 [some (vr 1002), some (vr 0), some (vr 63), some (vi i)] [] SH σ
  refine am_aload_n (x := 0) X (by rfl) dL_law_918 ?_
  refine am_callVi (ci := 8) X hY lk_L_129 mf_X9_redo (k9_redo (k := 0) (h := hR)) (Nat.le_of_ble_eq_true rfl) (by decide) (by rw [sh_len]; decide) (by rw [sh_sl]; decide) sh_0 rfl rfl rfl (Nat.le_of_ble_eq_true rfl) dL_law_919 (fun r1 sh1 σ1 hr1 hp1 => ?_)
  obtain ⟨rfl, q1⟩ := hp1
  refine am_aload_n (x := 63) X (by rfl) dL_law_922 ?_
  refine am_callVi (ci := 9) X hY lk_L_132 mf_X10_redo (k10_redo (k := 0) (h := (xx_mid hR (xf_redo q1)))) (Nat.le_of_ble_eq_true rfl) (by decide) (by rw [sh_len]; decide) (by rw [sh_sl]; decide) sh_63 rfl rfl rfl (Nat.le_of_ble_eq_true rfl) dL_law_923 (fun r2 sh2 σ2 hr2 hp2 => ?_)
  obtain ⟨rfl, q2⟩ := hp2
  obtain ⟨e2, hR2⟩ := xc_redo hR q1 q2
  refine am_icmp_eq (tgt := 1322) X dL_law_926 (by decide) (fun _ => hnext _ hR2) (fun h => absurd e2.symm h)

set_option maxHeartbeats 4000000 in
set_option maxRecDepth 100000 in
theorem lw_op_29 {K : am_K} {n : Nat} {xs : Nat → Int32} (X : am_X K cL_law RL) (hY : am_Y K 2048 600000 7302250) (hXs : am_Xs K n xs) (hn : n ≤ 3072) {i : Int} (h0 : 0 ≤ i) (h1 : i + 6 ≤ n) {σ : am_H} (hR : RR σ σ) (hnext : ∀ σ' : am_H, RR σ' σ' → am_G K 1322 (lwL i) [] SH σ') : am_G K 931 (lwL i) [] SH σ := by
  show am_G K 931 [some (vr 1002), some (vr 0), some (vr 63), some (vi i)] [] SH σ
  refine am_aload_n (x := 0) X (by rfl) dL_law_931 ?_
  refine am_aload_n (x := 1002) X (by rfl) dL_law_932 ?_
  refine am_iload_n (x := i) X (by rfl) dL_law_933 ?_
  refine am_ic X (by decide) dL_law_934 ?_
  refine am_add (v := (i + 1)) X (by first | rfl | omega) (by omega) dL_law_935 ?_
  refine am_sld X hXs (by omega) (by omega) dL_law_936 ?_
  refine am_callVi (ci := 8) X hY lk_L_133 mf_X9_body (k9_body (a := ((xs ((i + 1)).toNat).toInt)) (h := hR)) (Nat.le_of_ble_eq_true rfl) (by decide) (by rw [sh_len]; decide) (by rw [sh_sl]; decide) sh_0 rfl rfl rfl (Nat.le_of_ble_eq_true rfl) dL_law_937 (fun r1 sh1 σ1 hr1 hp1 => ?_)
  obtain ⟨rfl, q1⟩ := hp1
  refine am_aload_n (x := 63) X (by rfl) dL_law_940 ?_
  refine am_aload_n (x := 1002) X (by rfl) dL_law_941 ?_
  refine am_iload_n (x := i) X (by rfl) dL_law_942 ?_
  refine am_ic X (by decide) dL_law_943 ?_
  refine am_add (v := (i + 1)) X (by first | rfl | omega) (by omega) dL_law_944 ?_
  refine am_sld X hXs (by omega) (by omega) dL_law_945 ?_
  refine am_callVi (ci := 9) X hY lk_L_136 mf_X10_body (k10_body (a := ((xs ((i + 1)).toNat).toInt)) (h := (xx_mid hR (xf_body q1)))) (Nat.le_of_ble_eq_true rfl) (by decide) (by rw [sh_len]; decide) (by rw [sh_sl]; decide) sh_63 rfl rfl rfl (Nat.le_of_ble_eq_true rfl) dL_law_946 (fun r2 sh2 σ2 hr2 hp2 => ?_)
  obtain ⟨rfl, q2⟩ := hp2
  obtain ⟨e2, hR2⟩ := xc_body hR q1 q2
  refine am_icmp_eq (tgt := 1322) X dL_law_949 (by decide) (fun _ => hnext _ hR2) (fun h => absurd e2.symm h)

set_option maxHeartbeats 4000000 in
set_option maxRecDepth 100000 in
theorem lw_op_30 {K : am_K} {n : Nat} {xs : Nat → Int32} (X : am_X K cL_law RL) (hY : am_Y K 2048 600000 7302250) (hXs : am_Xs K n xs) (hn : n ≤ 3072) {i : Int} (h0 : 0 ≤ i) (h1 : i + 6 ≤ n) {σ : am_H} (hR : RR σ σ) (hnext : ∀ σ' : am_H, RR σ' σ' → am_G K 1322 (lwL i) [] SH σ') : am_G K 954 (lwL i) [] SH σ := by
  show am_G K 954 [some (vr 1002), some (vr 0), some (vr 63), some (vi i)] [] SH σ
  refine am_aload_n (x := 0) X (by rfl) dL_law_954 ?_
  refine am_aload_n (x := 1002) X (by rfl) dL_law_955 ?_
  refine am_iload_n (x := i) X (by rfl) dL_law_956 ?_
  refine am_ic X (by decide) dL_law_957 ?_
  refine am_add (v := (i + 1)) X (by first | rfl | omega) (by omega) dL_law_958 ?_
  refine am_sld X hXs (by omega) (by omega) dL_law_959 ?_
  refine am_aload_n (x := 1002) X (by rfl) dL_law_960 ?_
  refine am_iload_n (x := i) X (by rfl) dL_law_961 ?_
  refine am_ic X (by decide) dL_law_962 ?_
  refine am_add (v := (i + 2)) X (by first | rfl | omega) (by omega) dL_law_963 ?_
  refine am_sld X hXs (by omega) (by omega) dL_law_964 ?_
  refine am_aload_n (x := 1002) X (by rfl) dL_law_965 ?_
  refine am_iload_n (x := i) X (by rfl) dL_law_966 ?_
  refine am_ic X (by decide) dL_law_967 ?_
  refine am_add (v := (i + 3)) X (by first | rfl | omega) (by omega) dL_law_968 ?_
  refine am_sld X hXs (by omega) (by omega) dL_law_969 ?_
  refine am_callVi (ci := 8) X hY lk_L_137 mf_X9_act (k9_act (b := ((xs ((i + 1)).toNat).toInt)) (a := ((xs ((i + 2)).toNat).toInt)) (x := ((xs ((i + 3)).toNat).toInt)) (h := hR)) (Nat.le_of_ble_eq_true rfl) (by decide) (by rw [sh_len]; decide) (by rw [sh_sl]; decide) sh_0 rfl rfl rfl (Nat.le_of_ble_eq_true rfl) dL_law_970 (fun r1 sh1 σ1 hr1 hp1 => ?_)
  obtain ⟨rfl, q1⟩ := hp1
  refine am_aload_n (x := 63) X (by rfl) dL_law_973 ?_
  refine am_aload_n (x := 1002) X (by rfl) dL_law_974 ?_
  refine am_iload_n (x := i) X (by rfl) dL_law_975 ?_
  refine am_ic X (by decide) dL_law_976 ?_
  refine am_add (v := (i + 1)) X (by first | rfl | omega) (by omega) dL_law_977 ?_
  refine am_sld X hXs (by omega) (by omega) dL_law_978 ?_
  refine am_aload_n (x := 1002) X (by rfl) dL_law_979 ?_
  refine am_iload_n (x := i) X (by rfl) dL_law_980 ?_
  refine am_ic X (by decide) dL_law_981 ?_
  refine am_add (v := (i + 2)) X (by first | rfl | omega) (by omega) dL_law_982 ?_
  refine am_sld X hXs (by omega) (by omega) dL_law_983 ?_
  refine am_aload_n (x := 1002) X (by rfl) dL_law_984 ?_
  refine am_iload_n (x := i) X (by rfl) dL_law_985 ?_
  refine am_ic X (by decide) dL_law_986 ?_
  refine am_add (v := (i + 3)) X (by first | rfl | omega) (by omega) dL_law_987 ?_
  refine am_sld X hXs (by omega) (by omega) dL_law_988 ?_
  refine am_callVi (ci := 9) X hY lk_L_140 mf_X10_act (k10_act (b := ((xs ((i + 1)).toNat).toInt)) (a := ((xs ((i + 2)).toNat).toInt)) (x := ((xs ((i + 3)).toNat).toInt)) (h := (xx_mid hR (xf_act q1)))) (Nat.le_of_ble_eq_true rfl) (by decide) (by rw [sh_len]; decide) (by rw [sh_sl]; decide) sh_63 rfl rfl rfl (Nat.le_of_ble_eq_true rfl) dL_law_989 (fun r2 sh2 σ2 hr2 hp2 => ?_)
  obtain ⟨rfl, q2⟩ := hp2
  obtain ⟨e2, hR2⟩ := xc_act hR q1 q2
  refine am_icmp_eq (tgt := 1322) X dL_law_992 (by decide) (fun _ => hnext _ hR2) (fun h => absurd e2.symm h)

set_option maxHeartbeats 4000000 in
set_option maxRecDepth 100000 in
theorem lw_op_31 {K : am_K} {n : Nat} {xs : Nat → Int32} (X : am_X K cL_law RL) (hY : am_Y K 2048 600000 7302250) (hXs : am_Xs K n xs) (hn : n ≤ 3072) {i : Int} (h0 : 0 ≤ i) (h1 : i + 6 ≤ n) {σ : am_H} (hR : RR σ σ) (hnext : ∀ σ' : am_H, RR σ' σ' → am_G K 1322 (lwL i) [] SH σ') : am_G K 997 (lwL i) [] SH σ := by
  show am_G K 997 [some (vr 1002), some (vr 0), some (vr 63), some (vi i)] [] SH σ
  refine am_aload_n (x := 0) X (by rfl) dL_law_997 ?_
  refine am_aload_n (x := 1002) X (by rfl) dL_law_998 ?_
  refine am_iload_n (x := i) X (by rfl) dL_law_999 ?_
  refine am_ic X (by decide) dL_law_1000 ?_
  refine am_add (v := (i + 1)) X (by first | rfl | omega) (by omega) dL_law_1001 ?_
  refine am_sld X hXs (by omega) (by omega) dL_law_1002 ?_
  refine am_callVi (ci := 8) X hY lk_L_141 mf_X9_trace (k9_trace (a := ((xs ((i + 1)).toNat).toInt)) (h := hR)) (Nat.le_of_ble_eq_true rfl) (by decide) (by rw [sh_len]; decide) (by rw [sh_sl]; decide) sh_0 rfl rfl rfl (Nat.le_of_ble_eq_true rfl) dL_law_1003 (fun r1 sh1 σ1 hr1 hp1 => ?_)
  obtain ⟨rfl, q1⟩ := hp1
  refine am_aload_n (x := 63) X (by rfl) dL_law_1006 ?_
  refine am_aload_n (x := 1002) X (by rfl) dL_law_1007 ?_
  refine am_iload_n (x := i) X (by rfl) dL_law_1008 ?_
  refine am_ic X (by decide) dL_law_1009 ?_
  refine am_add (v := (i + 1)) X (by first | rfl | omega) (by omega) dL_law_1010 ?_
  refine am_sld X hXs (by omega) (by omega) dL_law_1011 ?_
  refine am_callVi (ci := 9) X hY lk_L_144 mf_X10_trace (k10_trace (a := ((xs ((i + 1)).toNat).toInt)) (h := (xx_mid hR (xf_trace q1)))) (Nat.le_of_ble_eq_true rfl) (by decide) (by rw [sh_len]; decide) (by rw [sh_sl]; decide) sh_63 rfl rfl rfl (Nat.le_of_ble_eq_true rfl) dL_law_1012 (fun r2 sh2 σ2 hr2 hp2 => ?_)
  obtain ⟨rfl, q2⟩ := hp2
  obtain ⟨e2, hR2⟩ := xc_trace hR q1 q2
  refine am_icmp_eq (tgt := 1322) X dL_law_1015 (by decide) (fun _ => hnext _ hR2) (fun h => absurd e2.symm h)

set_option maxHeartbeats 4000000 in
set_option maxRecDepth 100000 in
theorem lw_op_32 {K : am_K} {n : Nat} {xs : Nat → Int32} (X : am_X K cL_law RL) (hY : am_Y K 2048 600000 7302250) (hXs : am_Xs K n xs) (hn : n ≤ 3072) {i : Int} (h0 : 0 ≤ i) (h1 : i + 6 ≤ n) {σ : am_H} (hR : RR σ σ) (hnext : ∀ σ' : am_H, RR σ' σ' → am_G K 1322 (lwL i) [] SH σ') : am_G K 1020 (lwL i) [] SH σ := by
  show am_G K 1020 [some (vr 1002), some (vr 0), some (vr 63), some (vi i)] [] SH σ
  refine am_aload_n (x := 0) X (by rfl) dL_law_1020 ?_
  refine am_aload_n (x := 1002) X (by rfl) dL_law_1021 ?_
  refine am_iload_n (x := i) X (by rfl) dL_law_1022 ?_
  refine am_ic X (by decide) dL_law_1023 ?_
  refine am_add (v := (i + 1)) X (by first | rfl | omega) (by omega) dL_law_1024 ?_
  refine am_sld X hXs (by omega) (by omega) dL_law_1025 ?_
  refine am_aload_n (x := 1002) X (by rfl) dL_law_1026 ?_
  refine am_iload_n (x := i) X (by rfl) dL_law_1027 ?_
  refine am_ic X (by decide) dL_law_1028 ?_
  refine am_add (v := (i + 2)) X (by first | rfl | omega) (by omega) dL_law_1029 ?_
  refine am_sld X hXs (by omega) (by omega) dL_law_1030 ?_
  refine am_callVi (ci := 8) X hY lk_L_145 mf_X9_keep (k9_keep (a := ((xs ((i + 1)).toNat).toInt)) (b := ((xs ((i + 2)).toNat).toInt)) (h := hR)) (Nat.le_of_ble_eq_true rfl) (by decide) (by rw [sh_len]; decide) (by rw [sh_sl]; decide) sh_0 rfl rfl rfl (Nat.le_of_ble_eq_true rfl) dL_law_1031 (fun r1 sh1 σ1 hr1 hp1 => ?_)
  obtain ⟨rfl, q1⟩ := hp1
  refine am_aload_n (x := 63) X (by rfl) dL_law_1034 ?_
  refine am_aload_n (x := 1002) X (by rfl) dL_law_1035 ?_
  refine am_iload_n (x := i) X (by rfl) dL_law_1036 ?_
  refine am_ic X (by decide) dL_law_1037 ?_
  refine am_add (v := (i + 1)) X (by first | rfl | omega) (by omega) dL_law_1038 ?_
  refine am_sld X hXs (by omega) (by omega) dL_law_1039 ?_
  refine am_aload_n (x := 1002) X (by rfl) dL_law_1040 ?_
  refine am_iload_n (x := i) X (by rfl) dL_law_1041 ?_
  refine am_ic X (by decide) dL_law_1042 ?_
  refine am_add (v := (i + 2)) X (by first | rfl | omega) (by omega) dL_law_1043 ?_
  refine am_sld X hXs (by omega) (by omega) dL_law_1044 ?_
  refine am_callVi (ci := 9) X hY lk_L_148 mf_X10_keep (k10_keep (a := ((xs ((i + 1)).toNat).toInt)) (b := ((xs ((i + 2)).toNat).toInt)) (h := (xx_mid hR (xf_keep q1)))) (Nat.le_of_ble_eq_true rfl) (by decide) (by rw [sh_len]; decide) (by rw [sh_sl]; decide) sh_63 rfl rfl rfl (Nat.le_of_ble_eq_true rfl) dL_law_1045 (fun r2 sh2 σ2 hr2 hp2 => ?_)
  obtain ⟨rfl, q2⟩ := hp2
  obtain ⟨e2, hR2⟩ := xc_keep hR q1 q2
  refine am_icmp_eq (tgt := 1322) X dL_law_1048 (by decide) (fun _ => hnext _ hR2) (fun h => absurd e2.symm h)

set_option maxHeartbeats 4000000 in
set_option maxRecDepth 100000 in
theorem lw_op_33 {K : am_K} {n : Nat} {xs : Nat → Int32} (X : am_X K cL_law RL) (hY : am_Y K 2048 600000 7302250) (hXs : am_Xs K n xs) (hn : n ≤ 3072) {i : Int} (h0 : 0 ≤ i) (h1 : i + 6 ≤ n) {σ : am_H} (hR : RR σ σ) (hnext : ∀ σ' : am_H, RR σ' σ' → am_G K 1322 (lwL i) [] SH σ') : am_G K 1053 (lwL i) [] SH σ := by
  show am_G K 1053 [some (vr 1002), some (vr 0), some (vr 63), some (vi i)] [] SH σ
  refine am_aload_n (x := 0) X (by rfl) dL_law_1053 ?_
  refine am_aload_n (x := 1002) X (by rfl) dL_law_1054 ?_
  refine am_iload_n (x := i) X (by rfl) dL_law_1055 ?_
  refine am_ic X (by decide) dL_law_1056 ?_
  refine am_add (v := (i + 1)) X (by first | rfl | omega) (by omega) dL_law_1057 ?_
  refine am_sld X hXs (by omega) (by omega) dL_law_1058 ?_
  refine am_aload_n (x := 1002) X (by rfl) dL_law_1059 ?_
  refine am_iload_n (x := i) X (by rfl) dL_law_1060 ?_
  refine am_ic X (by decide) dL_law_1061 ?_
  refine am_add (v := (i + 2)) X (by first | rfl | omega) (by omega) dL_law_1062 ?_
  refine am_sld X hXs (by omega) (by omega) dL_law_1063 ?_
  refine am_aload_n (x := 1002) X (by rfl) dL_law_1064 ?_
  refine am_iload_n (x := i) X (by rfl) dL_law_1065 ?_
  refine am_ic X (by decide) dL_law_1066 ?_
  refine am_add (v := (i + 3)) X (by first | rfl | omega) (by omega) dL_law_1067 ?_
  refine am_sld X hXs (by omega) (by omega) dL_law_1068 ?_
  refine am_callVi (ci := 8) X hY lk_L_149 mf_X9_row (k9_row (a := ((xs ((i + 1)).toNat).toInt)) (b := ((xs ((i + 2)).toNat).toInt)) (c := ((xs ((i + 3)).toNat).toInt)) (h := hR)) (Nat.le_of_ble_eq_true rfl) (by decide) (by rw [sh_len]; decide) (by rw [sh_sl]; decide) sh_0 rfl rfl rfl (Nat.le_of_ble_eq_true rfl) dL_law_1069 (fun r1 sh1 σ1 hr1 hp1 => ?_)
  obtain ⟨rfl, q1⟩ := hp1
  refine am_aload_n (x := 63) X (by rfl) dL_law_1072 ?_
  refine am_aload_n (x := 1002) X (by rfl) dL_law_1073 ?_
  refine am_iload_n (x := i) X (by rfl) dL_law_1074 ?_
  refine am_ic X (by decide) dL_law_1075 ?_
  refine am_add (v := (i + 1)) X (by first | rfl | omega) (by omega) dL_law_1076 ?_
  refine am_sld X hXs (by omega) (by omega) dL_law_1077 ?_
  refine am_aload_n (x := 1002) X (by rfl) dL_law_1078 ?_
  refine am_iload_n (x := i) X (by rfl) dL_law_1079 ?_
  refine am_ic X (by decide) dL_law_1080 ?_
  refine am_add (v := (i + 2)) X (by first | rfl | omega) (by omega) dL_law_1081 ?_
  refine am_sld X hXs (by omega) (by omega) dL_law_1082 ?_
  refine am_aload_n (x := 1002) X (by rfl) dL_law_1083 ?_
  refine am_iload_n (x := i) X (by rfl) dL_law_1084 ?_
  refine am_ic X (by decide) dL_law_1085 ?_
  refine am_add (v := (i + 3)) X (by first | rfl | omega) (by omega) dL_law_1086 ?_
  refine am_sld X hXs (by omega) (by omega) dL_law_1087 ?_
  refine am_callVi (ci := 9) X hY lk_L_152 mf_X10_row (k10_row (a := ((xs ((i + 1)).toNat).toInt)) (b := ((xs ((i + 2)).toNat).toInt)) (c := ((xs ((i + 3)).toNat).toInt)) (h := (xx_mid hR (xf_row q1)))) (Nat.le_of_ble_eq_true rfl) (by decide) (by rw [sh_len]; decide) (by rw [sh_sl]; decide) sh_63 rfl rfl rfl (Nat.le_of_ble_eq_true rfl) dL_law_1088 (fun r2 sh2 σ2 hr2 hp2 => ?_)
  obtain ⟨rfl, q2⟩ := hp2
  obtain ⟨e2, hR2⟩ := xc_row hR q1 q2
  refine am_icmp_eq (tgt := 1322) X dL_law_1091 (by decide) (fun _ => hnext _ hR2) (fun h => absurd e2.symm h)

set_option maxHeartbeats 4000000 in
set_option maxRecDepth 100000 in
theorem lw_op_34 {K : am_K} {n : Nat} {xs : Nat → Int32} (X : am_X K cL_law RL) (hY : am_Y K 2048 600000 7302250) (hXs : am_Xs K n xs) (hn : n ≤ 3072) {i : Int} (h0 : 0 ≤ i) (h1 : i + 6 ≤ n) {σ : am_H} (hR : RR σ σ) (hnext : ∀ σ' : am_H, RR σ' σ' → am_G K 1322 (lwL i) [] SH σ') : am_G K 1096 (lwL i) [] SH σ := by
  show am_G K 1096 [some (vr 1002), some (vr 0), some (vr 63), some (vi i)] [] SH σ
  refine am_aload_n (x := 0) X (by rfl) dL_law_1096 ?_
  refine am_aload_n (x := 1002) X (by rfl) dL_law_1097 ?_
  refine am_iload_n (x := i) X (by rfl) dL_law_1098 ?_
  refine am_ic X (by decide) dL_law_1099 ?_
  refine am_add (v := (i + 1)) X (by first | rfl | omega) (by omega) dL_law_1100 ?_
  refine am_sld X hXs (by omega) (by omega) dL_law_1101 ?_
  refine am_aload_n (x := 1002) X (by rfl) dL_law_1102 ?_
  refine am_iload_n (x := i) X (by rfl) dL_law_1103 ?_
  refine am_ic X (by decide) dL_law_1104 ?_
  refine am_add (v := (i + 2)) X (by first | rfl | omega) (by omega) dL_law_1105 ?_
  refine am_sld X hXs (by omega) (by omega) dL_law_1106 ?_
  refine am_aload_n (x := 1002) X (by rfl) dL_law_1107 ?_
  refine am_iload_n (x := i) X (by rfl) dL_law_1108 ?_
  refine am_ic X (by decide) dL_law_1109 ?_
  refine am_add (v := (i + 3)) X (by first | rfl | omega) (by omega) dL_law_1110 ?_
  refine am_sld X hXs (by omega) (by omega) dL_law_1111 ?_
  refine am_i2l X dL_law_1112 ?_
  refine am_bipush X (by decide) dL_law_1113 ?_
  refine am_lshl_ X dL_law_1115 ?_
  refine am_aload_n (x := 1002) X (by rfl) dL_law_1116 ?_
  refine am_iload_n (x := i) X (by rfl) dL_law_1117 ?_
  refine am_ic X (by decide) dL_law_1118 ?_
  refine am_add (v := (i + 4)) X (by first | rfl | omega) (by omega) dL_law_1119 ?_
  refine am_sld X hXs (by omega) (by omega) dL_law_1120 ?_
  refine am_i2l X dL_law_1121 ?_
  refine am_ldc2 X (n := 4294967295) (by unfold R64; decide) cn_L_153 dL_law_1122 ?_
  refine am_land_ X dL_law_1125 ?_
  refine am_lor_ X dL_law_1126 ?_
  refine am_callVi (ci := 8) X hY lk_L_155 mf_X9_put (k9_put (a := ((xs ((i + 1)).toNat).toInt)) (i := ((xs ((i + 2)).toNat).toInt)) (v := (am_lor (am_lshl ((xs ((i + 3)).toNat).toInt) 32) (am_land ((xs ((i + 4)).toNat).toInt) 4294967295))) (h := hR)) (Nat.le_of_ble_eq_true rfl) (by decide) (by rw [sh_len]; decide) (by rw [sh_sl]; decide) sh_0 rfl rfl rfl (Nat.le_of_ble_eq_true rfl) dL_law_1127 (fun r1 sh1 σ1 hr1 hp1 => ?_)
  obtain ⟨rfl, q1⟩ := hp1
  refine am_aload_n (x := 63) X (by rfl) dL_law_1130 ?_
  refine am_aload_n (x := 1002) X (by rfl) dL_law_1131 ?_
  refine am_iload_n (x := i) X (by rfl) dL_law_1132 ?_
  refine am_ic X (by decide) dL_law_1133 ?_
  refine am_add (v := (i + 1)) X (by first | rfl | omega) (by omega) dL_law_1134 ?_
  refine am_sld X hXs (by omega) (by omega) dL_law_1135 ?_
  refine am_aload_n (x := 1002) X (by rfl) dL_law_1136 ?_
  refine am_iload_n (x := i) X (by rfl) dL_law_1137 ?_
  refine am_ic X (by decide) dL_law_1138 ?_
  refine am_add (v := (i + 2)) X (by first | rfl | omega) (by omega) dL_law_1139 ?_
  refine am_sld X hXs (by omega) (by omega) dL_law_1140 ?_
  refine am_aload_n (x := 1002) X (by rfl) dL_law_1141 ?_
  refine am_iload_n (x := i) X (by rfl) dL_law_1142 ?_
  refine am_ic X (by decide) dL_law_1143 ?_
  refine am_add (v := (i + 3)) X (by first | rfl | omega) (by omega) dL_law_1144 ?_
  refine am_sld X hXs (by omega) (by omega) dL_law_1145 ?_
  refine am_i2l X dL_law_1146 ?_
  refine am_bipush X (by decide) dL_law_1147 ?_
  refine am_lshl_ X dL_law_1149 ?_
  refine am_aload_n (x := 1002) X (by rfl) dL_law_1150 ?_
  refine am_iload_n (x := i) X (by rfl) dL_law_1151 ?_
  refine am_ic X (by decide) dL_law_1152 ?_
  refine am_add (v := (i + 4)) X (by first | rfl | omega) (by omega) dL_law_1153 ?_
  refine am_sld X hXs (by omega) (by omega) dL_law_1154 ?_
  refine am_i2l X dL_law_1155 ?_
  refine am_ldc2 X (n := 4294967295) (by unfold R64; decide) cn_L_153 dL_law_1156 ?_
  refine am_land_ X dL_law_1159 ?_
  refine am_lor_ X dL_law_1160 ?_
  refine am_callVi (ci := 9) X hY lk_L_159 mf_X10_put (k10_put (a := ((xs ((i + 1)).toNat).toInt)) (i := ((xs ((i + 2)).toNat).toInt)) (v := (am_lor (am_lshl ((xs ((i + 3)).toNat).toInt) 32) (am_land ((xs ((i + 4)).toNat).toInt) 4294967295))) (h := (xx_mid hR (xf_put q1)))) (Nat.le_of_ble_eq_true rfl) (by decide) (by rw [sh_len]; decide) (by rw [sh_sl]; decide) sh_63 rfl rfl rfl (Nat.le_of_ble_eq_true rfl) dL_law_1161 (fun r2 sh2 σ2 hr2 hp2 => ?_)
  obtain ⟨rfl, q2⟩ := hp2
  obtain ⟨e2, hR2⟩ := xc_put hR q1 q2
  refine am_icmp_eq (tgt := 1322) X dL_law_1164 (by decide) (fun _ => hnext _ hR2) (fun h => absurd e2.symm h)

set_option maxHeartbeats 4000000 in
set_option maxRecDepth 100000 in
theorem lw_op_35 {K : am_K} {n : Nat} {xs : Nat → Int32} (X : am_X K cL_law RL) (hY : am_Y K 2048 600000 7302250) (hXs : am_Xs K n xs) (hn : n ≤ 3072) {i : Int} (h0 : 0 ≤ i) (h1 : i + 6 ≤ n) {σ : am_H} (hR : RR σ σ) (hnext : ∀ σ' : am_H, RR σ' σ' → am_G K 1322 (lwL i) [] SH σ') : am_G K 1169 (lwL i) [] SH σ := by
  show am_G K 1169 [some (vr 1002), some (vr 0), some (vr 63), some (vi i)] [] SH σ
  refine am_aload_n (x := 0) X (by rfl) dL_law_1169 ?_
  refine am_aload_n (x := 1002) X (by rfl) dL_law_1170 ?_
  refine am_iload_n (x := i) X (by rfl) dL_law_1171 ?_
  refine am_ic X (by decide) dL_law_1172 ?_
  refine am_add (v := (i + 1)) X (by first | rfl | omega) (by omega) dL_law_1173 ?_
  refine am_sld X hXs (by omega) (by omega) dL_law_1174 ?_
  refine am_aload_n (x := 1002) X (by rfl) dL_law_1175 ?_
  refine am_iload_n (x := i) X (by rfl) dL_law_1176 ?_
  refine am_ic X (by decide) dL_law_1177 ?_
  refine am_add (v := (i + 2)) X (by first | rfl | omega) (by omega) dL_law_1178 ?_
  refine am_sld X hXs (by omega) (by omega) dL_law_1179 ?_
  refine am_callVl (ci := 8) X hY lk_L_160 mf_X9_element (k9_element (a := ((xs ((i + 1)).toNat).toInt)) (i := ((xs ((i + 2)).toNat).toInt)) (h := hR)) (Nat.le_of_ble_eq_true rfl) (by decide) (by rw [sh_len]; decide) (by rw [sh_sl]; decide) sh_0 rfl rfl rfl (Nat.le_of_ble_eq_true rfl) dL_law_1180 (fun r1 sh1 σ1 hr1 hp1 => ?_)
  obtain ⟨rfl, q1⟩ := hp1
  refine am_aload_n (x := 63) X (by rfl) dL_law_1183 ?_
  refine am_aload_n (x := 1002) X (by rfl) dL_law_1184 ?_
  refine am_iload_n (x := i) X (by rfl) dL_law_1185 ?_
  refine am_ic X (by decide) dL_law_1186 ?_
  refine am_add (v := (i + 1)) X (by first | rfl | omega) (by omega) dL_law_1187 ?_
  refine am_sld X hXs (by omega) (by omega) dL_law_1188 ?_
  refine am_aload_n (x := 1002) X (by rfl) dL_law_1189 ?_
  refine am_iload_n (x := i) X (by rfl) dL_law_1190 ?_
  refine am_ic X (by decide) dL_law_1191 ?_
  refine am_add (v := (i + 2)) X (by first | rfl | omega) (by omega) dL_law_1192 ?_
  refine am_sld X hXs (by omega) (by omega) dL_law_1193 ?_
  refine am_callVl (ci := 9) X hY lk_L_164 mf_X10_element (k10_element (a := ((xs ((i + 1)).toNat).toInt)) (i := ((xs ((i + 2)).toNat).toInt)) (h := (xx_mid hR (xf_element q1)))) (Nat.le_of_ble_eq_true rfl) (by decide) (by rw [sh_len]; decide) (by rw [sh_sl]; decide) sh_63 rfl rfl rfl (Nat.le_of_ble_eq_true rfl) dL_law_1194 (fun r2 sh2 σ2 hr2 hp2 => ?_)
  obtain ⟨rfl, q2⟩ := hp2
  obtain ⟨e2, hR2⟩ := xc_element hR q1 q2
  refine am_lcmp X dL_law_1197 ?_
  rw [if_neg (show ¬ r2 < r1 by omega), if_pos e2.symm]
  refine am_if_eq (tgt := 1322) X dL_law_1198 (by decide) (fun _ => hnext _ hR2) (fun h => absurd rfl h)

set_option maxHeartbeats 4000000 in
set_option maxRecDepth 100000 in
theorem lw_op_36 {K : am_K} {n : Nat} {xs : Nat → Int32} (X : am_X K cL_law RL) (hY : am_Y K 2048 600000 7302250) (hXs : am_Xs K n xs) (hn : n ≤ 3072) {i : Int} (h0 : 0 ≤ i) (h1 : i + 6 ≤ n) {σ : am_H} (hR : RR σ σ) (hnext : ∀ σ' : am_H, RR σ' σ' → am_G K 1322 (lwL i) [] SH σ') : am_G K 1203 (lwL i) [] SH σ := by
  show am_G K 1203 [some (vr 1002), some (vr 0), some (vr 63), some (vi i)] [] SH σ
  refine am_aload_n (x := 0) X (by rfl) dL_law_1203 ?_
  refine am_aload_n (x := 1002) X (by rfl) dL_law_1204 ?_
  refine am_iload_n (x := i) X (by rfl) dL_law_1205 ?_
  refine am_ic X (by decide) dL_law_1206 ?_
  refine am_add (v := (i + 1)) X (by first | rfl | omega) (by omega) dL_law_1207 ?_
  refine am_sld X hXs (by omega) (by omega) dL_law_1208 ?_
  refine am_aload_n (x := 1002) X (by rfl) dL_law_1209 ?_
  refine am_iload_n (x := i) X (by rfl) dL_law_1210 ?_
  refine am_ic X (by decide) dL_law_1211 ?_
  refine am_add (v := (i + 2)) X (by first | rfl | omega) (by omega) dL_law_1212 ?_
  refine am_sld X hXs (by omega) (by omega) dL_law_1213 ?_
  refine am_aload_n (x := 1002) X (by rfl) dL_law_1214 ?_
  refine am_iload_n (x := i) X (by rfl) dL_law_1215 ?_
  refine am_ic X (by decide) dL_law_1216 ?_
  refine am_add (v := (i + 3)) X (by first | rfl | omega) (by omega) dL_law_1217 ?_
  refine am_sld X hXs (by omega) (by omega) dL_law_1218 ?_
  refine am_aload_n (x := 1002) X (by rfl) dL_law_1219 ?_
  refine am_iload_n (x := i) X (by rfl) dL_law_1220 ?_
  refine am_ic X (by decide) dL_law_1221 ?_
  refine am_add (v := (i + 4)) X (by first | rfl | omega) (by omega) dL_law_1222 ?_
  refine am_sld X hXs (by omega) (by omega) dL_law_1223 ?_
  refine am_aload_n (x := 1002) X (by rfl) dL_law_1224 ?_
  refine am_iload_n (x := i) X (by rfl) dL_law_1225 ?_
  refine am_ic X (by decide) dL_law_1226 ?_
  refine am_add (v := (i + 5)) X (by first | rfl | omega) (by omega) dL_law_1227 ?_
  refine am_sld X hXs (by omega) (by omega) dL_law_1228 ?_
  refine am_callVi (ci := 8) X hY lk_L_165 mf_X9_shift (k9_shift (a := ((xs ((i + 1)).toNat).toInt)) (i := ((xs ((i + 2)).toNat).toInt)) (b := ((xs ((i + 3)).toNat).toInt)) (j := ((xs ((i + 4)).toNat).toInt)) (n := ((xs ((i + 5)).toNat).toInt)) (h := hR)) (Nat.le_of_ble_eq_true rfl) (by decide) (by rw [sh_len]; decide) (by rw [sh_sl]; decide) sh_0 rfl rfl rfl (Nat.le_of_ble_eq_true rfl) dL_law_1229 (fun r1 sh1 σ1 hr1 hp1 => ?_)
  obtain ⟨rfl, q1⟩ := hp1
  refine am_aload_n (x := 63) X (by rfl) dL_law_1232 ?_
  refine am_aload_n (x := 1002) X (by rfl) dL_law_1233 ?_
  refine am_iload_n (x := i) X (by rfl) dL_law_1234 ?_
  refine am_ic X (by decide) dL_law_1235 ?_
  refine am_add (v := (i + 1)) X (by first | rfl | omega) (by omega) dL_law_1236 ?_
  refine am_sld X hXs (by omega) (by omega) dL_law_1237 ?_
  refine am_aload_n (x := 1002) X (by rfl) dL_law_1238 ?_
  refine am_iload_n (x := i) X (by rfl) dL_law_1239 ?_
  refine am_ic X (by decide) dL_law_1240 ?_
  refine am_add (v := (i + 2)) X (by first | rfl | omega) (by omega) dL_law_1241 ?_
  refine am_sld X hXs (by omega) (by omega) dL_law_1242 ?_
  refine am_aload_n (x := 1002) X (by rfl) dL_law_1243 ?_
  refine am_iload_n (x := i) X (by rfl) dL_law_1244 ?_
  refine am_ic X (by decide) dL_law_1245 ?_
  refine am_add (v := (i + 3)) X (by first | rfl | omega) (by omega) dL_law_1246 ?_
  refine am_sld X hXs (by omega) (by omega) dL_law_1247 ?_
  refine am_aload_n (x := 1002) X (by rfl) dL_law_1248 ?_
  refine am_iload_n (x := i) X (by rfl) dL_law_1249 ?_
  refine am_ic X (by decide) dL_law_1250 ?_
  refine am_add (v := (i + 4)) X (by first | rfl | omega) (by omega) dL_law_1251 ?_
  refine am_sld X hXs (by omega) (by omega) dL_law_1252 ?_
  refine am_aload_n (x := 1002) X (by rfl) dL_law_1253 ?_
  refine am_iload_n (x := i) X (by rfl) dL_law_1254 ?_
  refine am_ic X (by decide) dL_law_1255 ?_
  refine am_add (v := (i + 5)) X (by first | rfl | omega) (by omega) dL_law_1256 ?_
  refine am_sld X hXs (by omega) (by omega) dL_law_1257 ?_
  refine am_callVi (ci := 9) X hY lk_L_169 mf_X10_shift (k10_shift (a := ((xs ((i + 1)).toNat).toInt)) (i := ((xs ((i + 2)).toNat).toInt)) (b := ((xs ((i + 3)).toNat).toInt)) (j := ((xs ((i + 4)).toNat).toInt)) (n := ((xs ((i + 5)).toNat).toInt)) (h := (xx_mid hR (xf_shift q1)))) (Nat.le_of_ble_eq_true rfl) (by decide) (by rw [sh_len]; decide) (by rw [sh_sl]; decide) sh_63 rfl rfl rfl (Nat.le_of_ble_eq_true rfl) dL_law_1258 (fun r2 sh2 σ2 hr2 hp2 => ?_)
  obtain ⟨rfl, q2⟩ := hp2
  obtain ⟨e2, hR2⟩ := xc_shift hR q1 q2
  refine am_icmp_eq (tgt := 1322) X dL_law_1261 (by decide) (fun _ => hnext _ hR2) (fun h => absurd e2.symm h)

set_option maxHeartbeats 4000000 in
set_option maxRecDepth 100000 in
theorem lw_op_37 {K : am_K} {n : Nat} {xs : Nat → Int32} (X : am_X K cL_law RL) (hY : am_Y K 2048 600000 7302250) (hXs : am_Xs K n xs) (hn : n ≤ 3072) {i : Int} (h0 : 0 ≤ i) (h1 : i + 6 ≤ n) {σ : am_H} (hR : RR σ σ) (hnext : ∀ σ' : am_H, RR σ' σ' → am_G K 1322 (lwL i) [] SH σ') : am_G K 1266 (lwL i) [] SH σ := by
  show am_G K 1266 [some (vr 1002), some (vr 0), some (vr 63), some (vi i)] [] SH σ
  refine am_aload_n (x := 0) X (by rfl) dL_law_1266 ?_
  refine am_aload_n (x := 1002) X (by rfl) dL_law_1267 ?_
  refine am_iload_n (x := i) X (by rfl) dL_law_1268 ?_
  refine am_ic X (by decide) dL_law_1269 ?_
  refine am_add (v := (i + 1)) X (by first | rfl | omega) (by omega) dL_law_1270 ?_
  refine am_sld X hXs (by omega) (by omega) dL_law_1271 ?_
  refine am_aload_n (x := 1002) X (by rfl) dL_law_1272 ?_
  refine am_iload_n (x := i) X (by rfl) dL_law_1273 ?_
  refine am_ic X (by decide) dL_law_1274 ?_
  refine am_add (v := (i + 2)) X (by first | rfl | omega) (by omega) dL_law_1275 ?_
  refine am_sld X hXs (by omega) (by omega) dL_law_1276 ?_
  refine am_callVi (ci := 8) X hY lk_L_170 mf_X9_taken (k9_taken (a := ((xs ((i + 1)).toNat).toInt)) (b := ((xs ((i + 2)).toNat).toInt)) (h := hR)) (Nat.le_of_ble_eq_true rfl) (by decide) (by rw [sh_len]; decide) (by rw [sh_sl]; decide) sh_0 rfl rfl rfl (Nat.le_of_ble_eq_true rfl) dL_law_1277 (fun r1 sh1 σ1 hr1 hp1 => ?_)
  obtain ⟨rfl, q1⟩ := hp1
  refine am_aload_n (x := 63) X (by rfl) dL_law_1280 ?_
  refine am_aload_n (x := 1002) X (by rfl) dL_law_1281 ?_
  refine am_iload_n (x := i) X (by rfl) dL_law_1282 ?_
  refine am_ic X (by decide) dL_law_1283 ?_
  refine am_add (v := (i + 1)) X (by first | rfl | omega) (by omega) dL_law_1284 ?_
  refine am_sld X hXs (by omega) (by omega) dL_law_1285 ?_
  refine am_aload_n (x := 1002) X (by rfl) dL_law_1286 ?_
  refine am_iload_n (x := i) X (by rfl) dL_law_1287 ?_
  refine am_ic X (by decide) dL_law_1288 ?_
  refine am_add (v := (i + 2)) X (by first | rfl | omega) (by omega) dL_law_1289 ?_
  refine am_sld X hXs (by omega) (by omega) dL_law_1290 ?_
  refine am_callVi (ci := 9) X hY lk_L_173 mf_X10_taken (k10_taken (a := ((xs ((i + 1)).toNat).toInt)) (b := ((xs ((i + 2)).toNat).toInt)) (h := (xx_mid hR (xf_taken q1)))) (Nat.le_of_ble_eq_true rfl) (by decide) (by rw [sh_len]; decide) (by rw [sh_sl]; decide) sh_63 rfl rfl rfl (Nat.le_of_ble_eq_true rfl) dL_law_1291 (fun r2 sh2 σ2 hr2 hp2 => ?_)
  obtain ⟨rfl, q2⟩ := hp2
  obtain ⟨e2, hR2⟩ := xc_taken hR q1 q2
  refine am_icmp_eq (tgt := 1322) X dL_law_1294 (by decide) (fun _ => hnext _ hR2) (fun h => absurd e2.symm h)

set_option maxHeartbeats 4000000 in
set_option maxRecDepth 100000 in
theorem lw_op_38 {K : am_K} {n : Nat} {xs : Nat → Int32} (X : am_X K cL_law RL) (hY : am_Y K 2048 600000 7302250) (hXs : am_Xs K n xs) (hn : n ≤ 3072) {i : Int} (h0 : 0 ≤ i) (h1 : i + 6 ≤ n) {σ : am_H} (hR : RR σ σ) (hnext : ∀ σ' : am_H, RR σ' σ' → am_G K 1322 (lwL i) [] SH σ') : am_G K 1299 (lwL i) [] SH σ := by
  show am_G K 1299 [some (vr 1002), some (vr 0), some (vr 63), some (vi i)] [] SH σ
  refine am_aload_n (x := 0) X (by rfl) dL_law_1299 ?_
  refine am_aload_n (x := 1002) X (by rfl) dL_law_1300 ?_
  refine am_iload_n (x := i) X (by rfl) dL_law_1301 ?_
  refine am_ic X (by decide) dL_law_1302 ?_
  refine am_add (v := (i + 1)) X (by first | rfl | omega) (by omega) dL_law_1303 ?_
  refine am_sld X hXs (by omega) (by omega) dL_law_1304 ?_
  refine am_callVi (ci := 8) X hY lk_L_174 mf_X9_count (k9_count (a := ((xs ((i + 1)).toNat).toInt)) (h := hR)) (Nat.le_of_ble_eq_true rfl) (by decide) (by rw [sh_len]; decide) (by rw [sh_sl]; decide) sh_0 rfl rfl rfl (Nat.le_of_ble_eq_true rfl) dL_law_1305 (fun r1 sh1 σ1 hr1 hp1 => ?_)
  obtain ⟨rfl, q1⟩ := hp1
  refine am_aload_n (x := 63) X (by rfl) dL_law_1308 ?_
  refine am_aload_n (x := 1002) X (by rfl) dL_law_1309 ?_
  refine am_iload_n (x := i) X (by rfl) dL_law_1310 ?_
  refine am_ic X (by decide) dL_law_1311 ?_
  refine am_add (v := (i + 1)) X (by first | rfl | omega) (by omega) dL_law_1312 ?_
  refine am_sld X hXs (by omega) (by omega) dL_law_1313 ?_
  refine am_callVi (ci := 9) X hY lk_L_177 mf_X10_count (k10_count (a := ((xs ((i + 1)).toNat).toInt)) (h := (xx_mid hR (xf_count q1)))) (Nat.le_of_ble_eq_true rfl) (by decide) (by rw [sh_len]; decide) (by rw [sh_sl]; decide) sh_63 rfl rfl rfl (Nat.le_of_ble_eq_true rfl) dL_law_1314 (fun r2 sh2 σ2 hr2 hp2 => ?_)
  obtain ⟨rfl, q2⟩ := hp2
  obtain ⟨e2, hR2⟩ := xc_count hR q1 q2
  refine am_icmp_eq (tgt := 1322) X dL_law_1317 (by decide) (fun _ => hnext _ hR2) (fun h => absurd e2.symm h)

