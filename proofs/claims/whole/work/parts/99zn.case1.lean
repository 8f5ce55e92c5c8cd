/-! ===== the law: its cases ===== -/
theorem x_in (x : Int32) : inR x.toInt := by
  have h1 := x.le_toInt
  have h2 := x.toInt_lt
  constructor <;> omega
theorem jiand_31 (a : Int) : 0 ≤ jiand a 31 ∧ jiand a 31 < 32 := by
  unfold jiand
  have e : iw 31 = 31 := rfl
  rw [e]
  have h2 : (iw a &&& 31).toBitVec.toNat < 32 := by
    rw [Int32.toBitVec_and, BitVec.toNat_and]
    exact Nat.lt_of_le_of_lt Nat.and_le_right (by decide)
  have h3 : (iw a &&& 31).toInt = (iw a &&& 31).toBitVec.toNat := by
    show (iw a &&& 31).toBitVec.toInt = _
    rw [BitVec.toInt_eq_toNat_cond, if_pos (by omega)]
  omega
section KC
variable {L : Nat} {xs : Nat → Int32} {σ : Hp} {i : Int}
theorem lk_0 (hL : L ≤ 4608) (h0 : 0 ≤ i) (h1 : i + 9 ≤ L) (h : Rel σ) (hK : ∀ ω, Rel ω → KJ L xs 1247 [(0, vR 1001), (1, vR 0), (2, vR 69), (3, vI i)] [] ω) : KJ L xs 168 [(0, vR 1001), (1, vR 0), (2, vR 69), (3, vI i)] [] σ := by
  refine k_aload_n (p2 := 169) dW_168 rfl rfl ?_
  refine k_aload_n (p2 := 170) dW_169 rfl rfl ?_
  refine k_iload_n (p2 := 171) dW_170 rfl rfl ?_
  refine k_iconst (p2 := 172) dW_171 rfl ?_
  refine k_iadd (p2 := 173) dW_172 rfl ?_
  refine k_sld (p2 := 174) dW_173 rfl (by omega) (by omega) hL ?_
  refine k_aload_n (p2 := 175) dW_174 rfl rfl ?_
  refine k_iload_n (p2 := 176) dW_175 rfl rfl ?_
  refine k_iconst (p2 := 177) dW_176 rfl ?_
  refine k_iadd (p2 := 178) dW_177 rfl ?_
  refine k_sld (p2 := 179) dW_178 rfl (by omega) (by omega) hL ?_
  refine k_i2l (p2 := 180) dW_179 rfl ?_
  refine k_bipush (v := 32) (p2 := 182) dW_180 rfl rfl ?_
  refine k_lshl (p2 := 183) dW_182 rfl ?_
  refine k_aload_n (p2 := 184) dW_183 rfl rfl ?_
  refine k_iload_n (p2 := 185) dW_184 rfl rfl ?_
  refine k_iconst (p2 := 186) dW_185 rfl ?_
  refine k_iadd (p2 := 187) dW_186 rfl ?_
  refine k_sld (p2 := 188) dW_187 rfl (by omega) (by omega) hL ?_
  refine k_i2l (p2 := 189) dW_188 rfl ?_
  refine k_ldc2 (p2 := 192) dW_189 rfl cw_W_13 ?_
  refine k_land (p2 := 193) dW_192 rfl ?_
  refine k_lor (p2 := 194) dW_193 rfl ?_
  refine k_callV (p2 := 197) (m' := mX_module) (As := [_, _]) (st := []) dW_194 rfl ml_W_15 ok_mX_module im_mX_module se_mX_module rfl rfl (Nat.le_of_ble_eq_true rfl) ly_0 rfl (Nat.le_of_ble_eq_true rfl) ⟨(Nat.le_of_ble_eq_true rfl), (Nat.le_of_ble_eq_true rfl)⟩ ?_
  refine Sp.mono (pr_module h (x_in _)) (fun r τ hq => ?_)
  obtain ⟨v, rfl, hq⟩ := hq
  refine k_aload_n (p2 := 198) dW_197 rfl rfl ?_
  refine k_aload_n (p2 := 199) dW_198 rfl rfl ?_
  refine k_iload_n (p2 := 200) dW_199 rfl rfl ?_
  refine k_iconst (p2 := 201) dW_200 rfl ?_
  refine k_iadd (p2 := 202) dW_201 rfl ?_
  refine k_sld (p2 := 203) dW_202 rfl (by omega) (by omega) hL ?_
  refine k_aload_n (p2 := 204) dW_203 rfl rfl ?_
  refine k_iload_n (p2 := 205) dW_204 rfl rfl ?_
  refine k_iconst (p2 := 206) dW_205 rfl ?_
  refine k_iadd (p2 := 207) dW_206 rfl ?_
  refine k_sld (p2 := 208) dW_207 rfl (by omega) (by omega) hL ?_
  refine k_i2l (p2 := 209) dW_208 rfl ?_
  refine k_bipush (v := 32) (p2 := 211) dW_209 rfl rfl ?_
  refine k_lshl (p2 := 212) dW_211 rfl ?_
  refine k_aload_n (p2 := 213) dW_212 rfl rfl ?_
  refine k_iload_n (p2 := 214) dW_213 rfl rfl ?_
  refine k_iconst (p2 := 215) dW_214 rfl ?_
  refine k_iadd (p2 := 216) dW_215 rfl ?_
  refine k_sld (p2 := 217) dW_216 rfl (by omega) (by omega) hL ?_
  refine k_i2l (p2 := 218) dW_217 rfl ?_
  refine k_ldc2 (p2 := 221) dW_218 rfl cw_W_13 ?_
  refine k_land (p2 := 222) dW_221 rfl ?_
  refine k_lor (p2 := 223) dW_222 rfl ?_
  refine k_callV (p2 := 226) (m' := mM_module) (As := [_, _]) (st := [vI v]) dW_223 rfl ml_W_19 ok_mM_module im_mM_module se_mM_module rfl rfl (Nat.le_of_ble_eq_true rfl) ly_69 rfl (Nat.le_of_ble_eq_true rfl) ⟨(Nat.le_of_ble_eq_true rfl), (Nat.le_of_ble_eq_true rfl)⟩ ?_
  refine Sp.mono hq (fun r ω hw => ?_)
  obtain ⟨rfl, hr⟩ := hw
  refine k_icmp_same (tg := 1247) dW_226 (by decide) ?_
  exact hK _ hr
theorem lk_1 (hL : L ≤ 4608) (h0 : 0 ≤ i) (h1 : i + 9 ≤ L) (h : Rel σ) (hK : ∀ ω, Rel ω → KJ L xs 1247 [(0, vR 1001), (1, vR 0), (2, vR 69), (3, vI i)] [] ω) : KJ L xs 231 [(0, vR 1001), (1, vR 0), (2, vR 69), (3, vI i)] [] σ := by
  refine k_aload_n (p2 := 232) dW_231 rfl rfl ?_
  refine k_aload_n (p2 := 233) dW_232 rfl rfl ?_
  refine k_iload_n (p2 := 234) dW_233 rfl rfl ?_
  refine k_iconst (p2 := 235) dW_234 rfl ?_
  refine k_iadd (p2 := 236) dW_235 rfl ?_
  refine k_sld (p2 := 237) dW_236 rfl (by omega) (by omega) hL ?_
  refine k_aload_n (p2 := 238) dW_237 rfl rfl ?_
  refine k_iload_n (p2 := 239) dW_238 rfl rfl ?_
  refine k_iconst (p2 := 240) dW_239 rfl ?_
  refine k_iadd (p2 := 241) dW_240 rfl ?_
  refine k_sld (p2 := 242) dW_241 rfl (by omega) (by omega) hL ?_
  refine k_aload_n (p2 := 243) dW_242 rfl rfl ?_
  refine k_iload_n (p2 := 244) dW_243 rfl rfl ?_
  refine k_iconst (p2 := 245) dW_244 rfl ?_
  refine k_iadd (p2 := 246) dW_245 rfl ?_
  refine k_sld (p2 := 247) dW_246 rfl (by omega) (by omega) hL ?_
  refine k_aload_n (p2 := 248) dW_247 rfl rfl ?_
  refine k_iload_n (p2 := 249) dW_248 rfl rfl ?_
  refine k_iconst (p2 := 250) dW_249 rfl ?_
  refine k_iadd (p2 := 251) dW_250 rfl ?_
  refine k_sld (p2 := 252) dW_251 rfl (by omega) (by omega) hL ?_
  refine k_if_eq (p2 := 255) (tg := 259) dW_252 rfl (by decide) (x_in _) (fun z252 => ?_) (fun z252 => ?_)
  · refine k_iconst (p2 := 260) dW_259 rfl ?_
    refine k_callV (p2 := 263) (m' := mX_cord) (As := [_, _, _, _]) (st := []) dW_260 rfl ml_W_20 ok_mX_cord im_mX_cord se_mX_cord rfl rfl (Nat.le_of_ble_eq_true rfl) ly_0 rfl (Nat.le_of_ble_eq_true rfl) ⟨(Nat.le_of_ble_eq_true rfl), (Nat.le_of_ble_eq_true rfl)⟩ ?_
    refine Sp.mono (pr_cord (b := false) h (x_in _) (x_in _) (x_in _)) (fun r τ hq => ?_)
    obtain ⟨v, rfl, hq⟩ := hq
    refine k_aload_n (p2 := 264) dW_263 rfl rfl ?_
    refine k_aload_n (p2 := 265) dW_264 rfl rfl ?_
    refine k_iload_n (p2 := 266) dW_265 rfl rfl ?_
    refine k_iconst (p2 := 267) dW_266 rfl ?_
    refine k_iadd (p2 := 268) dW_267 rfl ?_
    refine k_sld (p2 := 269) dW_268 rfl (by omega) (by omega) hL ?_
    refine k_aload_n (p2 := 270) dW_269 rfl rfl ?_
    refine k_iload_n (p2 := 271) dW_270 rfl rfl ?_
    refine k_iconst (p2 := 272) dW_271 rfl ?_
    refine k_iadd (p2 := 273) dW_272 rfl ?_
    refine k_sld (p2 := 274) dW_273 rfl (by omega) (by omega) hL ?_
    refine k_aload_n (p2 := 275) dW_274 rfl rfl ?_
    refine k_iload_n (p2 := 276) dW_275 rfl rfl ?_
    refine k_iconst (p2 := 277) dW_276 rfl ?_
    refine k_iadd (p2 := 278) dW_277 rfl ?_
    refine k_sld (p2 := 279) dW_278 rfl (by omega) (by omega) hL ?_
    refine k_aload_n (p2 := 280) dW_279 rfl rfl ?_
    refine k_iload_n (p2 := 281) dW_280 rfl rfl ?_
    refine k_iconst (p2 := 282) dW_281 rfl ?_
    refine k_iadd (p2 := 283) dW_282 rfl ?_
    refine k_sld (p2 := 284) dW_283 rfl (by omega) (by omega) hL ?_
    refine k_if_eq (p2 := 287) (tg := 291) dW_284 rfl (by decide) (x_in _) (fun z284 => ?_) (fun z284 => ?_)
    · refine k_iconst (p2 := 292) dW_291 rfl ?_
      refine k_callV (p2 := 295) (m' := mM_cord) (As := [_, _, _, _]) (st := [vI v]) dW_292 rfl ml_W_24 ok_mM_cord im_mM_cord se_mM_cord rfl rfl (Nat.le_of_ble_eq_true rfl) ly_69 rfl (Nat.le_of_ble_eq_true rfl) ⟨(Nat.le_of_ble_eq_true rfl), (Nat.le_of_ble_eq_true rfl)⟩ ?_
      refine Sp.mono hq (fun r ω hw => ?_)
      obtain ⟨rfl, hr⟩ := hw
      refine k_icmp_same (tg := 1247) dW_295 (by decide) ?_
      exact hK _ hr
    · exact absurd z252 z284
  · refine k_iconst (p2 := 256) dW_255 rfl ?_
    refine k_goto (p2 := 260) dW_256 (by decide) ?_
    refine k_callV (p2 := 263) (m' := mX_cord) (As := [_, _, _, _]) (st := []) dW_260 rfl ml_W_20 ok_mX_cord im_mX_cord se_mX_cord rfl rfl (Nat.le_of_ble_eq_true rfl) ly_0 rfl (Nat.le_of_ble_eq_true rfl) ⟨(Nat.le_of_ble_eq_true rfl), (Nat.le_of_ble_eq_true rfl)⟩ ?_
    refine Sp.mono (pr_cord (b := true) h (x_in _) (x_in _) (x_in _)) (fun r τ hq => ?_)
    obtain ⟨v, rfl, hq⟩ := hq
    refine k_aload_n (p2 := 264) dW_263 rfl rfl ?_
    refine k_aload_n (p2 := 265) dW_264 rfl rfl ?_
    refine k_iload_n (p2 := 266) dW_265 rfl rfl ?_
    refine k_iconst (p2 := 267) dW_266 rfl ?_
    refine k_iadd (p2 := 268) dW_267 rfl ?_
    refine k_sld (p2 := 269) dW_268 rfl (by omega) (by omega) hL ?_
    refine k_aload_n (p2 := 270) dW_269 rfl rfl ?_
    refine k_iload_n (p2 := 271) dW_270 rfl rfl ?_
    refine k_iconst (p2 := 272) dW_271 rfl ?_
    refine k_iadd (p2 := 273) dW_272 rfl ?_
    refine k_sld (p2 := 274) dW_273 rfl (by omega) (by omega) hL ?_
    refine k_aload_n (p2 := 275) dW_274 rfl rfl ?_
    refine k_iload_n (p2 := 276) dW_275 rfl rfl ?_
    refine k_iconst (p2 := 277) dW_276 rfl ?_
    refine k_iadd (p2 := 278) dW_277 rfl ?_
    refine k_sld (p2 := 279) dW_278 rfl (by omega) (by omega) hL ?_
    refine k_aload_n (p2 := 280) dW_279 rfl rfl ?_
    refine k_iload_n (p2 := 281) dW_280 rfl rfl ?_
    refine k_iconst (p2 := 282) dW_281 rfl ?_
    refine k_iadd (p2 := 283) dW_282 rfl ?_
    refine k_sld (p2 := 284) dW_283 rfl (by omega) (by omega) hL ?_
    refine k_if_eq (p2 := 287) (tg := 291) dW_284 rfl (by decide) (x_in _) (fun z284 => ?_) (fun z284 => ?_)
    · exact absurd z284 z252
    · refine k_iconst (p2 := 288) dW_287 rfl ?_
      refine k_goto (p2 := 292) dW_288 (by decide) ?_
      refine k_callV (p2 := 295) (m' := mM_cord) (As := [_, _, _, _]) (st := [vI v]) dW_292 rfl ml_W_24 ok_mM_cord im_mM_cord se_mM_cord rfl rfl (Nat.le_of_ble_eq_true rfl) ly_69 rfl (Nat.le_of_ble_eq_true rfl) ⟨(Nat.le_of_ble_eq_true rfl), (Nat.le_of_ble_eq_true rfl)⟩ ?_
      refine Sp.mono hq (fun r ω hw => ?_)
      obtain ⟨rfl, hr⟩ := hw
      refine k_icmp_same (tg := 1247) dW_295 (by decide) ?_
      exact hK _ hr
theorem lk_2 (hL : L ≤ 4608) (h0 : 0 ≤ i) (h1 : i + 9 ≤ L) (h : Rel σ) (hK : ∀ ω, Rel ω → KJ L xs 1247 [(0, vR 1001), (1, vR 0), (2, vR 69), (3, vI i)] [] ω) : KJ L xs 300 [(0, vR 1001), (1, vR 0), (2, vR 69), (3, vI i)] [] σ := by
  refine k_aload_n (p2 := 301) dW_300 rfl rfl ?_
  refine k_aload_n (p2 := 302) dW_301 rfl rfl ?_
  refine k_iload_n (p2 := 303) dW_302 rfl rfl ?_
  refine k_iconst (p2 := 304) dW_303 rfl ?_
  refine k_iadd (p2 := 305) dW_304 rfl ?_
  refine k_sld (p2 := 306) dW_305 rfl (by omega) (by omega) hL ?_
  refine k_aload_n (p2 := 307) dW_306 rfl rfl ?_
  refine k_iload_n (p2 := 308) dW_307 rfl rfl ?_
  refine k_iconst (p2 := 309) dW_308 rfl ?_
  refine k_iadd (p2 := 310) dW_309 rfl ?_
  refine k_sld (p2 := 311) dW_310 rfl (by omega) (by omega) hL ?_
  refine k_i2l (p2 := 312) dW_311 rfl ?_
  refine k_bipush (v := 32) (p2 := 314) dW_312 rfl rfl ?_
  refine k_lshl (p2 := 315) dW_314 rfl ?_
  refine k_aload_n (p2 := 316) dW_315 rfl rfl ?_
  refine k_iload_n (p2 := 317) dW_316 rfl rfl ?_
  refine k_iconst (p2 := 318) dW_317 rfl ?_
  refine k_iadd (p2 := 319) dW_318 rfl ?_
  refine k_sld (p2 := 320) dW_319 rfl (by omega) (by omega) hL ?_
  refine k_i2l (p2 := 321) dW_320 rfl ?_
  refine k_ldc2 (p2 := 324) dW_321 rfl cw_W_13 ?_
  refine k_land (p2 := 325) dW_324 rfl ?_
  refine k_lor (p2 := 326) dW_325 rfl ?_
  refine k_aload_n (p2 := 327) dW_326 rfl rfl ?_
  refine k_iload_n (p2 := 328) dW_327 rfl rfl ?_
  refine k_iconst (p2 := 329) dW_328 rfl ?_
  refine k_iadd (p2 := 330) dW_329 rfl ?_
  refine k_sld (p2 := 331) dW_330 rfl (by omega) (by omega) hL ?_
  refine k_i2l (p2 := 332) dW_331 rfl ?_
  refine k_bipush (v := 32) (p2 := 334) dW_332 rfl rfl ?_
  refine k_lshl (p2 := 335) dW_334 rfl ?_
  refine k_aload_n (p2 := 336) dW_335 rfl rfl ?_
  refine k_iload_n (p2 := 337) dW_336 rfl rfl ?_
  refine k_iconst (p2 := 338) dW_337 rfl ?_
  refine k_iadd (p2 := 339) dW_338 rfl ?_
  refine k_sld (p2 := 340) dW_339 rfl (by omega) (by omega) hL ?_
  refine k_i2l (p2 := 341) dW_340 rfl ?_
  refine k_ldc2 (p2 := 344) dW_341 rfl cw_W_13 ?_
  refine k_land (p2 := 345) dW_344 rfl ?_
  refine k_lor (p2 := 346) dW_345 rfl ?_
  refine k_callV (p2 := 349) (m' := mX_point) (As := [_, _, _]) (st := []) dW_346 rfl ml_W_25 ok_mX_point im_mX_point se_mX_point rfl rfl (Nat.le_of_ble_eq_true rfl) ly_0 rfl (Nat.le_of_ble_eq_true rfl) ⟨(Nat.le_of_ble_eq_true rfl), (Nat.le_of_ble_eq_true rfl)⟩ ?_
  refine Sp.mono (pr_point h (x_in _)) (fun r τ hq => ?_)
  obtain ⟨v, rfl, hq⟩ := hq
  refine k_aload_n (p2 := 350) dW_349 rfl rfl ?_
  refine k_aload_n (p2 := 351) dW_350 rfl rfl ?_
  refine k_iload_n (p2 := 352) dW_351 rfl rfl ?_
  refine k_iconst (p2 := 353) dW_352 rfl ?_
  refine k_iadd (p2 := 354) dW_353 rfl ?_
  refine k_sld (p2 := 355) dW_354 rfl (by omega) (by omega) hL ?_
  refine k_aload_n (p2 := 356) dW_355 rfl rfl ?_
  refine k_iload_n (p2 := 357) dW_356 rfl rfl ?_
  refine k_iconst (p2 := 358) dW_357 rfl ?_
  refine k_iadd (p2 := 359) dW_358 rfl ?_
  refine k_sld (p2 := 360) dW_359 rfl (by omega) (by omega) hL ?_
  refine k_i2l (p2 := 361) dW_360 rfl ?_
  refine k_bipush (v := 32) (p2 := 363) dW_361 rfl rfl ?_
  refine k_lshl (p2 := 364) dW_363 rfl ?_
  refine k_aload_n (p2 := 365) dW_364 rfl rfl ?_
  refine k_iload_n (p2 := 366) dW_365 rfl rfl ?_
  refine k_iconst (p2 := 367) dW_366 rfl ?_
  refine k_iadd (p2 := 368) dW_367 rfl ?_
  refine k_sld (p2 := 369) dW_368 rfl (by omega) (by omega) hL ?_
  refine k_i2l (p2 := 370) dW_369 rfl ?_
  refine k_ldc2 (p2 := 373) dW_370 rfl cw_W_13 ?_
  refine k_land (p2 := 374) dW_373 rfl ?_
  refine k_lor (p2 := 375) dW_374 rfl ?_
  refine k_aload_n (p2 := 376) dW_375 rfl rfl ?_
  refine k_iload_n (p2 := 377) dW_376 rfl rfl ?_
  refine k_iconst (p2 := 378) dW_377 rfl ?_
  refine k_iadd (p2 := 379) dW_378 rfl ?_
  refine k_sld (p2 := 380) dW_379 rfl (by omega) (by omega) hL ?_
  refine k_i2l (p2 := 381) dW_380 rfl ?_
  refine k_bipush (v := 32) (p2 := 383) dW_381 rfl rfl ?_
  refine k_lshl (p2 := 384) dW_383 rfl ?_
  refine k_aload_n (p2 := 385) dW_384 rfl rfl ?_
  refine k_iload_n (p2 := 386) dW_385 rfl rfl ?_
  refine k_iconst (p2 := 387) dW_386 rfl ?_
  refine k_iadd (p2 := 388) dW_387 rfl ?_
  refine k_sld (p2 := 389) dW_388 rfl (by omega) (by omega) hL ?_
  refine k_i2l (p2 := 390) dW_389 rfl ?_
  refine k_ldc2 (p2 := 393) dW_390 rfl cw_W_13 ?_
  refine k_land (p2 := 394) dW_393 rfl ?_
  refine k_lor (p2 := 395) dW_394 rfl ?_
  refine k_callV (p2 := 398) (m' := mM_point) (As := [_, _, _]) (st := [vI v]) dW_395 rfl ml_W_29 ok_mM_point im_mM_point se_mM_point rfl rfl (Nat.le_of_ble_eq_true rfl) ly_69 rfl (Nat.le_of_ble_eq_true rfl) ⟨(Nat.le_of_ble_eq_true rfl), (Nat.le_of_ble_eq_true rfl)⟩ ?_
  refine Sp.mono hq (fun r ω hw => ?_)
  obtain ⟨rfl, hr⟩ := hw
  refine k_icmp_same (tg := 1247) dW_398 (by decide) ?_
  exact hK _ hr
theorem lk_3 (hL : L ≤ 4608) (h0 : 0 ≤ i) (h1 : i + 9 ≤ L) (h : Rel σ) (hK : ∀ ω, Rel ω → KJ L xs 1247 [(0, vR 1001), (1, vR 0), (2, vR 69), (3, vI i)] [] ω) : KJ L xs 403 [(0, vR 1001), (1, vR 0), (2, vR 69), (3, vI i)] [] σ := by
  refine k_aload_n (p2 := 404) dW_403 rfl rfl ?_
  refine k_aload_n (p2 := 405) dW_404 rfl rfl ?_
  refine k_iload_n (p2 := 406) dW_405 rfl rfl ?_
  refine k_iconst (p2 := 407) dW_406 rfl ?_
  refine k_iadd (p2 := 408) dW_407 rfl ?_
  refine k_sld (p2 := 409) dW_408 rfl (by omega) (by omega) hL ?_
  refine k_aload_n (p2 := 410) dW_409 rfl rfl ?_
  refine k_iload_n (p2 := 411) dW_410 rfl rfl ?_
  refine k_iconst (p2 := 412) dW_411 rfl ?_
  refine k_iadd (p2 := 413) dW_412 rfl ?_
  refine k_sld (p2 := 414) dW_413 rfl (by omega) (by omega) hL ?_
  refine k_i2l (p2 := 415) dW_414 rfl ?_
  refine k_bipush (v := 32) (p2 := 417) dW_415 rfl rfl ?_
  refine k_lshl (p2 := 418) dW_417 rfl ?_
  refine k_aload_n (p2 := 419) dW_418 rfl rfl ?_
  refine k_iload_n (p2 := 420) dW_419 rfl rfl ?_
  refine k_iconst (p2 := 421) dW_420 rfl ?_
  refine k_iadd (p2 := 422) dW_421 rfl ?_
  refine k_sld (p2 := 423) dW_422 rfl (by omega) (by omega) hL ?_
  refine k_i2l (p2 := 424) dW_423 rfl ?_
  refine k_ldc2 (p2 := 427) dW_424 rfl cw_W_13 ?_
  refine k_land (p2 := 428) dW_427 rfl ?_
  refine k_lor (p2 := 429) dW_428 rfl ?_
  refine k_callV (p2 := 432) (m' := mX_begin) (As := [_, _]) (st := []) dW_429 rfl ml_W_30 ok_mX_begin im_mX_begin se_mX_begin rfl rfl (Nat.le_of_ble_eq_true rfl) ly_0 rfl (Nat.le_of_ble_eq_true rfl) ⟨(Nat.le_of_ble_eq_true rfl), (Nat.le_of_ble_eq_true rfl)⟩ ?_
  refine Sp.mono (pr_begin h (x_in _)) (fun r τ hq => ?_)
  obtain ⟨v, rfl, hq⟩ := hq
  refine k_aload_n (p2 := 433) dW_432 rfl rfl ?_
  refine k_aload_n (p2 := 434) dW_433 rfl rfl ?_
  refine k_iload_n (p2 := 435) dW_434 rfl rfl ?_
  refine k_iconst (p2 := 436) dW_435 rfl ?_
  refine k_iadd (p2 := 437) dW_436 rfl ?_
  refine k_sld (p2 := 438) dW_437 rfl (by omega) (by omega) hL ?_
  refine k_aload_n (p2 := 439) dW_438 rfl rfl ?_
  refine k_iload_n (p2 := 440) dW_439 rfl rfl ?_
  refine k_iconst (p2 := 441) dW_440 rfl ?_
  refine k_iadd (p2 := 442) dW_441 rfl ?_
  refine k_sld (p2 := 443) dW_442 rfl (by omega) (by omega) hL ?_
  refine k_i2l (p2 := 444) dW_443 rfl ?_
  refine k_bipush (v := 32) (p2 := 446) dW_444 rfl rfl ?_
  refine k_lshl (p2 := 447) dW_446 rfl ?_
  refine k_aload_n (p2 := 448) dW_447 rfl rfl ?_
  refine k_iload_n (p2 := 449) dW_448 rfl rfl ?_
  refine k_iconst (p2 := 450) dW_449 rfl ?_
  refine k_iadd (p2 := 451) dW_450 rfl ?_
  refine k_sld (p2 := 452) dW_451 rfl (by omega) (by omega) hL ?_
  refine k_i2l (p2 := 453) dW_452 rfl ?_
  refine k_ldc2 (p2 := 456) dW_453 rfl cw_W_13 ?_
  refine k_land (p2 := 457) dW_456 rfl ?_
  refine k_lor (p2 := 458) dW_457 rfl ?_
  refine k_callV (p2 := 461) (m' := mM_begin) (As := [_, _]) (st := [vI v]) dW_458 rfl ml_W_33 ok_mM_begin im_mM_begin se_mM_begin rfl rfl (Nat.le_of_ble_eq_true rfl) ly_69 rfl (Nat.le_of_ble_eq_true rfl) ⟨(Nat.le_of_ble_eq_true rfl), (Nat.le_of_ble_eq_true rfl)⟩ ?_
  refine Sp.mono hq (fun r ω hw => ?_)
  obtain ⟨rfl, hr⟩ := hw
  refine k_icmp_same (tg := 1247) dW_461 (by decide) ?_
  exact hK _ hr
theorem lk_4 (hL : L ≤ 4608) (h0 : 0 ≤ i) (h1 : i + 9 ≤ L) (h : Rel σ) (hK : ∀ ω, Rel ω → KJ L xs 1247 [(0, vR 1001), (1, vR 0), (2, vR 69), (3, vI i)] [] ω) : KJ L xs 466 [(0, vR 1001), (1, vR 0), (2, vR 69), (3, vI i)] [] σ := by
  refine k_aload_n (p2 := 467) dW_466 rfl rfl ?_
  refine k_aload_n (p2 := 468) dW_467 rfl rfl ?_
  refine k_iload_n (p2 := 469) dW_468 rfl rfl ?_
  refine k_iconst (p2 := 470) dW_469 rfl ?_
  refine k_iadd (p2 := 471) dW_470 rfl ?_
  refine k_sld (p2 := 472) dW_471 rfl (by omega) (by omega) hL ?_
  refine k_aload_n (p2 := 473) dW_472 rfl rfl ?_
  refine k_iload_n (p2 := 474) dW_473 rfl rfl ?_
  refine k_iconst (p2 := 475) dW_474 rfl ?_
  refine k_iadd (p2 := 476) dW_475 rfl ?_
  refine k_sld (p2 := 477) dW_476 rfl (by omega) (by omega) hL ?_
  refine k_i2l (p2 := 478) dW_477 rfl ?_
  refine k_bipush (v := 32) (p2 := 480) dW_478 rfl rfl ?_
  refine k_lshl (p2 := 481) dW_480 rfl ?_
  refine k_aload_n (p2 := 482) dW_481 rfl rfl ?_
  refine k_iload_n (p2 := 483) dW_482 rfl rfl ?_
  refine k_iconst (p2 := 484) dW_483 rfl ?_
  refine k_iadd (p2 := 485) dW_484 rfl ?_
  refine k_sld (p2 := 486) dW_485 rfl (by omega) (by omega) hL ?_
  refine k_i2l (p2 := 487) dW_486 rfl ?_
  refine k_ldc2 (p2 := 490) dW_487 rfl cw_W_13 ?_
  refine k_land (p2 := 491) dW_490 rfl ?_
  refine k_lor (p2 := 492) dW_491 rfl ?_
  refine k_callV (p2 := 495) (m' := mX_setting) (As := [_, _]) (st := []) dW_492 rfl ml_W_34 ok_mX_setting im_mX_setting se_mX_setting rfl rfl (Nat.le_of_ble_eq_true rfl) ly_0 rfl (Nat.le_of_ble_eq_true rfl) ⟨(Nat.le_of_ble_eq_true rfl), (Nat.le_of_ble_eq_true rfl)⟩ ?_
  refine Sp.mono (pr_setting h (x_in _)) (fun r τ hq => ?_)
  obtain ⟨v, rfl, hq⟩ := hq
  refine k_aload_n (p2 := 496) dW_495 rfl rfl ?_
  refine k_aload_n (p2 := 497) dW_496 rfl rfl ?_
  refine k_iload_n (p2 := 498) dW_497 rfl rfl ?_
  refine k_iconst (p2 := 499) dW_498 rfl ?_
  refine k_iadd (p2 := 500) dW_499 rfl ?_
  refine k_sld (p2 := 501) dW_500 rfl (by omega) (by omega) hL ?_
  refine k_aload_n (p2 := 502) dW_501 rfl rfl ?_
  refine k_iload_n (p2 := 503) dW_502 rfl rfl ?_
  refine k_iconst (p2 := 504) dW_503 rfl ?_
  refine k_iadd (p2 := 505) dW_504 rfl ?_
  refine k_sld (p2 := 506) dW_505 rfl (by omega) (by omega) hL ?_
  refine k_i2l (p2 := 507) dW_506 rfl ?_
  refine k_bipush (v := 32) (p2 := 509) dW_507 rfl rfl ?_
  refine k_lshl (p2 := 510) dW_509 rfl ?_
  refine k_aload_n (p2 := 511) dW_510 rfl rfl ?_
  refine k_iload_n (p2 := 512) dW_511 rfl rfl ?_
  refine k_iconst (p2 := 513) dW_512 rfl ?_
  refine k_iadd (p2 := 514) dW_513 rfl ?_
  refine k_sld (p2 := 515) dW_514 rfl (by omega) (by omega) hL ?_
  refine k_i2l (p2 := 516) dW_515 rfl ?_
  refine k_ldc2 (p2 := 519) dW_516 rfl cw_W_13 ?_
  refine k_land (p2 := 520) dW_519 rfl ?_
  refine k_lor (p2 := 521) dW_520 rfl ?_
  refine k_callV (p2 := 524) (m' := mM_setting) (As := [_, _]) (st := [vI v]) dW_521 rfl ml_W_37 ok_mM_setting im_mM_setting se_mM_setting rfl rfl (Nat.le_of_ble_eq_true rfl) ly_69 rfl (Nat.le_of_ble_eq_true rfl) ⟨(Nat.le_of_ble_eq_true rfl), (Nat.le_of_ble_eq_true rfl)⟩ ?_
  refine Sp.mono hq (fun r ω hw => ?_)
  obtain ⟨rfl, hr⟩ := hw
  refine k_icmp_same (tg := 1247) dW_524 (by decide) ?_
  exact hK _ hr
theorem lk_5 (hL : L ≤ 4608) (h0 : 0 ≤ i) (h1 : i + 9 ≤ L) (h : Rel σ) (hK : ∀ ω, Rel ω → KJ L xs 1247 [(0, vR 1001), (1, vR 0), (2, vR 69), (3, vI i)] [] ω) : KJ L xs 529 [(0, vR 1001), (1, vR 0), (2, vR 69), (3, vI i)] [] σ := by
  refine k_aload_n (p2 := 530) dW_529 rfl rfl ?_
  refine k_aload_n (p2 := 531) dW_530 rfl rfl ?_
  refine k_iload_n (p2 := 532) dW_531 rfl rfl ?_
  refine k_iconst (p2 := 533) dW_532 rfl ?_
  refine k_iadd (p2 := 534) dW_533 rfl ?_
  refine k_sld (p2 := 535) dW_534 rfl (by omega) (by omega) hL ?_
  refine k_aload_n (p2 := 536) dW_535 rfl rfl ?_
  refine k_iload_n (p2 := 537) dW_536 rfl rfl ?_
  refine k_iconst (p2 := 538) dW_537 rfl ?_
  refine k_iadd (p2 := 539) dW_538 rfl ?_
  refine k_sld (p2 := 540) dW_539 rfl (by omega) (by omega) hL ?_
  refine k_callV (p2 := 543) (m' := mX_rule) (As := [_, _]) (st := []) dW_540 rfl ml_W_38 ok_mX_rule im_mX_rule se_mX_rule rfl rfl (Nat.le_of_ble_eq_true rfl) ly_0 rfl (Nat.le_of_ble_eq_true rfl) ⟨(Nat.le_of_ble_eq_true rfl), (Nat.le_of_ble_eq_true rfl)⟩ ?_
  refine Sp.mono (pr_rule h (x_in _) (x_in _)) (fun r τ hq => ?_)
  obtain ⟨v, rfl, hq⟩ := hq
  refine k_aload_n (p2 := 544) dW_543 rfl rfl ?_
  refine k_aload_n (p2 := 545) dW_544 rfl rfl ?_
  refine k_iload_n (p2 := 546) dW_545 rfl rfl ?_
  refine k_iconst (p2 := 547) dW_546 rfl ?_
  refine k_iadd (p2 := 548) dW_547 rfl ?_
  refine k_sld (p2 := 549) dW_548 rfl (by omega) (by omega) hL ?_
  refine k_aload_n (p2 := 550) dW_549 rfl rfl ?_
  refine k_iload_n (p2 := 551) dW_550 rfl rfl ?_
  refine k_iconst (p2 := 552) dW_551 rfl ?_
  refine k_iadd (p2 := 553) dW_552 rfl ?_
  refine k_sld (p2 := 554) dW_553 rfl (by omega) (by omega) hL ?_
  refine k_callV (p2 := 557) (m' := mM_rule) (As := [_, _]) (st := [vI v]) dW_554 rfl ml_W_42 ok_mM_rule im_mM_rule se_mM_rule rfl rfl (Nat.le_of_ble_eq_true rfl) ly_69 rfl (Nat.le_of_ble_eq_true rfl) ⟨(Nat.le_of_ble_eq_true rfl), (Nat.le_of_ble_eq_true rfl)⟩ ?_
  refine Sp.mono hq (fun r ω hw => ?_)
  obtain ⟨rfl, hr⟩ := hw
  refine k_icmp_same (tg := 1247) dW_557 (by decide) ?_
  exact hK _ hr
theorem lk_6 (hL : L ≤ 4608) (h0 : 0 ≤ i) (h1 : i + 9 ≤ L) (h : Rel σ) (hK : ∀ ω, Rel ω → KJ L xs 1247 [(0, vR 1001), (1, vR 0), (2, vR 69), (3, vI i)] [] ω) : KJ L xs 562 [(0, vR 1001), (1, vR 0), (2, vR 69), (3, vI i)] [] σ := by
  refine k_aload_n (p2 := 563) dW_562 rfl rfl ?_
  refine k_callV (p2 := 566) (m' := mX_check) (As := []) (st := []) dW_563 rfl ml_W_43 ok_mX_check im_mX_check se_mX_check rfl rfl (Nat.le_of_ble_eq_true rfl) ly_0 rfl (Nat.le_of_ble_eq_true rfl) ⟨(Nat.le_of_ble_eq_true rfl), (Nat.le_of_ble_eq_true rfl)⟩ ?_
  refine Sp.mono (pr_check h) (fun r τ hq => ?_)
  obtain ⟨v, rfl, hq⟩ := hq
  refine k_aload_n (p2 := 567) dW_566 rfl rfl ?_
  refine k_callV (p2 := 570) (m' := mM_check) (As := []) (st := [vI v]) dW_567 rfl ml_W_47 ok_mM_check im_mM_check se_mM_check rfl rfl (Nat.le_of_ble_eq_true rfl) ly_69 rfl (Nat.le_of_ble_eq_true rfl) ⟨(Nat.le_of_ble_eq_true rfl), (Nat.le_of_ble_eq_true rfl)⟩ ?_
  refine Sp.mono hq (fun r ω hw => ?_)
  obtain ⟨rfl, hr⟩ := hw
  refine k_icmp_same (tg := 1247) dW_570 (by decide) ?_
  exact hK _ hr
theorem lk_7 (hL : L ≤ 4608) (h0 : 0 ≤ i) (h1 : i + 9 ≤ L) (h : Rel σ) (hK : ∀ ω, Rel ω → KJ L xs 1247 [(0, vR 1001), (1, vR 0), (2, vR 69), (3, vI i)] [] ω) : KJ L xs 575 [(0, vR 1001), (1, vR 0), (2, vR 69), (3, vI i)] [] σ := by
  refine k_aload_n (p2 := 576) dW_575 rfl rfl ?_
  refine k_callV (p2 := 579) (m' := mX_broken) (As := []) (st := []) dW_576 rfl ml_W_48 ok_mX_broken im_mX_broken se_mX_broken rfl rfl (Nat.le_of_ble_eq_true rfl) ly_0 rfl (Nat.le_of_ble_eq_true rfl) ⟨(Nat.le_of_ble_eq_true rfl), (Nat.le_of_ble_eq_true rfl)⟩ ?_
  refine Sp.mono (pr_broken h) (fun r τ hq => ?_)
  obtain ⟨v, rfl, hq⟩ := hq
  refine k_aload_n (p2 := 580) dW_579 rfl rfl ?_
  refine k_callV (p2 := 583) (m' := mM_broken) (As := []) (st := [vI v]) dW_580 rfl ml_W_51 ok_mM_broken im_mM_broken se_mM_broken rfl rfl (Nat.le_of_ble_eq_true rfl) ly_69 rfl (Nat.le_of_ble_eq_true rfl) ⟨(Nat.le_of_ble_eq_true rfl), (Nat.le_of_ble_eq_true rfl)⟩ ?_
  refine Sp.mono hq (fun r ω hw => ?_)
  obtain ⟨rfl, hr⟩ := hw
  refine k_icmp_same (tg := 1247) dW_583 (by decide) ?_
  exact hK _ hr
end KC
