section LAW
variable {l : Launch} {σ M : KS} {K : Nat → KL → List KV → KS → Prop} {X : Int → Int} {len i : Int}
theorem RC.lt {σ τ M : KS} (h : RC σ M) (z : ∀ c, c < 38 → τ c = σ c) : RC τ M := by
  obtain ⟨h1, h2, h3, h4, h5, h6, h7, h8⟩ := h
  refine ⟨h1.cells (fun d _ _ => z d (by omega)), fun hi => (h2 hi).cells (fun d _ _ => z d (by omega)), ?_, ?_, ?_, ?_, ?_, ?_⟩
  · rw [z 0 (by omega)]; exact h3
  · rw [z 31 (by omega)]; exact h4
  · rw [z 32 (by omega)]; exact h5
  · rw [z 0 (by omega)]; exact h6
  · rw [z 36 (by omega)]; exact h7
  · rw [z 37 (by omega)]; exact h8
theorem RR.ge {σ τ M : KS} (h : RR σ M) (z : ∀ c, 38 ≤ c → τ c = σ c) : RR τ M := by
  unfold RR
  rw [z 39 (by omega), z 41 (by omega), z 38 (by omega), z 43 (by omega), z 44 (by omega), z 45 (by omega), z 40 (by omega), z 42 (by omega)]
  exact h
theorem kq_sj {x y : Int} (h : (some (kj x) : Option KV) = some (kj y)) : x = y := by cases h; rfl
theorem kq_cmp0 {x y : Int} (h : x = y) : kq_cmp x y = 0 := by unfold kq_cmp; rw [if_neg (by omega), if_pos h]
/-- behind a case: the loop's foot -/
def LwG (K : Nat → KL → List KV → KS → Prop) (i : Int) : Prop := ∀ (τ N : KS), OkM N → RC τ N → RR τ N → K 1410 [some (kr 48), some (kr 0), some (kr 38), some (ki i)] [] τ
/-- the script is read -/
def LwL (K : Nat → KL → List KV → KS → Prop) (X : Int → Int) (len : Int) : Prop := ∀ (pc n : Nat) (L : KL) (st : List KV) (σ : KS) (i : Int), decode code pc = .ok (.iaload, 1) → pc + 1 = n → 0 ≤ i ∧ i < len → K n L (ki (X i) :: st) σ → K pc L (ki i :: kr 48 :: st) σ
def LwQ : Option KV → KS → Prop := fun r _ => r = some (ki 1)
theorem lc_0 (S : Sem l code RL (some .boolean) 9 334 LwQ K) (hld : LwL K X len) (hi : 0 ≤ i ∧ i + 6 ≤ len ∧ len ≤ 3072) (hM : OkM M) (hC : RC σ M) (hR : RR σ M) (hG : LwG K i) : K 208 [some (kr 48), some (kr 0), some (kr 38), some (ki i)] [] σ := by
  refine ks_aload_n (n := 209) S dL_law_208 rfl rfl ?_
  refine ks_aload_n (n := 210) S dL_law_209 rfl rfl ?_
  refine ks_iload_n (n := 211) S dL_law_210 rfl rfl ?_
  refine ks_iconst (n := 212) S dL_law_211 rfl (by unfold iv; decide) ?_
  refine ks_iadd (n := 213) S dL_law_212 rfl (by omega) ?_
  refine hld 213 214 _ _ _ _ dL_law_213 rfl (by omega) ?_
  refine ks_v1i (n := 217) S dL_law_214 rfl ml_L_13 ym_X4_letter (pc_letter hM hC) (by decide) rfl (Nat.le_of_ble_eq_true rfl) (fun r1 τ1 q1 => ?_)
  obtain ⟨e1, C1, F1⟩ := q1
  have e1 := kq_si e1
  have R1 := hR.ge F1
  refine ks_aload_n (n := 218) S dL_law_217 rfl rfl ?_
  refine ks_aload_n (n := 219) S dL_law_218 rfl rfl ?_
  refine ks_iload_n (n := 220) S dL_law_219 rfl rfl ?_
  refine ks_iconst (n := 221) S dL_law_220 rfl (by unfold iv; decide) ?_
  refine ks_iadd (n := 222) S dL_law_221 rfl (by omega) ?_
  refine hld 222 223 _ _ _ _ dL_law_222 rfl (by omega) ?_
  refine ks_v1i (n := 226) S dL_law_223 rfl ml_L_17 ym_X5_letter (pr_letter hM R1) (by decide) rfl (Nat.le_of_ble_eq_true rfl) (fun r2 τ2 q2 => ?_)
  obtain ⟨e2, R2, F2⟩ := q2
  have e2 := kq_si e2
  have C2 := C1.lt F2
  refine ks_icmp_eq (n := 229) (tgt := 1410) S dL_law_226 rfl rfl (fun h9 => ?_) (fun h9 => ?_)
  · exact hG τ2 _ (ok_letter hM) C2 R2
  · exact absurd (e1.trans e2.symm) h9
theorem lc_1 (S : Sem l code RL (some .boolean) 9 334 LwQ K) (hld : LwL K X len) (hi : 0 ≤ i ∧ i + 6 ≤ len ∧ len ≤ 3072) (hM : OkM M) (hC : RC σ M) (hR : RR σ M) (hG : LwG K i) : K 231 [some (kr 48), some (kr 0), some (kr 38), some (ki i)] [] σ := by
  refine ks_aload_n (n := 232) S dL_law_231 rfl rfl ?_
  refine ks_v0i (n := 235) S dL_law_232 rfl ml_L_18 ym_X4_house (pc_house hM hC) (by decide) rfl (Nat.le_of_ble_eq_true rfl) (fun r1 τ1 q1 => ?_)
  obtain ⟨e1, C1, F1⟩ := q1
  have e1 := kq_si e1
  have R1 := hR.ge F1
  refine ks_aload_n (n := 236) S dL_law_235 rfl rfl ?_
  refine ks_v0i (n := 239) S dL_law_236 rfl ml_L_22 ym_X5_house (pr_house hM R1) (by decide) rfl (Nat.le_of_ble_eq_true rfl) (fun r2 τ2 q2 => ?_)
  obtain ⟨e2, R2, F2⟩ := q2
  have e2 := kq_si e2
  have C2 := C1.lt F2
  refine ks_icmp_eq (n := 242) (tgt := 1410) S dL_law_239 rfl rfl (fun h9 => ?_) (fun h9 => ?_)
  · exact hG τ2 _ (ok_house hM) C2 R2
  · exact absurd (e1.trans e2.symm) h9
theorem lc_2 (S : Sem l code RL (some .boolean) 9 334 LwQ K) (hld : LwL K X len) (hi : 0 ≤ i ∧ i + 6 ≤ len ∧ len ≤ 3072) (hM : OkM M) (hC : RC σ M) (hR : RR σ M) (hG : LwG K i) : K 244 [some (kr 48), some (kr 0), some (kr 38), some (ki i)] [] σ := by
  refine ks_aload_n (n := 245) S dL_law_244 rfl rfl ?_
  refine ks_aload_n (n := 246) S dL_law_245 rfl rfl ?_
  refine ks_iload_n (n := 247) S dL_law_246 rfl rfl ?_
  refine ks_iconst (n := 248) S dL_law_247 rfl (by unfold iv; decide) ?_
  refine ks_iadd (n := 249) S dL_law_248 rfl (by omega) ?_
  refine hld 249 250 _ _ _ _ dL_law_249 rfl (by omega) ?_
  refine ks_aload_n (n := 251) S dL_law_250 rfl rfl ?_
  refine ks_iload_n (n := 252) S dL_law_251 rfl rfl ?_
  refine ks_iconst (n := 253) S dL_law_252 rfl (by unfold iv; decide) ?_
  refine ks_iadd (n := 254) S dL_law_253 rfl (by omega) ?_
  refine hld 254 255 _ _ _ _ dL_law_254 rfl (by omega) ?_
  refine ks_v2i (n := 258) S dL_law_255 rfl ml_L_23 ym_X4_door (pc_door hM hC) (by decide) rfl (Nat.le_of_ble_eq_true rfl) (fun r1 τ1 q1 => ?_)
  obtain ⟨e1, C1, F1⟩ := q1
  have e1 := kq_si e1
  have R1 := hR.ge F1
  refine ks_aload_n (n := 259) S dL_law_258 rfl rfl ?_
  refine ks_aload_n (n := 260) S dL_law_259 rfl rfl ?_
  refine ks_iload_n (n := 261) S dL_law_260 rfl rfl ?_
  refine ks_iconst (n := 262) S dL_law_261 rfl (by unfold iv; decide) ?_
  refine ks_iadd (n := 263) S dL_law_262 rfl (by omega) ?_
  refine hld 263 264 _ _ _ _ dL_law_263 rfl (by omega) ?_
  refine ks_aload_n (n := 265) S dL_law_264 rfl rfl ?_
  refine ks_iload_n (n := 266) S dL_law_265 rfl rfl ?_
  refine ks_iconst (n := 267) S dL_law_266 rfl (by unfold iv; decide) ?_
  refine ks_iadd (n := 268) S dL_law_267 rfl (by omega) ?_
  refine hld 268 269 _ _ _ _ dL_law_268 rfl (by omega) ?_
  refine ks_v2i (n := 272) S dL_law_269 rfl ml_L_27 ym_X5_door (pr_door hM R1) (by decide) rfl (Nat.le_of_ble_eq_true rfl) (fun r2 τ2 q2 => ?_)
  obtain ⟨e2, R2, F2⟩ := q2
  have e2 := kq_si e2
  have C2 := C1.lt F2
  refine ks_icmp_eq (n := 275) (tgt := 1410) S dL_law_272 rfl rfl (fun h9 => ?_) (fun h9 => ?_)
  · exact hG τ2 _ (ok_door hM) C2 R2
  · exact absurd (e1.trans e2.symm) h9
theorem lc_3 (S : Sem l code RL (some .boolean) 9 334 LwQ K) (hld : LwL K X len) (hi : 0 ≤ i ∧ i + 6 ≤ len ∧ len ≤ 3072) (hM : OkM M) (hC : RC σ M) (hR : RR σ M) (hG : LwG K i) : K 277 [some (kr 48), some (kr 0), some (kr 38), some (ki i)] [] σ := by
  refine ks_aload_n (n := 278) S dL_law_277 rfl rfl ?_
  refine ks_aload_n (n := 279) S dL_law_278 rfl rfl ?_
  refine ks_iload_n (n := 280) S dL_law_279 rfl rfl ?_
  refine ks_iconst (n := 281) S dL_law_280 rfl (by unfold iv; decide) ?_
  refine ks_iadd (n := 282) S dL_law_281 rfl (by omega) ?_
  refine hld 282 283 _ _ _ _ dL_law_282 rfl (by omega) ?_
  refine ks_aload_n (n := 284) S dL_law_283 rfl rfl ?_
  refine ks_iload_n (n := 285) S dL_law_284 rfl rfl ?_
  refine ks_iconst (n := 286) S dL_law_285 rfl (by unfold iv; decide) ?_
  refine ks_iadd (n := 287) S dL_law_286 rfl (by omega) ?_
  refine hld 287 288 _ _ _ _ dL_law_287 rfl (by omega) ?_
  refine ks_v2i (n := 291) S dL_law_288 rfl ml_L_28 ym_X4_person (pc_person hM hC) (by decide) rfl (Nat.le_of_ble_eq_true rfl) (fun r1 τ1 q1 => ?_)
  obtain ⟨e1, C1, F1⟩ := q1
  have e1 := kq_si e1
  have R1 := hR.ge F1
  refine ks_aload_n (n := 292) S dL_law_291 rfl rfl ?_
  refine ks_aload_n (n := 293) S dL_law_292 rfl rfl ?_
  refine ks_iload_n (n := 294) S dL_law_293 rfl rfl ?_
  refine ks_iconst (n := 295) S dL_law_294 rfl (by unfold iv; decide) ?_
  refine ks_iadd (n := 296) S dL_law_295 rfl (by omega) ?_
  refine hld 296 297 _ _ _ _ dL_law_296 rfl (by omega) ?_
  refine ks_aload_n (n := 298) S dL_law_297 rfl rfl ?_
  refine ks_iload_n (n := 299) S dL_law_298 rfl rfl ?_
  refine ks_iconst (n := 300) S dL_law_299 rfl (by unfold iv; decide) ?_
  refine ks_iadd (n := 301) S dL_law_300 rfl (by omega) ?_
  refine hld 301 302 _ _ _ _ dL_law_301 rfl (by omega) ?_
  refine ks_v2i (n := 305) S dL_law_302 rfl ml_L_31 ym_X5_person (pr_person hM R1) (by decide) rfl (Nat.le_of_ble_eq_true rfl) (fun r2 τ2 q2 => ?_)
  obtain ⟨e2, R2, F2⟩ := q2
  have e2 := kq_si e2
  have C2 := C1.lt F2
  refine ks_icmp_eq (n := 308) (tgt := 1410) S dL_law_305 rfl rfl (fun h9 => ?_) (fun h9 => ?_)
  · exact hG τ2 _ (ok_person hM) C2 R2
  · exact absurd (e1.trans e2.symm) h9
theorem lc_4 (S : Sem l code RL (some .boolean) 9 334 LwQ K) (hld : LwL K X len) (hi : 0 ≤ i ∧ i + 6 ≤ len ∧ len ≤ 3072) (hM : OkM M) (hC : RC σ M) (hR : RR σ M) (hG : LwG K i) : K 310 [some (kr 48), some (kr 0), some (kr 38), some (ki i)] [] σ := by
  refine ks_aload_n (n := 311) S dL_law_310 rfl rfl ?_
  refine ks_aload_n (n := 312) S dL_law_311 rfl rfl ?_
  refine ks_iload_n (n := 313) S dL_law_312 rfl rfl ?_
  refine ks_iconst (n := 314) S dL_law_313 rfl (by unfold iv; decide) ?_
  refine ks_iadd (n := 315) S dL_law_314 rfl (by omega) ?_
  refine hld 315 316 _ _ _ _ dL_law_315 rfl (by omega) ?_
  refine ks_aload_n (n := 317) S dL_law_316 rfl rfl ?_
  refine ks_iload_n (n := 318) S dL_law_317 rfl rfl ?_
  refine ks_iconst (n := 319) S dL_law_318 rfl (by unfold iv; decide) ?_
  refine ks_iadd (n := 320) S dL_law_319 rfl (by omega) ?_
  refine hld 320 321 _ _ _ _ dL_law_320 rfl (by omega) ?_
  refine ks_v2i (n := 324) S dL_law_321 rfl ml_L_32 ym_X4_opens (pc_opens hM hC) (by decide) rfl (Nat.le_of_ble_eq_true rfl) (fun r1 τ1 q1 => ?_)
  obtain ⟨e1, C1, F1⟩ := q1
  have e1 := kq_si e1
  have R1 := hR.ge F1
  refine ks_aload_n (n := 325) S dL_law_324 rfl rfl ?_
  refine ks_aload_n (n := 326) S dL_law_325 rfl rfl ?_
  refine ks_iload_n (n := 327) S dL_law_326 rfl rfl ?_
  refine ks_iconst (n := 328) S dL_law_327 rfl (by unfold iv; decide) ?_
  refine ks_iadd (n := 329) S dL_law_328 rfl (by omega) ?_
  refine hld 329 330 _ _ _ _ dL_law_329 rfl (by omega) ?_
  refine ks_aload_n (n := 331) S dL_law_330 rfl rfl ?_
  refine ks_iload_n (n := 332) S dL_law_331 rfl rfl ?_
  refine ks_iconst (n := 333) S dL_law_332 rfl (by unfold iv; decide) ?_
  refine ks_iadd (n := 334) S dL_law_333 rfl (by omega) ?_
  refine hld 334 335 _ _ _ _ dL_law_334 rfl (by omega) ?_
  refine ks_v2i (n := 338) S dL_law_335 rfl ml_L_35 ym_X5_opens (pr_opens hM R1) (by decide) rfl (Nat.le_of_ble_eq_true rfl) (fun r2 τ2 q2 => ?_)
  obtain ⟨e2, R2, F2⟩ := q2
  have e2 := kq_si e2
  have C2 := C1.lt F2
  refine ks_icmp_eq (n := 341) (tgt := 1410) S dL_law_338 rfl rfl (fun h9 => ?_) (fun h9 => ?_)
  · exact hG τ2 _ (ok_opens hM) C2 R2
  · exact absurd (e1.trans e2.symm) h9
theorem lc_5 (S : Sem l code RL (some .boolean) 9 334 LwQ K) (hld : LwL K X len) (hi : 0 ≤ i ∧ i + 6 ≤ len ∧ len ≤ 3072) (hM : OkM M) (hC : RC σ M) (hR : RR σ M) (hG : LwG K i) : K 343 [some (kr 48), some (kr 0), some (kr 38), some (ki i)] [] σ := by
  refine ks_aload_n (n := 344) S dL_law_343 rfl rfl ?_
  refine ks_aload_n (n := 345) S dL_law_344 rfl rfl ?_
  refine ks_iload_n (n := 346) S dL_law_345 rfl rfl ?_
  refine ks_iconst (n := 347) S dL_law_346 rfl (by unfold iv; decide) ?_
  refine ks_iadd (n := 348) S dL_law_347 rfl (by omega) ?_
  refine hld 348 349 _ _ _ _ dL_law_348 rfl (by omega) ?_
  refine ks_aload_n (n := 350) S dL_law_349 rfl rfl ?_
  refine ks_iload_n (n := 351) S dL_law_350 rfl rfl ?_
  refine ks_iconst (n := 352) S dL_law_351 rfl (by unfold iv; decide) ?_
  refine ks_iadd (n := 353) S dL_law_352 rfl (by omega) ?_
  refine hld 353 354 _ _ _ _ dL_law_353 rfl (by omega) ?_
  refine ks_aload_n (n := 355) S dL_law_354 rfl rfl ?_
  refine ks_iload_n (n := 356) S dL_law_355 rfl rfl ?_
  refine ks_iconst (n := 357) S dL_law_356 rfl (by unfold iv; decide) ?_
  refine ks_iadd (n := 358) S dL_law_357 rfl (by omega) ?_
  refine hld 358 359 _ _ _ _ dL_law_358 rfl (by omega) ?_
  refine ks_v3i (n := 362) S dL_law_359 rfl ml_L_36 ym_X4_quarrels (pc_quarrels hM hC) (by decide) rfl (Nat.le_of_ble_eq_true rfl) (fun r1 τ1 q1 => ?_)
  obtain ⟨e1, C1, F1⟩ := q1
  have e1 := kq_si e1
  have R1 := hR.ge F1
  refine ks_aload_n (n := 363) S dL_law_362 rfl rfl ?_
  refine ks_aload_n (n := 364) S dL_law_363 rfl rfl ?_
  refine ks_iload_n (n := 365) S dL_law_364 rfl rfl ?_
  refine ks_iconst (n := 366) S dL_law_365 rfl (by unfold iv; decide) ?_
  refine ks_iadd (n := 367) S dL_law_366 rfl (by omega) ?_
  refine hld 367 368 _ _ _ _ dL_law_367 rfl (by omega) ?_
  refine ks_aload_n (n := 369) S dL_law_368 rfl rfl ?_
  refine ks_iload_n (n := 370) S dL_law_369 rfl rfl ?_
  refine ks_iconst (n := 371) S dL_law_370 rfl (by unfold iv; decide) ?_
  refine ks_iadd (n := 372) S dL_law_371 rfl (by omega) ?_
  refine hld 372 373 _ _ _ _ dL_law_372 rfl (by omega) ?_
  refine ks_aload_n (n := 374) S dL_law_373 rfl rfl ?_
  refine ks_iload_n (n := 375) S dL_law_374 rfl rfl ?_
  refine ks_iconst (n := 376) S dL_law_375 rfl (by unfold iv; decide) ?_
  refine ks_iadd (n := 377) S dL_law_376 rfl (by omega) ?_
  refine hld 377 378 _ _ _ _ dL_law_377 rfl (by omega) ?_
  refine ks_v3i (n := 381) S dL_law_378 rfl ml_L_40 ym_X5_quarrels (pr_quarrels hM R1) (by decide) rfl (Nat.le_of_ble_eq_true rfl) (fun r2 τ2 q2 => ?_)
  obtain ⟨e2, R2, F2⟩ := q2
  have e2 := kq_si e2
  have C2 := C1.lt F2
  refine ks_icmp_eq (n := 384) (tgt := 1410) S dL_law_381 rfl rfl (fun h9 => ?_) (fun h9 => ?_)
  · exact hG τ2 _ (ok_quarrels hM) C2 R2
  · exact absurd (e1.trans e2.symm) h9
theorem lc_6 (S : Sem l code RL (some .boolean) 9 334 LwQ K) (hld : LwL K X len) (hi : 0 ≤ i ∧ i + 6 ≤ len ∧ len ≤ 3072) (hM : OkM M) (hC : RC σ M) (hR : RR σ M) (hG : LwG K i) : K 386 [some (kr 48), some (kr 0), some (kr 38), some (ki i)] [] σ := by
  refine ks_aload_n (n := 387) S dL_law_386 rfl rfl ?_
  refine ks_aload_n (n := 388) S dL_law_387 rfl rfl ?_
  refine ks_iload_n (n := 389) S dL_law_388 rfl rfl ?_
  refine ks_iconst (n := 390) S dL_law_389 rfl (by unfold iv; decide) ?_
  refine ks_iadd (n := 391) S dL_law_390 rfl (by omega) ?_
  refine hld 391 392 _ _ _ _ dL_law_391 rfl (by omega) ?_
  refine ks_v1i (n := 395) S dL_law_392 rfl ml_L_41 ym_X4_airs (pc_airs hM hC) (by decide) rfl (Nat.le_of_ble_eq_true rfl) (fun r1 τ1 q1 => ?_)
  obtain ⟨e1, C1, F1⟩ := q1
  have e1 := kq_si e1
  have R1 := hR.ge F1
  refine ks_aload_n (n := 396) S dL_law_395 rfl rfl ?_
  refine ks_aload_n (n := 397) S dL_law_396 rfl rfl ?_
  refine ks_iload_n (n := 398) S dL_law_397 rfl rfl ?_
  refine ks_iconst (n := 399) S dL_law_398 rfl (by unfold iv; decide) ?_
  refine ks_iadd (n := 400) S dL_law_399 rfl (by omega) ?_
  refine hld 400 401 _ _ _ _ dL_law_400 rfl (by omega) ?_
  refine ks_v1i (n := 404) S dL_law_401 rfl ml_L_44 ym_X5_airs (pr_airs hM R1) (by decide) rfl (Nat.le_of_ble_eq_true rfl) (fun r2 τ2 q2 => ?_)
  obtain ⟨e2, R2, F2⟩ := q2
  have e2 := kq_si e2
  have C2 := C1.lt F2
  refine ks_icmp_eq (n := 407) (tgt := 1410) S dL_law_404 rfl rfl (fun h9 => ?_) (fun h9 => ?_)
  · exact hG τ2 _ (ok_airs hM) C2 R2
  · exact absurd (e1.trans e2.symm) h9
theorem lc_7 (S : Sem l code RL (some .boolean) 9 334 LwQ K) (hld : LwL K X len) (hi : 0 ≤ i ∧ i + 6 ≤ len ∧ len ≤ 3072) (hM : OkM M) (hC : RC σ M) (hR : RR σ M) (hG : LwG K i) : K 409 [some (kr 48), some (kr 0), some (kr 38), some (ki i)] [] σ := by
  refine ks_aload_n (n := 410) S dL_law_409 rfl rfl ?_
  refine ks_aload_n (n := 411) S dL_law_410 rfl rfl ?_
  refine ks_iload_n (n := 412) S dL_law_411 rfl rfl ?_
  refine ks_iconst (n := 413) S dL_law_412 rfl (by unfold iv; decide) ?_
  refine ks_iadd (n := 414) S dL_law_413 rfl (by omega) ?_
  refine hld 414 415 _ _ _ _ dL_law_414 rfl (by omega) ?_
  refine ks_aload_n (n := 416) S dL_law_415 rfl rfl ?_
  refine ks_iload_n (n := 417) S dL_law_416 rfl rfl ?_
  refine ks_iconst (n := 418) S dL_law_417 rfl (by unfold iv; decide) ?_
  refine ks_iadd (n := 419) S dL_law_418 rfl (by omega) ?_
  refine hld 419 420 _ _ _ _ dL_law_419 rfl (by omega) ?_
  refine ks_v2i (n := 423) S dL_law_420 rfl ml_L_45 ym_X4_moods (pc_moods hM hC) (by decide) rfl (Nat.le_of_ble_eq_true rfl) (fun r1 τ1 q1 => ?_)
  obtain ⟨e1, C1, F1⟩ := q1
  have e1 := kq_si e1
  have R1 := hR.ge F1
  refine ks_aload_n (n := 424) S dL_law_423 rfl rfl ?_
  refine ks_aload_n (n := 425) S dL_law_424 rfl rfl ?_
  refine ks_iload_n (n := 426) S dL_law_425 rfl rfl ?_
  refine ks_iconst (n := 427) S dL_law_426 rfl (by unfold iv; decide) ?_
  refine ks_iadd (n := 428) S dL_law_427 rfl (by omega) ?_
  refine hld 428 429 _ _ _ _ dL_law_428 rfl (by omega) ?_
  refine ks_aload_n (n := 430) S dL_law_429 rfl rfl ?_
  refine ks_iload_n (n := 431) S dL_law_430 rfl rfl ?_
  refine ks_iconst (n := 432) S dL_law_431 rfl (by unfold iv; decide) ?_
  refine ks_iadd (n := 433) S dL_law_432 rfl (by omega) ?_
  refine hld 433 434 _ _ _ _ dL_law_433 rfl (by omega) ?_
  refine ks_v2i (n := 437) S dL_law_434 rfl ml_L_48 ym_X5_moods (pr_moods hM R1) (by decide) rfl (Nat.le_of_ble_eq_true rfl) (fun r2 τ2 q2 => ?_)
  obtain ⟨e2, R2, F2⟩ := q2
  have e2 := kq_si e2
  have C2 := C1.lt F2
  refine ks_icmp_eq (n := 440) (tgt := 1410) S dL_law_437 rfl rfl (fun h9 => ?_) (fun h9 => ?_)
  · exact hG τ2 _ (ok_moods hM) C2 R2
  · exact absurd (e1.trans e2.symm) h9
theorem lc_8 (S : Sem l code RL (some .boolean) 9 334 LwQ K) (hld : LwL K X len) (hi : 0 ≤ i ∧ i + 6 ≤ len ∧ len ≤ 3072) (hM : OkM M) (hC : RC σ M) (hR : RR σ M) (hG : LwG K i) : K 442 [some (kr 48), some (kr 0), some (kr 38), some (ki i)] [] σ := by
  refine ks_aload_n (n := 443) S dL_law_442 rfl rfl ?_
  refine ks_aload_n (n := 444) S dL_law_443 rfl rfl ?_
  refine ks_iload_n (n := 445) S dL_law_444 rfl rfl ?_
  refine ks_iconst (n := 446) S dL_law_445 rfl (by unfold iv; decide) ?_
  refine ks_iadd (n := 447) S dL_law_446 rfl (by omega) ?_
  refine hld 447 448 _ _ _ _ dL_law_447 rfl (by omega) ?_
  refine ks_aload_n (n := 449) S dL_law_448 rfl rfl ?_
  refine ks_iload_n (n := 450) S dL_law_449 rfl rfl ?_
  refine ks_iconst (n := 451) S dL_law_450 rfl (by unfold iv; decide) ?_
  refine ks_iadd (n := 452) S dL_law_451 rfl (by omega) ?_
  refine hld 452 453 _ _ _ _ dL_law_452 rfl (by omega) ?_
  refine ks_v2i (n := 456) S dL_law_453 rfl ml_L_49 ym_X4_stands (pc_stands hM hC) (by decide) rfl (Nat.le_of_ble_eq_true rfl) (fun r1 τ1 q1 => ?_)
  obtain ⟨e1, C1, F1⟩ := q1
  have e1 := kq_si e1
  have R1 := hR.ge F1
  refine ks_aload_n (n := 457) S dL_law_456 rfl rfl ?_
  refine ks_aload_n (n := 458) S dL_law_457 rfl rfl ?_
  refine ks_iload_n (n := 459) S dL_law_458 rfl rfl ?_
  refine ks_iconst (n := 460) S dL_law_459 rfl (by unfold iv; decide) ?_
  refine ks_iadd (n := 461) S dL_law_460 rfl (by omega) ?_
  refine hld 461 462 _ _ _ _ dL_law_461 rfl (by omega) ?_
  refine ks_aload_n (n := 463) S dL_law_462 rfl rfl ?_
  refine ks_iload_n (n := 464) S dL_law_463 rfl rfl ?_
  refine ks_iconst (n := 465) S dL_law_464 rfl (by unfold iv; decide) ?_
  refine ks_iadd (n := 466) S dL_law_465 rfl (by omega) ?_
  refine hld 466 467 _ _ _ _ dL_law_466 rfl (by omega) ?_
  refine ks_v2i (n := 470) S dL_law_467 rfl ml_L_52 ym_X5_stands (pr_stands hM R1) (by decide) rfl (Nat.le_of_ble_eq_true rfl) (fun r2 τ2 q2 => ?_)
  obtain ⟨e2, R2, F2⟩ := q2
  have e2 := kq_si e2
  have C2 := C1.lt F2
  refine ks_icmp_eq (n := 473) (tgt := 1410) S dL_law_470 rfl rfl (fun h9 => ?_) (fun h9 => ?_)
  · exact hG τ2 _ (ok_stands hM) C2 R2
  · exact absurd (e1.trans e2.symm) h9
theorem lc_9 (S : Sem l code RL (some .boolean) 9 334 LwQ K) (hld : LwL K X len) (hi : 0 ≤ i ∧ i + 6 ≤ len ∧ len ≤ 3072) (hM : OkM M) (hC : RC σ M) (hR : RR σ M) (hG : LwG K i) : K 475 [some (kr 48), some (kr 0), some (kr 38), some (ki i)] [] σ := by
  refine ks_aload_n (n := 476) S dL_law_475 rfl rfl ?_
  refine ks_aload_n (n := 477) S dL_law_476 rfl rfl ?_
  refine ks_iload_n (n := 478) S dL_law_477 rfl rfl ?_
  refine ks_iconst (n := 479) S dL_law_478 rfl (by unfold iv; decide) ?_
  refine ks_iadd (n := 480) S dL_law_479 rfl (by omega) ?_
  refine hld 480 481 _ _ _ _ dL_law_480 rfl (by omega) ?_
  refine ks_aload_n (n := 482) S dL_law_481 rfl rfl ?_
  refine ks_iload_n (n := 483) S dL_law_482 rfl rfl ?_
  refine ks_iconst (n := 484) S dL_law_483 rfl (by unfold iv; decide) ?_
  refine ks_iadd (n := 485) S dL_law_484 rfl (by omega) ?_
  refine hld 485 486 _ _ _ _ dL_law_485 rfl (by omega) ?_
  refine ks_aload_n (n := 487) S dL_law_486 rfl rfl ?_
  refine ks_iload_n (n := 488) S dL_law_487 rfl rfl ?_
  refine ks_iconst (n := 489) S dL_law_488 rfl (by unfold iv; decide) ?_
  refine ks_iadd (n := 490) S dL_law_489 rfl (by omega) ?_
  refine hld 490 491 _ _ _ _ dL_law_490 rfl (by omega) ?_
  refine ks_v3i (n := 494) S dL_law_491 rfl ml_L_53 ym_X4_turn (pc_turn hM hC) (by decide) rfl (Nat.le_of_ble_eq_true rfl) (fun r1 τ1 q1 => ?_)
  obtain ⟨e1, C1, F1⟩ := q1
  have e1 := kq_si e1
  have R1 := hR.ge F1
  refine ks_aload_n (n := 495) S dL_law_494 rfl rfl ?_
  refine ks_aload_n (n := 496) S dL_law_495 rfl rfl ?_
  refine ks_iload_n (n := 497) S dL_law_496 rfl rfl ?_
  refine ks_iconst (n := 498) S dL_law_497 rfl (by unfold iv; decide) ?_
  refine ks_iadd (n := 499) S dL_law_498 rfl (by omega) ?_
  refine hld 499 500 _ _ _ _ dL_law_499 rfl (by omega) ?_
  refine ks_aload_n (n := 501) S dL_law_500 rfl rfl ?_
  refine ks_iload_n (n := 502) S dL_law_501 rfl rfl ?_
  refine ks_iconst (n := 503) S dL_law_502 rfl (by unfold iv; decide) ?_
  refine ks_iadd (n := 504) S dL_law_503 rfl (by omega) ?_
  refine hld 504 505 _ _ _ _ dL_law_504 rfl (by omega) ?_
  refine ks_aload_n (n := 506) S dL_law_505 rfl rfl ?_
  refine ks_iload_n (n := 507) S dL_law_506 rfl rfl ?_
  refine ks_iconst (n := 508) S dL_law_507 rfl (by unfold iv; decide) ?_
  refine ks_iadd (n := 509) S dL_law_508 rfl (by omega) ?_
  refine hld 509 510 _ _ _ _ dL_law_509 rfl (by omega) ?_
  refine ks_v3i (n := 513) S dL_law_510 rfl ml_L_56 ym_X5_turn (pr_turn hM R1) (by decide) rfl (Nat.le_of_ble_eq_true rfl) (fun r2 τ2 q2 => ?_)
  obtain ⟨e2, R2, F2⟩ := q2
  have e2 := kq_si e2
  have C2 := C1.lt F2
  refine ks_icmp_eq (n := 516) (tgt := 1410) S dL_law_513 rfl rfl (fun h9 => ?_) (fun h9 => ?_)
  · exact hG τ2 _ (ok_turn hM) C2 R2
  · exact absurd (e1.trans e2.symm) h9
theorem lc_10 (S : Sem l code RL (some .boolean) 9 334 LwQ K) (hld : LwL K X len) (hi : 0 ≤ i ∧ i + 6 ≤ len ∧ len ≤ 3072) (hM : OkM M) (hC : RC σ M) (hR : RR σ M) (hG : LwG K i) : K 518 [some (kr 48), some (kr 0), some (kr 38), some (ki i)] [] σ := by
  refine ks_aload_n (n := 519) S dL_law_518 rfl rfl ?_
  refine ks_aload_n (n := 520) S dL_law_519 rfl rfl ?_
  refine ks_iload_n (n := 521) S dL_law_520 rfl rfl ?_
  refine ks_iconst (n := 522) S dL_law_521 rfl (by unfold iv; decide) ?_
  refine ks_iadd (n := 523) S dL_law_522 rfl (by omega) ?_
  refine hld 523 524 _ _ _ _ dL_law_523 rfl (by omega) ?_
  refine ks_v1i (n := 527) S dL_law_524 rfl ml_L_57 ym_X4_hours (pc_hours hM hC) (by decide) rfl (Nat.le_of_ble_eq_true rfl) (fun r1 τ1 q1 => ?_)
  obtain ⟨e1, C1, F1⟩ := q1
  have e1 := kq_si e1
  have R1 := hR.ge F1
  refine ks_aload_n (n := 528) S dL_law_527 rfl rfl ?_
  refine ks_aload_n (n := 529) S dL_law_528 rfl rfl ?_
  refine ks_iload_n (n := 530) S dL_law_529 rfl rfl ?_
  refine ks_iconst (n := 531) S dL_law_530 rfl (by unfold iv; decide) ?_
  refine ks_iadd (n := 532) S dL_law_531 rfl (by omega) ?_
  refine hld 532 533 _ _ _ _ dL_law_532 rfl (by omega) ?_
  refine ks_v1i (n := 536) S dL_law_533 rfl ml_L_60 ym_X5_hours (pr_hours hM R1) (by decide) rfl (Nat.le_of_ble_eq_true rfl) (fun r2 τ2 q2 => ?_)
  obtain ⟨e2, R2, F2⟩ := q2
  have e2 := kq_si e2
  have C2 := C1.lt F2
  refine ks_icmp_eq (n := 539) (tgt := 1410) S dL_law_536 rfl rfl (fun h9 => ?_) (fun h9 => ?_)
  · exact hG τ2 _ (ok_hours hM) C2 R2
  · exact absurd (e1.trans e2.symm) h9
theorem lc_11 (S : Sem l code RL (some .boolean) 9 334 LwQ K) (hld : LwL K X len) (hi : 0 ≤ i ∧ i + 6 ≤ len ∧ len ≤ 3072) (hM : OkM M) (hC : RC σ M) (hR : RR σ M) (hG : LwG K i) : K 541 [some (kr 48), some (kr 0), some (kr 38), some (ki i)] [] σ := by
  refine ks_aload_n (n := 542) S dL_law_541 rfl rfl ?_
  refine ks_aload_n (n := 543) S dL_law_542 rfl rfl ?_
  refine ks_iload_n (n := 544) S dL_law_543 rfl rfl ?_
  refine ks_iconst (n := 545) S dL_law_544 rfl (by unfold iv; decide) ?_
  refine ks_iadd (n := 546) S dL_law_545 rfl (by omega) ?_
  refine hld 546 547 _ _ _ _ dL_law_546 rfl (by omega) ?_
  refine ks_aload_n (n := 548) S dL_law_547 rfl rfl ?_
  refine ks_iload_n (n := 549) S dL_law_548 rfl rfl ?_
  refine ks_iconst (n := 550) S dL_law_549 rfl (by unfold iv; decide) ?_
  refine ks_iadd (n := 551) S dL_law_550 rfl (by omega) ?_
  refine hld 551 552 _ _ _ _ dL_law_551 rfl (by omega) ?_
  refine ks_aload_n (n := 553) S dL_law_552 rfl rfl ?_
  refine ks_iload_n (n := 554) S dL_law_553 rfl rfl ?_
  refine ks_iconst (n := 555) S dL_law_554 rfl (by unfold iv; decide) ?_
  refine ks_iadd (n := 556) S dL_law_555 rfl (by omega) ?_
  refine hld 556 557 _ _ _ _ dL_law_556 rfl (by omega) ?_
  refine ks_v3i (n := 560) S dL_law_557 rfl ml_L_61 ym_X4_doorThen (pc_doorThen hM hC) (by decide) rfl (Nat.le_of_ble_eq_true rfl) (fun r1 τ1 q1 => ?_)
  obtain ⟨e1, C1, F1⟩ := q1
  have e1 := kq_si e1
  have R1 := hR.ge F1
  refine ks_aload_n (n := 561) S dL_law_560 rfl rfl ?_
  refine ks_aload_n (n := 562) S dL_law_561 rfl rfl ?_
  refine ks_iload_n (n := 563) S dL_law_562 rfl rfl ?_
  refine ks_iconst (n := 564) S dL_law_563 rfl (by unfold iv; decide) ?_
  refine ks_iadd (n := 565) S dL_law_564 rfl (by omega) ?_
  refine hld 565 566 _ _ _ _ dL_law_565 rfl (by omega) ?_
  refine ks_aload_n (n := 567) S dL_law_566 rfl rfl ?_
  refine ks_iload_n (n := 568) S dL_law_567 rfl rfl ?_
  refine ks_iconst (n := 569) S dL_law_568 rfl (by unfold iv; decide) ?_
  refine ks_iadd (n := 570) S dL_law_569 rfl (by omega) ?_
  refine hld 570 571 _ _ _ _ dL_law_570 rfl (by omega) ?_
  refine ks_aload_n (n := 572) S dL_law_571 rfl rfl ?_
  refine ks_iload_n (n := 573) S dL_law_572 rfl rfl ?_
  refine ks_iconst (n := 574) S dL_law_573 rfl (by unfold iv; decide) ?_
  refine ks_iadd (n := 575) S dL_law_574 rfl (by omega) ?_
  refine hld 575 576 _ _ _ _ dL_law_575 rfl (by omega) ?_
  refine ks_v3i (n := 579) S dL_law_576 rfl ml_L_64 ym_X5_doorThen (pr_doorThen hM R1) (by decide) rfl (Nat.le_of_ble_eq_true rfl) (fun r2 τ2 q2 => ?_)
  obtain ⟨e2, R2, F2⟩ := q2
  have e2 := kq_si e2
  have C2 := C1.lt F2
  refine ks_icmp_eq (n := 582) (tgt := 1410) S dL_law_579 rfl rfl (fun h9 => ?_) (fun h9 => ?_)
  · exact hG τ2 _ (ok_doorThen hM) C2 R2
  · exact absurd (e1.trans e2.symm) h9
theorem lc_12 (S : Sem l code RL (some .boolean) 9 334 LwQ K) (hld : LwL K X len) (hi : 0 ≤ i ∧ i + 6 ≤ len ∧ len ≤ 3072) (hM : OkM M) (hC : RC σ M) (hR : RR σ M) (hG : LwG K i) : K 584 [some (kr 48), some (kr 0), some (kr 38), some (ki i)] [] σ := by
  refine ks_aload_n (n := 585) S dL_law_584 rfl rfl ?_
  refine ks_aload_n (n := 586) S dL_law_585 rfl rfl ?_
  refine ks_iload_n (n := 587) S dL_law_586 rfl rfl ?_
  refine ks_iconst (n := 588) S dL_law_587 rfl (by unfold iv; decide) ?_
  refine ks_iadd (n := 589) S dL_law_588 rfl (by omega) ?_
  refine hld 589 590 _ _ _ _ dL_law_589 rfl (by omega) ?_
  refine ks_aload_n (n := 591) S dL_law_590 rfl rfl ?_
  refine ks_iload_n (n := 592) S dL_law_591 rfl rfl ?_
  refine ks_iconst (n := 593) S dL_law_592 rfl (by unfold iv; decide) ?_
  refine ks_iadd (n := 594) S dL_law_593 rfl (by omega) ?_
  refine hld 594 595 _ _ _ _ dL_law_594 rfl (by omega) ?_
  refine ks_v2i (n := 598) S dL_law_595 rfl ml_L_65 ym_X4_moodThen (pc_moodThen hM hC) (by decide) rfl (Nat.le_of_ble_eq_true rfl) (fun r1 τ1 q1 => ?_)
  obtain ⟨e1, C1, F1⟩ := q1
  have e1 := kq_si e1
  have R1 := hR.ge F1
  refine ks_aload_n (n := 599) S dL_law_598 rfl rfl ?_
  refine ks_aload_n (n := 600) S dL_law_599 rfl rfl ?_
  refine ks_iload_n (n := 601) S dL_law_600 rfl rfl ?_
  refine ks_iconst (n := 602) S dL_law_601 rfl (by unfold iv; decide) ?_
  refine ks_iadd (n := 603) S dL_law_602 rfl (by omega) ?_
  refine hld 603 604 _ _ _ _ dL_law_603 rfl (by omega) ?_
  refine ks_aload_n (n := 605) S dL_law_604 rfl rfl ?_
  refine ks_iload_n (n := 606) S dL_law_605 rfl rfl ?_
  refine ks_iconst (n := 607) S dL_law_606 rfl (by unfold iv; decide) ?_
  refine ks_iadd (n := 608) S dL_law_607 rfl (by omega) ?_
  refine hld 608 609 _ _ _ _ dL_law_608 rfl (by omega) ?_
  refine ks_v2i (n := 612) S dL_law_609 rfl ml_L_68 ym_X5_moodThen (pr_moodThen hM R1) (by decide) rfl (Nat.le_of_ble_eq_true rfl) (fun r2 τ2 q2 => ?_)
  obtain ⟨e2, R2, F2⟩ := q2
  have e2 := kq_si e2
  have C2 := C1.lt F2
  refine ks_icmp_eq (n := 615) (tgt := 1410) S dL_law_612 rfl rfl (fun h9 => ?_) (fun h9 => ?_)
  · exact hG τ2 _ (ok_moodThen hM) C2 R2
  · exact absurd (e1.trans e2.symm) h9
theorem lc_13 (S : Sem l code RL (some .boolean) 9 334 LwQ K) (hld : LwL K X len) (hi : 0 ≤ i ∧ i + 6 ≤ len ∧ len ≤ 3072) (hM : OkM M) (hC : RC σ M) (hR : RR σ M) (hG : LwG K i) : K 617 [some (kr 48), some (kr 0), some (kr 38), some (ki i)] [] σ := by
  refine ks_aload_n (n := 618) S dL_law_617 rfl rfl ?_
  refine ks_aload_n (n := 619) S dL_law_618 rfl rfl ?_
  refine ks_iload_n (n := 620) S dL_law_619 rfl rfl ?_
  refine ks_iconst (n := 621) S dL_law_620 rfl (by unfold iv; decide) ?_
  refine ks_iadd (n := 622) S dL_law_621 rfl (by omega) ?_
  refine hld 622 623 _ _ _ _ dL_law_622 rfl (by omega) ?_
  refine ks_v1i (n := 626) S dL_law_623 rfl ml_L_69 ym_X4_first (pc_first hM hC) (by decide) rfl (Nat.le_of_ble_eq_true rfl) (fun r1 τ1 q1 => ?_)
  obtain ⟨e1, C1, F1⟩ := q1
  have e1 := kq_si e1
  have R1 := hR.ge F1
  refine ks_aload_n (n := 627) S dL_law_626 rfl rfl ?_
  refine ks_aload_n (n := 628) S dL_law_627 rfl rfl ?_
  refine ks_iload_n (n := 629) S dL_law_628 rfl rfl ?_
  refine ks_iconst (n := 630) S dL_law_629 rfl (by unfold iv; decide) ?_
  refine ks_iadd (n := 631) S dL_law_630 rfl (by omega) ?_
  refine hld 631 632 _ _ _ _ dL_law_631 rfl (by omega) ?_
  refine ks_v1i (n := 635) S dL_law_632 rfl ml_L_72 ym_X5_first (pr_first hM R1) (by decide) rfl (Nat.le_of_ble_eq_true rfl) (fun r2 τ2 q2 => ?_)
  obtain ⟨e2, R2, F2⟩ := q2
  have e2 := kq_si e2
  have C2 := C1.lt F2
  refine ks_icmp_eq (n := 638) (tgt := 1410) S dL_law_635 rfl rfl (fun h9 => ?_) (fun h9 => ?_)
  · exact hG τ2 _ (ok_first hM) C2 R2
  · exact absurd (e1.trans e2.symm) h9
theorem lc_14 (S : Sem l code RL (some .boolean) 9 334 LwQ K) (hld : LwL K X len) (hi : 0 ≤ i ∧ i + 6 ≤ len ∧ len ≤ 3072) (hM : OkM M) (hC : RC σ M) (hR : RR σ M) (hG : LwG K i) : K 640 [some (kr 48), some (kr 0), some (kr 38), some (ki i)] [] σ := by
  refine ks_aload_n (n := 641) S dL_law_640 rfl rfl ?_
  refine ks_aload_n (n := 642) S dL_law_641 rfl rfl ?_
  refine ks_iload_n (n := 643) S dL_law_642 rfl rfl ?_
  refine ks_iconst (n := 644) S dL_law_643 rfl (by unfold iv; decide) ?_
  refine ks_iadd (n := 645) S dL_law_644 rfl (by omega) ?_
  refine hld 645 646 _ _ _ _ dL_law_645 rfl (by omega) ?_
  refine ks_aload_n (n := 647) S dL_law_646 rfl rfl ?_
  refine ks_iload_n (n := 648) S dL_law_647 rfl rfl ?_
  refine ks_iconst (n := 649) S dL_law_648 rfl (by unfold iv; decide) ?_
  refine ks_iadd (n := 650) S dL_law_649 rfl (by omega) ?_
  refine hld 650 651 _ _ _ _ dL_law_650 rfl (by omega) ?_
  refine ks_aload_n (n := 652) S dL_law_651 rfl rfl ?_
  refine ks_iload_n (n := 653) S dL_law_652 rfl rfl ?_
  refine ks_iconst (n := 654) S dL_law_653 rfl (by unfold iv; decide) ?_
  refine ks_iadd (n := 655) S dL_law_654 rfl (by omega) ?_
  refine hld 655 656 _ _ _ _ dL_law_655 rfl (by omega) ?_
  refine ks_v3i (n := 659) S dL_law_656 rfl ml_L_73 ym_X4_way (pc_way hM hC) (by decide) rfl (Nat.le_of_ble_eq_true rfl) (fun r1 τ1 q1 => ?_)
  obtain ⟨e1, C1, F1⟩ := q1
  have e1 := kq_si e1
  have R1 := hR.ge F1
  refine ks_aload_n (n := 660) S dL_law_659 rfl rfl ?_
  refine ks_aload_n (n := 661) S dL_law_660 rfl rfl ?_
  refine ks_iload_n (n := 662) S dL_law_661 rfl rfl ?_
  refine ks_iconst (n := 663) S dL_law_662 rfl (by unfold iv; decide) ?_
  refine ks_iadd (n := 664) S dL_law_663 rfl (by omega) ?_
  refine hld 664 665 _ _ _ _ dL_law_664 rfl (by omega) ?_
  refine ks_aload_n (n := 666) S dL_law_665 rfl rfl ?_
  refine ks_iload_n (n := 667) S dL_law_666 rfl rfl ?_
  refine ks_iconst (n := 668) S dL_law_667 rfl (by unfold iv; decide) ?_
  refine ks_iadd (n := 669) S dL_law_668 rfl (by omega) ?_
  refine hld 669 670 _ _ _ _ dL_law_669 rfl (by omega) ?_
  refine ks_aload_n (n := 671) S dL_law_670 rfl rfl ?_
  refine ks_iload_n (n := 672) S dL_law_671 rfl rfl ?_
  refine ks_iconst (n := 673) S dL_law_672 rfl (by unfold iv; decide) ?_
  refine ks_iadd (n := 674) S dL_law_673 rfl (by omega) ?_
  refine hld 674 675 _ _ _ _ dL_law_674 rfl (by omega) ?_
  refine ks_v3i (n := 678) S dL_law_675 rfl ml_L_76 ym_X5_way (pr_way hM R1) (by decide) rfl (Nat.le_of_ble_eq_true rfl) (fun r2 τ2 q2 => ?_)
  obtain ⟨e2, R2, F2⟩ := q2
  have e2 := kq_si e2
  have C2 := C1.lt F2
  refine ks_icmp_eq (n := 681) (tgt := 1410) S dL_law_678 rfl rfl (fun h9 => ?_) (fun h9 => ?_)
  · exact hG τ2 _ (ok_way hM) C2 R2
  · exact absurd (e1.trans e2.symm) h9
theorem lc_15 (S : Sem l code RL (some .boolean) 9 334 LwQ K) (hld : LwL K X len) (hi : 0 ≤ i ∧ i + 6 ≤ len ∧ len ≤ 3072) (hM : OkM M) (hC : RC σ M) (hR : RR σ M) (hG : LwG K i) : K 683 [some (kr 48), some (kr 0), some (kr 38), some (ki i)] [] σ := by
  refine ks_aload_n (n := 684) S dL_law_683 rfl rfl ?_
  refine ks_aload_n (n := 685) S dL_law_684 rfl rfl ?_
  refine ks_iload_n (n := 686) S dL_law_685 rfl rfl ?_
  refine ks_iconst (n := 687) S dL_law_686 rfl (by unfold iv; decide) ?_
  refine ks_iadd (n := 688) S dL_law_687 rfl (by omega) ?_
  refine hld 688 689 _ _ _ _ dL_law_688 rfl (by omega) ?_
  refine ks_aload_n (n := 690) S dL_law_689 rfl rfl ?_
  refine ks_iload_n (n := 691) S dL_law_690 rfl rfl ?_
  refine ks_iconst (n := 692) S dL_law_691 rfl (by unfold iv; decide) ?_
  refine ks_iadd (n := 693) S dL_law_692 rfl (by omega) ?_
  refine hld 693 694 _ _ _ _ dL_law_693 rfl (by omega) ?_
  refine ks_v2i (n := 697) S dL_law_694 rfl ml_L_77 ym_X4_fewest (pc_fewest hM hC) (by decide) rfl (Nat.le_of_ble_eq_true rfl) (fun r1 τ1 q1 => ?_)
  obtain ⟨e1, C1, F1⟩ := q1
  have e1 := kq_si e1
  have R1 := hR.ge F1
  refine ks_aload_n (n := 698) S dL_law_697 rfl rfl ?_
  refine ks_aload_n (n := 699) S dL_law_698 rfl rfl ?_
  refine ks_iload_n (n := 700) S dL_law_699 rfl rfl ?_
  refine ks_iconst (n := 701) S dL_law_700 rfl (by unfold iv; decide) ?_
  refine ks_iadd (n := 702) S dL_law_701 rfl (by omega) ?_
  refine hld 702 703 _ _ _ _ dL_law_702 rfl (by omega) ?_
  refine ks_aload_n (n := 704) S dL_law_703 rfl rfl ?_
  refine ks_iload_n (n := 705) S dL_law_704 rfl rfl ?_
  refine ks_iconst (n := 706) S dL_law_705 rfl (by unfold iv; decide) ?_
  refine ks_iadd (n := 707) S dL_law_706 rfl (by omega) ?_
  refine hld 707 708 _ _ _ _ dL_law_707 rfl (by omega) ?_
  refine ks_v2i (n := 711) S dL_law_708 rfl ml_L_80 ym_X5_fewest (pr_fewest hM R1) (by decide) rfl (Nat.le_of_ble_eq_true rfl) (fun r2 τ2 q2 => ?_)
  obtain ⟨e2, R2, F2⟩ := q2
  have e2 := kq_si e2
  have C2 := C1.lt F2
  refine ks_icmp_eq (n := 714) (tgt := 1410) S dL_law_711 rfl rfl (fun h9 => ?_) (fun h9 => ?_)
  · exact hG τ2 _ (ok_fewest hM) C2 R2
  · exact absurd (e1.trans e2.symm) h9
theorem lc_16 (S : Sem l code RL (some .boolean) 9 334 LwQ K) (hld : LwL K X len) (hi : 0 ≤ i ∧ i + 6 ≤ len ∧ len ≤ 3072) (hM : OkM M) (hC : RC σ M) (hR : RR σ M) (hG : LwG K i) : K 716 [some (kr 48), some (kr 0), some (kr 38), some (ki i)] [] σ := by
  refine ks_aload_n (n := 717) S dL_law_716 rfl rfl ?_
  refine ks_aload_n (n := 718) S dL_law_717 rfl rfl ?_
  refine ks_iload_n (n := 719) S dL_law_718 rfl rfl ?_
  refine ks_iconst (n := 720) S dL_law_719 rfl (by unfold iv; decide) ?_
  refine ks_iadd (n := 721) S dL_law_720 rfl (by omega) ?_
  refine hld 721 722 _ _ _ _ dL_law_721 rfl (by omega) ?_
  refine ks_v1i (n := 725) S dL_law_722 rfl ml_L_81 ym_X4_near (pc_near hM hC) (by decide) rfl (Nat.le_of_ble_eq_true rfl) (fun r1 τ1 q1 => ?_)
  obtain ⟨e1, C1, F1⟩ := q1
  have e1 := kq_si e1
  have R1 := hR.ge F1
  refine ks_aload_n (n := 726) S dL_law_725 rfl rfl ?_
  refine ks_aload_n (n := 727) S dL_law_726 rfl rfl ?_
  refine ks_iload_n (n := 728) S dL_law_727 rfl rfl ?_
  refine ks_iconst (n := 729) S dL_law_728 rfl (by unfold iv; decide) ?_
  refine ks_iadd (n := 730) S dL_law_729 rfl (by omega) ?_
  refine hld 730 731 _ _ _ _ dL_law_730 rfl (by omega) ?_
  refine ks_v1i (n := 734) S dL_law_731 rfl ml_L_84 ym_X5_near (pr_near hM R1) (by decide) rfl (Nat.le_of_ble_eq_true rfl) (fun r2 τ2 q2 => ?_)
  obtain ⟨e2, R2, F2⟩ := q2
  have e2 := kq_si e2
  have C2 := C1.lt F2
  refine ks_icmp_eq (n := 737) (tgt := 1410) S dL_law_734 rfl rfl (fun h9 => ?_) (fun h9 => ?_)
  · exact hG τ2 _ (ok_near hM) C2 R2
  · exact absurd (e1.trans e2.symm) h9
theorem lc_17 (S : Sem l code RL (some .boolean) 9 334 LwQ K) (hld : LwL K X len) (hi : 0 ≤ i ∧ i + 6 ≤ len ∧ len ≤ 3072) (hM : OkM M) (hC : RC σ M) (hR : RR σ M) (hG : LwG K i) : K 739 [some (kr 48), some (kr 0), some (kr 38), some (ki i)] [] σ := by
  refine ks_aload_n (n := 740) S dL_law_739 rfl rfl ?_
  refine ks_v0i (n := 743) S dL_law_740 rfl ml_L_85 ym_X4_cutOff (pc_cutOff hM hC) (by decide) rfl (Nat.le_of_ble_eq_true rfl) (fun r1 τ1 q1 => ?_)
  obtain ⟨e1, C1, F1⟩ := q1
  have e1 := kq_si e1
  have R1 := hR.ge F1
  refine ks_aload_n (n := 744) S dL_law_743 rfl rfl ?_
  refine ks_v0i (n := 747) S dL_law_744 rfl ml_L_88 ym_X5_cutOff (pr_cutOff hM R1) (by decide) rfl (Nat.le_of_ble_eq_true rfl) (fun r2 τ2 q2 => ?_)
  obtain ⟨e2, R2, F2⟩ := q2
  have e2 := kq_si e2
  have C2 := C1.lt F2
  refine ks_icmp_eq (n := 750) (tgt := 1410) S dL_law_747 rfl rfl (fun h9 => ?_) (fun h9 => ?_)
  · exact hG τ2 _ (ok_cutOff hM) C2 R2
  · exact absurd (e1.trans e2.symm) h9
theorem lc_18 (S : Sem l code RL (some .boolean) 9 334 LwQ K) (hld : LwL K X len) (hi : 0 ≤ i ∧ i + 6 ≤ len ∧ len ≤ 3072) (hM : OkM M) (hC : RC σ M) (hR : RR σ M) (hG : LwG K i) : K 752 [some (kr 48), some (kr 0), some (kr 38), some (ki i)] [] σ := by
  refine ks_aload_n (n := 753) S dL_law_752 rfl rfl ?_
  refine ks_aload_n (n := 754) S dL_law_753 rfl rfl ?_
  refine ks_iload_n (n := 755) S dL_law_754 rfl rfl ?_
  refine ks_iconst (n := 756) S dL_law_755 rfl (by unfold iv; decide) ?_
  refine ks_iadd (n := 757) S dL_law_756 rfl (by omega) ?_
  refine hld 757 758 _ _ _ _ dL_law_757 rfl (by omega) ?_
  refine ks_aload_n (n := 759) S dL_law_758 rfl rfl ?_
  refine ks_iload_n (n := 760) S dL_law_759 rfl rfl ?_
  refine ks_iconst (n := 761) S dL_law_760 rfl (by unfold iv; decide) ?_
  refine ks_iadd (n := 762) S dL_law_761 rfl (by omega) ?_
  refine hld 762 763 _ _ _ _ dL_law_762 rfl (by omega) ?_
  refine ks_v2i (n := 766) S dL_law_763 rfl ml_L_89 ym_X4_goes (pc_goes hM hC) (by decide) rfl (Nat.le_of_ble_eq_true rfl) (fun r1 τ1 q1 => ?_)
  obtain ⟨e1, C1, F1⟩ := q1
  have e1 := kq_si e1
  have R1 := hR.ge F1
  refine ks_aload_n (n := 767) S dL_law_766 rfl rfl ?_
  refine ks_aload_n (n := 768) S dL_law_767 rfl rfl ?_
  refine ks_iload_n (n := 769) S dL_law_768 rfl rfl ?_
  refine ks_iconst (n := 770) S dL_law_769 rfl (by unfold iv; decide) ?_
  refine ks_iadd (n := 771) S dL_law_770 rfl (by omega) ?_
  refine hld 771 772 _ _ _ _ dL_law_771 rfl (by omega) ?_
  refine ks_aload_n (n := 773) S dL_law_772 rfl rfl ?_
  refine ks_iload_n (n := 774) S dL_law_773 rfl rfl ?_
  refine ks_iconst (n := 775) S dL_law_774 rfl (by unfold iv; decide) ?_
  refine ks_iadd (n := 776) S dL_law_775 rfl (by omega) ?_
  refine hld 776 777 _ _ _ _ dL_law_776 rfl (by omega) ?_
  refine ks_v2i (n := 780) S dL_law_777 rfl ml_L_92 ym_X5_goes (pr_goes hM R1) (by decide) rfl (Nat.le_of_ble_eq_true rfl) (fun r2 τ2 q2 => ?_)
  obtain ⟨e2, R2, F2⟩ := q2
  have e2 := kq_si e2
  have C2 := C1.lt F2
  refine ks_icmp_eq (n := 783) (tgt := 1410) S dL_law_780 rfl rfl (fun h9 => ?_) (fun h9 => ?_)
  · exact hG τ2 _ (ok_goes hM) C2 R2
  · exact absurd (e1.trans e2.symm) h9
theorem lc_19 (S : Sem l code RL (some .boolean) 9 334 LwQ K) (hld : LwL K X len) (hi : 0 ≤ i ∧ i + 6 ≤ len ∧ len ≤ 3072) (hM : OkM M) (hC : RC σ M) (hR : RR σ M) (hG : LwG K i) : K 785 [some (kr 48), some (kr 0), some (kr 38), some (ki i)] [] σ := by
  refine ks_aload_n (n := 786) S dL_law_785 rfl rfl ?_
  refine ks_aload_n (n := 787) S dL_law_786 rfl rfl ?_
  refine ks_iload_n (n := 788) S dL_law_787 rfl rfl ?_
  refine ks_iconst (n := 789) S dL_law_788 rfl (by unfold iv; decide) ?_
  refine ks_iadd (n := 790) S dL_law_789 rfl (by omega) ?_
  refine hld 790 791 _ _ _ _ dL_law_790 rfl (by omega) ?_
  refine ks_aload_n (n := 792) S dL_law_791 rfl rfl ?_
  refine ks_iload_n (n := 793) S dL_law_792 rfl rfl ?_
  refine ks_iconst (n := 794) S dL_law_793 rfl (by unfold iv; decide) ?_
  refine ks_iadd (n := 795) S dL_law_794 rfl (by omega) ?_
  refine hld 795 796 _ _ _ _ dL_law_795 rfl (by omega) ?_
  refine ks_v2i (n := 799) S dL_law_796 rfl ml_L_93 ym_X4_air (pc_air hM hC) (by decide) rfl (Nat.le_of_ble_eq_true rfl) (fun r1 τ1 q1 => ?_)
  obtain ⟨e1, C1, F1⟩ := q1
  have e1 := kq_si e1
  have R1 := hR.ge F1
  refine ks_aload_n (n := 800) S dL_law_799 rfl rfl ?_
  refine ks_aload_n (n := 801) S dL_law_800 rfl rfl ?_
  refine ks_iload_n (n := 802) S dL_law_801 rfl rfl ?_
  refine ks_iconst (n := 803) S dL_law_802 rfl (by unfold iv; decide) ?_
  refine ks_iadd (n := 804) S dL_law_803 rfl (by omega) ?_
  refine hld 804 805 _ _ _ _ dL_law_804 rfl (by omega) ?_
  refine ks_aload_n (n := 806) S dL_law_805 rfl rfl ?_
  refine ks_iload_n (n := 807) S dL_law_806 rfl rfl ?_
  refine ks_iconst (n := 808) S dL_law_807 rfl (by unfold iv; decide) ?_
  refine ks_iadd (n := 809) S dL_law_808 rfl (by omega) ?_
  refine hld 809 810 _ _ _ _ dL_law_809 rfl (by omega) ?_
  refine ks_v2i (n := 813) S dL_law_810 rfl ml_L_96 ym_X5_air (pr_air hM R1) (by decide) rfl (Nat.le_of_ble_eq_true rfl) (fun r2 τ2 q2 => ?_)
  obtain ⟨e2, R2, F2⟩ := q2
  have e2 := kq_si e2
  have C2 := C1.lt F2
  refine ks_icmp_eq (n := 816) (tgt := 1410) S dL_law_813 rfl rfl (fun h9 => ?_) (fun h9 => ?_)
  · exact hG τ2 _ (ok_air hM) C2 R2
  · exact absurd (e1.trans e2.symm) h9
theorem lc_20 (S : Sem l code RL (some .boolean) 9 334 LwQ K) (hld : LwL K X len) (hi : 0 ≤ i ∧ i + 6 ≤ len ∧ len ≤ 3072) (hM : OkM M) (hC : RC σ M) (hR : RR σ M) (hG : LwG K i) : K 818 [some (kr 48), some (kr 0), some (kr 38), some (ki i)] [] σ := by
  refine ks_aload_n (n := 819) S dL_law_818 rfl rfl ?_
  refine ks_aload_n (n := 820) S dL_law_819 rfl rfl ?_
  refine ks_iload_n (n := 821) S dL_law_820 rfl rfl ?_
  refine ks_iconst (n := 822) S dL_law_821 rfl (by unfold iv; decide) ?_
  refine ks_iadd (n := 823) S dL_law_822 rfl (by omega) ?_
  refine hld 823 824 _ _ _ _ dL_law_823 rfl (by omega) ?_
  refine ks_aload_n (n := 825) S dL_law_824 rfl rfl ?_
  refine ks_iload_n (n := 826) S dL_law_825 rfl rfl ?_
  refine ks_iconst (n := 827) S dL_law_826 rfl (by unfold iv; decide) ?_
  refine ks_iadd (n := 828) S dL_law_827 rfl (by omega) ?_
  refine hld 828 829 _ _ _ _ dL_law_828 rfl (by omega) ?_
  refine ks_v2i (n := 832) S dL_law_829 rfl ml_L_97 ym_X4_shut (pc_shut hM hC) (by decide) rfl (Nat.le_of_ble_eq_true rfl) (fun r1 τ1 q1 => ?_)
  obtain ⟨e1, C1, F1⟩ := q1
  have e1 := kq_si e1
  have R1 := hR.ge F1
  refine ks_aload_n (n := 833) S dL_law_832 rfl rfl ?_
  refine ks_aload_n (n := 834) S dL_law_833 rfl rfl ?_
  refine ks_iload_n (n := 835) S dL_law_834 rfl rfl ?_
  refine ks_iconst (n := 836) S dL_law_835 rfl (by unfold iv; decide) ?_
  refine ks_iadd (n := 837) S dL_law_836 rfl (by omega) ?_
  refine hld 837 838 _ _ _ _ dL_law_837 rfl (by omega) ?_
  refine ks_aload_n (n := 839) S dL_law_838 rfl rfl ?_
  refine ks_iload_n (n := 840) S dL_law_839 rfl rfl ?_
  refine ks_iconst (n := 841) S dL_law_840 rfl (by unfold iv; decide) ?_
  refine ks_iadd (n := 842) S dL_law_841 rfl (by omega) ?_
  refine hld 842 843 _ _ _ _ dL_law_842 rfl (by omega) ?_
  refine ks_v2i (n := 846) S dL_law_843 rfl ml_L_100 ym_X5_shut (pr_shut hM R1) (by decide) rfl (Nat.le_of_ble_eq_true rfl) (fun r2 τ2 q2 => ?_)
  obtain ⟨e2, R2, F2⟩ := q2
  have e2 := kq_si e2
  have C2 := C1.lt F2
  refine ks_icmp_eq (n := 849) (tgt := 1410) S dL_law_846 rfl rfl (fun h9 => ?_) (fun h9 => ?_)
  · exact hG τ2 _ (ok_shut hM) C2 R2
  · exact absurd (e1.trans e2.symm) h9
theorem lc_21 (S : Sem l code RL (some .boolean) 9 334 LwQ K) (hld : LwL K X len) (hi : 0 ≤ i ∧ i + 6 ≤ len ∧ len ≤ 3072) (hM : OkM M) (hC : RC σ M) (hR : RR σ M) (hG : LwG K i) : K 851 [some (kr 48), some (kr 0), some (kr 38), some (ki i)] [] σ := by
  refine ks_aload_n (n := 852) S dL_law_851 rfl rfl ?_
  refine ks_aload_n (n := 853) S dL_law_852 rfl rfl ?_
  refine ks_iload_n (n := 854) S dL_law_853 rfl rfl ?_
  refine ks_iconst (n := 855) S dL_law_854 rfl (by unfold iv; decide) ?_
  refine ks_iadd (n := 856) S dL_law_855 rfl (by omega) ?_
  refine hld 856 857 _ _ _ _ dL_law_856 rfl (by omega) ?_
  refine ks_aload_n (n := 858) S dL_law_857 rfl rfl ?_
  refine ks_iload_n (n := 859) S dL_law_858 rfl rfl ?_
  refine ks_iconst (n := 860) S dL_law_859 rfl (by unfold iv; decide) ?_
  refine ks_iadd (n := 861) S dL_law_860 rfl (by omega) ?_
  refine hld 861 862 _ _ _ _ dL_law_861 rfl (by omega) ?_
  refine ks_aload_n (n := 863) S dL_law_862 rfl rfl ?_
  refine ks_iload_n (n := 864) S dL_law_863 rfl rfl ?_
  refine ks_iconst (n := 865) S dL_law_864 rfl (by unfold iv; decide) ?_
  refine ks_iadd (n := 866) S dL_law_865 rfl (by omega) ?_
  refine hld 866 867 _ _ _ _ dL_law_866 rfl (by omega) ?_
  refine ks_v3i (n := 870) S dL_law_867 rfl ml_L_101 ym_X4_pause (pc_pause hM hC) (by decide) rfl (Nat.le_of_ble_eq_true rfl) (fun r1 τ1 q1 => ?_)
  obtain ⟨e1, C1, F1⟩ := q1
  have e1 := kq_si e1
  have R1 := hR.ge F1
  refine ks_aload_n (n := 871) S dL_law_870 rfl rfl ?_
  refine ks_aload_n (n := 872) S dL_law_871 rfl rfl ?_
  refine ks_iload_n (n := 873) S dL_law_872 rfl rfl ?_
  refine ks_iconst (n := 874) S dL_law_873 rfl (by unfold iv; decide) ?_
  refine ks_iadd (n := 875) S dL_law_874 rfl (by omega) ?_
  refine hld 875 876 _ _ _ _ dL_law_875 rfl (by omega) ?_
  refine ks_aload_n (n := 877) S dL_law_876 rfl rfl ?_
  refine ks_iload_n (n := 878) S dL_law_877 rfl rfl ?_
  refine ks_iconst (n := 879) S dL_law_878 rfl (by unfold iv; decide) ?_
  refine ks_iadd (n := 880) S dL_law_879 rfl (by omega) ?_
  refine hld 880 881 _ _ _ _ dL_law_880 rfl (by omega) ?_
  refine ks_aload_n (n := 882) S dL_law_881 rfl rfl ?_
  refine ks_iload_n (n := 883) S dL_law_882 rfl rfl ?_
  refine ks_iconst (n := 884) S dL_law_883 rfl (by unfold iv; decide) ?_
  refine ks_iadd (n := 885) S dL_law_884 rfl (by omega) ?_
  refine hld 885 886 _ _ _ _ dL_law_885 rfl (by omega) ?_
  refine ks_v3i (n := 889) S dL_law_886 rfl ml_L_104 ym_X5_pause (pr_pause hM R1) (by decide) rfl (Nat.le_of_ble_eq_true rfl) (fun r2 τ2 q2 => ?_)
  obtain ⟨e2, R2, F2⟩ := q2
  have e2 := kq_si e2
  have C2 := C1.lt F2
  refine ks_icmp_eq (n := 892) (tgt := 1410) S dL_law_889 rfl rfl (fun h9 => ?_) (fun h9 => ?_)
  · exact hG τ2 _ (ok_pause hM) C2 R2
  · exact absurd (e1.trans e2.symm) h9
theorem lc_22 (S : Sem l code RL (some .boolean) 9 334 LwQ K) (hld : LwL K X len) (hi : 0 ≤ i ∧ i + 6 ≤ len ∧ len ≤ 3072) (hM : OkM M) (hC : RC σ M) (hR : RR σ M) (hG : LwG K i) : K 894 [some (kr 48), some (kr 0), some (kr 38), some (ki i)] [] σ := by
  refine ks_aload_n (n := 895) S dL_law_894 rfl rfl ?_
  refine ks_aload_n (n := 896) S dL_law_895 rfl rfl ?_
  refine ks_iload_n (n := 897) S dL_law_896 rfl rfl ?_
  refine ks_iconst (n := 898) S dL_law_897 rfl (by unfold iv; decide) ?_
  refine ks_iadd (n := 899) S dL_law_898 rfl (by omega) ?_
  refine hld 899 900 _ _ _ _ dL_law_899 rfl (by omega) ?_
  refine ks_aload_n (n := 901) S dL_law_900 rfl rfl ?_
  refine ks_iload_n (n := 902) S dL_law_901 rfl rfl ?_
  refine ks_iconst (n := 903) S dL_law_902 rfl (by unfold iv; decide) ?_
  refine ks_iadd (n := 904) S dL_law_903 rfl (by omega) ?_
  refine hld 904 905 _ _ _ _ dL_law_904 rfl (by omega) ?_
  refine ks_v2i (n := 908) S dL_law_905 rfl ml_L_105 ym_X4_walk (pc_walk hM hC) (by decide) rfl (Nat.le_of_ble_eq_true rfl) (fun r1 τ1 q1 => ?_)
  obtain ⟨e1, C1, F1⟩ := q1
  have e1 := kq_si e1
  have R1 := hR.ge F1
  refine ks_aload_n (n := 909) S dL_law_908 rfl rfl ?_
  refine ks_aload_n (n := 910) S dL_law_909 rfl rfl ?_
  refine ks_iload_n (n := 911) S dL_law_910 rfl rfl ?_
  refine ks_iconst (n := 912) S dL_law_911 rfl (by unfold iv; decide) ?_
  refine ks_iadd (n := 913) S dL_law_912 rfl (by omega) ?_
  refine hld 913 914 _ _ _ _ dL_law_913 rfl (by omega) ?_
  refine ks_aload_n (n := 915) S dL_law_914 rfl rfl ?_
  refine ks_iload_n (n := 916) S dL_law_915 rfl rfl ?_
  refine ks_iconst (n := 917) S dL_law_916 rfl (by unfold iv; decide) ?_
  refine ks_iadd (n := 918) S dL_law_917 rfl (by omega) ?_
  refine hld 918 919 _ _ _ _ dL_law_918 rfl (by omega) ?_
  refine ks_v2i (n := 922) S dL_law_919 rfl ml_L_108 ym_X5_walk (pr_walk hM R1) (by decide) rfl (Nat.le_of_ble_eq_true rfl) (fun r2 τ2 q2 => ?_)
  obtain ⟨e2, R2, F2⟩ := q2
  have e2 := kq_si e2
  have C2 := C1.lt F2
  refine ks_icmp_eq (n := 925) (tgt := 1410) S dL_law_922 rfl rfl (fun h9 => ?_) (fun h9 => ?_)
  · exact hG τ2 _ (ok_walk hM) C2 R2
  · exact absurd (e1.trans e2.symm) h9
theorem lc_23 (S : Sem l code RL (some .boolean) 9 334 LwQ K) (hld : LwL K X len) (hi : 0 ≤ i ∧ i + 6 ≤ len ∧ len ≤ 3072) (hM : OkM M) (hC : RC σ M) (hR : RR σ M) (hG : LwG K i) : K 927 [some (kr 48), some (kr 0), some (kr 38), some (ki i)] [] σ := by
  refine ks_aload_n (n := 928) S dL_law_927 rfl rfl ?_
  refine ks_aload_n (n := 929) S dL_law_928 rfl rfl ?_
  refine ks_iload_n (n := 930) S dL_law_929 rfl rfl ?_
  refine ks_iconst (n := 931) S dL_law_930 rfl (by unfold iv; decide) ?_
  refine ks_iadd (n := 932) S dL_law_931 rfl (by omega) ?_
  refine hld 932 933 _ _ _ _ dL_law_932 rfl (by omega) ?_
  refine ks_aload_n (n := 934) S dL_law_933 rfl rfl ?_
  refine ks_iload_n (n := 935) S dL_law_934 rfl rfl ?_
  refine ks_iconst (n := 936) S dL_law_935 rfl (by unfold iv; decide) ?_
  refine ks_iadd (n := 937) S dL_law_936 rfl (by omega) ?_
  refine hld 937 938 _ _ _ _ dL_law_937 rfl (by omega) ?_
  refine ks_aload_n (n := 939) S dL_law_938 rfl rfl ?_
  refine ks_iload_n (n := 940) S dL_law_939 rfl rfl ?_
  refine ks_iconst (n := 941) S dL_law_940 rfl (by unfold iv; decide) ?_
  refine ks_iadd (n := 942) S dL_law_941 rfl (by omega) ?_
  refine hld 942 943 _ _ _ _ dL_law_942 rfl (by omega) ?_
  refine ks_v3i (n := 946) S dL_law_943 rfl ml_L_109 ym_X4_order (pc_order hM hC) (by decide) rfl (Nat.le_of_ble_eq_true rfl) (fun r1 τ1 q1 => ?_)
  obtain ⟨e1, C1, F1⟩ := q1
  have e1 := kq_si e1
  have R1 := hR.ge F1
  refine ks_aload_n (n := 947) S dL_law_946 rfl rfl ?_
  refine ks_aload_n (n := 948) S dL_law_947 rfl rfl ?_
  refine ks_iload_n (n := 949) S dL_law_948 rfl rfl ?_
  refine ks_iconst (n := 950) S dL_law_949 rfl (by unfold iv; decide) ?_
  refine ks_iadd (n := 951) S dL_law_950 rfl (by omega) ?_
  refine hld 951 952 _ _ _ _ dL_law_951 rfl (by omega) ?_
  refine ks_aload_n (n := 953) S dL_law_952 rfl rfl ?_
  refine ks_iload_n (n := 954) S dL_law_953 rfl rfl ?_
  refine ks_iconst (n := 955) S dL_law_954 rfl (by unfold iv; decide) ?_
  refine ks_iadd (n := 956) S dL_law_955 rfl (by omega) ?_
  refine hld 956 957 _ _ _ _ dL_law_956 rfl (by omega) ?_
  refine ks_aload_n (n := 958) S dL_law_957 rfl rfl ?_
  refine ks_iload_n (n := 959) S dL_law_958 rfl rfl ?_
  refine ks_iconst (n := 960) S dL_law_959 rfl (by unfold iv; decide) ?_
  refine ks_iadd (n := 961) S dL_law_960 rfl (by omega) ?_
  refine hld 961 962 _ _ _ _ dL_law_961 rfl (by omega) ?_
  refine ks_v3i (n := 965) S dL_law_962 rfl ml_L_112 ym_X5_order (pr_order hM R1) (by decide) rfl (Nat.le_of_ble_eq_true rfl) (fun r2 τ2 q2 => ?_)
  obtain ⟨e2, R2, F2⟩ := q2
  have e2 := kq_si e2
  have C2 := C1.lt F2
  refine ks_icmp_eq (n := 968) (tgt := 1410) S dL_law_965 rfl rfl (fun h9 => ?_) (fun h9 => ?_)
  · exact hG τ2 _ (ok_order hM) C2 R2
  · exact absurd (e1.trans e2.symm) h9
theorem lc_24 (S : Sem l code RL (some .boolean) 9 334 LwQ K) (hld : LwL K X len) (hi : 0 ≤ i ∧ i + 6 ≤ len ∧ len ≤ 3072) (hM : OkM M) (hC : RC σ M) (hR : RR σ M) (hG : LwG K i) : K 970 [some (kr 48), some (kr 0), some (kr 38), some (ki i)] [] σ := by
  refine ks_aload_n (n := 971) S dL_law_970 rfl rfl ?_
  refine ks_aload_n (n := 972) S dL_law_971 rfl rfl ?_
  refine ks_iload_n (n := 973) S dL_law_972 rfl rfl ?_
  refine ks_iconst (n := 974) S dL_law_973 rfl (by unfold iv; decide) ?_
  refine ks_iadd (n := 975) S dL_law_974 rfl (by omega) ?_
  refine hld 975 976 _ _ _ _ dL_law_975 rfl (by omega) ?_
  refine ks_aload_n (n := 977) S dL_law_976 rfl rfl ?_
  refine ks_iload_n (n := 978) S dL_law_977 rfl rfl ?_
  refine ks_iconst (n := 979) S dL_law_978 rfl (by unfold iv; decide) ?_
  refine ks_iadd (n := 980) S dL_law_979 rfl (by omega) ?_
  refine hld 980 981 _ _ _ _ dL_law_980 rfl (by omega) ?_
  refine ks_aload_n (n := 982) S dL_law_981 rfl rfl ?_
  refine ks_iload_n (n := 983) S dL_law_982 rfl rfl ?_
  refine ks_iconst (n := 984) S dL_law_983 rfl (by unfold iv; decide) ?_
  refine ks_iadd (n := 985) S dL_law_984 rfl (by omega) ?_
  refine hld 985 986 _ _ _ _ dL_law_985 rfl (by omega) ?_
  refine ks_v3i (n := 989) S dL_law_986 rfl ml_L_113 ym_X4_echo (pc_echo hM hC) (by decide) rfl (Nat.le_of_ble_eq_true rfl) (fun r1 τ1 q1 => ?_)
  obtain ⟨e1, C1, F1⟩ := q1
  have e1 := kq_si e1
  have R1 := hR.ge F1
  refine ks_aload_n (n := 990) S dL_law_989 rfl rfl ?_
  refine ks_aload_n (n := 991) S dL_law_990 rfl rfl ?_
  refine ks_iload_n (n := 992) S dL_law_991 rfl rfl ?_
  refine ks_iconst (n := 993) S dL_law_992 rfl (by unfold iv; decide) ?_
  refine ks_iadd (n := 994) S dL_law_993 rfl (by omega) ?_
  refine hld 994 995 _ _ _ _ dL_law_994 rfl (by omega) ?_
  refine ks_aload_n (n := 996) S dL_law_995 rfl rfl ?_
  refine ks_iload_n (n := 997) S dL_law_996 rfl rfl ?_
  refine ks_iconst (n := 998) S dL_law_997 rfl (by unfold iv; decide) ?_
  refine ks_iadd (n := 999) S dL_law_998 rfl (by omega) ?_
  refine hld 999 1000 _ _ _ _ dL_law_999 rfl (by omega) ?_
  refine ks_aload_n (n := 1001) S dL_law_1000 rfl rfl ?_
  refine ks_iload_n (n := 1002) S dL_law_1001 rfl rfl ?_
  refine ks_iconst (n := 1003) S dL_law_1002 rfl (by unfold iv; decide) ?_
  refine ks_iadd (n := 1004) S dL_law_1003 rfl (by omega) ?_
  refine hld 1004 1005 _ _ _ _ dL_law_1004 rfl (by omega) ?_
  refine ks_v3i (n := 1008) S dL_law_1005 rfl ml_L_116 ym_X5_echo (pr_echo hM R1) (by decide) rfl (Nat.le_of_ble_eq_true rfl) (fun r2 τ2 q2 => ?_)
  obtain ⟨e2, R2, F2⟩ := q2
  have e2 := kq_si e2
  have C2 := C1.lt F2
  refine ks_icmp_eq (n := 1011) (tgt := 1410) S dL_law_1008 rfl rfl (fun h9 => ?_) (fun h9 => ?_)
  · exact hG τ2 _ (ok_echo hM) C2 R2
  · exact absurd (e1.trans e2.symm) h9
theorem lc_25 (S : Sem l code RL (some .boolean) 9 334 LwQ K) (hld : LwL K X len) (hi : 0 ≤ i ∧ i + 6 ≤ len ∧ len ≤ 3072) (hM : OkM M) (hC : RC σ M) (hR : RR σ M) (hG : LwG K i) : K 1013 [some (kr 48), some (kr 0), some (kr 38), some (ki i)] [] σ := by
  refine ks_aload_n (n := 1014) S dL_law_1013 rfl rfl ?_
  refine ks_aload_n (n := 1015) S dL_law_1014 rfl rfl ?_
  refine ks_iload_n (n := 1016) S dL_law_1015 rfl rfl ?_
  refine ks_iconst (n := 1017) S dL_law_1016 rfl (by unfold iv; decide) ?_
  refine ks_iadd (n := 1018) S dL_law_1017 rfl (by omega) ?_
  refine hld 1018 1019 _ _ _ _ dL_law_1018 rfl (by omega) ?_
  refine ks_v1i (n := 1022) S dL_law_1019 rfl ml_L_117 ym_X4_voices (pc_voices hM hC) (by decide) rfl (Nat.le_of_ble_eq_true rfl) (fun r1 τ1 q1 => ?_)
  obtain ⟨e1, C1, F1⟩ := q1
  have e1 := kq_si e1
  have R1 := hR.ge F1
  refine ks_aload_n (n := 1023) S dL_law_1022 rfl rfl ?_
  refine ks_aload_n (n := 1024) S dL_law_1023 rfl rfl ?_
  refine ks_iload_n (n := 1025) S dL_law_1024 rfl rfl ?_
  refine ks_iconst (n := 1026) S dL_law_1025 rfl (by unfold iv; decide) ?_
  refine ks_iadd (n := 1027) S dL_law_1026 rfl (by omega) ?_
  refine hld 1027 1028 _ _ _ _ dL_law_1027 rfl (by omega) ?_
  refine ks_v1i (n := 1031) S dL_law_1028 rfl ml_L_120 ym_X5_voices (pr_voices hM R1) (by decide) rfl (Nat.le_of_ble_eq_true rfl) (fun r2 τ2 q2 => ?_)
  obtain ⟨e2, R2, F2⟩ := q2
  have e2 := kq_si e2
  have C2 := C1.lt F2
  refine ks_icmp_eq (n := 1034) (tgt := 1410) S dL_law_1031 rfl rfl (fun h9 => ?_) (fun h9 => ?_)
  · exact hG τ2 _ (ok_voices hM) C2 R2
  · exact absurd (e1.trans e2.symm) h9
theorem lc_26 (S : Sem l code RL (some .boolean) 9 334 LwQ K) (hld : LwL K X len) (hi : 0 ≤ i ∧ i + 6 ≤ len ∧ len ≤ 3072) (hM : OkM M) (hC : RC σ M) (hR : RR σ M) (hG : LwG K i) : K 1036 [some (kr 48), some (kr 0), some (kr 38), some (ki i)] [] σ := by
  refine ks_aload_n (n := 1037) S dL_law_1036 rfl rfl ?_
  refine ks_aload_n (n := 1038) S dL_law_1037 rfl rfl ?_
  refine ks_iload_n (n := 1039) S dL_law_1038 rfl rfl ?_
  refine ks_iconst (n := 1040) S dL_law_1039 rfl (by unfold iv; decide) ?_
  refine ks_iadd (n := 1041) S dL_law_1040 rfl (by omega) ?_
  refine hld 1041 1042 _ _ _ _ dL_law_1041 rfl (by omega) ?_
  refine ks_v1i (n := 1045) S dL_law_1042 rfl ml_L_121 ym_X4_heard (pc_heard hM hC) (by decide) rfl (Nat.le_of_ble_eq_true rfl) (fun r1 τ1 q1 => ?_)
  obtain ⟨e1, C1, F1⟩ := q1
  have e1 := kq_si e1
  have R1 := hR.ge F1
  refine ks_aload_n (n := 1046) S dL_law_1045 rfl rfl ?_
  refine ks_aload_n (n := 1047) S dL_law_1046 rfl rfl ?_
  refine ks_iload_n (n := 1048) S dL_law_1047 rfl rfl ?_
  refine ks_iconst (n := 1049) S dL_law_1048 rfl (by unfold iv; decide) ?_
  refine ks_iadd (n := 1050) S dL_law_1049 rfl (by omega) ?_
  refine hld 1050 1051 _ _ _ _ dL_law_1050 rfl (by omega) ?_
  refine ks_v1i (n := 1054) S dL_law_1051 rfl ml_L_124 ym_X5_heard (pr_heard hM R1) (by decide) rfl (Nat.le_of_ble_eq_true rfl) (fun r2 τ2 q2 => ?_)
  obtain ⟨e2, R2, F2⟩ := q2
  have e2 := kq_si e2
  have C2 := C1.lt F2
  refine ks_icmp_eq (n := 1057) (tgt := 1410) S dL_law_1054 rfl rfl (fun h9 => ?_) (fun h9 => ?_)
  · exact hG τ2 _ (ok_heard hM) C2 R2
  · exact absurd (e1.trans e2.symm) h9
theorem lc_27 (S : Sem l code RL (some .boolean) 9 334 LwQ K) (hld : LwL K X len) (hi : 0 ≤ i ∧ i + 6 ≤ len ∧ len ≤ 3072) (hM : OkM M) (hC : RC σ M) (hR : RR σ M) (hG : LwG K i) : K 1059 [some (kr 48), some (kr 0), some (kr 38), some (ki i)] [] σ := by
  refine ks_aload_n (n := 1060) S dL_law_1059 rfl rfl ?_
  refine ks_aload_n (n := 1061) S dL_law_1060 rfl rfl ?_
  refine ks_iload_n (n := 1062) S dL_law_1061 rfl rfl ?_
  refine ks_iconst (n := 1063) S dL_law_1062 rfl (by unfold iv; decide) ?_
  refine ks_iadd (n := 1064) S dL_law_1063 rfl (by omega) ?_
  refine hld 1064 1065 _ _ _ _ dL_law_1064 rfl (by omega) ?_
  refine ks_v1i (n := 1068) S dL_law_1065 rfl ml_L_125 ym_X4_meet (pc_meet hM hC) (by decide) rfl (Nat.le_of_ble_eq_true rfl) (fun r1 τ1 q1 => ?_)
  obtain ⟨e1, C1, F1⟩ := q1
  have e1 := kq_si e1
  have R1 := hR.ge F1
  refine ks_aload_n (n := 1069) S dL_law_1068 rfl rfl ?_
  refine ks_aload_n (n := 1070) S dL_law_1069 rfl rfl ?_
  refine ks_iload_n (n := 1071) S dL_law_1070 rfl rfl ?_
  refine ks_iconst (n := 1072) S dL_law_1071 rfl (by unfold iv; decide) ?_
  refine ks_iadd (n := 1073) S dL_law_1072 rfl (by omega) ?_
  refine hld 1073 1074 _ _ _ _ dL_law_1073 rfl (by omega) ?_
  refine ks_v1i (n := 1077) S dL_law_1074 rfl ml_L_128 ym_X5_meet (pr_meet hM R1) (by decide) rfl (Nat.le_of_ble_eq_true rfl) (fun r2 τ2 q2 => ?_)
  obtain ⟨e2, R2, F2⟩ := q2
  have e2 := kq_si e2
  have C2 := C1.lt F2
  refine ks_icmp_eq (n := 1080) (tgt := 1410) S dL_law_1077 rfl rfl (fun h9 => ?_) (fun h9 => ?_)
  · exact hG τ2 _ (ok_meet hM) C2 R2
  · exact absurd (e1.trans e2.symm) h9
theorem lc_28 (S : Sem l code RL (some .boolean) 9 334 LwQ K) (hld : LwL K X len) (hi : 0 ≤ i ∧ i + 6 ≤ len ∧ len ≤ 3072) (hM : OkM M) (hC : RC σ M) (hR : RR σ M) (hG : LwG K i) : K 1082 [some (kr 48), some (kr 0), some (kr 38), some (ki i)] [] σ := by
  refine ks_aload_n (n := 1083) S dL_law_1082 rfl rfl ?_
  refine ks_aload_n (n := 1084) S dL_law_1083 rfl rfl ?_
  refine ks_iload_n (n := 1085) S dL_law_1084 rfl rfl ?_
  refine ks_iconst (n := 1086) S dL_law_1085 rfl (by unfold iv; decide) ?_
  refine ks_iadd (n := 1087) S dL_law_1086 rfl (by omega) ?_
  refine hld 1087 1088 _ _ _ _ dL_law_1087 rfl (by omega) ?_
  refine ks_aload_n (n := 1089) S dL_law_1088 rfl rfl ?_
  refine ks_iload_n (n := 1090) S dL_law_1089 rfl rfl ?_
  refine ks_iconst (n := 1091) S dL_law_1090 rfl (by unfold iv; decide) ?_
  refine ks_iadd (n := 1092) S dL_law_1091 rfl (by omega) ?_
  refine hld 1092 1093 _ _ _ _ dL_law_1092 rfl (by omega) ?_
  refine ks_aload_n (n := 1094) S dL_law_1093 rfl rfl ?_
  refine ks_iload_n (n := 1095) S dL_law_1094 rfl rfl ?_
  refine ks_iconst (n := 1096) S dL_law_1095 rfl (by unfold iv; decide) ?_
  refine ks_iadd (n := 1097) S dL_law_1096 rfl (by omega) ?_
  refine hld 1097 1098 _ _ _ _ dL_law_1097 rfl (by omega) ?_
  refine ks_v3i (n := 1101) S dL_law_1098 rfl ml_L_129 ym_X4_two (pc_two hM hC) (by decide) rfl (Nat.le_of_ble_eq_true rfl) (fun r1 τ1 q1 => ?_)
  obtain ⟨e1, C1, F1⟩ := q1
  have e1 := kq_si e1
  have R1 := hR.ge F1
  refine ks_aload_n (n := 1102) S dL_law_1101 rfl rfl ?_
  refine ks_aload_n (n := 1103) S dL_law_1102 rfl rfl ?_
  refine ks_iload_n (n := 1104) S dL_law_1103 rfl rfl ?_
  refine ks_iconst (n := 1105) S dL_law_1104 rfl (by unfold iv; decide) ?_
  refine ks_iadd (n := 1106) S dL_law_1105 rfl (by omega) ?_
  refine hld 1106 1107 _ _ _ _ dL_law_1106 rfl (by omega) ?_
  refine ks_aload_n (n := 1108) S dL_law_1107 rfl rfl ?_
  refine ks_iload_n (n := 1109) S dL_law_1108 rfl rfl ?_
  refine ks_iconst (n := 1110) S dL_law_1109 rfl (by unfold iv; decide) ?_
  refine ks_iadd (n := 1111) S dL_law_1110 rfl (by omega) ?_
  refine hld 1111 1112 _ _ _ _ dL_law_1111 rfl (by omega) ?_
  refine ks_aload_n (n := 1113) S dL_law_1112 rfl rfl ?_
  refine ks_iload_n (n := 1114) S dL_law_1113 rfl rfl ?_
  refine ks_iconst (n := 1115) S dL_law_1114 rfl (by unfold iv; decide) ?_
  refine ks_iadd (n := 1116) S dL_law_1115 rfl (by omega) ?_
  refine hld 1116 1117 _ _ _ _ dL_law_1116 rfl (by omega) ?_
  refine ks_v3i (n := 1120) S dL_law_1117 rfl ml_L_132 ym_X5_two (pr_two hM R1) (by decide) rfl (Nat.le_of_ble_eq_true rfl) (fun r2 τ2 q2 => ?_)
  obtain ⟨e2, R2, F2⟩ := q2
  have e2 := kq_si e2
  have C2 := C1.lt F2
  refine ks_icmp_eq (n := 1123) (tgt := 1410) S dL_law_1120 rfl rfl (fun h9 => ?_) (fun h9 => ?_)
  · exact hG τ2 _ (ok_two hM) C2 R2
  · exact absurd (e1.trans e2.symm) h9
theorem lc_29 (S : Sem l code RL (some .boolean) 9 334 LwQ K) (hld : LwL K X len) (hi : 0 ≤ i ∧ i + 6 ≤ len ∧ len ≤ 3072) (hM : OkM M) (hC : RC σ M) (hR : RR σ M) (hG : LwG K i) : K 1125 [some (kr 48), some (kr 0), some (kr 38), some (ki i)] [] σ := by
  refine ks_aload_n (n := 1126) S dL_law_1125 rfl rfl ?_
  refine ks_aload_n (n := 1127) S dL_law_1126 rfl rfl ?_
  refine ks_iload_n (n := 1128) S dL_law_1127 rfl rfl ?_
  refine ks_iconst (n := 1129) S dL_law_1128 rfl (by unfold iv; decide) ?_
  refine ks_iadd (n := 1130) S dL_law_1129 rfl (by omega) ?_
  refine hld 1130 1131 _ _ _ _ dL_law_1130 rfl (by omega) ?_
  refine ks_aload_n (n := 1132) S dL_law_1131 rfl rfl ?_
  refine ks_iload_n (n := 1133) S dL_law_1132 rfl rfl ?_
  refine ks_iconst (n := 1134) S dL_law_1133 rfl (by unfold iv; decide) ?_
  refine ks_iadd (n := 1135) S dL_law_1134 rfl (by omega) ?_
  refine hld 1135 1136 _ _ _ _ dL_law_1135 rfl (by omega) ?_
  refine ks_aload_n (n := 1137) S dL_law_1136 rfl rfl ?_
  refine ks_iload_n (n := 1138) S dL_law_1137 rfl rfl ?_
  refine ks_iconst (n := 1139) S dL_law_1138 rfl (by unfold iv; decide) ?_
  refine ks_iadd (n := 1140) S dL_law_1139 rfl (by omega) ?_
  refine hld 1140 1141 _ _ _ _ dL_law_1140 rfl (by omega) ?_
  refine ks_aload_n (n := 1142) S dL_law_1141 rfl rfl ?_
  refine ks_iload_n (n := 1143) S dL_law_1142 rfl rfl ?_
  refine ks_iconst (n := 1144) S dL_law_1143 rfl (by unfold iv; decide) ?_
  refine ks_iadd (n := 1145) S dL_law_1144 rfl (by omega) ?_
  refine hld 1145 1146 _ _ _ _ dL_law_1145 rfl (by omega) ?_
  refine ks_aload_n (n := 1147) S dL_law_1146 rfl rfl ?_
  refine ks_iload_n (n := 1148) S dL_law_1147 rfl rfl ?_
  refine ks_iconst (n := 1149) S dL_law_1148 rfl (by unfold iv; decide) ?_
  refine ks_iadd (n := 1150) S dL_law_1149 rfl (by omega) ?_
  refine hld 1150 1151 _ _ _ _ dL_law_1150 rfl (by omega) ?_
  refine ks_v5j (n := 1154) S dL_law_1151 rfl ml_L_133 ym_X4_draught (pc_draught hM hC) (by decide) rfl (Nat.le_of_ble_eq_true rfl) (fun r1 τ1 q1 => ?_)
  obtain ⟨e1, C1, F1⟩ := q1
  have e1 := kq_sj e1
  have R1 := hR.ge F1
  refine ks_aload_n (n := 1155) S dL_law_1154 rfl rfl ?_
  refine ks_aload_n (n := 1156) S dL_law_1155 rfl rfl ?_
  refine ks_iload_n (n := 1157) S dL_law_1156 rfl rfl ?_
  refine ks_iconst (n := 1158) S dL_law_1157 rfl (by unfold iv; decide) ?_
  refine ks_iadd (n := 1159) S dL_law_1158 rfl (by omega) ?_
  refine hld 1159 1160 _ _ _ _ dL_law_1159 rfl (by omega) ?_
  refine ks_aload_n (n := 1161) S dL_law_1160 rfl rfl ?_
  refine ks_iload_n (n := 1162) S dL_law_1161 rfl rfl ?_
  refine ks_iconst (n := 1163) S dL_law_1162 rfl (by unfold iv; decide) ?_
  refine ks_iadd (n := 1164) S dL_law_1163 rfl (by omega) ?_
  refine hld 1164 1165 _ _ _ _ dL_law_1164 rfl (by omega) ?_
  refine ks_aload_n (n := 1166) S dL_law_1165 rfl rfl ?_
  refine ks_iload_n (n := 1167) S dL_law_1166 rfl rfl ?_
  refine ks_iconst (n := 1168) S dL_law_1167 rfl (by unfold iv; decide) ?_
  refine ks_iadd (n := 1169) S dL_law_1168 rfl (by omega) ?_
  refine hld 1169 1170 _ _ _ _ dL_law_1169 rfl (by omega) ?_
  refine ks_aload_n (n := 1171) S dL_law_1170 rfl rfl ?_
  refine ks_iload_n (n := 1172) S dL_law_1171 rfl rfl ?_
  refine ks_iconst (n := 1173) S dL_law_1172 rfl (by unfold iv; decide) ?_
  refine ks_iadd (n := 1174) S dL_law_1173 rfl (by omega) ?_
  refine hld 1174 1175 _ _ _ _ dL_law_1174 rfl (by omega) ?_
  refine ks_aload_n (n := 1176) S dL_law_1175 rfl rfl ?_
  refine ks_iload_n (n := 1177) S dL_law_1176 rfl rfl ?_
  refine ks_iconst (n := 1178) S dL_law_1177 rfl (by unfold iv; decide) ?_
  refine ks_iadd (n := 1179) S dL_law_1178 rfl (by omega) ?_
  refine hld 1179 1180 _ _ _ _ dL_law_1179 rfl (by omega) ?_
  refine ks_v5j (n := 1183) S dL_law_1180 rfl ml_L_137 ym_X5_draught (pr_draught hM R1) (by decide) rfl (Nat.le_of_ble_eq_true rfl) (fun r2 τ2 q2 => ?_)
  obtain ⟨e2, R2, F2⟩ := q2
  have e2 := kq_sj e2
  have C2 := C1.lt F2
  refine ks_lcmp (n := 1184) S dL_law_1183 rfl ?_
  refine ks_if_eq (n := 1187) (tgt := 1410) S dL_law_1184 rfl rfl (fun h9 => ?_) (fun h9 => ?_)
  · exact hG τ2 _ (ok_draught hM) C2 R2
  · exact absurd (kq_cmp0 (e1.trans e2.symm)) h9
theorem lc_30 (S : Sem l code RL (some .boolean) 9 334 LwQ K) (hld : LwL K X len) (hi : 0 ≤ i ∧ i + 6 ≤ len ∧ len ≤ 3072) (hM : OkM M) (hC : RC σ M) (hR : RR σ M) (hG : LwG K i) : K 1189 [some (kr 48), some (kr 0), some (kr 38), some (ki i)] [] σ := by
  refine ks_aload_n (n := 1190) S dL_law_1189 rfl rfl ?_
  refine ks_aload_n (n := 1191) S dL_law_1190 rfl rfl ?_
  refine ks_iload_n (n := 1192) S dL_law_1191 rfl rfl ?_
  refine ks_iconst (n := 1193) S dL_law_1192 rfl (by unfold iv; decide) ?_
  refine ks_iadd (n := 1194) S dL_law_1193 rfl (by omega) ?_
  refine hld 1194 1195 _ _ _ _ dL_law_1194 rfl (by omega) ?_
  refine ks_v1j (n := 1198) S dL_law_1195 rfl ml_L_138 ym_X4_mean (pc_mean hM hC) (by decide) rfl (Nat.le_of_ble_eq_true rfl) (fun r1 τ1 q1 => ?_)
  obtain ⟨e1, C1, F1⟩ := q1
  have e1 := kq_sj e1
  have R1 := hR.ge F1
  refine ks_aload_n (n := 1199) S dL_law_1198 rfl rfl ?_
  refine ks_aload_n (n := 1200) S dL_law_1199 rfl rfl ?_
  refine ks_iload_n (n := 1201) S dL_law_1200 rfl rfl ?_
  refine ks_iconst (n := 1202) S dL_law_1201 rfl (by unfold iv; decide) ?_
  refine ks_iadd (n := 1203) S dL_law_1202 rfl (by omega) ?_
  refine hld 1203 1204 _ _ _ _ dL_law_1203 rfl (by omega) ?_
  refine ks_v1j (n := 1207) S dL_law_1204 rfl ml_L_142 ym_X5_mean (pr_mean hM R1) (by decide) rfl (Nat.le_of_ble_eq_true rfl) (fun r2 τ2 q2 => ?_)
  obtain ⟨e2, R2, F2⟩ := q2
  have e2 := kq_sj e2
  have C2 := C1.lt F2
  refine ks_lcmp (n := 1208) S dL_law_1207 rfl ?_
  refine ks_if_eq (n := 1211) (tgt := 1410) S dL_law_1208 rfl rfl (fun h9 => ?_) (fun h9 => ?_)
  · exact hG τ2 _ (ok_mean hM) C2 R2
  · exact absurd (kq_cmp0 (e1.trans e2.symm)) h9
theorem lc_31 (S : Sem l code RL (some .boolean) 9 334 LwQ K) (hld : LwL K X len) (hi : 0 ≤ i ∧ i + 6 ≤ len ∧ len ≤ 3072) (hM : OkM M) (hC : RC σ M) (hR : RR σ M) (hG : LwG K i) : K 1213 [some (kr 48), some (kr 0), some (kr 38), some (ki i)] [] σ := by
  refine ks_aload_n (n := 1214) S dL_law_1213 rfl rfl ?_
  refine ks_aload_n (n := 1215) S dL_law_1214 rfl rfl ?_
  refine ks_iload_n (n := 1216) S dL_law_1215 rfl rfl ?_
  refine ks_iconst (n := 1217) S dL_law_1216 rfl (by unfold iv; decide) ?_
  refine ks_iadd (n := 1218) S dL_law_1217 rfl (by omega) ?_
  refine hld 1218 1219 _ _ _ _ dL_law_1218 rfl (by omega) ?_
  refine ks_v1i (n := 1222) S dL_law_1219 rfl ml_L_143 ym_X4_who (pc_who hM hC) (by decide) rfl (Nat.le_of_ble_eq_true rfl) (fun r1 τ1 q1 => ?_)
  obtain ⟨e1, C1, F1⟩ := q1
  have e1 := kq_si e1
  have R1 := hR.ge F1
  refine ks_aload_n (n := 1223) S dL_law_1222 rfl rfl ?_
  refine ks_aload_n (n := 1224) S dL_law_1223 rfl rfl ?_
  refine ks_iload_n (n := 1225) S dL_law_1224 rfl rfl ?_
  refine ks_iconst (n := 1226) S dL_law_1225 rfl (by unfold iv; decide) ?_
  refine ks_iadd (n := 1227) S dL_law_1226 rfl (by omega) ?_
  refine hld 1227 1228 _ _ _ _ dL_law_1227 rfl (by omega) ?_
  refine ks_v1i (n := 1231) S dL_law_1228 rfl ml_L_146 ym_X5_who (pr_who hM R1) (by decide) rfl (Nat.le_of_ble_eq_true rfl) (fun r2 τ2 q2 => ?_)
  obtain ⟨e2, R2, F2⟩ := q2
  have e2 := kq_si e2
  have C2 := C1.lt F2
  refine ks_icmp_eq (n := 1234) (tgt := 1410) S dL_law_1231 rfl rfl (fun h9 => ?_) (fun h9 => ?_)
  · exact hG τ2 _ (ok_who hM) C2 R2
  · exact absurd (e1.trans e2.symm) h9
theorem lc_32 (S : Sem l code RL (some .boolean) 9 334 LwQ K) (hld : LwL K X len) (hi : 0 ≤ i ∧ i + 6 ≤ len ∧ len ≤ 3072) (hM : OkM M) (hC : RC σ M) (hR : RR σ M) (hG : LwG K i) : K 1236 [some (kr 48), some (kr 0), some (kr 38), some (ki i)] [] σ := by
  refine ks_aload_n (n := 1237) S dL_law_1236 rfl rfl ?_
  refine ks_aload_n (n := 1238) S dL_law_1237 rfl rfl ?_
  refine ks_iload_n (n := 1239) S dL_law_1238 rfl rfl ?_
  refine ks_iconst (n := 1240) S dL_law_1239 rfl (by unfold iv; decide) ?_
  refine ks_iadd (n := 1241) S dL_law_1240 rfl (by omega) ?_
  refine hld 1241 1242 _ _ _ _ dL_law_1241 rfl (by omega) ?_
  refine ks_aload_n (n := 1243) S dL_law_1242 rfl rfl ?_
  refine ks_iload_n (n := 1244) S dL_law_1243 rfl rfl ?_
  refine ks_iconst (n := 1245) S dL_law_1244 rfl (by unfold iv; decide) ?_
  refine ks_iadd (n := 1246) S dL_law_1245 rfl (by omega) ?_
  refine hld 1246 1247 _ _ _ _ dL_law_1246 rfl (by omega) ?_
  refine ks_v2i (n := 1250) S dL_law_1247 rfl ml_L_147 ym_X4_whatIs (pc_whatIs hM hC) (by decide) rfl (Nat.le_of_ble_eq_true rfl) (fun r1 τ1 q1 => ?_)
  obtain ⟨e1, C1, F1⟩ := q1
  have e1 := kq_si e1
  have R1 := hR.ge F1
  refine ks_aload_n (n := 1251) S dL_law_1250 rfl rfl ?_
  refine ks_aload_n (n := 1252) S dL_law_1251 rfl rfl ?_
  refine ks_iload_n (n := 1253) S dL_law_1252 rfl rfl ?_
  refine ks_iconst (n := 1254) S dL_law_1253 rfl (by unfold iv; decide) ?_
  refine ks_iadd (n := 1255) S dL_law_1254 rfl (by omega) ?_
  refine hld 1255 1256 _ _ _ _ dL_law_1255 rfl (by omega) ?_
  refine ks_aload_n (n := 1257) S dL_law_1256 rfl rfl ?_
  refine ks_iload_n (n := 1258) S dL_law_1257 rfl rfl ?_
  refine ks_iconst (n := 1259) S dL_law_1258 rfl (by unfold iv; decide) ?_
  refine ks_iadd (n := 1260) S dL_law_1259 rfl (by omega) ?_
  refine hld 1260 1261 _ _ _ _ dL_law_1260 rfl (by omega) ?_
  refine ks_v2i (n := 1264) S dL_law_1261 rfl ml_L_150 ym_X5_whatIs (pr_whatIs hM R1) (by decide) rfl (Nat.le_of_ble_eq_true rfl) (fun r2 τ2 q2 => ?_)
  obtain ⟨e2, R2, F2⟩ := q2
  have e2 := kq_si e2
  have C2 := C1.lt F2
  refine ks_icmp_eq (n := 1267) (tgt := 1410) S dL_law_1264 rfl rfl (fun h9 => ?_) (fun h9 => ?_)
  · exact hG τ2 _ (ok_whatIs hM) C2 R2
  · exact absurd (e1.trans e2.symm) h9
theorem lc_33 (S : Sem l code RL (some .boolean) 9 334 LwQ K) (hld : LwL K X len) (hi : 0 ≤ i ∧ i + 6 ≤ len ∧ len ≤ 3072) (hM : OkM M) (hC : RC σ M) (hR : RR σ M) (hG : LwG K i) : K 1269 [some (kr 48), some (kr 0), some (kr 38), some (ki i)] [] σ := by
  refine ks_aload_n (n := 1270) S dL_law_1269 rfl rfl ?_
  refine ks_aload_n (n := 1271) S dL_law_1270 rfl rfl ?_
  refine ks_iload_n (n := 1272) S dL_law_1271 rfl rfl ?_
  refine ks_iconst (n := 1273) S dL_law_1272 rfl (by unfold iv; decide) ?_
  refine ks_iadd (n := 1274) S dL_law_1273 rfl (by omega) ?_
  refine hld 1274 1275 _ _ _ _ dL_law_1274 rfl (by omega) ?_
  refine ks_v1i (n := 1278) S dL_law_1275 rfl ml_L_151 ym_X4_row (pc_row hM hC) (by decide) rfl (Nat.le_of_ble_eq_true rfl) (fun r1 τ1 q1 => ?_)
  obtain ⟨e1, C1, F1⟩ := q1
  have e1 := kq_si e1
  have R1 := hR.ge F1
  refine ks_aload_n (n := 1279) S dL_law_1278 rfl rfl ?_
  refine ks_aload_n (n := 1280) S dL_law_1279 rfl rfl ?_
  refine ks_iload_n (n := 1281) S dL_law_1280 rfl rfl ?_
  refine ks_iconst (n := 1282) S dL_law_1281 rfl (by unfold iv; decide) ?_
  refine ks_iadd (n := 1283) S dL_law_1282 rfl (by omega) ?_
  refine hld 1283 1284 _ _ _ _ dL_law_1283 rfl (by omega) ?_
  refine ks_v1i (n := 1287) S dL_law_1284 rfl ml_L_154 ym_X5_row (pr_row hM R1) (by decide) rfl (Nat.le_of_ble_eq_true rfl) (fun r2 τ2 q2 => ?_)
  obtain ⟨e2, R2, F2⟩ := q2
  have e2 := kq_si e2
  have C2 := C1.lt F2
  refine ks_icmp_eq (n := 1290) (tgt := 1410) S dL_law_1287 rfl rfl (fun h9 => ?_) (fun h9 => ?_)
  · exact hG τ2 _ (ok_row hM) C2 R2
  · exact absurd (e1.trans e2.symm) h9
theorem lc_34 (S : Sem l code RL (some .boolean) 9 334 LwQ K) (hld : LwL K X len) (hi : 0 ≤ i ∧ i + 6 ≤ len ∧ len ≤ 3072) (hM : OkM M) (hC : RC σ M) (hR : RR σ M) (hG : LwG K i) : K 1292 [some (kr 48), some (kr 0), some (kr 38), some (ki i)] [] σ := by
  refine ks_aload_n (n := 1293) S dL_law_1292 rfl rfl ?_
  refine ks_v0i (n := 1296) S dL_law_1293 rfl ml_L_155 ym_X4_judge (pc_judge hM hC) (by decide) rfl (Nat.le_of_ble_eq_true rfl) (fun r1 τ1 q1 => ?_)
  obtain ⟨e1, C1, F1⟩ := q1
  have e1 := kq_si e1
  have R1 := hR.ge F1
  refine ks_aload_n (n := 1297) S dL_law_1296 rfl rfl ?_
  refine ks_v0i (n := 1300) S dL_law_1297 rfl ml_L_158 ym_X5_judge (pr_judge hM R1) (by decide) rfl (Nat.le_of_ble_eq_true rfl) (fun r2 τ2 q2 => ?_)
  obtain ⟨e2, R2, F2⟩ := q2
  have e2 := kq_si e2
  have C2 := C1.lt F2
  refine ks_icmp_eq (n := 1303) (tgt := 1410) S dL_law_1300 rfl rfl (fun h9 => ?_) (fun h9 => ?_)
  · exact hG τ2 _ (ok_judge hM) C2 R2
  · exact absurd (e1.trans e2.symm) h9
theorem lc_35 (S : Sem l code RL (some .boolean) 9 334 LwQ K) (hld : LwL K X len) (hi : 0 ≤ i ∧ i + 6 ≤ len ∧ len ≤ 3072) (hM : OkM M) (hC : RC σ M) (hR : RR σ M) (hG : LwG K i) : K 1305 [some (kr 48), some (kr 0), some (kr 38), some (ki i)] [] σ := by
  refine ks_aload_n (n := 1306) S dL_law_1305 rfl rfl ?_
  refine ks_v0i (n := 1309) S dL_law_1306 rfl ml_L_159 ym_X4_clear (pc_clear hM hC) (by decide) rfl (Nat.le_of_ble_eq_true rfl) (fun r1 τ1 q1 => ?_)
  obtain ⟨e1, C1, F1⟩ := q1
  have e1 := kq_si e1
  have R1 := hR.ge F1
  refine ks_aload_n (n := 1310) S dL_law_1309 rfl rfl ?_
  refine ks_v0i (n := 1313) S dL_law_1310 rfl ml_L_162 ym_X5_clear (pr_clear hM R1) (by decide) rfl (Nat.le_of_ble_eq_true rfl) (fun r2 τ2 q2 => ?_)
  obtain ⟨e2, R2, F2⟩ := q2
  have e2 := kq_si e2
  have C2 := C1.lt F2
  refine ks_icmp_eq (n := 1316) (tgt := 1410) S dL_law_1313 rfl rfl (fun h9 => ?_) (fun h9 => ?_)
  · exact hG τ2 _ (ok_clear hM) C2 R2
  · exact absurd (e1.trans e2.symm) h9
theorem lc_36 (S : Sem l code RL (some .boolean) 9 334 LwQ K) (hld : LwL K X len) (hi : 0 ≤ i ∧ i + 6 ≤ len ∧ len ≤ 3072) (hM : OkM M) (hC : RC σ M) (hR : RR σ M) (hG : LwG K i) : K 1318 [some (kr 48), some (kr 0), some (kr 38), some (ki i)] [] σ := by
  refine ks_aload_n (n := 1319) S dL_law_1318 rfl rfl ?_
  refine ks_aload_n (n := 1320) S dL_law_1319 rfl rfl ?_
  refine ks_iload_n (n := 1321) S dL_law_1320 rfl rfl ?_
  refine ks_iconst (n := 1322) S dL_law_1321 rfl (by unfold iv; decide) ?_
  refine ks_iadd (n := 1323) S dL_law_1322 rfl (by omega) ?_
  refine hld 1323 1324 _ _ _ _ dL_law_1323 rfl (by omega) ?_
  refine ks_aload_n (n := 1325) S dL_law_1324 rfl rfl ?_
  refine ks_iload_n (n := 1326) S dL_law_1325 rfl rfl ?_
  refine ks_iconst (n := 1327) S dL_law_1326 rfl (by unfold iv; decide) ?_
  refine ks_iadd (n := 1328) S dL_law_1327 rfl (by omega) ?_
  refine hld 1328 1329 _ _ _ _ dL_law_1328 rfl (by omega) ?_
  refine ks_aload_n (n := 1330) S dL_law_1329 rfl rfl ?_
  refine ks_iload_n (n := 1331) S dL_law_1330 rfl rfl ?_
  refine ks_iconst (n := 1332) S dL_law_1331 rfl (by unfold iv; decide) ?_
  refine ks_iadd (n := 1333) S dL_law_1332 rfl (by omega) ?_
  refine hld 1333 1334 _ _ _ _ dL_law_1333 rfl (by omega) ?_
  refine ks_v3i (n := 1337) S dL_law_1334 rfl ml_L_163 ym_X4_lots (pc_lots hM hC) (by decide) rfl (Nat.le_of_ble_eq_true rfl) (fun r1 τ1 q1 => ?_)
  obtain ⟨e1, C1, F1⟩ := q1
  have e1 := kq_si e1
  have R1 := hR.ge F1
  refine ks_aload_n (n := 1338) S dL_law_1337 rfl rfl ?_
  refine ks_aload_n (n := 1339) S dL_law_1338 rfl rfl ?_
  refine ks_iload_n (n := 1340) S dL_law_1339 rfl rfl ?_
  refine ks_iconst (n := 1341) S dL_law_1340 rfl (by unfold iv; decide) ?_
  refine ks_iadd (n := 1342) S dL_law_1341 rfl (by omega) ?_
  refine hld 1342 1343 _ _ _ _ dL_law_1342 rfl (by omega) ?_
  refine ks_aload_n (n := 1344) S dL_law_1343 rfl rfl ?_
  refine ks_iload_n (n := 1345) S dL_law_1344 rfl rfl ?_
  refine ks_iconst (n := 1346) S dL_law_1345 rfl (by unfold iv; decide) ?_
  refine ks_iadd (n := 1347) S dL_law_1346 rfl (by omega) ?_
  refine hld 1347 1348 _ _ _ _ dL_law_1347 rfl (by omega) ?_
  refine ks_aload_n (n := 1349) S dL_law_1348 rfl rfl ?_
  refine ks_iload_n (n := 1350) S dL_law_1349 rfl rfl ?_
  refine ks_iconst (n := 1351) S dL_law_1350 rfl (by unfold iv; decide) ?_
  refine ks_iadd (n := 1352) S dL_law_1351 rfl (by omega) ?_
  refine hld 1352 1353 _ _ _ _ dL_law_1352 rfl (by omega) ?_
  refine ks_v3i (n := 1356) S dL_law_1353 rfl ml_L_166 ym_X5_lots (pr_lots hM R1) (by decide) rfl (Nat.le_of_ble_eq_true rfl) (fun r2 τ2 q2 => ?_)
  obtain ⟨e2, R2, F2⟩ := q2
  have e2 := kq_si e2
  have C2 := C1.lt F2
  refine ks_icmp_eq (n := 1359) (tgt := 1410) S dL_law_1356 rfl rfl (fun h9 => ?_) (fun h9 => ?_)
  · exact hG τ2 _ (ok_lots hM) C2 R2
  · exact absurd (e1.trans e2.symm) h9
theorem lc_37 (S : Sem l code RL (some .boolean) 9 334 LwQ K) (hld : LwL K X len) (hi : 0 ≤ i ∧ i + 6 ≤ len ∧ len ≤ 3072) (hM : OkM M) (hC : RC σ M) (hR : RR σ M) (hG : LwG K i) : K 1361 [some (kr 48), some (kr 0), some (kr 38), some (ki i)] [] σ := by
  refine ks_aload_n (n := 1362) S dL_law_1361 rfl rfl ?_
  refine ks_v0i (n := 1365) S dL_law_1362 rfl ml_L_167 ym_X4_image (pc_image hM hC) (by decide) rfl (Nat.le_of_ble_eq_true rfl) (fun r1 τ1 q1 => ?_)
  obtain ⟨e1, C1, F1⟩ := q1
  have e1 := kq_si e1
  have R1 := hR.ge F1
  refine ks_aload_n (n := 1366) S dL_law_1365 rfl rfl ?_
  refine ks_v0i (n := 1369) S dL_law_1366 rfl ml_L_170 ym_X5_image (pr_image hM R1) (by decide) rfl (Nat.le_of_ble_eq_true rfl) (fun r2 τ2 q2 => ?_)
  obtain ⟨e2, R2, F2⟩ := q2
  have e2 := kq_si e2
  have C2 := C1.lt F2
  refine ks_icmp_eq (n := 1372) (tgt := 1410) S dL_law_1369 rfl rfl (fun h9 => ?_) (fun h9 => ?_)
  · exact hG τ2 _ (ok_image hM) C2 R2
  · exact absurd (e1.trans e2.symm) h9
theorem lc_38 (S : Sem l code RL (some .boolean) 9 334 LwQ K) (hld : LwL K X len) (hi : 0 ≤ i ∧ i + 6 ≤ len ∧ len ≤ 3072) (hM : OkM M) (hC : RC σ M) (hR : RR σ M) (hG : LwG K i) : K 1374 [some (kr 48), some (kr 0), some (kr 38), some (ki i)] [] σ := by
  refine ks_aload_n (n := 1375) S dL_law_1374 rfl rfl ?_
  refine ks_v0i (n := 1378) S dL_law_1375 rfl ml_L_171 ym_X4_on (pc_on hM hC) (by decide) rfl (Nat.le_of_ble_eq_true rfl) (fun r1 τ1 q1 => ?_)
  obtain ⟨e1, C1, F1⟩ := q1
  have e1 := kq_si e1
  have R1 := hR.ge F1
  refine ks_aload_n (n := 1379) S dL_law_1378 rfl rfl ?_
  refine ks_v0i (n := 1382) S dL_law_1379 rfl ml_L_174 ym_X5_on (pr_on hM R1) (by decide) rfl (Nat.le_of_ble_eq_true rfl) (fun r2 τ2 q2 => ?_)
  obtain ⟨e2, R2, F2⟩ := q2
  have e2 := kq_si e2
  have C2 := C1.lt F2
  refine ks_icmp_eq (n := 1385) (tgt := 1410) S dL_law_1382 rfl rfl (fun h9 => ?_) (fun h9 => ?_)
  · exact hG τ2 _ (ok_on hM) C2 R2
  · exact absurd (e1.trans e2.symm) h9
theorem lc_39 (S : Sem l code RL (some .boolean) 9 334 LwQ K) (hld : LwL K X len) (hi : 0 ≤ i ∧ i + 6 ≤ len ∧ len ≤ 3072) (hM : OkM M) (hC : RC σ M) (hR : RR σ M) (hG : LwG K i) : K 1387 [some (kr 48), some (kr 0), some (kr 38), some (ki i)] [] σ := by
  refine ks_aload_n (n := 1388) S dL_law_1387 rfl rfl ?_
  refine ks_aload_n (n := 1389) S dL_law_1388 rfl rfl ?_
  refine ks_iload_n (n := 1390) S dL_law_1389 rfl rfl ?_
  refine ks_iconst (n := 1391) S dL_law_1390 rfl (by unfold iv; decide) ?_
  refine ks_iadd (n := 1392) S dL_law_1391 rfl (by omega) ?_
  refine hld 1392 1393 _ _ _ _ dL_law_1392 rfl (by omega) ?_
  refine ks_v1i (n := 1396) S dL_law_1393 rfl ml_L_175 ym_X4_count (pc_count hM hC) (by decide) rfl (Nat.le_of_ble_eq_true rfl) (fun r1 τ1 q1 => ?_)
  obtain ⟨e1, C1, F1⟩ := q1
  have e1 := kq_si e1
  have R1 := hR.ge F1
  refine ks_aload_n (n := 1397) S dL_law_1396 rfl rfl ?_
  refine ks_aload_n (n := 1398) S dL_law_1397 rfl rfl ?_
  refine ks_iload_n (n := 1399) S dL_law_1398 rfl rfl ?_
  refine ks_iconst (n := 1400) S dL_law_1399 rfl (by unfold iv; decide) ?_
  refine ks_iadd (n := 1401) S dL_law_1400 rfl (by omega) ?_
  refine hld 1401 1402 _ _ _ _ dL_law_1401 rfl (by omega) ?_
  refine ks_v1i (n := 1405) S dL_law_1402 rfl ml_L_178 ym_X5_count (pr_count hM R1) (by decide) rfl (Nat.le_of_ble_eq_true rfl) (fun r2 τ2 q2 => ?_)
  obtain ⟨e2, R2, F2⟩ := q2
  have e2 := kq_si e2
  have C2 := C1.lt F2
  refine ks_icmp_eq (n := 1408) (tgt := 1410) S dL_law_1405 rfl rfl (fun h9 => ?_) (fun h9 => ?_)
  · exact hG τ2 _ (ok_count hM) C2 R2
  · exact absurd (e1.trans e2.symm) h9
theorem law_step (S : Sem l code RL (some .boolean) 9 334 LwQ K) (hld : LwL K X len) (hsl : ∀ (pc n : Nat) (L : KL) (st : List KV) (σ : KS), decode code pc = .ok (.arraylength, 1) → pc + 1 = n → K n L (ki len :: st) σ → K pc L (kr 48 :: st) σ) (hi : 0 ≤ i ∧ i ≤ 4000) (hl : 0 ≤ len ∧ len ≤ 3072) (hM : OkM M) (hC : RC σ M) (hR : RR σ M) (ih : i + 6 ≤ len → ∀ (τ N : KS), OkM N → RC τ N → RR τ N → K 18 [some (kr 48), some (kr 0), some (kr 38), some (ki (i + 6))] [] τ) : K 18 [some (kr 48), some (kr 0), some (kr 38), some (ki i)] [] σ := by
  refine ks_iload_n (n := 19) S dL_law_18 rfl rfl ?_
  refine ks_aload_n (n := 20) S dL_law_19 rfl rfl ?_
  refine hsl 20 21 _ _ _ dL_law_20 rfl ?_
  refine ks_bipush (n := 23) S dL_law_21 rfl (by unfold iv; decide) ?_
  refine ks_isub (n := 24) S dL_law_23 rfl (by omega) ?_
  refine ks_icmp_gt (n := 27) (tgt := 1416) S dL_law_24 rfl rfl (fun h24 => ?_) (fun h24 => ?_)
  · refine ks_iconst (n := 1417) S dL_law_1416 rfl (by unfold iv; decide) ?_
    exact ks_zret S dL_law_1417 (Or.inr rfl) rfl
  have h6 : 0 ≤ i ∧ i + 6 ≤ len ∧ len ≤ 3072 := by omega
  have hG : LwG K i := fun τ N oN cN rN => by
    refine ks_iinc (n := 1413) S dL_law_1410 rfl rfl (by omega) (L' := fun yy => [some (kr 48), some (kr 0), some (kr 38), some (ki yy)]) (fun _ => rfl) (fun v hv => ?_)
    subst hv
    refine ks_goto (n := 18) S dL_law_1413 rfl ?_
    exact ih h6.2.1 τ N oN cN rN
  refine ks_aload_n (n := 28) S dL_law_27 rfl rfl ?_
  refine ks_iload_n (n := 29) S dL_law_28 rfl rfl ?_
  refine hld 29 30 _ _ _ _ dL_law_29 rfl (by omega) ?_
  refine ks_bipush (n := 32) S dL_law_30 rfl (by unfold iv; decide) ?_
  refine ks_iand (n := 33) S dL_law_32 rfl ?_
  exact ks_table S (tdf := 1410) [208, 231, 244, 277, 310, 343, 386, 409, 442, 475, 518, 541, 584, 617, 640, 683, 716, 739, 752, 785, 818, 851, 894, 927, 970, 1013, 1036, 1059, 1082, 1125, 1189, 1213, 1236, 1269, 1292, 1305, 1318, 1361, 1374, 1387] dL_law_33 (by decide) (by decide) rfl (fun _ => hG σ M hM hC hR) (And.intro (fun _ => lc_0 S hld h6 hM hC hR hG) (And.intro (fun _ => lc_1 S hld h6 hM hC hR hG) (And.intro (fun _ => lc_2 S hld h6 hM hC hR hG) (And.intro (fun _ => lc_3 S hld h6 hM hC hR hG) (And.intro (fun _ => lc_4 S hld h6 hM hC hR hG) (And.intro (fun _ => lc_5 S hld h6 hM hC hR hG) (And.intro (fun _ => lc_6 S hld h6 hM hC hR hG) (And.intro (fun _ => lc_7 S hld h6 hM hC hR hG) (And.intro (fun _ => lc_8 S hld h6 hM hC hR hG) (And.intro (fun _ => lc_9 S hld h6 hM hC hR hG) (And.intro (fun _ => lc_10 S hld h6 hM hC hR hG) (And.intro (fun _ => lc_11 S hld h6 hM hC hR hG) (And.intro (fun _ => lc_12 S hld h6 hM hC hR hG) (And.intro (fun _ => lc_13 S hld h6 hM hC hR hG) (And.intro (fun _ => lc_14 S hld h6 hM hC hR hG) (And.intro (fun _ => lc_15 S hld h6 hM hC hR hG) (And.intro (fun _ => lc_16 S hld h6 hM hC hR hG) (And.intro (fun _ => lc_17 S hld h6 hM hC hR hG) (And.intro (fun _ => lc_18 S hld h6 hM hC hR hG) (And.intro (fun _ => lc_19 S hld h6 hM hC hR hG) (And.intro (fun _ => lc_20 S hld h6 hM hC hR hG) (And.intro (fun _ => lc_21 S hld h6 hM hC hR hG) (And.intro (fun _ => lc_22 S hld h6 hM hC hR hG) (And.intro (fun _ => lc_23 S hld h6 hM hC hR hG) (And.intro (fun _ => lc_24 S hld h6 hM hC hR hG) (And.intro (fun _ => lc_25 S hld h6 hM hC hR hG) (And.intro (fun _ => lc_26 S hld h6 hM hC hR hG) (And.intro (fun _ => lc_27 S hld h6 hM hC hR hG) (And.intro (fun _ => lc_28 S hld h6 hM hC hR hG) (And.intro (fun _ => lc_29 S hld h6 hM hC hR hG) (And.intro (fun _ => lc_30 S hld h6 hM hC hR hG) (And.intro (fun _ => lc_31 S hld h6 hM hC hR hG) (And.intro (fun _ => lc_32 S hld h6 hM hC hR hG) (And.intro (fun _ => lc_33 S hld h6 hM hC hR hG) (And.intro (fun _ => lc_34 S hld h6 hM hC hR hG) (And.intro (fun _ => lc_35 S hld h6 hM hC hR hG) (And.intro (fun _ => lc_36 S hld h6 hM hC hR hG) (And.intro (fun _ => lc_37 S hld h6 hM hC hR hG) (And.intro (fun _ => lc_38 S hld h6 hM hC hR hG) (And.intro (fun _ => lc_39 S hld h6 hM hC hR hG) trivial))))))))))))))))))))))))))))))))))))))))
theorem law_loop (S : Sem l code RL (some .boolean) 9 334 LwQ K) (hld : LwL K X len) (hsl : ∀ (pc n : Nat) (L : KL) (st : List KV) (σ : KS), decode code pc = .ok (.arraylength, 1) → pc + 1 = n → K n L (ki len :: st) σ → K pc L (kr 48 :: st) σ) (hl : 0 ≤ len ∧ len ≤ 3072) : ∀ (n : Nat) (i : Int) (σ M : KS), (len - i).toNat ≤ n → 0 ≤ i → i ≤ 3500 → OkM M → RC σ M → RR σ M → K 18 [some (kr 48), some (kr 0), some (kr 38), some (ki i)] [] σ := by
  intro n
  induction n with
  | zero =>
    intro i σ M h1 h2 h3 hM hC hR
    exact law_step S hld hsl (by omega) hl hM hC hR (fun h => absurd h (by omega))
  | succ n ih =>
    intro i σ M h1 h2 h3 hM hC hR
    exact law_step S hld hsl (by omega) hl hM hC hR (fun h τ N oN cN rN => ih (i + 6) τ N (by omega) (by omega) (by omega) oN cN rN)
end LAW
