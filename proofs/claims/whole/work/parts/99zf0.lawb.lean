/-! THE LAW: its branches. -/
section VL9
variable {X : xX} {G : gG} {tb : List ExceptionTableEntry} {Q : State → Prop} {k n b m c : Nat} {i : Int32} {S : sS} {ad : Nat → Nat → Nat} {σ : aS}
theorem lb_child {y : Nat → Int32} (C : Cx X G RL cL_law 7 (some .boolean) room_1 tb) (hl : X.2.1.stackTraces = false) (hs : SC X G b i y) (hk : k + 40 ≤ 601024 ∧ n + 400 ≤ 7293034) (hW : LW S m c ad σ) (hn : cN σ 27 < 512) (kk : ∀ T ad' σ', LW T m c ad' σ' → ad' 8 0 = ad 8 0 → cN σ' 27 ≤ cN σ 27 + 1 → V X G 7 Q (k + 40) (n + 400) 2121 [(4, false, .int i), (3, false, .ref c), (2, false, .ref m), (1, false, .ref (ad 8 0)), (0, false, .ref b)] [] T) : V X G 7 Q k n 172 [(4, false, .int i), (3, false, .ref c), (2, false, .ref m), (1, false, .ref (ad 8 0)), (0, false, .ref b)] [] S := by
  obtain ⟨hR, hC, hG, hI, hc⟩ := hW
  have hN : NX σ (oChild σ (y 1) (y 2) (y 3) (y 4) (y 5)).2 (tChild σ (y 1) (y 2) (y 3) (y 4) (y 5)) := NX_Child (σ := σ) hI
  refine V_aload_n C dL_law_172 rfl (isR_r _) ?_
  refine V_arg C hs 1 1 (by decide) dL_law_173 dL_law_174 dL_law_176 dL_law_177 dL_law_178 ?_
  refine V_arg C hs 2 2 (by decide) dL_law_179 dL_law_180 dL_law_182 dL_law_183 dL_law_184 ?_
  refine V_arg C hs 3 3 (by decide) dL_law_185 dL_law_186 dL_law_188 dL_law_189 dL_law_190 ?_
  refine V_arg C hs 4 4 (by decide) dL_law_191 dL_law_192 dL_law_194 dL_law_195 dL_law_196 ?_
  refine V_arg C hs 5 5 (by decide) dL_law_197 dL_law_198 dL_law_200 dL_law_201 dL_law_202 ?_
  refine V_aload_n C dL_law_203 rfl (isR_r _) ?_
  refine V_callH C (h_child X.2.1 hl G S ad σ hC hG hI c hc (y 1) (y 2) (y 3) (y 4) (y 5)) kh_L_117 ⟨by decide, by decide⟩ ⟨Nat.le_trans (Nat.add_le_add_left (by decide) _) hk.1, Nat.le_trans (Nat.add_le_add_left (by decide) _) hk.2⟩ rfl rfl (Nat.le_of_ble_eq_true rfl) dL_law_204 (fun v T hT => ?_)
  obtain ⟨rfl, hL, hcT, hJ⟩ := hT
  refine V_widen (k' := k + 40) (n' := n + 400) (Nat.add_le_add_left (by decide) _) (Nat.add_le_add_left (by decide) _) ?_
  dsimp only [Option.toList_some, Option.toList_none, List.cons_append, List.nil_append]
  have hRT : RelR T m σ := RelR_LH hR hL
  refine V_istore C dL_law_207 (by decide) rfl ?_
  refine V_aload_n C dL_law_209 rfl (isR_r _) ?_
  refine V_arg C hs 1 1 (by decide) dL_law_210 dL_law_211 dL_law_213 dL_law_214 dL_law_215 ?_
  refine V_arg C hs 2 2 (by decide) dL_law_216 dL_law_217 dL_law_219 dL_law_220 dL_law_221 ?_
  refine V_arg C hs 3 3 (by decide) dL_law_222 dL_law_223 dL_law_225 dL_law_226 dL_law_227 ?_
  refine V_arg C hs 4 4 (by decide) dL_law_228 dL_law_229 dL_law_231 dL_law_232 dL_law_233 ?_
  refine V_arg C hs 5 5 (by decide) dL_law_234 dL_law_235 dL_law_237 dL_law_238 dL_law_239 ?_
  refine V_callV C (c_X9_child X.2.1 hl G T m σ hRT hI.1 (y 1) (y 2) (y 3) (y 4) (y 5)) kv_L_122 cf_9 (by decide) rfl hRT.1 ⟨by decide, by decide⟩ ⟨hk.1, hk.2⟩ rfl rfl (Nat.le_of_ble_eq_true rfl) dL_law_240 (fun w U hU => ?_) (fun _ _ z => z.elim)
  obtain ⟨rfl, hRU, hFU⟩ := hU
  dsimp only [Option.toList_some, Option.toList_none, List.cons_append, List.nil_append]
  refine V_istore C dL_law_243 (by decide) rfl ?_
  refine V_aload_n C dL_law_245 rfl (isR_r _) ?_
  refine V_callV C (c_X9_thrown X.2.1 hl G U m (oChild σ (y 1) (y 2) (y 3) (y 4) (y 5)).2 hRU) kv_L_123 cf_9 (by decide) rfl hRU.1 ⟨by decide, by decide⟩ ⟨hk.1, hk.2⟩ rfl rfl (Nat.le_of_ble_eq_true rfl) dL_law_246 (fun w W9 hW9 => ?_) (fun _ _ z => z.elim)
  obtain ⟨rfl, hRW, hFW⟩ := hW9
  dsimp only [Option.toList_some, Option.toList_none, List.cons_append, List.nil_append]
  refine V_iload C dL_law_249 rfl ?_
  refine V_icmp_eq C (tgt := 256) dL_law_251 (by decide) (fun _ => ?_) (fun z => absurd hN.2 z)
  have hF := Fr_tr hFU hFW
  have fin : ∀ lo9, lsub [(4, false, .int i), (3, false, .ref c), (2, false, .ref m), (1, false, .ref (ad 8 0)), (0, false, .ref b)] lo9 → V X G 7 Q (k + 40) (n + 400) 2121 lo9 [] W9 := fun lo9 h9 => V_sub h9 (lb_fin hL hcT hF ⟨hRW.1, hRW.2⟩ hN.1 kk)
  refine V_iload C dL_law_256 rfl ?_
  refine V_if_ne C (tgt := 273) dL_law_258 (by decide) (fun _ => ?_) (fun h0 => ?_)
  · exact V_goto C (tgt := 2121) dL_law_273 (by decide) (fin _ (by repeat first | exact trivial | refine ⟨rfl, ?_⟩))
  · refine V_aload_n C dL_law_261 rfl (isR_r _) ?_
    refine V_iconst C (v := 0) dL_law_262 (by decide) ?_
    obtain ⟨w1, w2, w3⟩ := row_M hcT hF
    refine V_lald C w1 (by decide) (by rw [w2]; exact (show ¬ ((0 : Int32) < 0 ∨ 1 ≤ Int32.toNatClampNeg 0) by decide)) dL_law_263 ?_
    rw [show sJ W9 c (Int32.toNatClampNeg 0) = (oChild σ (y 1) (y 2) (y 3) (y 4) (y 5)).1.toInt64 from (w3 0).trans (hJ h0)]
    refine V_iload C dL_law_264 rfl ?_
    refine V_i2l C dL_law_266 ?_
    refine V_lcmp C dL_law_267 ?_
    refine V_if_eq C (tgt := 273) dL_law_268 (by decide) (fun _ => ?_) (fun z => absurd (lc_self _) z)
    exact V_goto C (tgt := 2121) dL_law_273 (by decide) (fin _ (by repeat first | exact trivial | refine ⟨rfl, ?_⟩))
theorem lb_home {y : Nat → Int32} (C : Cx X G RL cL_law 7 (some .boolean) room_1 tb) (hl : X.2.1.stackTraces = false) (hs : SC X G b i y) (hk : k + 40 ≤ 601024 ∧ n + 400 ≤ 7293034) (hW : LW S m c ad σ) (hn : cN σ 27 < 512) (kk : ∀ T ad' σ', LW T m c ad' σ' → ad' 8 0 = ad 8 0 → cN σ' 27 ≤ cN σ 27 + 1 → V X G 7 Q (k + 40) (n + 400) 2121 [(4, false, .int i), (3, false, .ref c), (2, false, .ref m), (1, false, .ref (ad 8 0)), (0, false, .ref b)] [] T) : V X G 7 Q k n 276 [(4, false, .int i), (3, false, .ref c), (2, false, .ref m), (1, false, .ref (ad 8 0)), (0, false, .ref b)] [] S := by
  obtain ⟨hR, hC, hG, hI, hc⟩ := hW
  have hN : NX σ (oHome σ (y 1) (y 2) (y 3)).2 (tHome σ (y 1) (y 2) (y 3)) := NX_Home (σ := σ) hI
  refine V_aload_n C dL_law_276 rfl (isR_r _) ?_
  refine V_arg C hs 1 1 (by decide) dL_law_277 dL_law_278 dL_law_280 dL_law_281 dL_law_282 ?_
  refine V_arg C hs 2 2 (by decide) dL_law_283 dL_law_284 dL_law_286 dL_law_287 dL_law_288 ?_
  refine V_arg C hs 3 3 (by decide) dL_law_289 dL_law_290 dL_law_292 dL_law_293 dL_law_294 ?_
  refine V_aload_n C dL_law_295 rfl (isR_r _) ?_
  refine V_callH C (h_home X.2.1 hl G S ad σ hC hG hI c hc (y 1) (y 2) (y 3)) kh_L_127 ⟨by decide, by decide⟩ ⟨Nat.le_trans (Nat.add_le_add_left (by decide) _) hk.1, Nat.le_trans (Nat.add_le_add_left (by decide) _) hk.2⟩ rfl rfl (Nat.le_of_ble_eq_true rfl) dL_law_296 (fun v T hT => ?_)
  obtain ⟨rfl, hL, hcT, hJ⟩ := hT
  refine V_widen (k' := k + 40) (n' := n + 400) (Nat.add_le_add_left (by decide) _) (Nat.add_le_add_left (by decide) _) ?_
  dsimp only [Option.toList_some, Option.toList_none, List.cons_append, List.nil_append]
  have hRT : RelR T m σ := RelR_LH hR hL
  refine V_istore C dL_law_299 (by decide) rfl ?_
  refine V_aload_n C dL_law_301 rfl (isR_r _) ?_
  refine V_arg C hs 1 1 (by decide) dL_law_302 dL_law_303 dL_law_305 dL_law_306 dL_law_307 ?_
  refine V_arg C hs 2 2 (by decide) dL_law_308 dL_law_309 dL_law_311 dL_law_312 dL_law_313 ?_
  refine V_arg C hs 3 3 (by decide) dL_law_314 dL_law_315 dL_law_317 dL_law_318 dL_law_319 ?_
  refine V_callV C (c_X9_home X.2.1 hl G T m σ hRT hI.1 (y 1) (y 2) (y 3)) kv_L_130 cf_9 (by decide) rfl hRT.1 ⟨by decide, by decide⟩ ⟨hk.1, hk.2⟩ rfl rfl (Nat.le_of_ble_eq_true rfl) dL_law_320 (fun w U hU => ?_) (fun _ _ z => z.elim)
  obtain ⟨rfl, hRU, hFU⟩ := hU
  dsimp only [Option.toList_some, Option.toList_none, List.cons_append, List.nil_append]
  refine V_istore C dL_law_323 (by decide) rfl ?_
  refine V_aload_n C dL_law_325 rfl (isR_r _) ?_
  refine V_callV C (c_X9_thrown X.2.1 hl G U m (oHome σ (y 1) (y 2) (y 3)).2 hRU) kv_L_123 cf_9 (by decide) rfl hRU.1 ⟨by decide, by decide⟩ ⟨hk.1, hk.2⟩ rfl rfl (Nat.le_of_ble_eq_true rfl) dL_law_326 (fun w W9 hW9 => ?_) (fun _ _ z => z.elim)
  obtain ⟨rfl, hRW, hFW⟩ := hW9
  dsimp only [Option.toList_some, Option.toList_none, List.cons_append, List.nil_append]
  refine V_iload C dL_law_329 rfl ?_
  refine V_icmp_eq C (tgt := 336) dL_law_331 (by decide) (fun _ => ?_) (fun z => absurd hN.2 z)
  have hF := Fr_tr hFU hFW
  have fin : ∀ lo9, lsub [(4, false, .int i), (3, false, .ref c), (2, false, .ref m), (1, false, .ref (ad 8 0)), (0, false, .ref b)] lo9 → V X G 7 Q (k + 40) (n + 400) 2121 lo9 [] W9 := fun lo9 h9 => V_sub h9 (lb_fin hL hcT hF ⟨hRW.1, hRW.2⟩ hN.1 kk)
  refine V_iload C dL_law_336 rfl ?_
  refine V_if_ne C (tgt := 353) dL_law_338 (by decide) (fun _ => ?_) (fun h0 => ?_)
  · exact V_goto C (tgt := 2121) dL_law_353 (by decide) (fin _ (by repeat first | exact trivial | refine ⟨rfl, ?_⟩))
  · refine V_aload_n C dL_law_341 rfl (isR_r _) ?_
    refine V_iconst C (v := 0) dL_law_342 (by decide) ?_
    obtain ⟨w1, w2, w3⟩ := row_M hcT hF
    refine V_lald C w1 (by decide) (by rw [w2]; exact (show ¬ ((0 : Int32) < 0 ∨ 1 ≤ Int32.toNatClampNeg 0) by decide)) dL_law_343 ?_
    rw [show sJ W9 c (Int32.toNatClampNeg 0) = (oHome σ (y 1) (y 2) (y 3)).1.toInt64 from (w3 0).trans (hJ h0)]
    refine V_iload C dL_law_344 rfl ?_
    refine V_i2l C dL_law_346 ?_
    refine V_lcmp C dL_law_347 ?_
    refine V_if_eq C (tgt := 353) dL_law_348 (by decide) (fun _ => ?_) (fun z => absurd (lc_self _) z)
    exact V_goto C (tgt := 2121) dL_law_353 (by decide) (fin _ (by repeat first | exact trivial | refine ⟨rfl, ?_⟩))
theorem lb_approve {y : Nat → Int32} (C : Cx X G RL cL_law 7 (some .boolean) room_1 tb) (hl : X.2.1.stackTraces = false) (hs : SC X G b i y) (hk : k + 40 ≤ 601024 ∧ n + 400 ≤ 7293034) (hW : LW S m c ad σ) (hn : cN σ 27 < 512) (kk : ∀ T ad' σ', LW T m c ad' σ' → ad' 8 0 = ad 8 0 → cN σ' 27 ≤ cN σ 27 + 1 → V X G 7 Q (k + 40) (n + 400) 2121 [(4, false, .int i), (3, false, .ref c), (2, false, .ref m), (1, false, .ref (ad 8 0)), (0, false, .ref b)] [] T) : V X G 7 Q k n 356 [(4, false, .int i), (3, false, .ref c), (2, false, .ref m), (1, false, .ref (ad 8 0)), (0, false, .ref b)] [] S := by
  obtain ⟨hR, hC, hG, hI, hc⟩ := hW
  have hN : NX σ (oApprove σ (y 1) (y 2) (y 3) (y 4)) (tHomeQ σ (y 1) (inP (y 2) 0 17 ∧ inP (y 3) (y 2) 17 ∧ inP (y 4) 0 20000)) := NX_Approve (σ := σ) hI hn
  refine V_aload_n C dL_law_356 rfl (isR_r _) ?_
  refine V_arg C hs 1 1 (by decide) dL_law_357 dL_law_358 dL_law_360 dL_law_361 dL_law_362 ?_
  refine V_arg C hs 2 2 (by decide) dL_law_363 dL_law_364 dL_law_366 dL_law_367 dL_law_368 ?_
  refine V_arg C hs 3 3 (by decide) dL_law_369 dL_law_370 dL_law_372 dL_law_373 dL_law_374 ?_
  refine V_arg C hs 4 4 (by decide) dL_law_375 dL_law_376 dL_law_378 dL_law_379 dL_law_380 ?_
  refine V_callH C (h_approve X.2.1 hl G S ad σ hC hG hI c hc (y 1) (y 2) (y 3) (y 4)) kh_L_131 ⟨by decide, by decide⟩ ⟨Nat.le_trans (Nat.add_le_add_left (by decide) _) hk.1, Nat.le_trans (Nat.add_le_add_left (by decide) _) hk.2⟩ rfl rfl (Nat.le_of_ble_eq_true rfl) dL_law_381 (fun v T hT => ?_)
  obtain ⟨rfl, hL, hcT⟩ := hT
  refine V_widen (k' := k + 40) (n' := n + 400) (Nat.add_le_add_left (by decide) _) (Nat.add_le_add_left (by decide) _) ?_
  dsimp only [Option.toList_some, Option.toList_none, List.cons_append, List.nil_append]
  have hRT : RelR T m σ := RelR_LH hR hL
  refine V_istore C dL_law_384 (by decide) rfl ?_
  refine V_aload_n C dL_law_386 rfl (isR_r _) ?_
  refine V_arg C hs 1 1 (by decide) dL_law_387 dL_law_388 dL_law_390 dL_law_391 dL_law_392 ?_
  refine V_arg C hs 2 2 (by decide) dL_law_393 dL_law_394 dL_law_396 dL_law_397 dL_law_398 ?_
  refine V_arg C hs 3 3 (by decide) dL_law_399 dL_law_400 dL_law_402 dL_law_403 dL_law_404 ?_
  refine V_arg C hs 4 4 (by decide) dL_law_405 dL_law_406 dL_law_408 dL_law_409 dL_law_410 ?_
  refine V_callV C (c_X9_approve X.2.1 hl G T m σ hRT hI.1 (y 1) (y 2) (y 3) (y 4)) kv_L_134 cf_9 (by decide) rfl hRT.1 ⟨by decide, by decide⟩ ⟨hk.1, hk.2⟩ rfl rfl (Nat.le_of_ble_eq_true rfl) dL_law_411 (fun w U hU => ?_) (fun _ _ z => z.elim)
  obtain ⟨rfl, hRU, hFU⟩ := hU
  dsimp only [Option.toList_some, Option.toList_none, List.cons_append, List.nil_append]
  refine V_aload_n C dL_law_414 rfl (isR_r _) ?_
  refine V_callV C (c_X9_thrown X.2.1 hl G U m (oApprove σ (y 1) (y 2) (y 3) (y 4)) hRU) kv_L_123 cf_9 (by decide) rfl hRU.1 ⟨by decide, by decide⟩ ⟨hk.1, hk.2⟩ rfl rfl (Nat.le_of_ble_eq_true rfl) dL_law_415 (fun w W9 hW9 => ?_) (fun _ _ z => z.elim)
  obtain ⟨rfl, hRW, hFW⟩ := hW9
  dsimp only [Option.toList_some, Option.toList_none, List.cons_append, List.nil_append]
  refine V_iload C dL_law_418 rfl ?_
  refine V_icmp_eq C (tgt := 425) dL_law_420 (by decide) (fun _ => ?_) (fun z => absurd hN.2 z)
  have hF := Fr_tr hFU hFW
  have fin : ∀ lo9, lsub [(4, false, .int i), (3, false, .ref c), (2, false, .ref m), (1, false, .ref (ad 8 0)), (0, false, .ref b)] lo9 → V X G 7 Q (k + 40) (n + 400) 2121 lo9 [] W9 := fun lo9 h9 => V_sub h9 (lb_fin hL hcT hF ⟨hRW.1, hRW.2⟩ hN.1 kk)
  exact V_goto C (tgt := 2121) dL_law_425 (by decide) (fin _ (by repeat first | exact trivial | refine ⟨rfl, ?_⟩))
theorem lb_train {y : Nat → Int32} (C : Cx X G RL cL_law 7 (some .boolean) room_1 tb) (hl : X.2.1.stackTraces = false) (hs : SC X G b i y) (hk : k + 40 ≤ 601024 ∧ n + 400 ≤ 7293034) (hW : LW S m c ad σ) (hn : cN σ 27 < 512) (kk : ∀ T ad' σ', LW T m c ad' σ' → ad' 8 0 = ad 8 0 → cN σ' 27 ≤ cN σ 27 + 1 → V X G 7 Q (k + 40) (n + 400) 2121 [(4, false, .int i), (3, false, .ref c), (2, false, .ref m), (1, false, .ref (ad 8 0)), (0, false, .ref b)] [] T) : V X G 7 Q k n 428 [(4, false, .int i), (3, false, .ref c), (2, false, .ref m), (1, false, .ref (ad 8 0)), (0, false, .ref b)] [] S := by
  obtain ⟨hR, hC, hG, hI, hc⟩ := hW
  have hN : NX σ (oTrain σ (y 1) (y 2) (y 3)) (tHomeQ σ (y 1) (inP (y 2) 0 15 ∧ inP (y 3) 0 20000)) := NX_Train (σ := σ) hI hn
  refine V_aload_n C dL_law_428 rfl (isR_r _) ?_
  refine V_arg C hs 1 1 (by decide) dL_law_429 dL_law_430 dL_law_432 dL_law_433 dL_law_434 ?_
  refine V_arg C hs 2 2 (by decide) dL_law_435 dL_law_436 dL_law_438 dL_law_439 dL_law_440 ?_
  refine V_arg C hs 3 3 (by decide) dL_law_441 dL_law_442 dL_law_444 dL_law_445 dL_law_446 ?_
  refine V_callH C (h_train X.2.1 hl G S ad σ hC hG hI c hc (y 1) (y 2) (y 3)) kh_L_135 ⟨by decide, by decide⟩ ⟨Nat.le_trans (Nat.add_le_add_left (by decide) _) hk.1, Nat.le_trans (Nat.add_le_add_left (by decide) _) hk.2⟩ rfl rfl (Nat.le_of_ble_eq_true rfl) dL_law_447 (fun v T hT => ?_)
  obtain ⟨rfl, hL, hcT⟩ := hT
  refine V_widen (k' := k + 40) (n' := n + 400) (Nat.add_le_add_left (by decide) _) (Nat.add_le_add_left (by decide) _) ?_
  dsimp only [Option.toList_some, Option.toList_none, List.cons_append, List.nil_append]
  have hRT : RelR T m σ := RelR_LH hR hL
  refine V_istore C dL_law_450 (by decide) rfl ?_
  refine V_aload_n C dL_law_452 rfl (isR_r _) ?_
  refine V_arg C hs 1 1 (by decide) dL_law_453 dL_law_454 dL_law_456 dL_law_457 dL_law_458 ?_
  refine V_arg C hs 2 2 (by decide) dL_law_459 dL_law_460 dL_law_462 dL_law_463 dL_law_464 ?_
  refine V_arg C hs 3 3 (by decide) dL_law_465 dL_law_466 dL_law_468 dL_law_469 dL_law_470 ?_
  refine V_callV C (c_X9_train X.2.1 hl G T m σ hRT hI.1 (y 1) (y 2) (y 3)) kv_L_138 cf_9 (by decide) rfl hRT.1 ⟨by decide, by decide⟩ ⟨hk.1, hk.2⟩ rfl rfl (Nat.le_of_ble_eq_true rfl) dL_law_471 (fun w U hU => ?_) (fun _ _ z => z.elim)
  obtain ⟨rfl, hRU, hFU⟩ := hU
  dsimp only [Option.toList_some, Option.toList_none, List.cons_append, List.nil_append]
  refine V_aload_n C dL_law_474 rfl (isR_r _) ?_
  refine V_callV C (c_X9_thrown X.2.1 hl G U m (oTrain σ (y 1) (y 2) (y 3)) hRU) kv_L_123 cf_9 (by decide) rfl hRU.1 ⟨by decide, by decide⟩ ⟨hk.1, hk.2⟩ rfl rfl (Nat.le_of_ble_eq_true rfl) dL_law_475 (fun w W9 hW9 => ?_) (fun _ _ z => z.elim)
  obtain ⟨rfl, hRW, hFW⟩ := hW9
  dsimp only [Option.toList_some, Option.toList_none, List.cons_append, List.nil_append]
  refine V_iload C dL_law_478 rfl ?_
  refine V_icmp_eq C (tgt := 485) dL_law_480 (by decide) (fun _ => ?_) (fun z => absurd hN.2 z)
  have hF := Fr_tr hFU hFW
  have fin : ∀ lo9, lsub [(4, false, .int i), (3, false, .ref c), (2, false, .ref m), (1, false, .ref (ad 8 0)), (0, false, .ref b)] lo9 → V X G 7 Q (k + 40) (n + 400) 2121 lo9 [] W9 := fun lo9 h9 => V_sub h9 (lb_fin hL hcT hF ⟨hRW.1, hRW.2⟩ hN.1 kk)
  exact V_goto C (tgt := 2121) dL_law_485 (by decide) (fin _ (by repeat first | exact trivial | refine ⟨rfl, ?_⟩))
theorem lb_rest {y : Nat → Int32} (C : Cx X G RL cL_law 7 (some .boolean) room_1 tb) (hl : X.2.1.stackTraces = false) (hs : SC X G b i y) (hk : k + 40 ≤ 601024 ∧ n + 400 ≤ 7293034) (hW : LW S m c ad σ) (hn : cN σ 27 < 512) (kk : ∀ T ad' σ', LW T m c ad' σ' → ad' 8 0 = ad 8 0 → cN σ' 27 ≤ cN σ 27 + 1 → V X G 7 Q (k + 40) (n + 400) 2121 [(4, false, .int i), (3, false, .ref c), (2, false, .ref m), (1, false, .ref (ad 8 0)), (0, false, .ref b)] [] T) : V X G 7 Q k n 488 [(4, false, .int i), (3, false, .ref c), (2, false, .ref m), (1, false, .ref (ad 8 0)), (0, false, .ref b)] [] S := by
  obtain ⟨hR, hC, hG, hI, hc⟩ := hW
  have hN : NX σ (oRest σ (y 1) (y 2) (y 3)) (tHomeQ σ (y 1) (inP (y 2) (σ.2 0) 20000 ∧ inP (y 3) (y 2) 20000)) := NX_Rest (σ := σ) hI hn
  refine V_aload_n C dL_law_488 rfl (isR_r _) ?_
  refine V_arg C hs 1 1 (by decide) dL_law_489 dL_law_490 dL_law_492 dL_law_493 dL_law_494 ?_
  refine V_arg C hs 2 2 (by decide) dL_law_495 dL_law_496 dL_law_498 dL_law_499 dL_law_500 ?_
  refine V_arg C hs 3 3 (by decide) dL_law_501 dL_law_502 dL_law_504 dL_law_505 dL_law_506 ?_
  refine V_callH C (h_rest X.2.1 hl G S ad σ hC hG hI c hc (y 1) (y 2) (y 3)) kh_L_139 ⟨by decide, by decide⟩ ⟨Nat.le_trans (Nat.add_le_add_left (by decide) _) hk.1, Nat.le_trans (Nat.add_le_add_left (by decide) _) hk.2⟩ rfl rfl (Nat.le_of_ble_eq_true rfl) dL_law_507 (fun v T hT => ?_)
  obtain ⟨rfl, hL, hcT⟩ := hT
  refine V_widen (k' := k + 40) (n' := n + 400) (Nat.add_le_add_left (by decide) _) (Nat.add_le_add_left (by decide) _) ?_
  dsimp only [Option.toList_some, Option.toList_none, List.cons_append, List.nil_append]
  have hRT : RelR T m σ := RelR_LH hR hL
  refine V_istore C dL_law_510 (by decide) rfl ?_
  refine V_aload_n C dL_law_512 rfl (isR_r _) ?_
  refine V_arg C hs 1 1 (by decide) dL_law_513 dL_law_514 dL_law_516 dL_law_517 dL_law_518 ?_
  refine V_arg C hs 2 2 (by decide) dL_law_519 dL_law_520 dL_law_522 dL_law_523 dL_law_524 ?_
  refine V_arg C hs 3 3 (by decide) dL_law_525 dL_law_526 dL_law_528 dL_law_529 dL_law_530 ?_
  refine V_callV C (c_X9_rest X.2.1 hl G T m σ hRT hI.1 (y 1) (y 2) (y 3)) kv_L_141 cf_9 (by decide) rfl hRT.1 ⟨by decide, by decide⟩ ⟨hk.1, hk.2⟩ rfl rfl (Nat.le_of_ble_eq_true rfl) dL_law_531 (fun w U hU => ?_) (fun _ _ z => z.elim)
  obtain ⟨rfl, hRU, hFU⟩ := hU
  dsimp only [Option.toList_some, Option.toList_none, List.cons_append, List.nil_append]
  refine V_aload_n C dL_law_534 rfl (isR_r _) ?_
  refine V_callV C (c_X9_thrown X.2.1 hl G U m (oRest σ (y 1) (y 2) (y 3)) hRU) kv_L_123 cf_9 (by decide) rfl hRU.1 ⟨by decide, by decide⟩ ⟨hk.1, hk.2⟩ rfl rfl (Nat.le_of_ble_eq_true rfl) dL_law_535 (fun w W9 hW9 => ?_) (fun _ _ z => z.elim)
  obtain ⟨rfl, hRW, hFW⟩ := hW9
  dsimp only [Option.toList_some, Option.toList_none, List.cons_append, List.nil_append]
  refine V_iload C dL_law_538 rfl ?_
  refine V_icmp_eq C (tgt := 545) dL_law_540 (by decide) (fun _ => ?_) (fun z => absurd hN.2 z)
  have hF := Fr_tr hFU hFW
  have fin : ∀ lo9, lsub [(4, false, .int i), (3, false, .ref c), (2, false, .ref m), (1, false, .ref (ad 8 0)), (0, false, .ref b)] lo9 → V X G 7 Q (k + 40) (n + 400) 2121 lo9 [] W9 := fun lo9 h9 => V_sub h9 (lb_fin hL hcT hF ⟨hRW.1, hRW.2⟩ hN.1 kk)
  exact V_goto C (tgt := 2121) dL_law_545 (by decide) (fin _ (by repeat first | exact trivial | refine ⟨rfl, ?_⟩))
theorem lb_report {y : Nat → Int32} (C : Cx X G RL cL_law 7 (some .boolean) room_1 tb) (hl : X.2.1.stackTraces = false) (hs : SC X G b i y) (hk : k + 40 ≤ 601024 ∧ n + 400 ≤ 7293034) (hW : LW S m c ad σ) (hn : cN σ 27 < 512) (kk : ∀ T ad' σ', LW T m c ad' σ' → ad' 8 0 = ad 8 0 → cN σ' 27 ≤ cN σ 27 + 1 → V X G 7 Q (k + 40) (n + 400) 2121 [(4, false, .int i), (3, false, .ref c), (2, false, .ref m), (1, false, .ref (ad 8 0)), (0, false, .ref b)] [] T) : V X G 7 Q k n 548 [(4, false, .int i), (3, false, .ref c), (2, false, .ref m), (1, false, .ref (ad 8 0)), (0, false, .ref b)] [] S := by
  obtain ⟨hR, hC, hG, hI, hc⟩ := hW
  have hN : NX σ (oReport σ (y 1) (y 2) (y 3)).2 (tReport σ (y 1) (y 2) (y 3)) := NX_Report (σ := σ) hI
  refine V_aload_n C dL_law_548 rfl (isR_r _) ?_
  refine V_arg C hs 1 1 (by decide) dL_law_549 dL_law_550 dL_law_552 dL_law_553 dL_law_554 ?_
  refine V_arg C hs 2 2 (by decide) dL_law_555 dL_law_556 dL_law_558 dL_law_559 dL_law_560 ?_
  refine V_arg C hs 3 3 (by decide) dL_law_561 dL_law_562 dL_law_564 dL_law_565 dL_law_566 ?_
  refine V_aload_n C dL_law_567 rfl (isR_r _) ?_
  refine V_callH C (h_report X.2.1 hl G S ad σ hC hG hI c hc (y 1) (y 2) (y 3)) kh_L_142 ⟨by decide, by decide⟩ ⟨Nat.le_trans (Nat.add_le_add_left (by decide) _) hk.1, Nat.le_trans (Nat.add_le_add_left (by decide) _) hk.2⟩ rfl rfl (Nat.le_of_ble_eq_true rfl) dL_law_568 (fun v T hT => ?_)
  obtain ⟨rfl, hL, hcT, hJ⟩ := hT
  refine V_widen (k' := k + 40) (n' := n + 400) (Nat.add_le_add_left (by decide) _) (Nat.add_le_add_left (by decide) _) ?_
  dsimp only [Option.toList_some, Option.toList_none, List.cons_append, List.nil_append]
  have hRT : RelR T m σ := RelR_LH hR hL
  refine V_istore C dL_law_571 (by decide) rfl ?_
  refine V_aload_n C dL_law_573 rfl (isR_r _) ?_
  refine V_arg C hs 1 1 (by decide) dL_law_574 dL_law_575 dL_law_577 dL_law_578 dL_law_579 ?_
  refine V_arg C hs 2 2 (by decide) dL_law_580 dL_law_581 dL_law_583 dL_law_584 dL_law_585 ?_
  refine V_arg C hs 3 3 (by decide) dL_law_586 dL_law_587 dL_law_589 dL_law_590 dL_law_591 ?_
  refine V_callV C (c_X9_report X.2.1 hl G T m σ hRT hI.1 (y 1) (y 2) (y 3)) kv_L_144 cf_9 (by decide) rfl hRT.1 ⟨by decide, by decide⟩ ⟨hk.1, hk.2⟩ rfl rfl (Nat.le_of_ble_eq_true rfl) dL_law_592 (fun w U hU => ?_) (fun _ _ z => z.elim)
  obtain ⟨rfl, hRU, hFU⟩ := hU
  dsimp only [Option.toList_some, Option.toList_none, List.cons_append, List.nil_append]
  refine V_istore C dL_law_595 (by decide) rfl ?_
  refine V_aload_n C dL_law_597 rfl (isR_r _) ?_
  refine V_callV C (c_X9_thrown X.2.1 hl G U m (oReport σ (y 1) (y 2) (y 3)).2 hRU) kv_L_123 cf_9 (by decide) rfl hRU.1 ⟨by decide, by decide⟩ ⟨hk.1, hk.2⟩ rfl rfl (Nat.le_of_ble_eq_true rfl) dL_law_598 (fun w W9 hW9 => ?_) (fun _ _ z => z.elim)
  obtain ⟨rfl, hRW, hFW⟩ := hW9
  dsimp only [Option.toList_some, Option.toList_none, List.cons_append, List.nil_append]
  refine V_iload C dL_law_601 rfl ?_
  refine V_icmp_eq C (tgt := 608) dL_law_603 (by decide) (fun _ => ?_) (fun z => absurd hN.2 z)
  have hF := Fr_tr hFU hFW
  have fin : ∀ lo9, lsub [(4, false, .int i), (3, false, .ref c), (2, false, .ref m), (1, false, .ref (ad 8 0)), (0, false, .ref b)] lo9 → V X G 7 Q (k + 40) (n + 400) 2121 lo9 [] W9 := fun lo9 h9 => V_sub h9 (lb_fin hL hcT hF ⟨hRW.1, hRW.2⟩ hN.1 kk)
  refine V_iload C dL_law_608 rfl ?_
  refine V_if_ne C (tgt := 625) dL_law_610 (by decide) (fun _ => ?_) (fun h0 => ?_)
  · exact V_goto C (tgt := 2121) dL_law_625 (by decide) (fin _ (by repeat first | exact trivial | refine ⟨rfl, ?_⟩))
  · refine V_aload_n C dL_law_613 rfl (isR_r _) ?_
    refine V_iconst C (v := 0) dL_law_614 (by decide) ?_
    obtain ⟨w1, w2, w3⟩ := row_M hcT hF
    refine V_lald C w1 (by decide) (by rw [w2]; exact (show ¬ ((0 : Int32) < 0 ∨ 1 ≤ Int32.toNatClampNeg 0) by decide)) dL_law_615 ?_
    rw [show sJ W9 c (Int32.toNatClampNeg 0) = (oReport σ (y 1) (y 2) (y 3)).1.toInt64 from (w3 0).trans (hJ h0)]
    refine V_iload C dL_law_616 rfl ?_
    refine V_i2l C dL_law_618 ?_
    refine V_lcmp C dL_law_619 ?_
    refine V_if_eq C (tgt := 625) dL_law_620 (by decide) (fun _ => ?_) (fun z => absurd (lc_self _) z)
    exact V_goto C (tgt := 2121) dL_law_625 (by decide) (fin _ (by repeat first | exact trivial | refine ⟨rfl, ?_⟩))
end VL9
