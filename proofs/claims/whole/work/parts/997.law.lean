/-! the law: one call of the script, by its kind -/
section
variable {l : Launch} {G : sw_G} {b L : Nat} {xs : Nat → Int32} {M : sw_M} {s : CSt} {i : Int} {uc us : Nat}
theorem law_feed (hLI : LI G M s) (hi0 : 0 ≤ i) (hi1 : i + 7 ≤ (L : Int)) (hL : L ≤ 3584) (hu : uc + 6 ≤ 601024) (hv : us + 80 ≤ 7293034) (K : KK l b L xs i uc us) : V l G μL (sw_EL b L xs) ZL 184 (LV G b i) [] M uc us := by
  obtain ⟨hs, hI, hIR, o, hO⟩ := id hLI
  have hES : ∀ s A, sw_EL b L xs s A → sw_EL b L xs s A := fun _ _ h => h
  have hu1 : uc ≤ mK μL := (show uc ≤ 601024 from by omega)
  have hv1 : us ≤ mS μL := (show us ≤ 7293034 from by omega)
  refine v_aload_n dL_law_184 rfl ?_
  refine v_aload_n dL_law_185 rfl ?_
  refine v_iload dL_law_186 rfl ?_
  refine v_iconst dL_law_188 ?_
  refine v_iadd dL_law_189 ?_
  refine v_sld hES hL (by omega) (by omega) dL_law_190 ?_
  refine v_aload_n dL_law_191 rfl ?_
  refine v_iload dL_law_192 rfl ?_
  refine v_iconst dL_law_194 ?_
  refine v_iadd dL_law_195 ?_
  refine v_sld hES hL (by omega) (by omega) dL_law_196 ?_
  refine v_aload_n dL_law_197 rfl ?_
  refine v_iload dL_law_198 rfl ?_
  refine v_iconst dL_law_200 ?_
  refine v_iadd dL_law_201 ?_
  refine v_sld hES hL (by omega) (by omega) dL_law_202 ?_
  refine v_aload_n dL_law_203 rfl ?_
  refine v_iload dL_law_204 rfl ?_
  refine v_iconst dL_law_206 ?_
  refine v_iadd dL_law_207 ?_
  refine v_sld hES hL (by omega) (by omega) dL_law_208 ?_
  refine v_aload_n dL_law_209 rfl ?_
  refine v_iload dL_law_210 rfl ?_
  refine v_iconst dL_law_212 ?_
  refine v_iadd dL_law_213 ?_
  refine v_sld hES hL (by omega) (by omega) dL_law_214 ?_
  refine v_callV (ci := 9) (pr_feed hI hs (xq_rg xs (i + 1)) (xq_rg xs (i + 2)) (xq_rg xs (i + 3)) (xq_rg xs (i + 4)) (xq_rg xs (i + 5))) ⟨rfl, rfl⟩ hu1 hv1 hI.1 rfl ⟨ml_L_23, mm_X9_feed⟩ ⟨(Nat.le_of_ble_eq_true rfl), (Nat.le_of_ble_eq_true rfl)⟩ mp_X9_feed rfl rfl (Nat.le_of_ble_eq_true rfl) dL_law_215 (fun r M1 h => ?_)
  obtain ⟨z, s1, hs1, rfl, hI1, hf1, hR1⟩ := h
  have hIR1 := hIR.frC hf1
  obtain ⟨x1, a1, hX1, -⟩ := id hIR1
  refine v_aload_n dL_law_218 rfl ?_
  refine v_aload_n dL_law_219 rfl ?_
  refine v_iload dL_law_220 rfl ?_
  refine v_iconst dL_law_222 ?_
  refine v_iadd dL_law_223 ?_
  refine v_sld hES hL (by omega) (by omega) dL_law_224 ?_
  refine v_aload_n dL_law_225 rfl ?_
  refine v_iload dL_law_226 rfl ?_
  refine v_iconst dL_law_228 ?_
  refine v_iadd dL_law_229 ?_
  refine v_sld hES hL (by omega) (by omega) dL_law_230 ?_
  refine v_aload_n dL_law_231 rfl ?_
  refine v_iload dL_law_232 rfl ?_
  refine v_iconst dL_law_234 ?_
  refine v_iadd dL_law_235 ?_
  refine v_sld hES hL (by omega) (by omega) dL_law_236 ?_
  refine v_aload_n dL_law_237 rfl ?_
  refine v_iload dL_law_238 rfl ?_
  refine v_iconst dL_law_240 ?_
  refine v_iadd dL_law_241 ?_
  refine v_sld hES hL (by omega) (by omega) dL_law_242 ?_
  refine v_aload_n dL_law_243 rfl ?_
  refine v_iload dL_law_244 rfl ?_
  refine v_iconst dL_law_246 ?_
  refine v_iadd dL_law_247 ?_
  refine v_sld hES hL (by omega) (by omega) dL_law_248 ?_
  refine v_callV (ci := 10) (hR1 M1 hIR1) ⟨rfl, rfl⟩ hu1 hv1 hX1.1 rfl ⟨ml_L_27, mm_X10_feed⟩ ⟨(Nat.le_of_ble_eq_true rfl), (Nat.le_of_ble_eq_true rfl)⟩ mp_X10_feed rfl rfl (Nat.le_of_ble_eq_true rfl) dL_law_249 (fun r M2 h => ?_)
  obtain ⟨rfl, hIR2, hf2⟩ := h
  refine v_icmp_same (tgt := 1588) dL_law_252 (by decide) ?_
  exact K G M2 s1 uc us (by omega) (by omega) ⟨hs1, hI1.frR hf2, hIR2, o, (hf2 95 (by omega)).trans ((hf1 95 (by omega) (by omega)).trans hO)⟩
theorem law_end (hLI : LI G M s) (hi0 : 0 ≤ i) (hi1 : i + 7 ≤ (L : Int)) (hL : L ≤ 3584) (hu : uc + 6 ≤ 601024) (hv : us + 80 ≤ 7293034) (K : KK l b L xs i uc us) : V l G μL (sw_EL b L xs) ZL 257 (LV G b i) [] M uc us := by
  obtain ⟨hs, hI, hIR, o, hO⟩ := id hLI
  have hES : ∀ s A, sw_EL b L xs s A → sw_EL b L xs s A := fun _ _ h => h
  have hu1 : uc ≤ mK μL := (show uc ≤ 601024 from by omega)
  have hv1 : us ≤ mS μL := (show us ≤ 7293034 from by omega)
  refine v_aload_n dL_law_257 rfl ?_
  refine v_aload_n dL_law_258 rfl ?_
  refine v_iload dL_law_259 rfl ?_
  refine v_iconst dL_law_261 ?_
  refine v_iadd dL_law_262 ?_
  refine v_sld hES hL (by omega) (by omega) dL_law_263 ?_
  refine v_callV (ci := 9) (pr_end hI hs (xq_rg xs (i + 1))) ⟨rfl, rfl⟩ hu1 hv1 hI.1 rfl ⟨ml_L_28, mm_X9_end⟩ ⟨(Nat.le_of_ble_eq_true rfl), (Nat.le_of_ble_eq_true rfl)⟩ mp_X9_end rfl rfl (Nat.le_of_ble_eq_true rfl) dL_law_264 (fun r M1 h => ?_)
  obtain ⟨z, s1, hs1, rfl, hI1, hf1, hR1⟩ := h
  have hIR1 := hIR.frC hf1
  obtain ⟨x1, a1, hX1, -⟩ := id hIR1
  refine v_aload_n dL_law_267 rfl ?_
  refine v_aload_n dL_law_268 rfl ?_
  refine v_iload dL_law_269 rfl ?_
  refine v_iconst dL_law_271 ?_
  refine v_iadd dL_law_272 ?_
  refine v_sld hES hL (by omega) (by omega) dL_law_273 ?_
  refine v_callV (ci := 10) (hR1 M1 hIR1) ⟨rfl, rfl⟩ hu1 hv1 hX1.1 rfl ⟨ml_L_32, mm_X10_end⟩ ⟨(Nat.le_of_ble_eq_true rfl), (Nat.le_of_ble_eq_true rfl)⟩ mp_X10_end rfl rfl (Nat.le_of_ble_eq_true rfl) dL_law_274 (fun r M2 h => ?_)
  obtain ⟨rfl, hIR2, hf2⟩ := h
  refine v_icmp_same (tgt := 1588) dL_law_277 (by decide) ?_
  exact K G M2 s1 uc us (by omega) (by omega) ⟨hs1, hI1.frR hf2, hIR2, o, (hf2 95 (by omega)).trans ((hf1 95 (by omega) (by omega)).trans hO)⟩
theorem law_fault (hLI : LI G M s) (hi0 : 0 ≤ i) (hi1 : i + 7 ≤ (L : Int)) (hL : L ≤ 3584) (hu : uc + 6 ≤ 601024) (hv : us + 80 ≤ 7293034) (K : KK l b L xs i uc us) : V l G μL (sw_EL b L xs) ZL 282 (LV G b i) [] M uc us := by
  obtain ⟨hs, hI, hIR, o, hO⟩ := id hLI
  have hES : ∀ s A, sw_EL b L xs s A → sw_EL b L xs s A := fun _ _ h => h
  have hu1 : uc ≤ mK μL := (show uc ≤ 601024 from by omega)
  have hv1 : us ≤ mS μL := (show us ≤ 7293034 from by omega)
  refine v_aload_n dL_law_282 rfl ?_
  refine v_callV (ci := 9) (pr_fault hI hs) ⟨rfl, rfl⟩ hu1 hv1 hI.1 rfl ⟨ml_L_33, mm_X9_fault⟩ ⟨(Nat.le_of_ble_eq_true rfl), (Nat.le_of_ble_eq_true rfl)⟩ mp_X9_fault rfl rfl (Nat.le_of_ble_eq_true rfl) dL_law_283 (fun r M1 h => ?_)
  obtain ⟨z, s1, hs1, rfl, hI1, hf1, hR1⟩ := h
  have hIR1 := hIR.frC hf1
  obtain ⟨x1, a1, hX1, -⟩ := id hIR1
  refine v_aload_n dL_law_286 rfl ?_
  refine v_callV (ci := 10) (hR1 M1 hIR1) ⟨rfl, rfl⟩ hu1 hv1 hX1.1 rfl ⟨ml_L_37, mm_X10_fault⟩ ⟨(Nat.le_of_ble_eq_true rfl), (Nat.le_of_ble_eq_true rfl)⟩ mp_X10_fault rfl rfl (Nat.le_of_ble_eq_true rfl) dL_law_287 (fun r M2 h => ?_)
  obtain ⟨rfl, hIR2, hf2⟩ := h
  refine v_icmp_same (tgt := 1588) dL_law_290 (by decide) ?_
  exact K G M2 s1 uc us (by omega) (by omega) ⟨hs1, hI1.frR hf2, hIR2, o, (hf2 95 (by omega)).trans ((hf1 95 (by omega) (by omega)).trans hO)⟩
theorem law_told (hLI : LI G M s) (hi0 : 0 ≤ i) (hi1 : i + 7 ≤ (L : Int)) (hL : L ≤ 3584) (hu : uc + 6 ≤ 601024) (hv : us + 80 ≤ 7293034) (K : KK l b L xs i uc us) : V l G μL (sw_EL b L xs) ZL 308 (LV G b i) [] M uc us := by
  obtain ⟨hs, hI, hIR, o, hO⟩ := id hLI
  have hES : ∀ s A, sw_EL b L xs s A → sw_EL b L xs s A := fun _ _ h => h
  have hu1 : uc ≤ mK μL := (show uc ≤ 601024 from by omega)
  have hv1 : us ≤ mS μL := (show us ≤ 7293034 from by omega)
  refine v_aload_n dL_law_308 rfl ?_
  refine v_aload_n dL_law_309 rfl ?_
  refine v_iload dL_law_310 rfl ?_
  refine v_iconst dL_law_312 ?_
  refine v_iadd dL_law_313 ?_
  refine v_sld hES hL (by omega) (by omega) dL_law_314 ?_
  refine v_aload_n dL_law_315 rfl ?_
  refine v_iload dL_law_316 rfl ?_
  refine v_iconst dL_law_318 ?_
  refine v_iadd dL_law_319 ?_
  refine v_sld hES hL (by omega) (by omega) dL_law_320 ?_
  refine v_callV (ci := 9) (pr_told hI hs (xq_rg xs (i + 1)) (xq_rg xs (i + 2))) ⟨rfl, rfl⟩ hu1 hv1 hI.1 rfl ⟨ml_L_42, mm_X9_told⟩ ⟨(Nat.le_of_ble_eq_true rfl), (Nat.le_of_ble_eq_true rfl)⟩ mp_X9_told rfl rfl (Nat.le_of_ble_eq_true rfl) dL_law_321 (fun r M1 h => ?_)
  obtain ⟨z, s1, hs1, rfl, hI1, hf1, hR1⟩ := h
  have hIR1 := hIR.frC hf1
  obtain ⟨x1, a1, hX1, -⟩ := id hIR1
  refine v_aload_n dL_law_324 rfl ?_
  refine v_aload_n dL_law_325 rfl ?_
  refine v_iload dL_law_326 rfl ?_
  refine v_iconst dL_law_328 ?_
  refine v_iadd dL_law_329 ?_
  refine v_sld hES hL (by omega) (by omega) dL_law_330 ?_
  refine v_aload_n dL_law_331 rfl ?_
  refine v_iload dL_law_332 rfl ?_
  refine v_iconst dL_law_334 ?_
  refine v_iadd dL_law_335 ?_
  refine v_sld hES hL (by omega) (by omega) dL_law_336 ?_
  refine v_callV (ci := 10) (hR1 M1 hIR1) ⟨rfl, rfl⟩ hu1 hv1 hX1.1 rfl ⟨ml_L_45, mm_X10_told⟩ ⟨(Nat.le_of_ble_eq_true rfl), (Nat.le_of_ble_eq_true rfl)⟩ mp_X10_told rfl rfl (Nat.le_of_ble_eq_true rfl) dL_law_337 (fun r M2 h => ?_)
  obtain ⟨rfl, hIR2, hf2⟩ := h
  refine v_icmp_same (tgt := 1588) dL_law_340 (by decide) ?_
  exact K G M2 s1 uc us (by omega) (by omega) ⟨hs1, hI1.frR hf2, hIR2, o, (hf2 95 (by omega)).trans ((hf1 95 (by omega) (by omega)).trans hO)⟩
theorem law_change (hLI : LI G M s) (hi0 : 0 ≤ i) (hi1 : i + 7 ≤ (L : Int)) (hL : L ≤ 3584) (hu : uc + 6 ≤ 601024) (hv : us + 80 ≤ 7293034) (K : KK l b L xs i uc us) : V l G μL (sw_EL b L xs) ZL 425 (LV G b i) [] M uc us := by
  obtain ⟨hs, hI, hIR, o, hO⟩ := id hLI
  have hES : ∀ s A, sw_EL b L xs s A → sw_EL b L xs s A := fun _ _ h => h
  have hu1 : uc ≤ mK μL := (show uc ≤ 601024 from by omega)
  have hv1 : us ≤ mS μL := (show us ≤ 7293034 from by omega)
  refine v_aload_n dL_law_425 rfl ?_
  refine v_aload_n dL_law_426 rfl ?_
  refine v_iload dL_law_427 rfl ?_
  refine v_iconst dL_law_429 ?_
  refine v_iadd dL_law_430 ?_
  refine v_sld hES hL (by omega) (by omega) dL_law_431 ?_
  refine v_aload_n dL_law_432 rfl ?_
  refine v_iload dL_law_433 rfl ?_
  refine v_iconst dL_law_435 ?_
  refine v_iadd dL_law_436 ?_
  refine v_sld hES hL (by omega) (by omega) dL_law_437 ?_
  refine v_aload_n dL_law_438 rfl ?_
  refine v_iload dL_law_439 rfl ?_
  refine v_iconst dL_law_441 ?_
  refine v_iadd dL_law_442 ?_
  refine v_sld hES hL (by omega) (by omega) dL_law_443 ?_
  refine v_callV (ci := 9) (pr_change hI hs (xq_rg xs (i + 1)) (xq_rg xs (i + 2)) (xq_rg xs (i + 3))) ⟨rfl, rfl⟩ hu1 hv1 hI.1 rfl ⟨ml_L_55, mm_X9_change⟩ ⟨(Nat.le_of_ble_eq_true rfl), (Nat.le_of_ble_eq_true rfl)⟩ mp_X9_change rfl rfl (Nat.le_of_ble_eq_true rfl) dL_law_444 (fun r M1 h => ?_)
  obtain ⟨z, s1, hs1, rfl, hI1, hf1, hR1⟩ := h
  have hIR1 := hIR.frC hf1
  obtain ⟨x1, a1, hX1, -⟩ := id hIR1
  refine v_aload_n dL_law_447 rfl ?_
  refine v_aload_n dL_law_448 rfl ?_
  refine v_iload dL_law_449 rfl ?_
  refine v_iconst dL_law_451 ?_
  refine v_iadd dL_law_452 ?_
  refine v_sld hES hL (by omega) (by omega) dL_law_453 ?_
  refine v_aload_n dL_law_454 rfl ?_
  refine v_iload dL_law_455 rfl ?_
  refine v_iconst dL_law_457 ?_
  refine v_iadd dL_law_458 ?_
  refine v_sld hES hL (by omega) (by omega) dL_law_459 ?_
  refine v_aload_n dL_law_460 rfl ?_
  refine v_iload dL_law_461 rfl ?_
  refine v_iconst dL_law_463 ?_
  refine v_iadd dL_law_464 ?_
  refine v_sld hES hL (by omega) (by omega) dL_law_465 ?_
  refine v_callV (ci := 10) (hR1 M1 hIR1) ⟨rfl, rfl⟩ hu1 hv1 hX1.1 rfl ⟨ml_L_59, mm_X10_change⟩ ⟨(Nat.le_of_ble_eq_true rfl), (Nat.le_of_ble_eq_true rfl)⟩ mp_X10_change rfl rfl (Nat.le_of_ble_eq_true rfl) dL_law_466 (fun r M2 h => ?_)
  obtain ⟨rfl, hIR2, hf2⟩ := h
  refine v_icmp_same (tgt := 1588) dL_law_469 (by decide) ?_
  exact K G M2 s1 uc us (by omega) (by omega) ⟨hs1, hI1.frR hf2, hIR2, o, (hf2 95 (by omega)).trans ((hf1 95 (by omega) (by omega)).trans hO)⟩
theorem law_worth (hLI : LI G M s) (hi0 : 0 ≤ i) (hi1 : i + 7 ≤ (L : Int)) (hL : L ≤ 3584) (hu : uc + 6 ≤ 601024) (hv : us + 80 ≤ 7293034) (K : KK l b L xs i uc us) : V l G μL (sw_EL b L xs) ZL 474 (LV G b i) [] M uc us := by
  obtain ⟨hs, hI, hIR, o, hO⟩ := id hLI
  have hES : ∀ s A, sw_EL b L xs s A → sw_EL b L xs s A := fun _ _ h => h
  have hu1 : uc ≤ mK μL := (show uc ≤ 601024 from by omega)
  have hv1 : us ≤ mS μL := (show us ≤ 7293034 from by omega)
  refine v_aload_n dL_law_474 rfl ?_
  refine v_aload_n dL_law_475 rfl ?_
  refine v_iload dL_law_476 rfl ?_
  refine v_iconst dL_law_478 ?_
  refine v_iadd dL_law_479 ?_
  refine v_sld hES hL (by omega) (by omega) dL_law_480 ?_
  refine v_aload_n dL_law_481 rfl ?_
  refine v_iload dL_law_482 rfl ?_
  refine v_iconst dL_law_484 ?_
  refine v_iadd dL_law_485 ?_
  refine v_sld hES hL (by omega) (by omega) dL_law_486 ?_
  refine v_aload_n dL_law_487 rfl ?_
  refine v_iload dL_law_488 rfl ?_
  refine v_iconst dL_law_490 ?_
  refine v_iadd dL_law_491 ?_
  refine v_sld hES hL (by omega) (by omega) dL_law_492 ?_
  refine v_aload_n dL_law_493 rfl ?_
  refine v_iload dL_law_494 rfl ?_
  refine v_iconst dL_law_496 ?_
  refine v_iadd dL_law_497 ?_
  refine v_sld hES hL (by omega) (by omega) dL_law_498 ?_
  refine v_aload_n dL_law_499 rfl ?_
  refine v_iload dL_law_500 rfl ?_
  refine v_iconst dL_law_502 ?_
  refine v_iadd dL_law_503 ?_
  refine v_sld hES hL (by omega) (by omega) dL_law_504 ?_
  refine v_aload_n dL_law_505 rfl ?_
  refine v_iload dL_law_506 rfl ?_
  refine v_bipush dL_law_508 (by decide +kernel) ?_
  refine v_iadd dL_law_510 ?_
  refine v_sld hES hL (by omega) (by omega) dL_law_511 ?_
  refine v_callV (ci := 9) (pr_worth hI hs (xq_rg xs (i + 1)) (xq_rg xs (i + 2)) (xq_rg xs (i + 3)) (xq_rg xs (i + 4)) (xq_rg xs (i + 5)) (xq_rg xs (i + 6))) ⟨rfl, rfl⟩ hu1 hv1 hI.1 rfl ⟨ml_L_60, mm_X9_worth⟩ ⟨(Nat.le_of_ble_eq_true rfl), (Nat.le_of_ble_eq_true rfl)⟩ mp_X9_worth rfl rfl (Nat.le_of_ble_eq_true rfl) dL_law_512 (fun r M1 h => ?_)
  obtain ⟨z, s1, hs1, rfl, hI1, hf1, hR1⟩ := h
  have hIR1 := hIR.frC hf1
  obtain ⟨x1, a1, hX1, -⟩ := id hIR1
  refine v_aload_n dL_law_515 rfl ?_
  refine v_aload_n dL_law_516 rfl ?_
  refine v_iload dL_law_517 rfl ?_
  refine v_iconst dL_law_519 ?_
  refine v_iadd dL_law_520 ?_
  refine v_sld hES hL (by omega) (by omega) dL_law_521 ?_
  refine v_aload_n dL_law_522 rfl ?_
  refine v_iload dL_law_523 rfl ?_
  refine v_iconst dL_law_525 ?_
  refine v_iadd dL_law_526 ?_
  refine v_sld hES hL (by omega) (by omega) dL_law_527 ?_
  refine v_aload_n dL_law_528 rfl ?_
  refine v_iload dL_law_529 rfl ?_
  refine v_iconst dL_law_531 ?_
  refine v_iadd dL_law_532 ?_
  refine v_sld hES hL (by omega) (by omega) dL_law_533 ?_
  refine v_aload_n dL_law_534 rfl ?_
  refine v_iload dL_law_535 rfl ?_
  refine v_iconst dL_law_537 ?_
  refine v_iadd dL_law_538 ?_
  refine v_sld hES hL (by omega) (by omega) dL_law_539 ?_
  refine v_aload_n dL_law_540 rfl ?_
  refine v_iload dL_law_541 rfl ?_
  refine v_iconst dL_law_543 ?_
  refine v_iadd dL_law_544 ?_
  refine v_sld hES hL (by omega) (by omega) dL_law_545 ?_
  refine v_aload_n dL_law_546 rfl ?_
  refine v_iload dL_law_547 rfl ?_
  refine v_bipush dL_law_549 (by decide +kernel) ?_
  refine v_iadd dL_law_551 ?_
  refine v_sld hES hL (by omega) (by omega) dL_law_552 ?_
  refine v_callV (ci := 10) (hR1 M1 hIR1) ⟨rfl, rfl⟩ hu1 hv1 hX1.1 rfl ⟨ml_L_64, mm_X10_worth⟩ ⟨(Nat.le_of_ble_eq_true rfl), (Nat.le_of_ble_eq_true rfl)⟩ mp_X10_worth rfl rfl (Nat.le_of_ble_eq_true rfl) dL_law_553 (fun r M2 h => ?_)
  obtain ⟨rfl, hIR2, hf2⟩ := h
  refine v_icmp_same (tgt := 1588) dL_law_556 (by decide) ?_
  exact K G M2 s1 uc us (by omega) (by omega) ⟨hs1, hI1.frR hf2, hIR2, o, (hf2 95 (by omega)).trans ((hf1 95 (by omega) (by omega)).trans hO)⟩
theorem law_table (hLI : LI G M s) (hi0 : 0 ≤ i) (hi1 : i + 7 ≤ (L : Int)) (hL : L ≤ 3584) (hu : uc + 6 ≤ 601024) (hv : us + 80 ≤ 7293034) (K : KK l b L xs i uc us) : V l G μL (sw_EL b L xs) ZL 561 (LV G b i) [] M uc us := by
  obtain ⟨hs, hI, hIR, o, hO⟩ := id hLI
  have hES : ∀ s A, sw_EL b L xs s A → sw_EL b L xs s A := fun _ _ h => h
  have hu1 : uc ≤ mK μL := (show uc ≤ 601024 from by omega)
  have hv1 : us ≤ mS μL := (show us ≤ 7293034 from by omega)
  refine v_aload_n dL_law_561 rfl ?_
  refine v_callV (ci := 9) (pr_table hI hs) ⟨rfl, rfl⟩ hu1 hv1 hI.1 rfl ⟨ml_L_65, mm_X9_table⟩ ⟨(Nat.le_of_ble_eq_true rfl), (Nat.le_of_ble_eq_true rfl)⟩ mp_X9_table rfl rfl (Nat.le_of_ble_eq_true rfl) dL_law_562 (fun r M1 h => ?_)
  obtain ⟨z, s1, hs1, rfl, hI1, hf1, hR1⟩ := h
  have hIR1 := hIR.frC hf1
  obtain ⟨x1, a1, hX1, -⟩ := id hIR1
  refine v_aload_n dL_law_565 rfl ?_
  refine v_callV (ci := 10) (hR1 M1 hIR1) ⟨rfl, rfl⟩ hu1 hv1 hX1.1 rfl ⟨ml_L_68, mm_X10_table⟩ ⟨(Nat.le_of_ble_eq_true rfl), (Nat.le_of_ble_eq_true rfl)⟩ mp_X10_table rfl rfl (Nat.le_of_ble_eq_true rfl) dL_law_566 (fun r M2 h => ?_)
  obtain ⟨rfl, hIR2, hf2⟩ := h
  refine v_icmp_same (tgt := 1588) dL_law_569 (by decide) ?_
  exact K G M2 s1 uc us (by omega) (by omega) ⟨hs1, hI1.frR hf2, hIR2, o, (hf2 95 (by omega)).trans ((hf1 95 (by omega) (by omega)).trans hO)⟩
theorem law_bid (hLI : LI G M s) (hi0 : 0 ≤ i) (hi1 : i + 7 ≤ (L : Int)) (hL : L ≤ 3584) (hu : uc + 6 ≤ 601024) (hv : us + 80 ≤ 7293034) (K : KK l b L xs i uc us) : V l G μL (sw_EL b L xs) ZL 574 (LV G b i) [] M uc us := by
  obtain ⟨hs, hI, hIR, o, hO⟩ := id hLI
  have hES : ∀ s A, sw_EL b L xs s A → sw_EL b L xs s A := fun _ _ h => h
  have hu1 : uc ≤ mK μL := (show uc ≤ 601024 from by omega)
  have hv1 : us ≤ mS μL := (show us ≤ 7293034 from by omega)
  refine v_aload_n dL_law_574 rfl ?_
  refine v_aload_n dL_law_575 rfl ?_
  refine v_iload dL_law_576 rfl ?_
  refine v_iconst dL_law_578 ?_
  refine v_iadd dL_law_579 ?_
  refine v_sld hES hL (by omega) (by omega) dL_law_580 ?_
  refine v_aload_n dL_law_581 rfl ?_
  refine v_iload dL_law_582 rfl ?_
  refine v_iconst dL_law_584 ?_
  refine v_iadd dL_law_585 ?_
  refine v_sld hES hL (by omega) (by omega) dL_law_586 ?_
  refine v_aload_n dL_law_587 rfl ?_
  refine v_iload dL_law_588 rfl ?_
  refine v_iconst dL_law_590 ?_
  refine v_iadd dL_law_591 ?_
  refine v_sld hES hL (by omega) (by omega) dL_law_592 ?_
  refine v_callV (ci := 9) (pr_bid hI hs (xq_rg xs (i + 1)) (xq_rg xs (i + 2)) (xq_rg xs (i + 3))) ⟨rfl, rfl⟩ hu1 hv1 hI.1 rfl ⟨ml_L_69, mm_X9_bid⟩ ⟨(Nat.le_of_ble_eq_true rfl), (Nat.le_of_ble_eq_true rfl)⟩ mp_X9_bid rfl rfl (Nat.le_of_ble_eq_true rfl) dL_law_593 (fun r M1 h => ?_)
  obtain ⟨z, s1, hs1, rfl, hI1, hf1, hR1⟩ := h
  have hIR1 := hIR.frC hf1
  obtain ⟨x1, a1, hX1, -⟩ := id hIR1
  refine v_aload_n dL_law_596 rfl ?_
  refine v_aload_n dL_law_597 rfl ?_
  refine v_iload dL_law_598 rfl ?_
  refine v_iconst dL_law_600 ?_
  refine v_iadd dL_law_601 ?_
  refine v_sld hES hL (by omega) (by omega) dL_law_602 ?_
  refine v_aload_n dL_law_603 rfl ?_
  refine v_iload dL_law_604 rfl ?_
  refine v_iconst dL_law_606 ?_
  refine v_iadd dL_law_607 ?_
  refine v_sld hES hL (by omega) (by omega) dL_law_608 ?_
  refine v_aload_n dL_law_609 rfl ?_
  refine v_iload dL_law_610 rfl ?_
  refine v_iconst dL_law_612 ?_
  refine v_iadd dL_law_613 ?_
  refine v_sld hES hL (by omega) (by omega) dL_law_614 ?_
  refine v_callV (ci := 10) (hR1 M1 hIR1) ⟨rfl, rfl⟩ hu1 hv1 hX1.1 rfl ⟨ml_L_72, mm_X10_bid⟩ ⟨(Nat.le_of_ble_eq_true rfl), (Nat.le_of_ble_eq_true rfl)⟩ mp_X10_bid rfl rfl (Nat.le_of_ble_eq_true rfl) dL_law_615 (fun r M2 h => ?_)
  obtain ⟨rfl, hIR2, hf2⟩ := h
  refine v_icmp_same (tgt := 1588) dL_law_618 (by decide) ?_
  exact K G M2 s1 uc us (by omega) (by omega) ⟨hs1, hI1.frR hf2, hIR2, o, (hf2 95 (by omega)).trans ((hf1 95 (by omega) (by omega)).trans hO)⟩
theorem law_seat (hLI : LI G M s) (hi0 : 0 ≤ i) (hi1 : i + 7 ≤ (L : Int)) (hL : L ≤ 3584) (hu : uc + 6 ≤ 601024) (hv : us + 80 ≤ 7293034) (K : KK l b L xs i uc us) : V l G μL (sw_EL b L xs) ZL 623 (LV G b i) [] M uc us := by
  obtain ⟨hs, hI, hIR, o, hO⟩ := id hLI
  have hES : ∀ s A, sw_EL b L xs s A → sw_EL b L xs s A := fun _ _ h => h
  have hu1 : uc ≤ mK μL := (show uc ≤ 601024 from by omega)
  have hv1 : us ≤ mS μL := (show us ≤ 7293034 from by omega)
  refine v_aload_n dL_law_623 rfl ?_
  refine v_aload_n dL_law_624 rfl ?_
  refine v_iload dL_law_625 rfl ?_
  refine v_iconst dL_law_627 ?_
  refine v_iadd dL_law_628 ?_
  refine v_sld hES hL (by omega) (by omega) dL_law_629 ?_
  refine v_aload_n dL_law_630 rfl ?_
  refine v_iload dL_law_631 rfl ?_
  refine v_iconst dL_law_633 ?_
  refine v_iadd dL_law_634 ?_
  refine v_sld hES hL (by omega) (by omega) dL_law_635 ?_
  refine v_aload_n dL_law_636 rfl ?_
  refine v_iload dL_law_637 rfl ?_
  refine v_iconst dL_law_639 ?_
  refine v_iadd dL_law_640 ?_
  refine v_sld hES hL (by omega) (by omega) dL_law_641 ?_
  refine v_callV (ci := 9) (pr_seat hI hs (xq_rg xs (i + 1)) (xq_rg xs (i + 2)) (xq_rg xs (i + 3))) ⟨rfl, rfl⟩ hu1 hv1 hI.1 rfl ⟨ml_L_73, mm_X9_seat⟩ ⟨(Nat.le_of_ble_eq_true rfl), (Nat.le_of_ble_eq_true rfl)⟩ mp_X9_seat rfl rfl (Nat.le_of_ble_eq_true rfl) dL_law_642 (fun r M1 h => ?_)
  obtain ⟨z, s1, hs1, rfl, hI1, hf1, hR1⟩ := h
  have hIR1 := hIR.frC hf1
  obtain ⟨x1, a1, hX1, -⟩ := id hIR1
  refine v_aload_n dL_law_645 rfl ?_
  refine v_aload_n dL_law_646 rfl ?_
  refine v_iload dL_law_647 rfl ?_
  refine v_iconst dL_law_649 ?_
  refine v_iadd dL_law_650 ?_
  refine v_sld hES hL (by omega) (by omega) dL_law_651 ?_
  refine v_aload_n dL_law_652 rfl ?_
  refine v_iload dL_law_653 rfl ?_
  refine v_iconst dL_law_655 ?_
  refine v_iadd dL_law_656 ?_
  refine v_sld hES hL (by omega) (by omega) dL_law_657 ?_
  refine v_aload_n dL_law_658 rfl ?_
  refine v_iload dL_law_659 rfl ?_
  refine v_iconst dL_law_661 ?_
  refine v_iadd dL_law_662 ?_
  refine v_sld hES hL (by omega) (by omega) dL_law_663 ?_
  refine v_callV (ci := 10) (hR1 M1 hIR1) ⟨rfl, rfl⟩ hu1 hv1 hX1.1 rfl ⟨ml_L_76, mm_X10_seat⟩ ⟨(Nat.le_of_ble_eq_true rfl), (Nat.le_of_ble_eq_true rfl)⟩ mp_X10_seat rfl rfl (Nat.le_of_ble_eq_true rfl) dL_law_664 (fun r M2 h => ?_)
  obtain ⟨rfl, hIR2, hf2⟩ := h
  refine v_icmp_same (tgt := 1588) dL_law_667 (by decide) ?_
  exact K G M2 s1 uc us (by omega) (by omega) ⟨hs1, hI1.frR hf2, hIR2, o, (hf2 95 (by omega)).trans ((hf1 95 (by omega) (by omega)).trans hO)⟩
theorem law_bids (hLI : LI G M s) (hi0 : 0 ≤ i) (hi1 : i + 7 ≤ (L : Int)) (hL : L ≤ 3584) (hu : uc + 6 ≤ 601024) (hv : us + 80 ≤ 7293034) (K : KK l b L xs i uc us) : V l G μL (sw_EL b L xs) ZL 672 (LV G b i) [] M uc us := by
  obtain ⟨hs, hI, hIR, o, hO⟩ := id hLI
  have hES : ∀ s A, sw_EL b L xs s A → sw_EL b L xs s A := fun _ _ h => h
  have hu1 : uc ≤ mK μL := (show uc ≤ 601024 from by omega)
  have hv1 : us ≤ mS μL := (show us ≤ 7293034 from by omega)
  refine v_aload_n dL_law_672 rfl ?_
  refine v_aload_n dL_law_673 rfl ?_
  refine v_iload dL_law_674 rfl ?_
  refine v_iconst dL_law_676 ?_
  refine v_iadd dL_law_677 ?_
  refine v_sld hES hL (by omega) (by omega) dL_law_678 ?_
  refine v_aload_n dL_law_679 rfl ?_
  refine v_iload dL_law_680 rfl ?_
  refine v_iconst dL_law_682 ?_
  refine v_iadd dL_law_683 ?_
  refine v_sld hES hL (by omega) (by omega) dL_law_684 ?_
  refine v_aload_n dL_law_685 rfl ?_
  refine v_iload dL_law_686 rfl ?_
  refine v_iconst dL_law_688 ?_
  refine v_iadd dL_law_689 ?_
  refine v_sld hES hL (by omega) (by omega) dL_law_690 ?_
  refine v_callV (ci := 9) (pr_bids hI hs (xq_rg xs (i + 1)) (xq_rg xs (i + 2)) (xq_rg xs (i + 3))) ⟨rfl, rfl⟩ hu1 hv1 hI.1 rfl ⟨ml_L_77, mm_X9_bids⟩ ⟨(Nat.le_of_ble_eq_true rfl), (Nat.le_of_ble_eq_true rfl)⟩ mp_X9_bids rfl rfl (Nat.le_of_ble_eq_true rfl) dL_law_691 (fun r M1 h => ?_)
  obtain ⟨z, s1, hs1, rfl, hI1, hf1, hR1⟩ := h
  have hIR1 := hIR.frC hf1
  obtain ⟨x1, a1, hX1, -⟩ := id hIR1
  refine v_aload_n dL_law_694 rfl ?_
  refine v_aload_n dL_law_695 rfl ?_
  refine v_iload dL_law_696 rfl ?_
  refine v_iconst dL_law_698 ?_
  refine v_iadd dL_law_699 ?_
  refine v_sld hES hL (by omega) (by omega) dL_law_700 ?_
  refine v_aload_n dL_law_701 rfl ?_
  refine v_iload dL_law_702 rfl ?_
  refine v_iconst dL_law_704 ?_
  refine v_iadd dL_law_705 ?_
  refine v_sld hES hL (by omega) (by omega) dL_law_706 ?_
  refine v_aload_n dL_law_707 rfl ?_
  refine v_iload dL_law_708 rfl ?_
  refine v_iconst dL_law_710 ?_
  refine v_iadd dL_law_711 ?_
  refine v_sld hES hL (by omega) (by omega) dL_law_712 ?_
  refine v_callV (ci := 10) (hR1 M1 hIR1) ⟨rfl, rfl⟩ hu1 hv1 hX1.1 rfl ⟨ml_L_80, mm_X10_bids⟩ ⟨(Nat.le_of_ble_eq_true rfl), (Nat.le_of_ble_eq_true rfl)⟩ mp_X10_bids rfl rfl (Nat.le_of_ble_eq_true rfl) dL_law_713 (fun r M2 h => ?_)
  obtain ⟨rfl, hIR2, hf2⟩ := h
  refine v_icmp_same (tgt := 1588) dL_law_716 (by decide) ?_
  exact K G M2 s1 uc us (by omega) (by omega) ⟨hs1, hI1.frR hf2, hIR2, o, (hf2 95 (by omega)).trans ((hf1 95 (by omega) (by omega)).trans hO)⟩
theorem law_cases (hLI : LI G M s) (hi0 : 0 ≤ i) (hi1 : i + 7 ≤ (L : Int)) (hL : L ≤ 3584) (hu : uc + 6 ≤ 601024) (hv : us + 80 ≤ 7293034) (K : KK l b L xs i uc us) : V l G μL (sw_EL b L xs) ZL 721 (LV G b i) [] M uc us := by
  obtain ⟨hs, hI, hIR, o, hO⟩ := id hLI
  have hES : ∀ s A, sw_EL b L xs s A → sw_EL b L xs s A := fun _ _ h => h
  have hu1 : uc ≤ mK μL := (show uc ≤ 601024 from by omega)
  have hv1 : us ≤ mS μL := (show us ≤ 7293034 from by omega)
  refine v_aload_n dL_law_721 rfl ?_
  refine v_aload_n dL_law_722 rfl ?_
  refine v_iload dL_law_723 rfl ?_
  refine v_iconst dL_law_725 ?_
  refine v_iadd dL_law_726 ?_
  refine v_sld hES hL (by omega) (by omega) dL_law_727 ?_
  refine v_aload_n dL_law_728 rfl ?_
  refine v_iload dL_law_729 rfl ?_
  refine v_iconst dL_law_731 ?_
  refine v_iadd dL_law_732 ?_
  refine v_sld hES hL (by omega) (by omega) dL_law_733 ?_
  refine v_callV (ci := 9) (pr_cases hI hs (xq_rg xs (i + 1)) (xq_rg xs (i + 2))) ⟨rfl, rfl⟩ hu1 hv1 hI.1 rfl ⟨ml_L_81, mm_X9_cases⟩ ⟨(Nat.le_of_ble_eq_true rfl), (Nat.le_of_ble_eq_true rfl)⟩ mp_X9_cases rfl rfl (Nat.le_of_ble_eq_true rfl) dL_law_734 (fun r M1 h => ?_)
  obtain ⟨z, s1, hs1, rfl, hI1, hf1, hR1⟩ := h
  have hIR1 := hIR.frC hf1
  obtain ⟨x1, a1, hX1, -⟩ := id hIR1
  refine v_aload_n dL_law_737 rfl ?_
  refine v_aload_n dL_law_738 rfl ?_
  refine v_iload dL_law_739 rfl ?_
  refine v_iconst dL_law_741 ?_
  refine v_iadd dL_law_742 ?_
  refine v_sld hES hL (by omega) (by omega) dL_law_743 ?_
  refine v_aload_n dL_law_744 rfl ?_
  refine v_iload dL_law_745 rfl ?_
  refine v_iconst dL_law_747 ?_
  refine v_iadd dL_law_748 ?_
  refine v_sld hES hL (by omega) (by omega) dL_law_749 ?_
  refine v_callV (ci := 10) (hR1 M1 hIR1) ⟨rfl, rfl⟩ hu1 hv1 hX1.1 rfl ⟨ml_L_85, mm_X10_cases⟩ ⟨(Nat.le_of_ble_eq_true rfl), (Nat.le_of_ble_eq_true rfl)⟩ mp_X10_cases rfl rfl (Nat.le_of_ble_eq_true rfl) dL_law_750 (fun r M2 h => ?_)
  obtain ⟨rfl, hIR2, hf2⟩ := h
  refine v_lcmp_same (tgt := 1588) dL_law_753 dL_law_754 (by decide) ?_
  exact K G M2 s1 uc us (by omega) (by omega) ⟨hs1, hI1.frR hf2, hIR2, o, (hf2 95 (by omega)).trans ((hf1 95 (by omega) (by omega)).trans hO)⟩
theorem law_gain (hLI : LI G M s) (hi0 : 0 ≤ i) (hi1 : i + 7 ≤ (L : Int)) (hL : L ≤ 3584) (hu : uc + 6 ≤ 601024) (hv : us + 80 ≤ 7293034) (K : KK l b L xs i uc us) : V l G μL (sw_EL b L xs) ZL 759 (LV G b i) [] M uc us := by
  obtain ⟨hs, hI, hIR, o, hO⟩ := id hLI
  have hES : ∀ s A, sw_EL b L xs s A → sw_EL b L xs s A := fun _ _ h => h
  have hu1 : uc ≤ mK μL := (show uc ≤ 601024 from by omega)
  have hv1 : us ≤ mS μL := (show us ≤ 7293034 from by omega)
  refine v_aload_n dL_law_759 rfl ?_
  refine v_aload_n dL_law_760 rfl ?_
  refine v_iload dL_law_761 rfl ?_
  refine v_iconst dL_law_763 ?_
  refine v_iadd dL_law_764 ?_
  refine v_sld hES hL (by omega) (by omega) dL_law_765 ?_
  refine v_aload_n dL_law_766 rfl ?_
  refine v_iload dL_law_767 rfl ?_
  refine v_iconst dL_law_769 ?_
  refine v_iadd dL_law_770 ?_
  refine v_sld hES hL (by omega) (by omega) dL_law_771 ?_
  refine v_callV (ci := 9) (pr_gain hI hs (xq_rg xs (i + 1)) (xq_rg xs (i + 2))) ⟨rfl, rfl⟩ hu1 hv1 hI.1 rfl ⟨ml_L_86, mm_X9_gain⟩ ⟨(Nat.le_of_ble_eq_true rfl), (Nat.le_of_ble_eq_true rfl)⟩ mp_X9_gain rfl rfl (Nat.le_of_ble_eq_true rfl) dL_law_772 (fun r M1 h => ?_)
  obtain ⟨z, s1, hs1, rfl, hI1, hf1, hR1⟩ := h
  have hIR1 := hIR.frC hf1
  obtain ⟨x1, a1, hX1, -⟩ := id hIR1
  refine v_aload_n dL_law_775 rfl ?_
  refine v_aload_n dL_law_776 rfl ?_
  refine v_iload dL_law_777 rfl ?_
  refine v_iconst dL_law_779 ?_
  refine v_iadd dL_law_780 ?_
  refine v_sld hES hL (by omega) (by omega) dL_law_781 ?_
  refine v_aload_n dL_law_782 rfl ?_
  refine v_iload dL_law_783 rfl ?_
  refine v_iconst dL_law_785 ?_
  refine v_iadd dL_law_786 ?_
  refine v_sld hES hL (by omega) (by omega) dL_law_787 ?_
  refine v_callV (ci := 10) (hR1 M1 hIR1) ⟨rfl, rfl⟩ hu1 hv1 hX1.1 rfl ⟨ml_L_89, mm_X10_gain⟩ ⟨(Nat.le_of_ble_eq_true rfl), (Nat.le_of_ble_eq_true rfl)⟩ mp_X10_gain rfl rfl (Nat.le_of_ble_eq_true rfl) dL_law_788 (fun r M2 h => ?_)
  obtain ⟨rfl, hIR2, hf2⟩ := h
  refine v_lcmp_same (tgt := 1588) dL_law_791 dL_law_792 (by decide) ?_
  exact K G M2 s1 uc us (by omega) (by omega) ⟨hs1, hI1.frR hf2, hIR2, o, (hf2 95 (by omega)).trans ((hf1 95 (by omega) (by omega)).trans hO)⟩
theorem law_won (hLI : LI G M s) (hi0 : 0 ≤ i) (hi1 : i + 7 ≤ (L : Int)) (hL : L ≤ 3584) (hu : uc + 6 ≤ 601024) (hv : us + 80 ≤ 7293034) (K : KK l b L xs i uc us) : V l G μL (sw_EL b L xs) ZL 797 (LV G b i) [] M uc us := by
  obtain ⟨hs, hI, hIR, o, hO⟩ := id hLI
  have hES : ∀ s A, sw_EL b L xs s A → sw_EL b L xs s A := fun _ _ h => h
  have hu1 : uc ≤ mK μL := (show uc ≤ 601024 from by omega)
  have hv1 : us ≤ mS μL := (show us ≤ 7293034 from by omega)
  refine v_aload_n dL_law_797 rfl ?_
  refine v_aload_n dL_law_798 rfl ?_
  refine v_iload dL_law_799 rfl ?_
  refine v_iconst dL_law_801 ?_
  refine v_iadd dL_law_802 ?_
  refine v_sld hES hL (by omega) (by omega) dL_law_803 ?_
  refine v_aload_n dL_law_804 rfl ?_
  refine v_iload dL_law_805 rfl ?_
  refine v_iconst dL_law_807 ?_
  refine v_iadd dL_law_808 ?_
  refine v_sld hES hL (by omega) (by omega) dL_law_809 ?_
  refine v_aload_n dL_law_810 rfl ?_
  refine v_iload dL_law_811 rfl ?_
  refine v_iconst dL_law_813 ?_
  refine v_iadd dL_law_814 ?_
  refine v_sld hES hL (by omega) (by omega) dL_law_815 ?_
  refine v_aload_n dL_law_816 rfl ?_
  refine v_iload dL_law_817 rfl ?_
  refine v_iconst dL_law_819 ?_
  refine v_iadd dL_law_820 ?_
  refine v_sld hES hL (by omega) (by omega) dL_law_821 ?_
  refine v_callV (ci := 9) (pr_won hI hs (xq_rg xs (i + 1)) (xq_rg xs (i + 2)) (xq_rg xs (i + 3)) (xq_rg xs (i + 4))) ⟨rfl, rfl⟩ hu1 hv1 hI.1 rfl ⟨ml_L_90, mm_X9_won⟩ ⟨(Nat.le_of_ble_eq_true rfl), (Nat.le_of_ble_eq_true rfl)⟩ mp_X9_won rfl rfl (Nat.le_of_ble_eq_true rfl) dL_law_822 (fun r M1 h => ?_)
  obtain ⟨z, s1, hs1, rfl, hI1, hf1, hR1⟩ := h
  have hIR1 := hIR.frC hf1
  obtain ⟨x1, a1, hX1, -⟩ := id hIR1
  refine v_aload_n dL_law_825 rfl ?_
  refine v_aload_n dL_law_826 rfl ?_
  refine v_iload dL_law_827 rfl ?_
  refine v_iconst dL_law_829 ?_
  refine v_iadd dL_law_830 ?_
  refine v_sld hES hL (by omega) (by omega) dL_law_831 ?_
  refine v_aload_n dL_law_832 rfl ?_
  refine v_iload dL_law_833 rfl ?_
  refine v_iconst dL_law_835 ?_
  refine v_iadd dL_law_836 ?_
  refine v_sld hES hL (by omega) (by omega) dL_law_837 ?_
  refine v_aload_n dL_law_838 rfl ?_
  refine v_iload dL_law_839 rfl ?_
  refine v_iconst dL_law_841 ?_
  refine v_iadd dL_law_842 ?_
  refine v_sld hES hL (by omega) (by omega) dL_law_843 ?_
  refine v_aload_n dL_law_844 rfl ?_
  refine v_iload dL_law_845 rfl ?_
  refine v_iconst dL_law_847 ?_
  refine v_iadd dL_law_848 ?_
  refine v_sld hES hL (by omega) (by omega) dL_law_849 ?_
  refine v_callV (ci := 10) (hR1 M1 hIR1) ⟨rfl, rfl⟩ hu1 hv1 hX1.1 rfl ⟨ml_L_94, mm_X10_won⟩ ⟨(Nat.le_of_ble_eq_true rfl), (Nat.le_of_ble_eq_true rfl)⟩ mp_X10_won rfl rfl (Nat.le_of_ble_eq_true rfl) dL_law_850 (fun r M2 h => ?_)
  obtain ⟨rfl, hIR2, hf2⟩ := h
  refine v_lcmp_same (tgt := 1588) dL_law_853 dL_law_854 (by decide) ?_
  exact K G M2 s1 uc us (by omega) (by omega) ⟨hs1, hI1.frR hf2, hIR2, o, (hf2 95 (by omega)).trans ((hf1 95 (by omega) (by omega)).trans hO)⟩
theorem law_less (hLI : LI G M s) (hi0 : 0 ≤ i) (hi1 : i + 7 ≤ (L : Int)) (hL : L ≤ 3584) (hu : uc + 6 ≤ 601024) (hv : us + 80 ≤ 7293034) (K : KK l b L xs i uc us) : V l G μL (sw_EL b L xs) ZL 859 (LV G b i) [] M uc us := by
  obtain ⟨hs, hI, hIR, o, hO⟩ := id hLI
  have hES : ∀ s A, sw_EL b L xs s A → sw_EL b L xs s A := fun _ _ h => h
  have hu1 : uc ≤ mK μL := (show uc ≤ 601024 from by omega)
  have hv1 : us ≤ mS μL := (show us ≤ 7293034 from by omega)
  refine v_aload_n dL_law_859 rfl ?_
  refine v_aload_n dL_law_860 rfl ?_
  refine v_iload dL_law_861 rfl ?_
  refine v_iconst dL_law_863 ?_
  refine v_iadd dL_law_864 ?_
  refine v_sld hES hL (by omega) (by omega) dL_law_865 ?_
  refine v_aload_n dL_law_866 rfl ?_
  refine v_iload dL_law_867 rfl ?_
  refine v_iconst dL_law_869 ?_
  refine v_iadd dL_law_870 ?_
  refine v_sld hES hL (by omega) (by omega) dL_law_871 ?_
  refine v_aload_n dL_law_872 rfl ?_
  refine v_iload dL_law_873 rfl ?_
  refine v_iconst dL_law_875 ?_
  refine v_iadd dL_law_876 ?_
  refine v_sld hES hL (by omega) (by omega) dL_law_877 ?_
  refine v_aload_n dL_law_878 rfl ?_
  refine v_iload dL_law_879 rfl ?_
  refine v_iconst dL_law_881 ?_
  refine v_iadd dL_law_882 ?_
  refine v_sld hES hL (by omega) (by omega) dL_law_883 ?_
  refine v_callV (ci := 9) (pr_less hI hs (xq_rg xs (i + 1)) (xq_rg xs (i + 2)) (xq_rg xs (i + 3)) (xq_rg xs (i + 4))) ⟨rfl, rfl⟩ hu1 hv1 hI.1 rfl ⟨ml_L_95, mm_X9_less⟩ ⟨(Nat.le_of_ble_eq_true rfl), (Nat.le_of_ble_eq_true rfl)⟩ mp_X9_less rfl rfl (Nat.le_of_ble_eq_true rfl) dL_law_884 (fun r M1 h => ?_)
  obtain ⟨z, s1, hs1, rfl, hI1, hf1, hR1⟩ := h
  have hIR1 := hIR.frC hf1
  obtain ⟨x1, a1, hX1, -⟩ := id hIR1
  refine v_aload_n dL_law_887 rfl ?_
  refine v_aload_n dL_law_888 rfl ?_
  refine v_iload dL_law_889 rfl ?_
  refine v_iconst dL_law_891 ?_
  refine v_iadd dL_law_892 ?_
  refine v_sld hES hL (by omega) (by omega) dL_law_893 ?_
  refine v_aload_n dL_law_894 rfl ?_
  refine v_iload dL_law_895 rfl ?_
  refine v_iconst dL_law_897 ?_
  refine v_iadd dL_law_898 ?_
  refine v_sld hES hL (by omega) (by omega) dL_law_899 ?_
  refine v_aload_n dL_law_900 rfl ?_
  refine v_iload dL_law_901 rfl ?_
  refine v_iconst dL_law_903 ?_
  refine v_iadd dL_law_904 ?_
  refine v_sld hES hL (by omega) (by omega) dL_law_905 ?_
  refine v_aload_n dL_law_906 rfl ?_
  refine v_iload dL_law_907 rfl ?_
  refine v_iconst dL_law_909 ?_
  refine v_iadd dL_law_910 ?_
  refine v_sld hES hL (by omega) (by omega) dL_law_911 ?_
  refine v_callV (ci := 10) (hR1 M1 hIR1) ⟨rfl, rfl⟩ hu1 hv1 hX1.1 rfl ⟨ml_L_98, mm_X10_less⟩ ⟨(Nat.le_of_ble_eq_true rfl), (Nat.le_of_ble_eq_true rfl)⟩ mp_X10_less rfl rfl (Nat.le_of_ble_eq_true rfl) dL_law_912 (fun r M2 h => ?_)
  obtain ⟨rfl, hIR2, hf2⟩ := h
  refine v_lcmp_same (tgt := 1588) dL_law_915 dL_law_916 (by decide) ?_
  exact K G M2 s1 uc us (by omega) (by omega) ⟨hs1, hI1.frR hf2, hIR2, o, (hf2 95 (by omega)).trans ((hf1 95 (by omega) (by omega)).trans hO)⟩
theorem law_best (hLI : LI G M s) (hi0 : 0 ≤ i) (hi1 : i + 7 ≤ (L : Int)) (hL : L ≤ 3584) (hu : uc + 6 ≤ 601024) (hv : us + 80 ≤ 7293034) (K : KK l b L xs i uc us) : V l G μL (sw_EL b L xs) ZL 921 (LV G b i) [] M uc us := by
  obtain ⟨hs, hI, hIR, o, hO⟩ := id hLI
  have hES : ∀ s A, sw_EL b L xs s A → sw_EL b L xs s A := fun _ _ h => h
  have hu1 : uc ≤ mK μL := (show uc ≤ 601024 from by omega)
  have hv1 : us ≤ mS μL := (show us ≤ 7293034 from by omega)
  refine v_aload_n dL_law_921 rfl ?_
  refine v_aload_n dL_law_922 rfl ?_
  refine v_iload dL_law_923 rfl ?_
  refine v_iconst dL_law_925 ?_
  refine v_iadd dL_law_926 ?_
  refine v_sld hES hL (by omega) (by omega) dL_law_927 ?_
  refine v_aload_n dL_law_928 rfl ?_
  refine v_iload dL_law_929 rfl ?_
  refine v_iconst dL_law_931 ?_
  refine v_iadd dL_law_932 ?_
  refine v_sld hES hL (by omega) (by omega) dL_law_933 ?_
  refine v_aload_n dL_law_934 rfl ?_
  refine v_iload dL_law_935 rfl ?_
  refine v_iconst dL_law_937 ?_
  refine v_iadd dL_law_938 ?_
  refine v_sld hES hL (by omega) (by omega) dL_law_939 ?_
  refine v_callV (ci := 9) (pr_best hI hs (xq_rg xs (i + 1)) (xq_rg xs (i + 2)) (xq_rg xs (i + 3))) ⟨rfl, rfl⟩ hu1 hv1 hI.1 rfl ⟨ml_L_99, mm_X9_best⟩ ⟨(Nat.le_of_ble_eq_true rfl), (Nat.le_of_ble_eq_true rfl)⟩ mp_X9_best rfl rfl (Nat.le_of_ble_eq_true rfl) dL_law_940 (fun r M1 h => ?_)
  obtain ⟨z, s1, hs1, rfl, hI1, hf1, hR1⟩ := h
  have hIR1 := hIR.frC hf1
  obtain ⟨x1, a1, hX1, -⟩ := id hIR1
  refine v_aload_n dL_law_943 rfl ?_
  refine v_aload_n dL_law_944 rfl ?_
  refine v_iload dL_law_945 rfl ?_
  refine v_iconst dL_law_947 ?_
  refine v_iadd dL_law_948 ?_
  refine v_sld hES hL (by omega) (by omega) dL_law_949 ?_
  refine v_aload_n dL_law_950 rfl ?_
  refine v_iload dL_law_951 rfl ?_
  refine v_iconst dL_law_953 ?_
  refine v_iadd dL_law_954 ?_
  refine v_sld hES hL (by omega) (by omega) dL_law_955 ?_
  refine v_aload_n dL_law_956 rfl ?_
  refine v_iload dL_law_957 rfl ?_
  refine v_iconst dL_law_959 ?_
  refine v_iadd dL_law_960 ?_
  refine v_sld hES hL (by omega) (by omega) dL_law_961 ?_
  refine v_callV (ci := 10) (hR1 M1 hIR1) ⟨rfl, rfl⟩ hu1 hv1 hX1.1 rfl ⟨ml_L_102, mm_X10_best⟩ ⟨(Nat.le_of_ble_eq_true rfl), (Nat.le_of_ble_eq_true rfl)⟩ mp_X10_best rfl rfl (Nat.le_of_ble_eq_true rfl) dL_law_962 (fun r M2 h => ?_)
  obtain ⟨rfl, hIR2, hf2⟩ := h
  refine v_icmp_same (tgt := 1588) dL_law_965 (by decide) ?_
  exact K G M2 s1 uc us (by omega) (by omega) ⟨hs1, hI1.frR hf2, hIR2, o, (hf2 95 (by omega)).trans ((hf1 95 (by omega) (by omega)).trans hO)⟩
theorem law_judge (hLI : LI G M s) (hi0 : 0 ≤ i) (hi1 : i + 7 ≤ (L : Int)) (hL : L ≤ 3584) (hu : uc + 6 ≤ 601024) (hv : us + 80 ≤ 7293034) (K : KK l b L xs i uc us) : V l G μL (sw_EL b L xs) ZL 970 (LV G b i) [] M uc us := by
  obtain ⟨hs, hI, hIR, o, hO⟩ := id hLI
  have hES : ∀ s A, sw_EL b L xs s A → sw_EL b L xs s A := fun _ _ h => h
  have hu1 : uc ≤ mK μL := (show uc ≤ 601024 from by omega)
  have hv1 : us ≤ mS μL := (show us ≤ 7293034 from by omega)
  refine v_aload_n dL_law_970 rfl ?_
  refine v_aload_n dL_law_971 rfl ?_
  refine v_iload dL_law_972 rfl ?_
  refine v_iconst dL_law_974 ?_
  refine v_iadd dL_law_975 ?_
  refine v_sld hES hL (by omega) (by omega) dL_law_976 ?_
  refine v_callV (ci := 9) (pr_judge hI hs (xq_rg xs (i + 1))) ⟨rfl, rfl⟩ hu1 hv1 hI.1 rfl ⟨ml_L_103, mm_X9_judge⟩ ⟨(Nat.le_of_ble_eq_true rfl), (Nat.le_of_ble_eq_true rfl)⟩ mp_X9_judge rfl rfl (Nat.le_of_ble_eq_true rfl) dL_law_977 (fun r M1 h => ?_)
  obtain ⟨z, s1, hs1, rfl, hI1, hf1, hR1⟩ := h
  have hIR1 := hIR.frC hf1
  obtain ⟨x1, a1, hX1, -⟩ := id hIR1
  refine v_aload_n dL_law_980 rfl ?_
  refine v_aload_n dL_law_981 rfl ?_
  refine v_iload dL_law_982 rfl ?_
  refine v_iconst dL_law_984 ?_
  refine v_iadd dL_law_985 ?_
  refine v_sld hES hL (by omega) (by omega) dL_law_986 ?_
  refine v_callV (ci := 10) (hR1 M1 hIR1) ⟨rfl, rfl⟩ hu1 hv1 hX1.1 rfl ⟨ml_L_107, mm_X10_judge⟩ ⟨(Nat.le_of_ble_eq_true rfl), (Nat.le_of_ble_eq_true rfl)⟩ mp_X10_judge rfl rfl (Nat.le_of_ble_eq_true rfl) dL_law_987 (fun r M2 h => ?_)
  obtain ⟨rfl, hIR2, hf2⟩ := h
  refine v_icmp_same (tgt := 1588) dL_law_990 (by decide) ?_
  exact K G M2 s1 uc us (by omega) (by omega) ⟨hs1, hI1.frR hf2, hIR2, o, (hf2 95 (by omega)).trans ((hf1 95 (by omega) (by omega)).trans hO)⟩
theorem law_find (hLI : LI G M s) (hi0 : 0 ≤ i) (hi1 : i + 7 ≤ (L : Int)) (hL : L ≤ 3584) (hu : uc + 6 ≤ 601024) (hv : us + 80 ≤ 7293034) (K : KK l b L xs i uc us) : V l G μL (sw_EL b L xs) ZL 995 (LV G b i) [] M uc us := by
  obtain ⟨hs, hI, hIR, o, hO⟩ := id hLI
  have hES : ∀ s A, sw_EL b L xs s A → sw_EL b L xs s A := fun _ _ h => h
  have hu1 : uc ≤ mK μL := (show uc ≤ 601024 from by omega)
  have hv1 : us ≤ mS μL := (show us ≤ 7293034 from by omega)
  refine v_aload_n dL_law_995 rfl ?_
  refine v_aload_n dL_law_996 rfl ?_
  refine v_iload dL_law_997 rfl ?_
  refine v_iconst dL_law_999 ?_
  refine v_iadd dL_law_1000 ?_
  refine v_sld hES hL (by omega) (by omega) dL_law_1001 ?_
  refine v_aload_n dL_law_1002 rfl ?_
  refine v_iload dL_law_1003 rfl ?_
  refine v_iconst dL_law_1005 ?_
  refine v_iadd dL_law_1006 ?_
  refine v_sld hES hL (by omega) (by omega) dL_law_1007 ?_
  refine v_callV (ci := 9) (pr_find hI hs (xq_rg xs (i + 1)) (xq_rg xs (i + 2))) ⟨rfl, rfl⟩ hu1 hv1 hI.1 rfl ⟨ml_L_108, mm_X9_find⟩ ⟨(Nat.le_of_ble_eq_true rfl), (Nat.le_of_ble_eq_true rfl)⟩ mp_X9_find rfl rfl (Nat.le_of_ble_eq_true rfl) dL_law_1008 (fun r M1 h => ?_)
  obtain ⟨z, s1, hs1, rfl, hI1, hf1, hR1⟩ := h
  have hIR1 := hIR.frC hf1
  obtain ⟨x1, a1, hX1, -⟩ := id hIR1
  refine v_aload_n dL_law_1011 rfl ?_
  refine v_aload_n dL_law_1012 rfl ?_
  refine v_iload dL_law_1013 rfl ?_
  refine v_iconst dL_law_1015 ?_
  refine v_iadd dL_law_1016 ?_
  refine v_sld hES hL (by omega) (by omega) dL_law_1017 ?_
  refine v_aload_n dL_law_1018 rfl ?_
  refine v_iload dL_law_1019 rfl ?_
  refine v_iconst dL_law_1021 ?_
  refine v_iadd dL_law_1022 ?_
  refine v_sld hES hL (by omega) (by omega) dL_law_1023 ?_
  refine v_callV (ci := 10) (hR1 M1 hIR1) ⟨rfl, rfl⟩ hu1 hv1 hX1.1 rfl ⟨ml_L_111, mm_X10_find⟩ ⟨(Nat.le_of_ble_eq_true rfl), (Nat.le_of_ble_eq_true rfl)⟩ mp_X10_find rfl rfl (Nat.le_of_ble_eq_true rfl) dL_law_1024 (fun r M2 h => ?_)
  obtain ⟨rfl, hIR2, hf2⟩ := h
  refine v_icmp_same (tgt := 1588) dL_law_1027 (by decide) ?_
  exact K G M2 s1 uc us (by omega) (by omega) ⟨hs1, hI1.frR hf2, hIR2, o, (hf2 95 (by omega)).trans ((hf1 95 (by omega) (by omega)).trans hO)⟩
theorem law_by (hLI : LI G M s) (hi0 : 0 ≤ i) (hi1 : i + 7 ≤ (L : Int)) (hL : L ≤ 3584) (hu : uc + 6 ≤ 601024) (hv : us + 80 ≤ 7293034) (K : KK l b L xs i uc us) : V l G μL (sw_EL b L xs) ZL 1032 (LV G b i) [] M uc us := by
  obtain ⟨hs, hI, hIR, o, hO⟩ := id hLI
  have hES : ∀ s A, sw_EL b L xs s A → sw_EL b L xs s A := fun _ _ h => h
  have hu1 : uc ≤ mK μL := (show uc ≤ 601024 from by omega)
  have hv1 : us ≤ mS μL := (show us ≤ 7293034 from by omega)
  refine v_aload_n dL_law_1032 rfl ?_
  refine v_aload_n dL_law_1033 rfl ?_
  refine v_iload dL_law_1034 rfl ?_
  refine v_iconst dL_law_1036 ?_
  refine v_iadd dL_law_1037 ?_
  refine v_sld hES hL (by omega) (by omega) dL_law_1038 ?_
  refine v_aload_n dL_law_1039 rfl ?_
  refine v_iload dL_law_1040 rfl ?_
  refine v_iconst dL_law_1042 ?_
  refine v_iadd dL_law_1043 ?_
  refine v_sld hES hL (by omega) (by omega) dL_law_1044 ?_
  refine v_aload_n dL_law_1045 rfl ?_
  refine v_iload dL_law_1046 rfl ?_
  refine v_iconst dL_law_1048 ?_
  refine v_iadd dL_law_1049 ?_
  refine v_sld hES hL (by omega) (by omega) dL_law_1050 ?_
  refine v_if_eq (tgt := 1058) dL_law_1051 (by decide) (xq_rg xs (i + 3)) (fun h1051 => ?_) (fun h1051 => ?_)
  · skip
    refine v_iconst dL_law_1058 ?_
    refine v_aload_n dL_law_1059 rfl ?_
    refine v_iload dL_law_1060 rfl ?_
    refine v_iconst dL_law_1062 ?_
    refine v_iadd dL_law_1063 ?_
    refine v_sld hES hL (by omega) (by omega) dL_law_1064 ?_
    refine v_callV (ci := 9) (pr_by (wise := False) hI hs (xq_rg xs (i + 1)) (xq_rg xs (i + 2)) (xq_rg xs (i + 4))) ⟨rfl, rfl⟩ hu1 hv1 hI.1 rfl ⟨ml_L_112, mm_X9_by⟩ ⟨(Nat.le_of_ble_eq_true rfl), (Nat.le_of_ble_eq_true rfl)⟩ mp_X9_by rfl rfl (Nat.le_of_ble_eq_true rfl) dL_law_1065 (fun r M1 h => ?_)
    obtain ⟨z, s1, hs1, rfl, hI1, hf1, hR1⟩ := h
    have hIR1 := hIR.frC hf1
    obtain ⟨x1, a1, hX1, -⟩ := id hIR1
    refine v_aload_n dL_law_1068 rfl ?_
    refine v_aload_n dL_law_1069 rfl ?_
    refine v_iload dL_law_1070 rfl ?_
    refine v_iconst dL_law_1072 ?_
    refine v_iadd dL_law_1073 ?_
    refine v_sld hES hL (by omega) (by omega) dL_law_1074 ?_
    refine v_aload_n dL_law_1075 rfl ?_
    refine v_iload dL_law_1076 rfl ?_
    refine v_iconst dL_law_1078 ?_
    refine v_iadd dL_law_1079 ?_
    refine v_sld hES hL (by omega) (by omega) dL_law_1080 ?_
    refine v_aload_n dL_law_1081 rfl ?_
    refine v_iload dL_law_1082 rfl ?_
    refine v_iconst dL_law_1084 ?_
    refine v_iadd dL_law_1085 ?_
    refine v_sld hES hL (by omega) (by omega) dL_law_1086 ?_
    refine v_if_eq (tgt := 1094) dL_law_1087 (by decide) (xq_rg xs (i + 3)) (fun h1087 => ?_) (fun h1087 => ?_)
    · skip
      refine v_iconst dL_law_1094 ?_
      refine v_aload_n dL_law_1095 rfl ?_
      refine v_iload dL_law_1096 rfl ?_
      refine v_iconst dL_law_1098 ?_
      refine v_iadd dL_law_1099 ?_
      refine v_sld hES hL (by omega) (by omega) dL_law_1100 ?_
      refine v_callV (ci := 10) (hR1 M1 hIR1) ⟨rfl, rfl⟩ hu1 hv1 hX1.1 rfl ⟨ml_L_116, mm_X10_by⟩ ⟨(Nat.le_of_ble_eq_true rfl), (Nat.le_of_ble_eq_true rfl)⟩ mp_X10_by rfl rfl (Nat.le_of_ble_eq_true rfl) dL_law_1101 (fun r M2 h => ?_)
      obtain ⟨rfl, hIR2, hf2⟩ := h
      refine v_lcmp_same (tgt := 1588) dL_law_1104 dL_law_1105 (by decide) ?_
      exact K G M2 s1 uc us (by omega) (by omega) ⟨hs1, hI1.frR hf2, hIR2, o, (hf2 95 (by omega)).trans ((hf1 95 (by omega) (by omega)).trans hO)⟩
    · skip
      exfalso; omega
  · skip
    refine v_iconst dL_law_1054 ?_
    refine v_goto (tgt := 1059) dL_law_1055 (by decide) ?_
    refine v_aload_n dL_law_1059 rfl ?_
    refine v_iload dL_law_1060 rfl ?_
    refine v_iconst dL_law_1062 ?_
    refine v_iadd dL_law_1063 ?_
    refine v_sld hES hL (by omega) (by omega) dL_law_1064 ?_
    refine v_callV (ci := 9) (pr_by (wise := True) hI hs (xq_rg xs (i + 1)) (xq_rg xs (i + 2)) (xq_rg xs (i + 4))) ⟨rfl, rfl⟩ hu1 hv1 hI.1 rfl ⟨ml_L_112, mm_X9_by⟩ ⟨(Nat.le_of_ble_eq_true rfl), (Nat.le_of_ble_eq_true rfl)⟩ mp_X9_by rfl rfl (Nat.le_of_ble_eq_true rfl) dL_law_1065 (fun r M1 h => ?_)
    obtain ⟨z, s1, hs1, rfl, hI1, hf1, hR1⟩ := h
    have hIR1 := hIR.frC hf1
    obtain ⟨x1, a1, hX1, -⟩ := id hIR1
    refine v_aload_n dL_law_1068 rfl ?_
    refine v_aload_n dL_law_1069 rfl ?_
    refine v_iload dL_law_1070 rfl ?_
    refine v_iconst dL_law_1072 ?_
    refine v_iadd dL_law_1073 ?_
    refine v_sld hES hL (by omega) (by omega) dL_law_1074 ?_
    refine v_aload_n dL_law_1075 rfl ?_
    refine v_iload dL_law_1076 rfl ?_
    refine v_iconst dL_law_1078 ?_
    refine v_iadd dL_law_1079 ?_
    refine v_sld hES hL (by omega) (by omega) dL_law_1080 ?_
    refine v_aload_n dL_law_1081 rfl ?_
    refine v_iload dL_law_1082 rfl ?_
    refine v_iconst dL_law_1084 ?_
    refine v_iadd dL_law_1085 ?_
    refine v_sld hES hL (by omega) (by omega) dL_law_1086 ?_
    refine v_if_eq (tgt := 1094) dL_law_1087 (by decide) (xq_rg xs (i + 3)) (fun h1087 => ?_) (fun h1087 => ?_)
    · skip
      exfalso; omega
    · skip
      refine v_iconst dL_law_1090 ?_
      refine v_goto (tgt := 1095) dL_law_1091 (by decide) ?_
      refine v_aload_n dL_law_1095 rfl ?_
      refine v_iload dL_law_1096 rfl ?_
      refine v_iconst dL_law_1098 ?_
      refine v_iadd dL_law_1099 ?_
      refine v_sld hES hL (by omega) (by omega) dL_law_1100 ?_
      refine v_callV (ci := 10) (hR1 M1 hIR1) ⟨rfl, rfl⟩ hu1 hv1 hX1.1 rfl ⟨ml_L_116, mm_X10_by⟩ ⟨(Nat.le_of_ble_eq_true rfl), (Nat.le_of_ble_eq_true rfl)⟩ mp_X10_by rfl rfl (Nat.le_of_ble_eq_true rfl) dL_law_1101 (fun r M2 h => ?_)
      obtain ⟨rfl, hIR2, hf2⟩ := h
      refine v_lcmp_same (tgt := 1588) dL_law_1104 dL_law_1105 (by decide) ?_
      exact K G M2 s1 uc us (by omega) (by omega) ⟨hs1, hI1.frR hf2, hIR2, o, (hf2 95 (by omega)).trans ((hf1 95 (by omega) (by omega)).trans hO)⟩
theorem law_bar (hLI : LI G M s) (hi0 : 0 ≤ i) (hi1 : i + 7 ≤ (L : Int)) (hL : L ≤ 3584) (hu : uc + 6 ≤ 601024) (hv : us + 80 ≤ 7293034) (K : KK l b L xs i uc us) : V l G μL (sw_EL b L xs) ZL 1110 (LV G b i) [] M uc us := by
  obtain ⟨hs, hI, hIR, o, hO⟩ := id hLI
  have hES : ∀ s A, sw_EL b L xs s A → sw_EL b L xs s A := fun _ _ h => h
  have hu1 : uc ≤ mK μL := (show uc ≤ 601024 from by omega)
  have hv1 : us ≤ mS μL := (show us ≤ 7293034 from by omega)
  refine v_aload_n dL_law_1110 rfl ?_
  refine v_aload_n dL_law_1111 rfl ?_
  refine v_iload dL_law_1112 rfl ?_
  refine v_iconst dL_law_1114 ?_
  refine v_iadd dL_law_1115 ?_
  refine v_sld hES hL (by omega) (by omega) dL_law_1116 ?_
  refine v_aload_n dL_law_1117 rfl ?_
  refine v_iload dL_law_1118 rfl ?_
  refine v_iconst dL_law_1120 ?_
  refine v_iadd dL_law_1121 ?_
  refine v_sld hES hL (by omega) (by omega) dL_law_1122 ?_
  refine v_if_eq (tgt := 1130) dL_law_1123 (by decide) (xq_rg xs (i + 2)) (fun h1123 => ?_) (fun h1123 => ?_)
  · skip
    refine v_iconst dL_law_1130 ?_
    refine v_callV (ci := 9) (pr_bar (wise := False) hI hs (xq_rg xs (i + 1))) ⟨rfl, rfl⟩ hu1 hv1 hI.1 rfl ⟨ml_L_117, mm_X9_bar⟩ ⟨(Nat.le_of_ble_eq_true rfl), (Nat.le_of_ble_eq_true rfl)⟩ mp_X9_bar rfl rfl (Nat.le_of_ble_eq_true rfl) dL_law_1131 (fun r M1 h => ?_)
    obtain ⟨z, s1, hs1, rfl, hI1, hf1, hR1⟩ := h
    have hIR1 := hIR.frC hf1
    obtain ⟨x1, a1, hX1, -⟩ := id hIR1
    refine v_aload_n dL_law_1134 rfl ?_
    refine v_aload_n dL_law_1135 rfl ?_
    refine v_iload dL_law_1136 rfl ?_
    refine v_iconst dL_law_1138 ?_
    refine v_iadd dL_law_1139 ?_
    refine v_sld hES hL (by omega) (by omega) dL_law_1140 ?_
    refine v_aload_n dL_law_1141 rfl ?_
    refine v_iload dL_law_1142 rfl ?_
    refine v_iconst dL_law_1144 ?_
    refine v_iadd dL_law_1145 ?_
    refine v_sld hES hL (by omega) (by omega) dL_law_1146 ?_
    refine v_if_eq (tgt := 1154) dL_law_1147 (by decide) (xq_rg xs (i + 2)) (fun h1147 => ?_) (fun h1147 => ?_)
    · skip
      refine v_iconst dL_law_1154 ?_
      refine v_callV (ci := 10) (hR1 M1 hIR1) ⟨rfl, rfl⟩ hu1 hv1 hX1.1 rfl ⟨ml_L_121, mm_X10_bar⟩ ⟨(Nat.le_of_ble_eq_true rfl), (Nat.le_of_ble_eq_true rfl)⟩ mp_X10_bar rfl rfl (Nat.le_of_ble_eq_true rfl) dL_law_1155 (fun r M2 h => ?_)
      obtain ⟨rfl, hIR2, hf2⟩ := h
      refine v_icmp_same (tgt := 1588) dL_law_1158 (by decide) ?_
      exact K G M2 s1 uc us (by omega) (by omega) ⟨hs1, hI1.frR hf2, hIR2, o, (hf2 95 (by omega)).trans ((hf1 95 (by omega) (by omega)).trans hO)⟩
    · skip
      exfalso; omega
  · skip
    refine v_iconst dL_law_1126 ?_
    refine v_goto (tgt := 1131) dL_law_1127 (by decide) ?_
    refine v_callV (ci := 9) (pr_bar (wise := True) hI hs (xq_rg xs (i + 1))) ⟨rfl, rfl⟩ hu1 hv1 hI.1 rfl ⟨ml_L_117, mm_X9_bar⟩ ⟨(Nat.le_of_ble_eq_true rfl), (Nat.le_of_ble_eq_true rfl)⟩ mp_X9_bar rfl rfl (Nat.le_of_ble_eq_true rfl) dL_law_1131 (fun r M1 h => ?_)
    obtain ⟨z, s1, hs1, rfl, hI1, hf1, hR1⟩ := h
    have hIR1 := hIR.frC hf1
    obtain ⟨x1, a1, hX1, -⟩ := id hIR1
    refine v_aload_n dL_law_1134 rfl ?_
    refine v_aload_n dL_law_1135 rfl ?_
    refine v_iload dL_law_1136 rfl ?_
    refine v_iconst dL_law_1138 ?_
    refine v_iadd dL_law_1139 ?_
    refine v_sld hES hL (by omega) (by omega) dL_law_1140 ?_
    refine v_aload_n dL_law_1141 rfl ?_
    refine v_iload dL_law_1142 rfl ?_
    refine v_iconst dL_law_1144 ?_
    refine v_iadd dL_law_1145 ?_
    refine v_sld hES hL (by omega) (by omega) dL_law_1146 ?_
    refine v_if_eq (tgt := 1154) dL_law_1147 (by decide) (xq_rg xs (i + 2)) (fun h1147 => ?_) (fun h1147 => ?_)
    · skip
      exfalso; omega
    · skip
      refine v_iconst dL_law_1150 ?_
      refine v_goto (tgt := 1155) dL_law_1151 (by decide) ?_
      refine v_callV (ci := 10) (hR1 M1 hIR1) ⟨rfl, rfl⟩ hu1 hv1 hX1.1 rfl ⟨ml_L_121, mm_X10_bar⟩ ⟨(Nat.le_of_ble_eq_true rfl), (Nat.le_of_ble_eq_true rfl)⟩ mp_X10_bar rfl rfl (Nat.le_of_ble_eq_true rfl) dL_law_1155 (fun r M2 h => ?_)
      obtain ⟨rfl, hIR2, hf2⟩ := h
      refine v_icmp_same (tgt := 1588) dL_law_1158 (by decide) ?_
      exact K G M2 s1 uc us (by omega) (by omega) ⟨hs1, hI1.frR hf2, hIR2, o, (hf2 95 (by omega)).trans ((hf1 95 (by omega) (by omega)).trans hO)⟩
theorem law_telling (hLI : LI G M s) (hi0 : 0 ≤ i) (hi1 : i + 7 ≤ (L : Int)) (hL : L ≤ 3584) (hu : uc + 6 ≤ 601024) (hv : us + 80 ≤ 7293034) (K : KK l b L xs i uc us) : V l G μL (sw_EL b L xs) ZL 1163 (LV G b i) [] M uc us := by
  obtain ⟨hs, hI, hIR, o, hO⟩ := id hLI
  have hES : ∀ s A, sw_EL b L xs s A → sw_EL b L xs s A := fun _ _ h => h
  have hu1 : uc ≤ mK μL := (show uc ≤ 601024 from by omega)
  have hv1 : us ≤ mS μL := (show us ≤ 7293034 from by omega)
  refine v_aload_n dL_law_1163 rfl ?_
  refine v_aload_n dL_law_1164 rfl ?_
  refine v_iload dL_law_1165 rfl ?_
  refine v_iconst dL_law_1167 ?_
  refine v_iadd dL_law_1168 ?_
  refine v_sld hES hL (by omega) (by omega) dL_law_1169 ?_
  refine v_callV (ci := 9) (pr_telling hI hs (xq_rg xs (i + 1))) ⟨rfl, rfl⟩ hu1 hv1 hI.1 rfl ⟨ml_L_122, mm_X9_telling⟩ ⟨(Nat.le_of_ble_eq_true rfl), (Nat.le_of_ble_eq_true rfl)⟩ mp_X9_telling rfl rfl (Nat.le_of_ble_eq_true rfl) dL_law_1170 (fun r M1 h => ?_)
  obtain ⟨z, s1, hs1, rfl, hI1, hf1, hR1⟩ := h
  have hIR1 := hIR.frC hf1
  obtain ⟨x1, a1, hX1, -⟩ := id hIR1
  refine v_aload_n dL_law_1173 rfl ?_
  refine v_aload_n dL_law_1174 rfl ?_
  refine v_iload dL_law_1175 rfl ?_
  refine v_iconst dL_law_1177 ?_
  refine v_iadd dL_law_1178 ?_
  refine v_sld hES hL (by omega) (by omega) dL_law_1179 ?_
  refine v_callV (ci := 10) (hR1 M1 hIR1) ⟨rfl, rfl⟩ hu1 hv1 hX1.1 rfl ⟨ml_L_126, mm_X10_telling⟩ ⟨(Nat.le_of_ble_eq_true rfl), (Nat.le_of_ble_eq_true rfl)⟩ mp_X10_telling rfl rfl (Nat.le_of_ble_eq_true rfl) dL_law_1180 (fun r M2 h => ?_)
  obtain ⟨rfl, hIR2, hf2⟩ := h
  refine v_lcmp_same (tgt := 1588) dL_law_1183 dL_law_1184 (by decide) ?_
  exact K G M2 s1 uc us (by omega) (by omega) ⟨hs1, hI1.frR hf2, hIR2, o, (hf2 95 (by omega)).trans ((hf1 95 (by omega) (by omega)).trans hO)⟩
theorem law_near (hLI : LI G M s) (hi0 : 0 ≤ i) (hi1 : i + 7 ≤ (L : Int)) (hL : L ≤ 3584) (hu : uc + 6 ≤ 601024) (hv : us + 80 ≤ 7293034) (K : KK l b L xs i uc us) : V l G μL (sw_EL b L xs) ZL 1189 (LV G b i) [] M uc us := by
  obtain ⟨hs, hI, hIR, o, hO⟩ := id hLI
  have hES : ∀ s A, sw_EL b L xs s A → sw_EL b L xs s A := fun _ _ h => h
  have hu1 : uc ≤ mK μL := (show uc ≤ 601024 from by omega)
  have hv1 : us ≤ mS μL := (show us ≤ 7293034 from by omega)
  refine v_aload_n dL_law_1189 rfl ?_
  refine v_aload_n dL_law_1190 rfl ?_
  refine v_iload dL_law_1191 rfl ?_
  refine v_iconst dL_law_1193 ?_
  refine v_iadd dL_law_1194 ?_
  refine v_sld hES hL (by omega) (by omega) dL_law_1195 ?_
  refine v_aload_n dL_law_1196 rfl ?_
  refine v_iload dL_law_1197 rfl ?_
  refine v_iconst dL_law_1199 ?_
  refine v_iadd dL_law_1200 ?_
  refine v_sld hES hL (by omega) (by omega) dL_law_1201 ?_
  refine v_callV (ci := 9) (pr_near hI hs (xq_rg xs (i + 1)) (xq_rg xs (i + 2))) ⟨rfl, rfl⟩ hu1 hv1 hI.1 rfl ⟨ml_L_127, mm_X9_near⟩ ⟨(Nat.le_of_ble_eq_true rfl), (Nat.le_of_ble_eq_true rfl)⟩ mp_X9_near rfl rfl (Nat.le_of_ble_eq_true rfl) dL_law_1202 (fun r M1 h => ?_)
  obtain ⟨z, s1, hs1, rfl, hI1, hf1, hR1⟩ := h
  have hIR1 := hIR.frC hf1
  obtain ⟨x1, a1, hX1, -⟩ := id hIR1
  refine v_aload_n dL_law_1205 rfl ?_
  refine v_aload_n dL_law_1206 rfl ?_
  refine v_iload dL_law_1207 rfl ?_
  refine v_iconst dL_law_1209 ?_
  refine v_iadd dL_law_1210 ?_
  refine v_sld hES hL (by omega) (by omega) dL_law_1211 ?_
  refine v_aload_n dL_law_1212 rfl ?_
  refine v_iload dL_law_1213 rfl ?_
  refine v_iconst dL_law_1215 ?_
  refine v_iadd dL_law_1216 ?_
  refine v_sld hES hL (by omega) (by omega) dL_law_1217 ?_
  refine v_callV (ci := 10) (hR1 M1 hIR1) ⟨rfl, rfl⟩ hu1 hv1 hX1.1 rfl ⟨ml_L_130, mm_X10_near⟩ ⟨(Nat.le_of_ble_eq_true rfl), (Nat.le_of_ble_eq_true rfl)⟩ mp_X10_near rfl rfl (Nat.le_of_ble_eq_true rfl) dL_law_1218 (fun r M2 h => ?_)
  obtain ⟨rfl, hIR2, hf2⟩ := h
  refine v_icmp_same (tgt := 1588) dL_law_1221 (by decide) ?_
  exact K G M2 s1 uc us (by omega) (by omega) ⟨hs1, hI1.frR hf2, hIR2, o, (hf2 95 (by omega)).trans ((hf1 95 (by omega) (by omega)).trans hO)⟩
theorem law_nearGain (hLI : LI G M s) (hi0 : 0 ≤ i) (hi1 : i + 7 ≤ (L : Int)) (hL : L ≤ 3584) (hu : uc + 6 ≤ 601024) (hv : us + 80 ≤ 7293034) (K : KK l b L xs i uc us) : V l G μL (sw_EL b L xs) ZL 1226 (LV G b i) [] M uc us := by
  obtain ⟨hs, hI, hIR, o, hO⟩ := id hLI
  have hES : ∀ s A, sw_EL b L xs s A → sw_EL b L xs s A := fun _ _ h => h
  have hu1 : uc ≤ mK μL := (show uc ≤ 601024 from by omega)
  have hv1 : us ≤ mS μL := (show us ≤ 7293034 from by omega)
  refine v_aload_n dL_law_1226 rfl ?_
  refine v_aload_n dL_law_1227 rfl ?_
  refine v_iload dL_law_1228 rfl ?_
  refine v_iconst dL_law_1230 ?_
  refine v_iadd dL_law_1231 ?_
  refine v_sld hES hL (by omega) (by omega) dL_law_1232 ?_
  refine v_callV (ci := 9) (pr_nearGain hI hs (xq_rg xs (i + 1))) ⟨rfl, rfl⟩ hu1 hv1 hI.1 rfl ⟨ml_L_131, mm_X9_nearGain⟩ ⟨(Nat.le_of_ble_eq_true rfl), (Nat.le_of_ble_eq_true rfl)⟩ mp_X9_nearGain rfl rfl (Nat.le_of_ble_eq_true rfl) dL_law_1233 (fun r M1 h => ?_)
  obtain ⟨z, s1, hs1, rfl, hI1, hf1, hR1⟩ := h
  have hIR1 := hIR.frC hf1
  obtain ⟨x1, a1, hX1, -⟩ := id hIR1
  refine v_aload_n dL_law_1236 rfl ?_
  refine v_aload_n dL_law_1237 rfl ?_
  refine v_iload dL_law_1238 rfl ?_
  refine v_iconst dL_law_1240 ?_
  refine v_iadd dL_law_1241 ?_
  refine v_sld hES hL (by omega) (by omega) dL_law_1242 ?_
  refine v_callV (ci := 10) (hR1 M1 hIR1) ⟨rfl, rfl⟩ hu1 hv1 hX1.1 rfl ⟨ml_L_134, mm_X10_nearGain⟩ ⟨(Nat.le_of_ble_eq_true rfl), (Nat.le_of_ble_eq_true rfl)⟩ mp_X10_nearGain rfl rfl (Nat.le_of_ble_eq_true rfl) dL_law_1243 (fun r M2 h => ?_)
  obtain ⟨rfl, hIR2, hf2⟩ := h
  refine v_lcmp_same (tgt := 1588) dL_law_1246 dL_law_1247 (by decide) ?_
  exact K G M2 s1 uc us (by omega) (by omega) ⟨hs1, hI1.frR hf2, hIR2, o, (hf2 95 (by omega)).trans ((hf1 95 (by omega) (by omega)).trans hO)⟩
theorem law_asOne (hLI : LI G M s) (hi0 : 0 ≤ i) (hi1 : i + 7 ≤ (L : Int)) (hL : L ≤ 3584) (hu : uc + 6 ≤ 601024) (hv : us + 80 ≤ 7293034) (K : KK l b L xs i uc us) : V l G μL (sw_EL b L xs) ZL 1252 (LV G b i) [] M uc us := by
  obtain ⟨hs, hI, hIR, o, hO⟩ := id hLI
  have hES : ∀ s A, sw_EL b L xs s A → sw_EL b L xs s A := fun _ _ h => h
  have hu1 : uc ≤ mK μL := (show uc ≤ 601024 from by omega)
  have hv1 : us ≤ mS μL := (show us ≤ 7293034 from by omega)
  refine v_aload_n dL_law_1252 rfl ?_
  refine v_aload_n dL_law_1253 rfl ?_
  refine v_iload dL_law_1254 rfl ?_
  refine v_iconst dL_law_1256 ?_
  refine v_iadd dL_law_1257 ?_
  refine v_sld hES hL (by omega) (by omega) dL_law_1258 ?_
  refine v_callV (ci := 9) (pr_asOne hI hs (xq_rg xs (i + 1))) ⟨rfl, rfl⟩ hu1 hv1 hI.1 rfl ⟨ml_L_135, mm_X9_asOne⟩ ⟨(Nat.le_of_ble_eq_true rfl), (Nat.le_of_ble_eq_true rfl)⟩ mp_X9_asOne rfl rfl (Nat.le_of_ble_eq_true rfl) dL_law_1259 (fun r M1 h => ?_)
  obtain ⟨z, s1, hs1, rfl, hI1, hf1, hR1⟩ := h
  have hIR1 := hIR.frC hf1
  obtain ⟨x1, a1, hX1, -⟩ := id hIR1
  refine v_aload_n dL_law_1262 rfl ?_
  refine v_aload_n dL_law_1263 rfl ?_
  refine v_iload dL_law_1264 rfl ?_
  refine v_iconst dL_law_1266 ?_
  refine v_iadd dL_law_1267 ?_
  refine v_sld hES hL (by omega) (by omega) dL_law_1268 ?_
  refine v_callV (ci := 10) (hR1 M1 hIR1) ⟨rfl, rfl⟩ hu1 hv1 hX1.1 rfl ⟨ml_L_138, mm_X10_asOne⟩ ⟨(Nat.le_of_ble_eq_true rfl), (Nat.le_of_ble_eq_true rfl)⟩ mp_X10_asOne rfl rfl (Nat.le_of_ble_eq_true rfl) dL_law_1269 (fun r M2 h => ?_)
  obtain ⟨rfl, hIR2, hf2⟩ := h
  refine v_lcmp_same (tgt := 1588) dL_law_1272 dL_law_1273 (by decide) ?_
  exact K G M2 s1 uc us (by omega) (by omega) ⟨hs1, hI1.frR hf2, hIR2, o, (hf2 95 (by omega)).trans ((hf1 95 (by omega) (by omega)).trans hO)⟩
theorem law_lay (hLI : LI G M s) (hi0 : 0 ≤ i) (hi1 : i + 7 ≤ (L : Int)) (hL : L ≤ 3584) (hu : uc + 6 ≤ 601024) (hv : us + 80 ≤ 7293034) (K : KK l b L xs i uc us) : V l G μL (sw_EL b L xs) ZL 1278 (LV G b i) [] M uc us := by
  obtain ⟨hs, hI, hIR, o, hO⟩ := id hLI
  have hES : ∀ s A, sw_EL b L xs s A → sw_EL b L xs s A := fun _ _ h => h
  have hu1 : uc ≤ mK μL := (show uc ≤ 601024 from by omega)
  have hv1 : us ≤ mS μL := (show us ≤ 7293034 from by omega)
  refine v_aload_n dL_law_1278 rfl ?_
  refine v_aload_n dL_law_1279 rfl ?_
  refine v_iload dL_law_1280 rfl ?_
  refine v_iconst dL_law_1282 ?_
  refine v_iadd dL_law_1283 ?_
  refine v_sld hES hL (by omega) (by omega) dL_law_1284 ?_
  refine v_aload_n dL_law_1285 rfl ?_
  refine v_iload dL_law_1286 rfl ?_
  refine v_iconst dL_law_1288 ?_
  refine v_iadd dL_law_1289 ?_
  refine v_sld hES hL (by omega) (by omega) dL_law_1290 ?_
  refine v_callV (ci := 9) (pr_lay hI hs (xq_rg xs (i + 1)) (xq_rg xs (i + 2))) ⟨rfl, rfl⟩ hu1 hv1 hI.1 rfl ⟨ml_L_139, mm_X9_lay⟩ ⟨(Nat.le_of_ble_eq_true rfl), (Nat.le_of_ble_eq_true rfl)⟩ mp_X9_lay rfl rfl (Nat.le_of_ble_eq_true rfl) dL_law_1291 (fun r M1 h => ?_)
  obtain ⟨z, s1, hs1, rfl, hI1, hf1, hR1⟩ := h
  have hIR1 := hIR.frC hf1
  obtain ⟨x1, a1, hX1, -⟩ := id hIR1
  refine v_aload_n dL_law_1294 rfl ?_
  refine v_aload_n dL_law_1295 rfl ?_
  refine v_iload dL_law_1296 rfl ?_
  refine v_iconst dL_law_1298 ?_
  refine v_iadd dL_law_1299 ?_
  refine v_sld hES hL (by omega) (by omega) dL_law_1300 ?_
  refine v_aload_n dL_law_1301 rfl ?_
  refine v_iload dL_law_1302 rfl ?_
  refine v_iconst dL_law_1304 ?_
  refine v_iadd dL_law_1305 ?_
  refine v_sld hES hL (by omega) (by omega) dL_law_1306 ?_
  refine v_callV (ci := 10) (hR1 M1 hIR1) ⟨rfl, rfl⟩ hu1 hv1 hX1.1 rfl ⟨ml_L_143, mm_X10_lay_⟩ ⟨(Nat.le_of_ble_eq_true rfl), (Nat.le_of_ble_eq_true rfl)⟩ mp_X10_lay_ rfl rfl (Nat.le_of_ble_eq_true rfl) dL_law_1307 (fun r M2 h => ?_)
  obtain ⟨rfl, hIR2, hf2⟩ := h
  refine v_icmp_same (tgt := 1588) dL_law_1310 (by decide) ?_
  exact K G M2 s1 uc us (by omega) (by omega) ⟨hs1, hI1.frR hf2, hIR2, o, (hf2 95 (by omega)).trans ((hf1 95 (by omega) (by omega)).trans hO)⟩
theorem law_open (hLI : LI G M s) (hi0 : 0 ≤ i) (hi1 : i + 7 ≤ (L : Int)) (hL : L ≤ 3584) (hu : uc + 6 ≤ 601024) (hv : us + 80 ≤ 7293034) (K : KK l b L xs i uc us) : V l G μL (sw_EL b L xs) ZL 1315 (LV G b i) [] M uc us := by
  obtain ⟨hs, hI, hIR, o, hO⟩ := id hLI
  have hES : ∀ s A, sw_EL b L xs s A → sw_EL b L xs s A := fun _ _ h => h
  have hu1 : uc ≤ mK μL := (show uc ≤ 601024 from by omega)
  have hv1 : us ≤ mS μL := (show us ≤ 7293034 from by omega)
  refine v_aload_n dL_law_1315 rfl ?_
  refine v_aload_n dL_law_1316 rfl ?_
  refine v_iload dL_law_1317 rfl ?_
  refine v_iconst dL_law_1319 ?_
  refine v_iadd dL_law_1320 ?_
  refine v_sld hES hL (by omega) (by omega) dL_law_1321 ?_
  refine v_aload_n dL_law_1322 rfl ?_
  refine v_iload dL_law_1323 rfl ?_
  refine v_iconst dL_law_1325 ?_
  refine v_iadd dL_law_1326 ?_
  refine v_sld hES hL (by omega) (by omega) dL_law_1327 ?_
  refine v_callV (ci := 9) (pr_open hI hs (xq_rg xs (i + 1)) (xq_rg xs (i + 2))) ⟨rfl, rfl⟩ hu1 hv1 hI.1 rfl ⟨ml_L_144, mm_X9_open⟩ ⟨(Nat.le_of_ble_eq_true rfl), (Nat.le_of_ble_eq_true rfl)⟩ mp_X9_open rfl rfl (Nat.le_of_ble_eq_true rfl) dL_law_1328 (fun r M1 h => ?_)
  obtain ⟨z, s1, hs1, rfl, hI1, hf1, hR1⟩ := h
  have hIR1 := hIR.frC hf1
  obtain ⟨x1, a1, hX1, -⟩ := id hIR1
  refine v_aload_n dL_law_1331 rfl ?_
  refine v_aload_n dL_law_1332 rfl ?_
  refine v_iload dL_law_1333 rfl ?_
  refine v_iconst dL_law_1335 ?_
  refine v_iadd dL_law_1336 ?_
  refine v_sld hES hL (by omega) (by omega) dL_law_1337 ?_
  refine v_aload_n dL_law_1338 rfl ?_
  refine v_iload dL_law_1339 rfl ?_
  refine v_iconst dL_law_1341 ?_
  refine v_iadd dL_law_1342 ?_
  refine v_sld hES hL (by omega) (by omega) dL_law_1343 ?_
  refine v_callV (ci := 10) (hR1 M1 hIR1) ⟨rfl, rfl⟩ hu1 hv1 hX1.1 rfl ⟨ml_L_147, mm_X10_open⟩ ⟨(Nat.le_of_ble_eq_true rfl), (Nat.le_of_ble_eq_true rfl)⟩ mp_X10_open rfl rfl (Nat.le_of_ble_eq_true rfl) dL_law_1344 (fun r M2 h => ?_)
  obtain ⟨rfl, hIR2, hf2⟩ := h
  refine v_icmp_same (tgt := 1588) dL_law_1347 (by decide) ?_
  exact K G M2 s1 uc us (by omega) (by omega) ⟨hs1, hI1.frR hf2, hIR2, o, (hf2 95 (by omega)).trans ((hf1 95 (by omega) (by omega)).trans hO)⟩
theorem law_leaves (hLI : LI G M s) (hi0 : 0 ≤ i) (hi1 : i + 7 ≤ (L : Int)) (hL : L ≤ 3584) (hu : uc + 6 ≤ 601024) (hv : us + 80 ≤ 7293034) (K : KK l b L xs i uc us) : V l G μL (sw_EL b L xs) ZL 1352 (LV G b i) [] M uc us := by
  obtain ⟨hs, hI, hIR, o, hO⟩ := id hLI
  have hES : ∀ s A, sw_EL b L xs s A → sw_EL b L xs s A := fun _ _ h => h
  have hu1 : uc ≤ mK μL := (show uc ≤ 601024 from by omega)
  have hv1 : us ≤ mS μL := (show us ≤ 7293034 from by omega)
  refine v_aload_n dL_law_1352 rfl ?_
  refine v_aload_n dL_law_1353 rfl ?_
  refine v_iload dL_law_1354 rfl ?_
  refine v_iconst dL_law_1356 ?_
  refine v_iadd dL_law_1357 ?_
  refine v_sld hES hL (by omega) (by omega) dL_law_1358 ?_
  refine v_aload_n dL_law_1359 rfl ?_
  refine v_iload dL_law_1360 rfl ?_
  refine v_iconst dL_law_1362 ?_
  refine v_iadd dL_law_1363 ?_
  refine v_sld hES hL (by omega) (by omega) dL_law_1364 ?_
  refine v_aload_n dL_law_1365 rfl ?_
  refine v_iload dL_law_1366 rfl ?_
  refine v_iconst dL_law_1368 ?_
  refine v_iadd dL_law_1369 ?_
  refine v_sld hES hL (by omega) (by omega) dL_law_1370 ?_
  refine v_callV (ci := 9) (pr_leaves hI hs (xq_rg xs (i + 1)) (xq_rg xs (i + 2)) (xq_rg xs (i + 3))) ⟨rfl, rfl⟩ hu1 hv1 hI.1 rfl ⟨ml_L_148, mm_X9_leaves⟩ ⟨(Nat.le_of_ble_eq_true rfl), (Nat.le_of_ble_eq_true rfl)⟩ mp_X9_leaves rfl rfl (Nat.le_of_ble_eq_true rfl) dL_law_1371 (fun r M1 h => ?_)
  obtain ⟨z, s1, hs1, rfl, hI1, hf1, hR1⟩ := h
  have hIR1 := hIR.frC hf1
  obtain ⟨x1, a1, hX1, -⟩ := id hIR1
  refine v_aload_n dL_law_1374 rfl ?_
  refine v_aload_n dL_law_1375 rfl ?_
  refine v_iload dL_law_1376 rfl ?_
  refine v_iconst dL_law_1378 ?_
  refine v_iadd dL_law_1379 ?_
  refine v_sld hES hL (by omega) (by omega) dL_law_1380 ?_
  refine v_aload_n dL_law_1381 rfl ?_
  refine v_iload dL_law_1382 rfl ?_
  refine v_iconst dL_law_1384 ?_
  refine v_iadd dL_law_1385 ?_
  refine v_sld hES hL (by omega) (by omega) dL_law_1386 ?_
  refine v_aload_n dL_law_1387 rfl ?_
  refine v_iload dL_law_1388 rfl ?_
  refine v_iconst dL_law_1390 ?_
  refine v_iadd dL_law_1391 ?_
  refine v_sld hES hL (by omega) (by omega) dL_law_1392 ?_
  refine v_callV (ci := 10) (hR1 M1 hIR1) ⟨rfl, rfl⟩ hu1 hv1 hX1.1 rfl ⟨ml_L_151, mm_X10_leaves⟩ ⟨(Nat.le_of_ble_eq_true rfl), (Nat.le_of_ble_eq_true rfl)⟩ mp_X10_leaves rfl rfl (Nat.le_of_ble_eq_true rfl) dL_law_1393 (fun r M2 h => ?_)
  obtain ⟨rfl, hIR2, hf2⟩ := h
  refine v_icmp_same (tgt := 1588) dL_law_1396 (by decide) ?_
  exact K G M2 s1 uc us (by omega) (by omega) ⟨hs1, hI1.frR hf2, hIR2, o, (hf2 95 (by omega)).trans ((hf1 95 (by omega) (by omega)).trans hO)⟩
theorem law_learn (hLI : LI G M s) (hi0 : 0 ≤ i) (hi1 : i + 7 ≤ (L : Int)) (hL : L ≤ 3584) (hu : uc + 6 ≤ 601024) (hv : us + 80 ≤ 7293034) (K : KK l b L xs i uc us) : V l G μL (sw_EL b L xs) ZL 1401 (LV G b i) [] M uc us := by
  obtain ⟨hs, hI, hIR, o, hO⟩ := id hLI
  have hES : ∀ s A, sw_EL b L xs s A → sw_EL b L xs s A := fun _ _ h => h
  have hu1 : uc ≤ mK μL := (show uc ≤ 601024 from by omega)
  have hv1 : us ≤ mS μL := (show us ≤ 7293034 from by omega)
  obtain ⟨z1, -, hz1⟩ := jN_of (jN (xq xs (i + 2)) <<< ((iN 32).toInt64 &&& 63))
  obtain ⟨z2, -, hz2⟩ := jN_of (jN (xq xs (i + 3)) &&& jN 4294967295)
  obtain ⟨z3, -, hz3⟩ := jN_of (jN z1 ||| jN z2)
  refine v_aload_n dL_law_1401 rfl ?_
  refine v_aload_n dL_law_1402 rfl ?_
  refine v_iload dL_law_1403 rfl ?_
  refine v_iconst dL_law_1405 ?_
  refine v_iadd dL_law_1406 ?_
  refine v_sld hES hL (by omega) (by omega) dL_law_1407 ?_
  refine v_aload_n dL_law_1408 rfl ?_
  refine v_iload dL_law_1409 rfl ?_
  refine v_iconst dL_law_1411 ?_
  refine v_iadd dL_law_1412 ?_
  refine v_sld hES hL (by omega) (by omega) dL_law_1413 ?_
  refine v_i2l dL_law_1414 (xq_rg xs (i + 2)) ?_
  refine v_bipush dL_law_1415 (by decide +kernel) ?_
  refine v_lshl dL_law_1417 hz1 ?_
  refine v_aload_n dL_law_1418 rfl ?_
  refine v_iload dL_law_1419 rfl ?_
  refine v_iconst dL_law_1421 ?_
  refine v_iadd dL_law_1422 ?_
  refine v_sld hES hL (by omega) (by omega) dL_law_1423 ?_
  refine v_i2l dL_law_1424 (xq_rg xs (i + 3)) ?_
  refine v_ldc2 (z := 4294967295) kl_L_152 (by decide +kernel) dL_law_1425 ?_
  refine v_land dL_law_1428 hz2 ?_
  refine v_lor dL_law_1429 hz3 ?_
  refine v_aload_n dL_law_1430 rfl ?_
  refine v_iload dL_law_1431 rfl ?_
  refine v_iconst dL_law_1433 ?_
  refine v_iadd dL_law_1434 ?_
  refine v_sld hES hL (by omega) (by omega) dL_law_1435 ?_
  refine v_callV (ci := 9) (pr_learn (seed := z3) hI hs (xq_rg xs (i + 1)) (xq_rg xs (i + 4))) ⟨rfl, rfl⟩ hu1 hv1 hI.1 rfl ⟨ml_L_154, mm_X9_learn⟩ ⟨(Nat.le_of_ble_eq_true rfl), (Nat.le_of_ble_eq_true rfl)⟩ mp_X9_learn rfl rfl (Nat.le_of_ble_eq_true rfl) dL_law_1436 (fun r M1 h => ?_)
  obtain ⟨z, s1, hs1, rfl, hI1, hf1, hR1⟩ := h
  have hIR1 := hIR.frC hf1
  obtain ⟨x1, a1, hX1, -⟩ := id hIR1
  refine v_aload_n dL_law_1439 rfl ?_
  refine v_aload_n dL_law_1440 rfl ?_
  refine v_iload dL_law_1441 rfl ?_
  refine v_iconst dL_law_1443 ?_
  refine v_iadd dL_law_1444 ?_
  refine v_sld hES hL (by omega) (by omega) dL_law_1445 ?_
  refine v_aload_n dL_law_1446 rfl ?_
  refine v_iload dL_law_1447 rfl ?_
  refine v_iconst dL_law_1449 ?_
  refine v_iadd dL_law_1450 ?_
  refine v_sld hES hL (by omega) (by omega) dL_law_1451 ?_
  refine v_i2l dL_law_1452 (xq_rg xs (i + 2)) ?_
  refine v_bipush dL_law_1453 (by decide +kernel) ?_
  refine v_lshl dL_law_1455 hz1 ?_
  refine v_aload_n dL_law_1456 rfl ?_
  refine v_iload dL_law_1457 rfl ?_
  refine v_iconst dL_law_1459 ?_
  refine v_iadd dL_law_1460 ?_
  refine v_sld hES hL (by omega) (by omega) dL_law_1461 ?_
  refine v_i2l dL_law_1462 (xq_rg xs (i + 3)) ?_
  refine v_ldc2 (z := 4294967295) kl_L_152 (by decide +kernel) dL_law_1463 ?_
  refine v_land dL_law_1466 hz2 ?_
  refine v_lor dL_law_1467 hz3 ?_
  refine v_aload_n dL_law_1468 rfl ?_
  refine v_iload dL_law_1469 rfl ?_
  refine v_iconst dL_law_1471 ?_
  refine v_iadd dL_law_1472 ?_
  refine v_sld hES hL (by omega) (by omega) dL_law_1473 ?_
  refine v_callV (ci := 10) (hR1 M1 hIR1) ⟨rfl, rfl⟩ hu1 hv1 hX1.1 rfl ⟨ml_L_158, mm_X10_learn⟩ ⟨(Nat.le_of_ble_eq_true rfl), (Nat.le_of_ble_eq_true rfl)⟩ mp_X10_learn rfl rfl (Nat.le_of_ble_eq_true rfl) dL_law_1474 (fun r M2 h => ?_)
  obtain ⟨rfl, hIR2, hf2⟩ := h
  refine v_icmp_same (tgt := 1588) dL_law_1477 (by decide) ?_
  exact K G M2 s1 uc us (by omega) (by omega) ⟨hs1, hI1.frR hf2, hIR2, o, (hf2 95 (by omega)).trans ((hf1 95 (by omega) (by omega)).trans hO)⟩
theorem law_got (hLI : LI G M s) (hi0 : 0 ≤ i) (hi1 : i + 7 ≤ (L : Int)) (hL : L ≤ 3584) (hu : uc + 6 ≤ 601024) (hv : us + 80 ≤ 7293034) (K : KK l b L xs i uc us) : V l G μL (sw_EL b L xs) ZL 1550 (LV G b i) [] M uc us := by
  obtain ⟨hs, hI, hIR, o, hO⟩ := id hLI
  have hES : ∀ s A, sw_EL b L xs s A → sw_EL b L xs s A := fun _ _ h => h
  have hu1 : uc ≤ mK μL := (show uc ≤ 601024 from by omega)
  have hv1 : us ≤ mS μL := (show us ≤ 7293034 from by omega)
  refine v_aload_n dL_law_1550 rfl ?_
  refine v_callV (ci := 9) (pr_got hI hs) ⟨rfl, rfl⟩ hu1 hv1 hI.1 rfl ⟨ml_L_163, mm_X9_got⟩ ⟨(Nat.le_of_ble_eq_true rfl), (Nat.le_of_ble_eq_true rfl)⟩ mp_X9_got rfl rfl (Nat.le_of_ble_eq_true rfl) dL_law_1551 (fun r M1 h => ?_)
  obtain ⟨z, s1, hs1, rfl, hI1, hf1, hR1⟩ := h
  have hIR1 := hIR.frC hf1
  obtain ⟨x1, a1, hX1, -⟩ := id hIR1
  refine v_aload_n dL_law_1554 rfl ?_
  refine v_callV (ci := 10) (hR1 M1 hIR1) ⟨rfl, rfl⟩ hu1 hv1 hX1.1 rfl ⟨ml_L_166, mm_X10_got⟩ ⟨(Nat.le_of_ble_eq_true rfl), (Nat.le_of_ble_eq_true rfl)⟩ mp_X10_got rfl rfl (Nat.le_of_ble_eq_true rfl) dL_law_1555 (fun r M2 h => ?_)
  obtain ⟨rfl, hIR2, hf2⟩ := h
  refine v_icmp_same (tgt := 1588) dL_law_1558 (by decide) ?_
  exact K G M2 s1 uc us (by omega) (by omega) ⟨hs1, hI1.frR hf2, hIR2, o, (hf2 95 (by omega)).trans ((hf1 95 (by omega) (by omega)).trans hO)⟩
theorem law_count (hLI : LI G M s) (hi0 : 0 ≤ i) (hi1 : i + 7 ≤ (L : Int)) (hL : L ≤ 3584) (hu : uc + 6 ≤ 601024) (hv : us + 80 ≤ 7293034) (K : KK l b L xs i uc us) : V l G μL (sw_EL b L xs) ZL 1563 (LV G b i) [] M uc us := by
  obtain ⟨hs, hI, hIR, o, hO⟩ := id hLI
  have hES : ∀ s A, sw_EL b L xs s A → sw_EL b L xs s A := fun _ _ h => h
  have hu1 : uc ≤ mK μL := (show uc ≤ 601024 from by omega)
  have hv1 : us ≤ mS μL := (show us ≤ 7293034 from by omega)
  refine v_aload_n dL_law_1563 rfl ?_
  refine v_aload_n dL_law_1564 rfl ?_
  refine v_iload dL_law_1565 rfl ?_
  refine v_iconst dL_law_1567 ?_
  refine v_iadd dL_law_1568 ?_
  refine v_sld hES hL (by omega) (by omega) dL_law_1569 ?_
  refine v_callV (ci := 9) (pr_count hI hs (xq_rg xs (i + 1))) ⟨rfl, rfl⟩ hu1 hv1 hI.1 rfl ⟨ml_L_167, mm_X9_count⟩ ⟨(Nat.le_of_ble_eq_true rfl), (Nat.le_of_ble_eq_true rfl)⟩ mp_X9_count rfl rfl (Nat.le_of_ble_eq_true rfl) dL_law_1570 (fun r M1 h => ?_)
  obtain ⟨z, s1, hs1, rfl, hI1, hf1, hR1⟩ := h
  have hIR1 := hIR.frC hf1
  obtain ⟨x1, a1, hX1, -⟩ := id hIR1
  refine v_aload_n dL_law_1573 rfl ?_
  refine v_aload_n dL_law_1574 rfl ?_
  refine v_iload dL_law_1575 rfl ?_
  refine v_iconst dL_law_1577 ?_
  refine v_iadd dL_law_1578 ?_
  refine v_sld hES hL (by omega) (by omega) dL_law_1579 ?_
  refine v_callV (ci := 10) (hR1 M1 hIR1) ⟨rfl, rfl⟩ hu1 hv1 hX1.1 rfl ⟨ml_L_170, mm_X10_count_⟩ ⟨(Nat.le_of_ble_eq_true rfl), (Nat.le_of_ble_eq_true rfl)⟩ mp_X10_count_ rfl rfl (Nat.le_of_ble_eq_true rfl) dL_law_1580 (fun r M2 h => ?_)
  obtain ⟨rfl, hIR2, hf2⟩ := h
  refine v_icmp_same (tgt := 1588) dL_law_1583 (by decide) ?_
  exact K G M2 s1 uc us (by omega) (by omega) ⟨hs1, hI1.frR hf2, hIR2, o, (hf2 95 (by omega)).trans ((hf1 95 (by omega) (by omega)).trans hO)⟩
end

