/-! the law: sale, truth, learned -/
section
variable {l : Launch} {G : sw_G} {b L : Nat} {xs : Nat → Int32} {M : sw_M} {s : CSt} {i : Int} {uc us : Nat}
theorem LV_to {al : Nat → Nat} (h0 : al 0 = sw_al G 0) (h70 : al 70 = sw_al G 70) (h95 : al 95 = sw_al G 95) : ∀ q ∈ LV (sw_Gw G al) b i, sw_lk (LV G b i) q.1 = some q.2 :=
  sw_h1 rfl (sw_h1 (congrArg (fun q => some (Value.ref q)) h0.symm) (sw_h1 (congrArg (fun q => some (Value.ref q)) h70.symm) (sw_h1 (congrArg (fun q => some (Value.ref q)) h95.symm) (sw_h1 rfl sw_h0))))
theorem law_sale (hLI : LI G M s) (hi0 : 0 ≤ i) (hi1 : i + 7 ≤ (L : Int)) (hL : L ≤ 3584) (hu : uc + 6 ≤ 601024) (hv : us + 80 ≤ 7293034) (K : KK l b L xs i uc us) : V l G μL (sw_EL b L xs) ZL 295 (LV G b i) [] M uc us := by
  obtain ⟨hs, hI, hIR, o, hO⟩ := id hLI
  have hES : ∀ s A, sw_EL b L xs s A → sw_EL b L xs s A := fun _ _ h => h
  have hu1 : uc + mK μX9_sale ≤ mK μL := (show uc + 5 ≤ 601024 from by omega)
  have hv1 : us + mS μX9_sale ≤ mS μL := (show us + 71 ≤ 7293034 from by omega)
  by_cases hc : qN s < 8
  · skip
    refine v_aload_n dL_law_295 rfl ?_
    refine v_callVA (ci := 9) (F9_sale hI hs hc) hu1 hv1 hI.1 rfl ⟨ml_L_38, mm_X9_sale⟩ ⟨(Nat.le_of_ble_eq_true rfl), (Nat.le_of_ble_eq_true rfl)⟩ mp_X9_sale rfl rfl (Nat.le_of_ble_eq_true rfl) dL_law_296 (fun al r M1 h => ?_)
    obtain ⟨Va, Wa, Oa, St, h1, h2⟩ := h
    by_cases he : (rd (qF s) (qL s) Va Wa Oa St).1 = -1
    · obtain ⟨rfl, hal, hI1, hf1⟩ := h2 he
      have hIR1 : InvR (sw_Gw G al) M1 s := (hIR.frC hf1).gw (fun u h1 h2 => hal u (by omega))
      obtain ⟨x1, a1, hX1, -⟩ := id hIR1
      refine v_sub (LV_to (hal 0 (by omega)) (hal 70 (by omega)) (hal 95 (by omega))) ?_
      refine v_aload_n dL_law_299 rfl ?_
      refine v_callV (ci := 10) (R9_sale Va Wa Oa St hIR1 hs hc) ⟨rfl, rfl⟩ hu1 hv1 hX1.1 rfl ⟨ml_L_41, mm_X10_sale⟩ ⟨(Nat.le_of_ble_eq_true rfl), (Nat.le_of_ble_eq_true rfl)⟩ mp_X10_sale rfl rfl (Nat.le_of_ble_eq_true rfl) dL_law_300 (fun r M2 h => ?_)
      obtain ⟨-, h4, hf2⟩ := h
      obtain ⟨rfl, hIR2⟩ := h4 he
      refine v_icmp_same (tgt := 1588) dL_law_303 (by decide) ?_
      exact K (sw_Gw G al) M2 _ _ _ (show uc + 5 ≤ uc + 6 from by omega) (show us + 71 ≤ us + 80 from by omega) ⟨stOK.sN hs hc he, hI1.frR hf2, hIR2, o, (hf2 95 (by omega)).trans ((hf1 95 (by omega) (by omega)).trans hO)⟩
    · obtain ⟨rfl, rfl, hI1, hf1⟩ := h1 he
      rw [sw_Gw_self]
      have hIR1 := hIR.frC hf1
      obtain ⟨x1, a1, hX1, -⟩ := id hIR1
      refine v_aload_n dL_law_299 rfl ?_
      refine v_callV (ci := 10) (R9_sale Va Wa Oa St hIR1 hs hc) ⟨rfl, rfl⟩ hu1 hv1 hX1.1 rfl ⟨ml_L_41, mm_X10_sale⟩ ⟨(Nat.le_of_ble_eq_true rfl), (Nat.le_of_ble_eq_true rfl)⟩ mp_X10_sale rfl rfl (Nat.le_of_ble_eq_true rfl) dL_law_300 (fun r M2 h => ?_)
      obtain ⟨h3, -, hf2⟩ := h
      obtain ⟨rfl, hIR2⟩ := h3 he
      refine v_icmp_same (tgt := 1588) dL_law_303 (by decide) ?_
      exact K G M2 s _ _ (show uc + 5 ≤ uc + 6 from by omega) (show us + 71 ≤ us + 80 from by omega) ⟨hs, hI1.frR hf2, hIR2, o, (hf2 95 (by omega)).trans ((hf1 95 (by omega) (by omega)).trans hO)⟩
  · skip
    refine v_aload_n dL_law_295 rfl ?_
    refine v_callVA (ci := 9) (F9_saleX hI hs (by omega)) hu1 hv1 hI.1 rfl ⟨ml_L_38, mm_X9_sale⟩ ⟨(Nat.le_of_ble_eq_true rfl), (Nat.le_of_ble_eq_true rfl)⟩ mp_X9_sale rfl rfl (Nat.le_of_ble_eq_true rfl) dL_law_296 (fun al r M1 h => ?_)
    obtain ⟨rfl, rfl, hI1, hf1⟩ := h
    rw [sw_Gw_self]
    have hIR1 := hIR.frC hf1
    obtain ⟨x1, a1, hX1, -⟩ := id hIR1
    refine v_aload_n dL_law_299 rfl ?_
    refine v_callV (ci := 10) (R9_saleX hIR1 hs (by omega)) ⟨rfl, rfl⟩ hu1 hv1 hX1.1 rfl ⟨ml_L_41, mm_X10_sale⟩ ⟨(Nat.le_of_ble_eq_true rfl), (Nat.le_of_ble_eq_true rfl)⟩ mp_X10_sale rfl rfl (Nat.le_of_ble_eq_true rfl) dL_law_300 (fun r M2 h => ?_)
    obtain ⟨rfl, hIR2, hf2⟩ := h
    refine v_icmp_same (tgt := 1588) dL_law_303 (by decide) ?_
    exact K G M2 s _ _ (show uc + 5 ≤ uc + 6 from by omega) (show us + 71 ≤ us + 80 from by omega) ⟨hs, hI1.frR hf2, hIR2, o, (hf2 95 (by omega)).trans ((hf1 95 (by omega) (by omega)).trans hO)⟩
theorem law_truth (hlf : l.stackTraces = false) (hLI : LI G M s) (hi0 : 0 ≤ i) (hi1 : i + 7 ≤ (L : Int)) (hL : L ≤ 3584) (hu : uc + 6 ≤ 601024) (hv : us + 80 ≤ 7293034) (K : KK l b L xs i uc us) : V l G μL (sw_EL b L xs) ZL 345 (LV G b i) [] M uc us := by
  obtain ⟨hs, hI, hIR, o, hO⟩ := id hLI
  have hES : ∀ s A, sw_EL b L xs s A → sw_EL b L xs s A := fun _ _ h => h
  have hu1 : uc + mK μL_truth ≤ mK μL := (show uc + 1 ≤ 601024 from by omega)
  have hv1 : us + mS μL_truth ≤ mS μL := (show us + 6 ≤ 7293034 from by omega)
  obtain ⟨v9, hv9, g3⟩ : ∃ v9 : Int, iN v9 = iN (trV (sl s (xq xs (i + 1))) (xq xs (i + 2)) (xq xs (i + 3))) ∧ sw_rg v9 := ⟨(iN (trV (sl s (xq xs (i + 1))) (xq xs (i + 2)) (xq xs (i + 3)))).toInt, Int32.ofInt_toInt _, (iN (trV (sl s (xq xs (i + 1))) (xq xs (i + 2)) (xq xs (i + 3)))).le_toInt, (iN (trV (sl s (xq xs (i + 1))) (xq xs (i + 2)) (xq xs (i + 3)))).toInt_lt⟩
  refine v_aload_n dL_law_345 rfl ?_
  refine v_aload_n dL_law_346 rfl ?_
  refine v_iload dL_law_347 rfl ?_
  refine v_iconst dL_law_349 ?_
  refine v_iadd dL_law_350 ?_
  refine v_sld hES hL (by omega) (by omega) dL_law_351 ?_
  refine v_aload_n dL_law_352 rfl ?_
  refine v_iload dL_law_353 rfl ?_
  refine v_iconst dL_law_355 ?_
  refine v_iadd dL_law_356 ?_
  refine v_sld hES hL (by omega) (by omega) dL_law_357 ?_
  refine v_aload_n dL_law_358 rfl ?_
  refine v_iload dL_law_359 rfl ?_
  refine v_iconst dL_law_361 ?_
  refine v_iadd dL_law_362 ?_
  refine v_sld hES hL (by omega) (by omega) dL_law_363 ?_
  refine v_aload_n dL_law_364 rfl ?_
  refine v_callSW (n := 5) (μ' := μL_truth) (fun s A h => h.1) (KL_truth hlf hI hs hO (xq_rg xs (i + 1)) (xq_rg xs (i + 2)) (xq_rg xs (i + 3)) hv9 g3) hu1 hv1 ml_L_46 mw_L_truth mt_L_truth ui_L ⟨by decide +kernel, by decide +kernel⟩ ⟨(Nat.le_of_ble_eq_true rfl), (Nat.le_of_ble_eq_true rfl)⟩ (by decide +kernel) rfl rfl (Nat.le_of_ble_eq_true rfl) dL_law_365 (fun al r M1 h => ?_)
  obtain ⟨rfl, h⟩ := h
  rw [sw_Gw_self]
  rcases h with ⟨hp, rfl, rfl⟩ | ⟨hn, rfl, rfl⟩
  · obtain ⟨M1, hM1⟩ : ∃ N, sw_up M 95 (sw_la 1 (up o 0 v9)) = N := ⟨_, rfl⟩
    have hI1 : InvC G M1 s := by rw [← hM1]; exact hI.fx (fun t ht => if_neg (by omega))
    have hIR1 : InvR G M1 s := by rw [← hM1]; exact hIR.fx (fun t h1 h2 => if_neg (by omega))
    have hO1 : M1 95 = some (sw_la 1 (up o 0 v9)) := by rw [← hM1]; exact if_pos rfl
    rw [hM1]
    obtain ⟨x1, a1, hX1, hRI1⟩ := id hIR1
    refine v_istore dL_law_368 (Nat.le_of_ble_eq_true rfl) ?_
    refine v_aload_n dL_law_370 rfl ?_
    refine v_aload_n dL_law_371 rfl ?_
    refine v_iload dL_law_372 rfl ?_
    refine v_iconst dL_law_374 ?_
    refine v_iadd dL_law_375 ?_
    refine v_sld hES hL (by omega) (by omega) dL_law_376 ?_
    refine v_aload_n dL_law_377 rfl ?_
    refine v_iload dL_law_378 rfl ?_
    refine v_iconst dL_law_380 ?_
    refine v_iadd dL_law_381 ?_
    refine v_sld hES hL (by omega) (by omega) dL_law_382 ?_
    refine v_aload_n dL_law_383 rfl ?_
    refine v_iload dL_law_384 rfl ?_
    refine v_iconst dL_law_386 ?_
    refine v_iadd dL_law_387 ?_
    refine v_sld hES hL (by omega) (by omega) dL_law_388 ?_
    refine v_callV (ci := 10) (R9_truth hX1 hRI1 hs hp.1 hp.2) ⟨rfl, rfl⟩ hu1 hv1 hX1.1 rfl ⟨ml_L_51, mm_X10_truth⟩ ⟨(Nat.le_of_ble_eq_true rfl), (Nat.le_of_ble_eq_true rfl)⟩ mp_X10_truth rfl rfl (Nat.le_of_ble_eq_true rfl) dL_law_389 (fun r M2 h => ?_)
    obtain ⟨x2, rfl, hX2, hRI2, hf2, h20⟩ := h
    refine v_istore dL_law_392 (Nat.le_of_ble_eq_true rfl) ?_
    refine v_aload_n dL_law_394 rfl ?_
    refine v_callV (ci := 10) (R9_thrown hX2 h20) ⟨rfl, rfl⟩ hu1 hv1 hX2.1 rfl ⟨ml_L_52, mm_X10_thrown⟩ ⟨(Nat.le_of_ble_eq_true rfl), (Nat.le_of_ble_eq_true rfl)⟩ mp_X10_thrown rfl rfl (Nat.le_of_ble_eq_true rfl) dL_law_395 (fun r M3 h => ?_)
    obtain ⟨rfl, rfl⟩ := h
    refine v_iload dL_law_398 rfl ?_
    refine v_icmp_same (tgt := 405) dL_law_400 (by decide) ?_
    have hO2 := (hf2 95 (by omega)).trans hO1
    refine v_iload dL_law_405 rfl ?_
    refine v_if_ne (tgt := 422) dL_law_407 (by decide) ⟨by omega, by omega⟩ (fun h407 => ?_) (fun h407 => ?_)
    · skip
      exact absurd rfl h407
    · skip
      refine v_aload_n dL_law_410 rfl ?_
      refine v_iconst dL_law_411 ?_
      refine v_mem (sw_ov_self (cs := [(95, sw_la 1 (up o 0 v9))]) (sw_hold1 hO2 sw_hold0)).symm ?_
      refine v_lald 0 (sw_nd_of (by simp)) rfl (Nat.le_of_ble_eq_true rfl) (by omega) (by omega) dL_law_412 ?_
      refine v_mem (sw_ov_self (cs := [(95, sw_la 1 (up o 0 v9))]) (sw_hold1 hO2 sw_hold0)) ?_
      rw [show up o 0 v9 0 = v9 from if_pos rfl]
      refine v_iload dL_law_413 rfl ?_
      rw [← hv9]
      refine v_i2l dL_law_415 g3 ?_
      refine v_lcmp_same (tgt := 422) dL_law_416 dL_law_417 (by decide) ?_
      refine v_goto (tgt := 1588) dL_law_422 (by decide) ?_
      refine v_sub (lv' := LV G b i) (sw_h1 rfl (sw_h1 rfl (sw_h1 rfl (sw_h1 rfl (sw_h1 rfl sw_h0))))) ?_
      exact K G _ s _ _ (show uc + 1 ≤ uc + 6 from by omega) (show us + 6 ≤ us + 80 from by omega) ⟨hs, hI1.frR hf2, ⟨_, _, hX2, hRI2⟩, _, hO2⟩
  · obtain ⟨x1, a1, hX1, hRI1⟩ := id hIR
    refine v_istore dL_law_368 (Nat.le_of_ble_eq_true rfl) ?_
    refine v_aload_n dL_law_370 rfl ?_
    refine v_aload_n dL_law_371 rfl ?_
    refine v_iload dL_law_372 rfl ?_
    refine v_iconst dL_law_374 ?_
    refine v_iadd dL_law_375 ?_
    refine v_sld hES hL (by omega) (by omega) dL_law_376 ?_
    refine v_aload_n dL_law_377 rfl ?_
    refine v_iload dL_law_378 rfl ?_
    refine v_iconst dL_law_380 ?_
    refine v_iadd dL_law_381 ?_
    refine v_sld hES hL (by omega) (by omega) dL_law_382 ?_
    refine v_aload_n dL_law_383 rfl ?_
    refine v_iload dL_law_384 rfl ?_
    refine v_iconst dL_law_386 ?_
    refine v_iadd dL_law_387 ?_
    refine v_sld hES hL (by omega) (by omega) dL_law_388 ?_
    refine v_callV (ci := 10) (R9_truthX hX1 hRI1 hs (xq_rg xs (i + 1)) (xq_rg xs (i + 2)) (xq_rg xs (i + 3)) hn) ⟨rfl, rfl⟩ hu1 hv1 hX1.1 rfl ⟨ml_L_51, mm_X10_truth⟩ ⟨(Nat.le_of_ble_eq_true rfl), (Nat.le_of_ble_eq_true rfl)⟩ mp_X10_truth rfl rfl (Nat.le_of_ble_eq_true rfl) dL_law_389 (fun r M2 h => ?_)
    obtain ⟨x2, rfl, hX2, hRI2, hf2, h20⟩ := h
    refine v_istore dL_law_392 (Nat.le_of_ble_eq_true rfl) ?_
    refine v_aload_n dL_law_394 rfl ?_
    refine v_callV (ci := 10) (R9_thrown hX2 h20) ⟨rfl, rfl⟩ hu1 hv1 hX2.1 rfl ⟨ml_L_52, mm_X10_thrown⟩ ⟨(Nat.le_of_ble_eq_true rfl), (Nat.le_of_ble_eq_true rfl)⟩ mp_X10_thrown rfl rfl (Nat.le_of_ble_eq_true rfl) dL_law_395 (fun r M3 h => ?_)
    obtain ⟨rfl, rfl⟩ := h
    refine v_iload dL_law_398 rfl ?_
    refine v_icmp_same (tgt := 405) dL_law_400 (by decide) ?_
    have hO2 := (hf2 95 (by omega)).trans hO
    refine v_iload dL_law_405 rfl ?_
    refine v_if_ne (tgt := 422) dL_law_407 (by decide) ⟨by omega, by omega⟩ (fun h407 => ?_) (fun h407 => ?_)
    · skip
      refine v_goto (tgt := 1588) dL_law_422 (by decide) ?_
      refine v_sub (lv' := LV G b i) (sw_h1 rfl (sw_h1 rfl (sw_h1 rfl (sw_h1 rfl (sw_h1 rfl sw_h0))))) ?_
      exact K G _ s _ _ (show uc + 1 ≤ uc + 6 from by omega) (show us + 6 ≤ us + 80 from by omega) ⟨hs, hI.frR hf2, ⟨_, _, hX2, hRI2⟩, _, hO2⟩
    · skip
      exfalso; omega
theorem law_learned (hlf : l.stackTraces = false) (hLI : LI G M s) (hi0 : 0 ≤ i) (hi1 : i + 7 ≤ (L : Int)) (hL : L ≤ 3584) (hu : uc + 6 ≤ 601024) (hv : us + 80 ≤ 7293034) (K : KK l b L xs i uc us) : V l G μL (sw_EL b L xs) ZL 1482 (LV G b i) [] M uc us := by
  obtain ⟨hs, hI, hIR, o, hO⟩ := id hLI
  have hES : ∀ s A, sw_EL b L xs s A → sw_EL b L xs s A := fun _ _ h => h
  have hu1 : uc + mK μL_learned ≤ mK μL := (show uc + 1 ≤ 601024 from by omega)
  have hv1 : us + mS μL_learned ≤ mS μL := (show us + 6 ≤ 7293034 from by omega)
  obtain ⟨v9, hv9, g3⟩ : ∃ v9 : Int, iN v9 = iN (if xq xs (i + 2) = 5 then qG s (xq xs (i + 1)) else qR s ((xq xs (i + 1)) * 5 + xq xs (i + 2))) ∧ sw_rg v9 := ⟨(iN (if xq xs (i + 2) = 5 then qG s (xq xs (i + 1)) else qR s ((xq xs (i + 1)) * 5 + xq xs (i + 2)))).toInt, Int32.ofInt_toInt _, (iN (if xq xs (i + 2) = 5 then qG s (xq xs (i + 1)) else qR s ((xq xs (i + 1)) * 5 + xq xs (i + 2)))).le_toInt, (iN (if xq xs (i + 2) = 5 then qG s (xq xs (i + 1)) else qR s ((xq xs (i + 1)) * 5 + xq xs (i + 2)))).toInt_lt⟩
  refine v_aload_n dL_law_1482 rfl ?_
  refine v_aload_n dL_law_1483 rfl ?_
  refine v_iload dL_law_1484 rfl ?_
  refine v_iconst dL_law_1486 ?_
  refine v_iadd dL_law_1487 ?_
  refine v_sld hES hL (by omega) (by omega) dL_law_1488 ?_
  refine v_aload_n dL_law_1489 rfl ?_
  refine v_iload dL_law_1490 rfl ?_
  refine v_iconst dL_law_1492 ?_
  refine v_iadd dL_law_1493 ?_
  refine v_sld hES hL (by omega) (by omega) dL_law_1494 ?_
  refine v_aload_n dL_law_1495 rfl ?_
  refine v_callSW (n := 4) (μ' := μL_learned) (fun s A h => h.1) (KL_learned hlf hI hs hO (xq_rg xs (i + 1)) (xq_rg xs (i + 2)) hv9 g3) hu1 hv1 ml_L_159 mw_L_learned mt_L_learned ui_L ⟨by decide +kernel, by decide +kernel⟩ ⟨(Nat.le_of_ble_eq_true rfl), (Nat.le_of_ble_eq_true rfl)⟩ (by decide +kernel) rfl rfl (Nat.le_of_ble_eq_true rfl) dL_law_1496 (fun al r M1 h => ?_)
  obtain ⟨rfl, h⟩ := h
  rw [sw_Gw_self]
  rcases h with ⟨hp, rfl, rfl⟩ | ⟨hn, rfl, rfl⟩
  · obtain ⟨M1, hM1⟩ : ∃ N, sw_up M 95 (sw_la 1 (up o 0 v9)) = N := ⟨_, rfl⟩
    have hI1 : InvC G M1 s := by rw [← hM1]; exact hI.fx (fun t ht => if_neg (by omega))
    have hIR1 : InvR G M1 s := by rw [← hM1]; exact hIR.fx (fun t h1 h2 => if_neg (by omega))
    have hO1 : M1 95 = some (sw_la 1 (up o 0 v9)) := by rw [← hM1]; exact if_pos rfl
    rw [hM1]
    obtain ⟨x1, a1, hX1, hRI1⟩ := id hIR1
    refine v_istore dL_law_1499 (Nat.le_of_ble_eq_true rfl) ?_
    refine v_aload_n dL_law_1501 rfl ?_
    refine v_aload_n dL_law_1502 rfl ?_
    refine v_iload dL_law_1503 rfl ?_
    refine v_iconst dL_law_1505 ?_
    refine v_iadd dL_law_1506 ?_
    refine v_sld hES hL (by omega) (by omega) dL_law_1507 ?_
    refine v_aload_n dL_law_1508 rfl ?_
    refine v_iload dL_law_1509 rfl ?_
    refine v_iconst dL_law_1511 ?_
    refine v_iadd dL_law_1512 ?_
    refine v_sld hES hL (by omega) (by omega) dL_law_1513 ?_
    refine v_callV (ci := 10) (R9_learned hX1 hRI1 hs hp.1 hp.2) ⟨rfl, rfl⟩ hu1 hv1 hX1.1 rfl ⟨ml_L_162, mm_X10_learned⟩ ⟨(Nat.le_of_ble_eq_true rfl), (Nat.le_of_ble_eq_true rfl)⟩ mp_X10_learned rfl rfl (Nat.le_of_ble_eq_true rfl) dL_law_1514 (fun r M2 h => ?_)
    obtain ⟨x2, rfl, hX2, hRI2, hf2, h20⟩ := h
    refine v_istore dL_law_1517 (Nat.le_of_ble_eq_true rfl) ?_
    refine v_aload_n dL_law_1519 rfl ?_
    refine v_callV (ci := 10) (R9_thrown hX2 h20) ⟨rfl, rfl⟩ hu1 hv1 hX2.1 rfl ⟨ml_L_52, mm_X10_thrown⟩ ⟨(Nat.le_of_ble_eq_true rfl), (Nat.le_of_ble_eq_true rfl)⟩ mp_X10_thrown rfl rfl (Nat.le_of_ble_eq_true rfl) dL_law_1520 (fun r M3 h => ?_)
    obtain ⟨rfl, rfl⟩ := h
    refine v_iload dL_law_1523 rfl ?_
    refine v_icmp_same (tgt := 1530) dL_law_1525 (by decide) ?_
    have hO2 := (hf2 95 (by omega)).trans hO1
    refine v_iload dL_law_1530 rfl ?_
    refine v_if_ne (tgt := 1547) dL_law_1532 (by decide) ⟨by omega, by omega⟩ (fun h1532 => ?_) (fun h1532 => ?_)
    · skip
      exact absurd rfl h1532
    · skip
      refine v_aload_n dL_law_1535 rfl ?_
      refine v_iconst dL_law_1536 ?_
      refine v_mem (sw_ov_self (cs := [(95, sw_la 1 (up o 0 v9))]) (sw_hold1 hO2 sw_hold0)).symm ?_
      refine v_lald 0 (sw_nd_of (by simp)) rfl (Nat.le_of_ble_eq_true rfl) (by omega) (by omega) dL_law_1537 ?_
      refine v_mem (sw_ov_self (cs := [(95, sw_la 1 (up o 0 v9))]) (sw_hold1 hO2 sw_hold0)) ?_
      rw [show up o 0 v9 0 = v9 from if_pos rfl]
      refine v_iload dL_law_1538 rfl ?_
      rw [← hv9]
      refine v_i2l dL_law_1540 g3 ?_
      refine v_lcmp_same (tgt := 1547) dL_law_1541 dL_law_1542 (by decide) ?_
      refine v_goto (tgt := 1588) dL_law_1547 (by decide) ?_
      refine v_sub (lv' := LV G b i) (sw_h1 rfl (sw_h1 rfl (sw_h1 rfl (sw_h1 rfl (sw_h1 rfl sw_h0))))) ?_
      exact K G _ s _ _ (show uc + 1 ≤ uc + 6 from by omega) (show us + 6 ≤ us + 80 from by omega) ⟨hs, hI1.frR hf2, ⟨_, _, hX2, hRI2⟩, _, hO2⟩
  · obtain ⟨x1, a1, hX1, hRI1⟩ := id hIR
    refine v_istore dL_law_1499 (Nat.le_of_ble_eq_true rfl) ?_
    refine v_aload_n dL_law_1501 rfl ?_
    refine v_aload_n dL_law_1502 rfl ?_
    refine v_iload dL_law_1503 rfl ?_
    refine v_iconst dL_law_1505 ?_
    refine v_iadd dL_law_1506 ?_
    refine v_sld hES hL (by omega) (by omega) dL_law_1507 ?_
    refine v_aload_n dL_law_1508 rfl ?_
    refine v_iload dL_law_1509 rfl ?_
    refine v_iconst dL_law_1511 ?_
    refine v_iadd dL_law_1512 ?_
    refine v_sld hES hL (by omega) (by omega) dL_law_1513 ?_
    refine v_callV (ci := 10) (R9_learnedX hX1 hRI1 hs (xq_rg xs (i + 1)) (xq_rg xs (i + 2)) hn) ⟨rfl, rfl⟩ hu1 hv1 hX1.1 rfl ⟨ml_L_162, mm_X10_learned⟩ ⟨(Nat.le_of_ble_eq_true rfl), (Nat.le_of_ble_eq_true rfl)⟩ mp_X10_learned rfl rfl (Nat.le_of_ble_eq_true rfl) dL_law_1514 (fun r M2 h => ?_)
    obtain ⟨x2, rfl, hX2, hRI2, hf2, h20⟩ := h
    refine v_istore dL_law_1517 (Nat.le_of_ble_eq_true rfl) ?_
    refine v_aload_n dL_law_1519 rfl ?_
    refine v_callV (ci := 10) (R9_thrown hX2 h20) ⟨rfl, rfl⟩ hu1 hv1 hX2.1 rfl ⟨ml_L_52, mm_X10_thrown⟩ ⟨(Nat.le_of_ble_eq_true rfl), (Nat.le_of_ble_eq_true rfl)⟩ mp_X10_thrown rfl rfl (Nat.le_of_ble_eq_true rfl) dL_law_1520 (fun r M3 h => ?_)
    obtain ⟨rfl, rfl⟩ := h
    refine v_iload dL_law_1523 rfl ?_
    refine v_icmp_same (tgt := 1530) dL_law_1525 (by decide) ?_
    have hO2 := (hf2 95 (by omega)).trans hO
    refine v_iload dL_law_1530 rfl ?_
    refine v_if_ne (tgt := 1547) dL_law_1532 (by decide) ⟨by omega, by omega⟩ (fun h1532 => ?_) (fun h1532 => ?_)
    · skip
      refine v_goto (tgt := 1588) dL_law_1547 (by decide) ?_
      refine v_sub (lv' := LV G b i) (sw_h1 rfl (sw_h1 rfl (sw_h1 rfl (sw_h1 rfl (sw_h1 rfl sw_h0))))) ?_
      exact K G _ s _ _ (show uc + 1 ≤ uc + 6 from by omega) (show us + 6 ≤ us + 80 from by omega) ⟨hs, hI.frR hf2, ⟨_, _, hX2, hRI2⟩, _, hO2⟩
    · skip
      exfalso; omega
end

