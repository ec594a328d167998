/-! the reference's face: asOne -/
theorem ms_sn {sg : Nat} (m : Nat) (F : Nat → (Int → Int) → Int) : ∀ N : Nat, ms sg m (fun S => sn (fun o => F o S) N) = sn (fun o => ms sg m (F o)) N
  | 0 => ms_zero m
  | N + 1 => by
    show ms sg m (fun S => sn (fun o => F o S) N + F N S) = sn (fun o => ms sg m (F o)) N + ms sg m (F N)
    rw [ms_plus, ms_sn m F N]
theorem rkb_skip {B : Int → Int} {le k : Int} {i : Nat} (hk : k < le) : ∀ n : Nat, i ≤ n → rkb (ins B i k) le (n + 1) = rkb B le n
  | 0, hi => by
    have e : i = 0 := by omega
    subst e
    show rks le (-1, 0, -1, 0) (ins B ((0 : Nat) : Int) k ((0 : Nat) : Int)) = (-1, 0, -1, 0)
    rw [show ins B ((0 : Nat) : Int) k ((0 : Nat) : Int) = k from by unfold ins; rw [if_neg (by omega), if_pos rfl]]
    exact if_pos hk
  | n + 1, hi => by
    show rks le (rkb (ins B i k) le (n + 1)) (ins B i k ((n + 1 : Nat) : Int)) = rks le (rkb B le n) (B n)
    by_cases c : i = n + 1
    · subst c
      rw [show ins B ((n + 1 : Nat) : Int) k ((n + 1 : Nat) : Int) = k from by unfold ins; rw [if_neg (by omega), if_pos rfl]]
      rw [rkb_congr (B' := B) (n + 1) (fun j hj => by unfold ins; rw [if_pos (by omega)])]
      exact if_pos hk
    · rw [show ins B (i : Int) k ((n + 1 : Nat) : Int) = B n from by unfold ins; rw [if_neg (by omega), if_neg (by omega)]; congr 1; omega]
      rw [rkb_skip hk n (by omega)]
section
variable {σ : SaleT} {m : Nat}
/-- what the seller takes of a case is the class's -/
theorem tk_tT {R S P0 : Int → Int} (hq : qkO (sLe σ) (rk R S (sLe σ) m)) : tkB (sWy σ) (sLe σ) (rk R S (sLe σ) m) * crW σ S P0 m = tT σ R P0 m (sLe σ) (decide (sWy σ = 2)) S := by
  have o := hq
  unfold qkO at o
  unfold tT tkB
  by_cases c : (rk R S (sLe σ) m).2.1 = 0
  · rw [if_pos c, if_pos (by omega), Int.zero_mul]
  · rw [if_neg c, if_neg (by omega)]
    by_cases c2 : sWy σ = 2
    · rw [if_pos c2, if_pos (decide_eq_true c2), Int.mul_assoc, Int.mul_assoc, Int.mul_comm (rk R S (sLe σ) m).2.2.2]
    · rw [if_neg c2, if_neg (by rw [decide_eq_false c2]; exact Bool.false_ne_true), Int.mul_assoc, Int.mul_assoc, Int.mul_comm (payB _ _ _)]; rfl
theorem go_one (hw : wfS σ) {nt : Int} {T : Int → Int} (hc : wfC nt T) (hm : 1 ≤ m) : ms (sSg σ).toNat (m + 1) (goT σ (sLe σ) (sWy σ) (m + 1) (bF σ nt T (-1)) (-1) (-1) (-1) (-1) 1 (-1) 29) = sm (fun o => TT σ (rwF (aoF σ nt T o)) (pS σ o) m) (sSg σ).toNat := by
  have hsg := hw.1
  have hle := hw.2.2.2.1
  obtain ⟨F, hF⟩ : ∃ F, goT σ (sLe σ) (sWy σ) (m + 1) (bF σ nt T (-1)) (-1) (-1) (-1) (-1) 1 (-1) 29 = F := ⟨_, rfl⟩
  have hF2 : ∀ S, F S = tkB (sWy σ) (sLe σ) (rkb (lyB σ (bF σ nt T (-1)) S (-1) (-1) 1) (sLe σ) (m + 1)) * crW σ S (pS σ (-1)) (m + 1) := fun S => by
    rw [← hF]
    unfold goT
    rw [if_pos ⟨Or.inl rfl, Or.inl rfl⟩]
    show sm (fun t => cwt σ S (-1) (-1) (m + 1) t * tkB _ _ _) _ = _
    rw [sm_kl, sm_congr (g := pwt σ S (pS σ (-1)) (m + 1)) _ (fun t _ _ => cwt_1 t)]
    rfl
  have hcg : ∀ S S' : Int → Int, (∀ j : Nat, j ≤ m → S j = S' j) → F S = F S' := fun S S' h => by
    rw [hF2, hF2, crW_congr (fun _ _ _ => rfl) (fun i hi => h i (by omega)), rkb_congr (B' := lyB σ (bF σ nt T (-1)) S' (-1) (-1) 1) (m + 1) (fun j hj => by
      have h0 := h 0 (by omega)
      have h1 := h 1 (by omega)
      have h0' : S 0 = S' 0 := h0
      have h1' : S 1 = S' 1 := h1
      unfold lyB ly0
      rw [h0', h1', h j (by omega)])]
  rw [hF, ← sn_sm]
  have e1 : ms (sSg σ).toNat (m + 1) F = ms (sSg σ).toNat (m + 1) (fun S => sn (fun o => if S ((1 : Nat) : Int) = (o : Int) then F S else 0) (sSg σ).toNat) := ms_congr (m + 1) (fun S hS => by
    have h1 := hS 1 (by omega)
    obtain ⟨d, hd⟩ : ∃ d : Nat, S ((1 : Nat) : Int) = (d : Int) := ⟨(S ((1 : Nat) : Int)).toNat, by omega⟩
    rw [sn_one (d := d) (sSg σ).toNat (by omega) (fun j hj hjd => if_neg (by omega)), if_pos hd])
  rw [e1, ms_sn]
  refine sn_congr _ (fun o ho => ?_)
  rw [ms_ins ho m F hm hcg]
  show _ = TT σ (rwF (aoF σ nt T (o : Int))) (pS σ (o : Int)) m
  have e2 : TT σ (rwF (aoF σ nt T (o : Int))) (pS σ (o : Int)) m = ms (sSg σ).toNat m (tT σ (rwF (aoF σ nt T (o : Int))) (pS σ (o : Int)) m (sLe σ) (decide (sWy σ = 2))) := sn_ms (by omega) m (F := tT σ (rwF (aoF σ nt T (o : Int))) (pS σ (o : Int)) m (sLe σ) (decide (sWy σ = 2))) (fun S S' h => by unfold tT; rw [crW_congr (fun _ _ _ => rfl) h, rk_congr h])
  rw [e2]
  refine ms_sOK hw (fun S hS => ?_)
  have hf : fBd (aoF σ nt T (o : Int)) m (sSg σ) := fun i j _ _ j0 j1 => aoF_bd hw hc ⟨j0, by omega⟩
  have hq := rk_qk hw hf hS
  have e3 : rkb (lyB σ (bF σ nt T (-1)) (ins S ((1 : Nat) : Int) o) (-1) (-1) 1) (sLe σ) (m + 1) = rk (rwF (aoF σ nt T (o : Int))) S (sLe σ) m := by
    rw [rk_rkb, ← rkb_skip (i := 1) (k := -1) (show (-1 : Int) < sLe σ by omega) m hm]
    refine rkb_congr (m + 1) (fun j hj => ?_)
    have i0 : ins S ((1 : Nat) : Int) o 0 = S 0 := by unfold ins; rw [if_pos (by omega)]
    have i1 : ins S ((1 : Nat) : Int) o 1 = o := by unfold ins; rw [if_neg (by omega), if_pos (by omega)]
    have hs0 := hS 0 (by omega)
    by_cases c0 : j = 0
    · subst c0
      unfold lyB
      rw [if_pos ⟨by omega, rfl⟩, i0, i1]
      show _ = if ((0 : Nat) : Int) < ((1 : Nat) : Int) then rwF (aoF σ nt T (o : Int)) (((0 : Nat) : Int) * 5 + S ((0 : Nat) : Int)) else _
      rw [if_pos (by omega), rwF_at _ _ _ hs0.1 (by omega)]
      unfold aoF
      rw [if_pos (show ((0 : Nat) : Int) = 0 from rfl)]; rfl
    · by_cases c1 : j = 1
      · subst c1
        unfold lyB
        rw [if_neg (fun h => by have := h.2; omega), if_pos ⟨by omega, rfl⟩]
        show (-1 : Int) = if ((1 : Nat) : Int) < ((1 : Nat) : Int) then _ else if ((1 : Nat) : Int) = ((1 : Nat) : Int) then (-1 : Int) else _
        rw [if_neg (by omega), if_pos rfl]
      · have hs := hS (j - 1) (by omega)
        rw [show ((j - 1 : Nat) : Int) = (j : Int) - 1 by omega] at hs
        have ij : ins S ((1 : Nat) : Int) o j = S ((j : Int) - 1) := by unfold ins; rw [if_neg (by omega), if_neg (by omega)]
        unfold lyB ly0
        rw [if_neg (fun h => by have := h.2; omega), if_neg (fun h => by have := h.2; omega), if_neg (fun h => h.2 rfl), ij]
        show _ = if (j : Int) < ((1 : Nat) : Int) then _ else if (j : Int) = ((1 : Nat) : Int) then (-1 : Int) else rwF (aoF σ nt T (o : Int)) (((j : Int) - 1) * 5 + S ((j : Int) - 1))
        rw [if_neg (by omega), if_neg (by omega), rwF_at _ _ _ hs.1 (by omega)]
        unfold aoF
        rw [if_neg (by omega), show (j : Int) - 1 + 1 = j by omega]; rfl
  have e4 : crW σ (ins S ((1 : Nat) : Int) o) (pS σ (-1)) (m + 1) = crW σ S (pS σ (o : Int)) m := sm_congr _ (fun t _ _ => pwt_ins (by
    show sW σ t * see σ t o = sW σ t * see σ t (-1) * sO σ (t * 5 + o)
    have h1 : see σ t (-1) = 1 := if_neg (by omega)
    have h2 : see σ t o = sO σ (t * 5 + o) := if_pos ⟨by omega, by omega⟩
    rw [h1, h2, Int.mul_one]) m hm)
  rw [hF2, e3, e4]
  exact tk_tT hq.1
end
section
variable {l : Launch} {G : sw_G} {M : sw_M} {s : CSt} {k : Int} {x : Nat → Int} {a : Nat → Int → Int}
theorem R9_asOne (hI : InvR G M s) (hs : stOK s) (hk : isS s k) : Kt l G μX10_asOne [.ref (sw_al G 70), sw_i k] M (fun r M' => r = some (sw_j (if sNb (sl s k) < 2 then -1 else sm (aoT (sl s k) (qT s) (qB s)) (sSg (sl s k)).toNat)) ∧ InvR G M' s ∧ frR M M') := by
  refine KtA.of (by decide +kernel) (Nat.le_of_ble_eq_true rfl) ?_
  have hF : frR M M := frR.rf
  obtain ⟨x, a, hM, hRI⟩ := hI
  have hw := hs.sale hk
  have hnb := hw.2.2.1
  have hsg := hw.1
  have htr := hw.2.1
  have hle := hw.2.2.2.1
  have hwy := hw.2.2.2.2.1
  have hns : qN s ≤ 8 := hs.2.1
  obtain ⟨hk0, hk1⟩ := id hk
  have hX : xfr XL x x := xfr.rf
  have hA : afr AL a a := afr.rf
  have g10 : a 10 k = sNb (sl s k) := (hRI.row hk).2.2.1
  have hf := bF_fBd hw hs.c (-1) (sNb (sl s k)).toNat
  refine v_aload_n dX10_asOne_0 rfl ?_
  refine v_iload_n dX10_asOne_1 rfl ?_
  refine v_callV (ci := 10) (K10_isSale hM hRI.2.2.1 ⟨by omega, by omega⟩ ⟨by omega, by omega⟩) ⟨rfl, rfl⟩ (Nat.le_refl _) (Nat.le_refl _) hM.1 rfl ⟨ml_X10_129, mm_X10_isSale⟩ ⟨(Nat.le_of_ble_eq_true rfl), (Nat.le_of_ble_eq_true rfl)⟩ mp_X10_isSale rfl rfl (Nat.le_of_ble_eq_true rfl) dX10_asOne_2 (fun r M' h => ?_)
  obtain ⟨rfl, rfl⟩ := h
  refine v_ifb_eq (tgt := 18) dX10_asOne_5 (by decide) (fun h5 => ?_) (fun h5 => ?_)
  · skip
    exact absurd hk (by assumption)
  · skip
    refine v_aload_n dX10_asOne_8 rfl ?_
    refine v_getfH 10 hM.1 fl_X10_28 rfl dX10_asOne_9 ?_
    refine v_iload_n dX10_asOne_12 rfl ?_
    refine v_ria hM ar_10 (by omega) (by omega) g10 dX10_asOne_13 ?_
    refine v_iconst dX10_asOne_14 ?_
    refine v_icmp_ge (tgt := 22) dX10_asOne_15 (by decide) ⟨by omega, by omega⟩ ⟨by omega, by omega⟩ (fun h15 => ?_) (fun h15 => ?_)
    · skip
      refine v_aload_n dX10_asOne_22 rfl ?_
      refine v_iload_n dX10_asOne_23 rfl ?_
      refine v_callV (ci := 10) (K10_bg hM (hRI.fr hX hA) hs hk) ⟨rfl, rfl⟩ (Nat.le_refl _) (Nat.le_refl _) hM.1 rfl ⟨ml_X10_199, mm_X10_begin⟩ ⟨(Nat.le_of_ble_eq_true rfl), (Nat.le_of_ble_eq_true rfl)⟩ mp_X10_begin rfl rfl (Nat.le_of_ble_eq_true rfl) dX10_asOne_24 (fun r M' h => ?_)
      obtain ⟨x2, a2, rfl, hM2, hF2, hx2, ha2, hBG⟩ := h
      replace hM := hM2
      replace hF := hF.tr hF2
      replace hX := hX.tr hx2 (fun t h => h) (by decide)
      replace hA := hA.tr ha2 (fun t h => h) (by decide)
      refine v_aload_n dX10_asOne_27 rfl ?_
      refine v_iconst dX10_asOne_28 ?_
      refine v_iconst dX10_asOne_29 ?_
      refine v_iconst dX10_asOne_30 ?_
      refine v_callV (ci := 10) (K10_ak hM) ⟨rfl, rfl⟩ (Nat.le_refl _) (Nat.le_refl _) hM.1 rfl ⟨ml_X10_271, mm_X10_ask⟩ ⟨(Nat.le_of_ble_eq_true rfl), (Nat.le_of_ble_eq_true rfl)⟩ mp_X10_ask rfl rfl (Nat.le_of_ble_eq_true rfl) dX10_asOne_31 (fun r M' h => ?_)
      obtain ⟨x3, rfl, hM3, hF3, hx3, hAS⟩ := h
      replace hM := hM3
      replace hF := hF.tr hF3
      replace hX := hX.tr hx3 (fun t h => h) (by decide)
      replace hBG := hBG.fr hx3 afr.rf (K := []) (by decide) (by decide)
      refine v_aload_n dX10_asOne_34 rfl ?_
      refine v_iconst dX10_asOne_35 ?_
      refine v_rp 39 hM hF (flS_39 G _ _) fp_X10_228 rfl rfl (Nat.le_of_ble_eq_true rfl) dX10_asOne_36 (fun M hM hF => ?_)
      replace hX := hX.up (k := 39) (v := 1) (by decide)
      replace hBG := hBG.fr (xfr.rf.up (L := [39]) (k := 39) (v := 1) (by decide)) (afr.rf (L := [])) (by decide) (by decide)
      replace hAS : AS (upn x3 39 1) (-1) (-1) (-1) (-1) 1 := ⟨hAS.1, hAS.2.1, hAS.2.2.1, hAS.2.2.2.1, rfl, fun j j0 j1 => (upn_o (by omega)).trans (hAS.2.2.2.2.2 j j0 j1)⟩
      refine v_aload_n dX10_asOne_39 rfl ?_
      refine v_iload_n dX10_asOne_40 rfl ?_
      refine v_iconst dX10_asOne_41 ?_
      refine v_callV (ci := 10) (K10_go hM hBG hAS ⟨hk0, by omega⟩ hw hf (Or.inl rfl) ⟨by omega, by omega⟩ hle hwy ⟨by omega, by omega⟩ ⟨by omega, by omega⟩ (fun _ => by omega) ⟨by omega, by omega⟩ ⟨by omega, by omega⟩ ⟨by omega, by omega⟩ (fun _ => by omega)) ⟨rfl, rfl⟩ (Nat.le_refl _) (Nat.le_refl _) hM.1 rfl ⟨ml_X10_275, mm_X10_goThrough⟩ ⟨(Nat.le_of_ble_eq_true rfl), (Nat.le_of_ble_eq_true rfl)⟩ mp_X10_goThrough rfl rfl (Nat.le_of_ble_eq_true rfl) dX10_asOne_42 (fun r M' h => ?_)
      obtain ⟨x4, a4, rfl, hM4, hF4, hx4, ha4, hT⟩ := h
      replace hM := hM4
      replace hF := hF.tr hF4
      replace hX := hX.tr hx4 (fun t h => h) (by decide)
      replace hA := hA.tr ha4 (fun t h => h) (by decide)
      replace hBG := hBG.fr hx4 ha4 (by decide) (by decide)
      have t28 := hT 28 (by decide) (by decide)
      have t29 := hT 29 (by decide) (by decide)
      have t30 := hT 30 (by decide) (by decide)
      have t31 := hT 31 (by decide) (by decide)
      have t32 := hT 32 (by decide) (by decide)
      have t33 := hT 33 (by decide) (by decide)
      have t34 := hT 34 (by decide) (by decide)
      refine v_aload_n dX10_asOne_45 rfl ?_
      refine v_rgj 29 hM t29 fl_X10_234 rfl dX10_asOne_46 ?_
      refine v_lret dX10_asOne_49 rfl (Nat.le_refl _) (Nat.le_refl _) ?_
      skip
      obtain ⟨m, hm⟩ : ∃ m : Nat, (sNb (sl s k)).toNat = m + 1 := ⟨(sNb (sl s k)).toNat - 1, by omega⟩
      rw [if_neg (show ¬ sNb (sl s k) < 2 by omega), hm, go_one hw hs.c (show 1 ≤ m by omega)]
      refine ⟨?_, ⟨_, _, hM, hRI.fr hX hA⟩, hF⟩
      unfold aoT
      rw [show (sNb (sl s k) - 1).toNat = m by omega]
    · skip
      refine v_ldc2 (z := -1) kl_X10_269 (by decide +kernel) dX10_asOne_18 ?_
      exact v_lret dX10_asOne_21 rfl (Nat.le_refl _) (Nat.le_refl _) (⟨by rw [if_pos (by omega)], ⟨_, _, hM, hRI⟩, hF⟩)
theorem R9_asOneN (hI : InvR G M s) (hs : stOK s) (hk : ¬ isS s k) (hg : sw_rg k) : Kt l G μX10_asOne [.ref (sw_al G 70), sw_i k] M (fun r M' => r = some (sw_j (-1)) ∧ InvR G M' s ∧ frR M M') := by
  refine KtA.of (by decide +kernel) (Nat.le_of_ble_eq_true rfl) ?_
  obtain ⟨x, a, hM, hRI⟩ := hI
  have hns : qN s ≤ 8 := hs.2.1
  refine v_aload_n dX10_asOne_0 rfl ?_
  refine v_iload_n dX10_asOne_1 rfl ?_
  refine v_callV (ci := 10) (K10_isSale hM hRI.2.2.1 ⟨by omega, by omega⟩ hg) ⟨rfl, rfl⟩ (Nat.le_refl _) (Nat.le_refl _) hM.1 rfl ⟨ml_X10_129, mm_X10_isSale⟩ ⟨(Nat.le_of_ble_eq_true rfl), (Nat.le_of_ble_eq_true rfl)⟩ mp_X10_isSale rfl rfl (Nat.le_of_ble_eq_true rfl) dX10_asOne_2 (fun r M' h => ?_)
  obtain ⟨rfl, rfl⟩ := h
  refine v_ifb_eq (tgt := 18) dX10_asOne_5 (by decide) (fun h5 => ?_) (fun h5 => ?_)
  · skip
    refine v_ldc2 (z := -1) kl_X10_269 (by decide +kernel) dX10_asOne_18 ?_
    exact v_lret dX10_asOne_21 rfl (Nat.le_refl _) (Nat.le_refl _) (⟨rfl, ⟨_, _, hM, hRI⟩, frR.rf⟩)
  · skip
    exact absurd (by assumption) hk
end

