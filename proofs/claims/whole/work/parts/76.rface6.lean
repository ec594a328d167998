/-! the reference's face: near, nearGain -/
section
variable {l : Launch} {G : sw_G} {M : sw_M} {s : CSt} {k : Int} {x : Nat → Int} {a : Nat → Int → Int}
theorem K10_nearBy {σ : SaleT} {f : Int → Int → Int} {n : Nat} {t b : Int} (hM : RS G M x a) (hBG : BG σ k x a f (n + 1) (sLe σ) (sWy σ)) (hk : 0 ≤ k ∧ k < 8) (hw : wfS σ) (hf : fBd f (n + 1) (sSg σ)) (hn : n ≤ 3) (ht : 0 ≤ t ∧ t < sTr σ) (hb : 0 ≤ b ∧ b ≤ 60) : Kt l G μX10_nearBy [.ref (sw_al G 70), sw_i k, sw_i t, sw_i b] M (fun r M' => ∃ x' a', r = some (sw_j (RG σ (shF f 0) (pT σ t) n b)) ∧ RS G M' x' a' ∧ frR M M' ∧ xfr XB x x' ∧ afr [15, 24, 25] a a' ∧ BG σ k x' a' f (n + 1) (sLe σ) (sWy σ)) := by
  refine KtA.of (by decide +kernel) (Nat.le_of_ble_eq_true rfl) ?_
  have hF : frR M M := frR.rf
  have htr := hw.2.1
  have hsg := hw.1
  have hle := hw.2.2.2.1
  have hwy := hw.2.2.2.2.1
  have hX : xfr XB x x := xfr.rf
  have hA : afr [15, 24, 25] a a := afr.rf
  refine v_aload_n dX10_nearBy_0 rfl ?_
  refine v_iconst dX10_nearBy_1 ?_
  refine v_iconst dX10_nearBy_2 ?_
  refine v_iload_n dX10_nearBy_3 rfl ?_
  refine v_callV (ci := 10) (K10_ak hM) ⟨rfl, rfl⟩ (Nat.le_refl _) (Nat.le_refl _) hM.1 rfl ⟨ml_X10_271, mm_X10_ask⟩ ⟨(Nat.le_of_ble_eq_true rfl), (Nat.le_of_ble_eq_true rfl)⟩ mp_X10_ask rfl rfl (Nat.le_of_ble_eq_true rfl) dX10_nearBy_4 (fun r M' h => ?_)
  obtain ⟨x3, rfl, hM3, hF3, hx3, hAS⟩ := h
  replace hM := hM3
  replace hF := hF.tr hF3
  replace hX := hX.tr hx3 (fun t h => h) (by decide)
  replace hBG := hBG.fr hx3 afr.rf (K := []) (by decide) (by decide)
  refine v_aload_n dX10_nearBy_7 rfl ?_
  refine v_iload_n dX10_nearBy_8 rfl ?_
  refine v_rp 38 hM hF (flS_38 G _ _) fp_X10_225 rfl rfl (Nat.le_of_ble_eq_true rfl) dX10_nearBy_9 (fun M hM hF => ?_)
  replace hX := hX.up (k := 38) (v := t) (by decide)
  replace hBG := hBG.fr (xfr.rf.up (L := [38]) (k := 38) (v := t) (by decide)) (afr.rf (L := [])) (by decide) (by decide)
  replace hAS : AS (upn x3 38 t) 0 (-1) b t (-1) := ⟨hAS.1, hAS.2.1, hAS.2.2.1, rfl, hAS.2.2.2.2.1, fun j j0 j1 => (upn_o (by omega)).trans (hAS.2.2.2.2.2 j j0 j1)⟩
  refine v_aload_n dX10_nearBy_12 rfl ?_
  refine v_iload_n dX10_nearBy_13 rfl ?_
  refine v_iconst dX10_nearBy_14 ?_
  refine v_callV (ci := 10) (K10_go hM hBG hAS hk hw hf (Or.inl rfl) ⟨by omega, by omega⟩ hle hwy ⟨by omega, by omega⟩ ⟨by omega, by omega⟩ (fun _ => by omega) ⟨by omega, by omega⟩ ⟨by omega, by omega⟩ ⟨by omega, by omega⟩ (fun _ => by omega)) ⟨rfl, rfl⟩ (Nat.le_refl _) (Nat.le_refl _) hM.1 rfl ⟨ml_X10_275, mm_X10_goThrough⟩ ⟨(Nat.le_of_ble_eq_true rfl), (Nat.le_of_ble_eq_true rfl)⟩ mp_X10_goThrough rfl rfl (Nat.le_of_ble_eq_true rfl) dX10_nearBy_15 (fun r M' h => ?_)
  obtain ⟨x4, a4, rfl, hM4, hF4, hx4, ha4, hT⟩ := h
  replace hM := hM4
  replace hF := hF.tr hF4
  replace hX := hX.tr hx4 (fun t h => h) (by decide)
  replace hA := hA.tr ha4 (fun t h => h) (by decide)
  replace hBG := hBG.fr hx4 ha4 (by decide) (by decide)
  have t28 := hT 28 (by decide) (by decide)
  have t29 := hT 29 (by decide) (by decide)
  have t30 := hT 30 (by decide) (by decide)
  have t31 := hT 31 (by decide) (by decide)
  have t32 := hT 32 (by decide) (by decide)
  have t33 := hT 33 (by decide) (by decide)
  have t34 := hT 34 (by decide) (by decide)
  refine v_aload_n dX10_nearBy_18 rfl ?_
  refine v_rgj 32 hM t32 fl_X10_243 rfl dX10_nearBy_19 ?_
  exact v_lret dX10_nearBy_22 rfl (Nat.le_refl _) (Nat.le_refl _) (⟨_, _, by rw [go_near hw hn hf hb ht.1]; rfl, hM, hF, hX, hA, hBG⟩)
theorem K10_nearBest {σ : SaleT} {f : Int → Int → Int} {n : Nat} {t : Int} (hM : RS G M x a) (hBG : BG σ k x a f (n + 1) (sLe σ) (sWy σ)) (hk : 0 ≤ k ∧ k < 8) (hw : wfS σ) (hf : fBd f (n + 1) (sSg σ)) (hn : n ≤ 3) (ht : 0 ≤ t ∧ t < sTr σ) : Kt l G μX10_nearBest [.ref (sw_al G 70), sw_i k, sw_i t] M (fun r M' => ∃ x' a', r = some (sw_i (pk (RG σ (shF f 0) (pT σ t) n) 60)) ∧ RS G M' x' a' ∧ frR M M' ∧ xfr XB x x' ∧ afr [15, 24, 25] a a' ∧ BG σ k x' a' f (n + 1) (sLe σ) (sWy σ)) := by
  refine KtA.of (by decide +kernel) (Nat.le_of_ble_eq_true rfl) ?_
  have hF : frR M M := frR.rf
  obtain ⟨Zq, hZ⟩ : ∃ Zq : Option Value → sw_M → Prop, Zq = (fun r M' => ∃ x' a', r = some (sw_i (pk (RG σ (shF f 0) (pT σ t) n) 60)) ∧ RS G M' x' a' ∧ frR M M' ∧ xfr XB x x' ∧ afr [15, 24, 25] a a' ∧ BG σ k x' a' f (n + 1) (sLe σ) (sWy σ)) := ⟨_, rfl⟩
  rw [← hZ]
  have htr := hw.2.1
  obtain ⟨g, hg⟩ : ∃ g, RG σ (shF f 0) (pT σ t) n = g := ⟨_, rfl⟩
  have hgb : ∀ j, 0 ≤ j → j ≤ 60 → sw_rl (g j) := fun j j0 j1 => by rw [← hg]; exact RG_bd hw _ (pT_B hw t) (by omega) j0 j1
  have hpb := pk_bd g
  rw [hg] at hZ
  have loop : ∀ (c j : Nat) (x1 : Nat → Int) (a1 : Nat → Int → Int) (M1 : sw_M), j + c = 60 → RS G M1 x1 a1 → frR M M1 → xfr XB x x1 → afr [15, 24, 25] a a1 → BG σ k x1 a1 f (n + 1) (sLe σ) (sWy σ) → V l G μX10_nearBest sw_E0 (sw_Zq G μX10_nearBest (sw_q0 G Zq)) 5 [(0, .ref (sw_al G 70)), (1, sw_i k), (2, sw_i t), (3, sw_i (pk g j)), (4, sw_i ((j : Int) + 1))] [] M1 0 0 := by
    intro c
    induction c with
    | zero =>
      intro j x1 a1 M1 hj hM hF hx ha hBG
      have e : j = 60 := by omega
      subst e
      refine v_iload dX10_nearBest_5 rfl ?_
      refine v_bipush dX10_nearBest_7 (by decide +kernel) ?_
      refine v_icmp_gt (tgt := 44) dX10_nearBest_9 (by decide) ⟨by omega, by omega⟩ ⟨by omega, by omega⟩ (fun h9 => ?_) (fun h9 => ?_)
      · skip
        refine v_iload_n dX10_nearBest_44 rfl ?_
        exact v_iret dX10_nearBest_45 rfl (Nat.le_refl _) (Nat.le_refl _) (by rw [hZ]; exact ⟨x1, a1, rfl, hM, hF, hx, ha, hBG⟩)
      · skip
        exfalso; omega
    | succ c ih =>
      intro j x1 a1 M1 hj hM hF hx ha hBG
      have hp := hpb j
      have b1 := hgb (pk g j) (by omega) (by omega)
      have b2 := hgb ((j : Int) + 1) (by omega) (by omega)
      have hst : pk g (j + 1) = if g (pk g j) < g ((j : Int) + 1) then (j : Int) + 1 else pk g j := rfl
      refine v_iload dX10_nearBest_5 rfl ?_
      refine v_bipush dX10_nearBest_7 (by decide +kernel) ?_
      refine v_icmp_gt (tgt := 44) dX10_nearBest_9 (by decide) ⟨by omega, by omega⟩ ⟨by omega, by omega⟩ (fun h9 => ?_) (fun h9 => ?_)
      · skip
        exfalso; omega
      · skip
        refine v_aload_n dX10_nearBest_12 rfl ?_
        refine v_iload_n dX10_nearBest_13 rfl ?_
        refine v_iload_n dX10_nearBest_14 rfl ?_
        refine v_iload dX10_nearBest_15 rfl ?_
        refine v_callV (ci := 10) (K10_nearBy hM hBG hk hw hf hn ht (b := (j : Int) + 1) ⟨by omega, by omega⟩) ⟨rfl, rfl⟩ (Nat.le_refl _) (Nat.le_refl _) hM.1 rfl ⟨ml_X10_306, mm_X10_nearBy⟩ ⟨(Nat.le_of_ble_eq_true rfl), (Nat.le_of_ble_eq_true rfl)⟩ mp_X10_nearBy rfl rfl (Nat.le_of_ble_eq_true rfl) dX10_nearBest_17 (fun r M' h => ?_)
        obtain ⟨x2, a2, rfl, hM2, hF2, hx2, ha2, hBG2⟩ := h
        replace hM := hM2
        replace hF := hF.tr hF2
        rw [hg]
        refine v_aload_n dX10_nearBest_20 rfl ?_
        refine v_iload_n dX10_nearBest_21 rfl ?_
        refine v_iload_n dX10_nearBest_22 rfl ?_
        refine v_iload_n dX10_nearBest_23 rfl ?_
        refine v_callV (ci := 10) (K10_nearBy hM hBG2 hk hw hf hn ht (b := pk g j) ⟨by omega, by omega⟩) ⟨rfl, rfl⟩ (Nat.le_refl _) (Nat.le_refl _) hM.1 rfl ⟨ml_X10_306, mm_X10_nearBy⟩ ⟨(Nat.le_of_ble_eq_true rfl), (Nat.le_of_ble_eq_true rfl)⟩ mp_X10_nearBy rfl rfl (Nat.le_of_ble_eq_true rfl) dX10_nearBest_24 (fun r M' h => ?_)
        obtain ⟨x3, a3, rfl, hM3, hF3, hx3, ha3, hBG3⟩ := h
        replace hM := hM3
        replace hF := hF.tr hF3
        rw [hg]
        have hX4 := (hx.tr hx2 (fun t h => h) (fun t h => h)).tr hx3 (fun t h => h) (fun t h => h)
        have hA4 := (ha.tr ha2 (fun t h => h) (fun t h => h)).tr ha3 (fun t h => h) (fun t h => h)
        refine v_lcmp_le (tgt := 36) dX10_nearBest_27 dX10_nearBest_28 (by decide) b2 b1 (fun q => ?_) (fun q => ?_)
        · skip
          refine v_iload_n dX10_nearBest_36 rfl ?_
          refine v_istore_n dX10_nearBest_37 (Nat.le_of_ble_eq_true rfl) ?_
          refine v_iinc dX10_nearBest_38 rfl (Nat.le_of_ble_eq_true rfl) ?_
          refine v_goto (tgt := 5) dX10_nearBest_41 (by decide) ?_
          refine v_to (ih (j + 1) x3 a3 _ (by omega) hM hF hX4 hA4 hBG3) rfl ?_
          rw [hst, if_neg (by omega)]
          exact sw_h1 rfl (sw_h1 rfl (sw_h1 rfl (sw_h1 rfl (sw_h1 rfl sw_h0))))
        · skip
          refine v_iload dX10_nearBest_31 rfl ?_
          refine v_goto (tgt := 37) dX10_nearBest_33 (by decide) ?_
          refine v_istore_n dX10_nearBest_37 (Nat.le_of_ble_eq_true rfl) ?_
          refine v_iinc dX10_nearBest_38 rfl (Nat.le_of_ble_eq_true rfl) ?_
          refine v_goto (tgt := 5) dX10_nearBest_41 (by decide) ?_
          refine v_to (ih (j + 1) x3 a3 _ (by omega) hM hF hX4 hA4 hBG3) rfl ?_
          rw [hst, if_pos (by omega)]
          exact sw_h1 rfl (sw_h1 rfl (sw_h1 rfl (sw_h1 rfl (sw_h1 rfl sw_h0))))
  refine v_iconst dX10_nearBest_0 ?_
  refine v_istore_n dX10_nearBest_1 (Nat.le_of_ble_eq_true rfl) ?_
  refine v_iconst dX10_nearBest_2 ?_
  refine v_istore dX10_nearBest_3 (Nat.le_of_ble_eq_true rfl) ?_
  exact v_to (loop 60 0 x a _ (by omega) hM hF xfr.rf afr.rf hBG) rfl (sw_h1 rfl (sw_h1 rfl (sw_h1 rfl (sw_h1 rfl (sw_h1 rfl sw_h0)))))
theorem R9_near {truth : Int} (hI : InvR G M s) (hs : stOK s) (hk : isS s k) (hg : sw_rg truth) : Kt l G μX10_near [.ref (sw_al G 70), sw_i k, sw_i truth] M (fun r M' => r = some (sw_i (if 0 ≤ truth ∧ truth < sTr (sl s k) then pk (RG (sl s k) (oF (sl s k) (qT s) (qB s) 0) (pT (sl s k) truth) (sNb (sl s k) - 1).toNat) 60 else -1)) ∧ InvR G M' s ∧ frR M M') := by
  refine KtA.of (by decide +kernel) (Nat.le_of_ble_eq_true rfl) ?_
  have hF : frR M M := frR.rf
  obtain ⟨x, a, hM, hRI⟩ := hI
  have hw := hs.sale hk
  have hnb := hw.2.2.1
  have hsg := hw.1
  have htr := hw.2.1
  have hns : qN s ≤ 8 := hs.2.1
  obtain ⟨hk0, hk1⟩ := id hk
  have hX : xfr XL x x := xfr.rf
  have hA : afr AL a a := afr.rf
  have g6 : a 6 k = sTr (sl s k) := (hRI.row hk).2.1
  obtain ⟨n, hn⟩ : ∃ n : Nat, (sNb (sl s k) - 1).toNat = n := ⟨_, rfl⟩
  rw [hn]
  have hn1 : (sNb (sl s k)).toNat = n + 1 := by omega
  have hf := bF_fBd hw hs.c (-1) (n + 1)
  refine v_aload_n dX10_near_0 rfl ?_
  refine v_iload_n dX10_near_1 rfl ?_
  refine v_callV (ci := 10) (K10_isSale hM hRI.2.2.1 ⟨by omega, by omega⟩ ⟨by omega, by omega⟩) ⟨rfl, rfl⟩ (Nat.le_refl _) (Nat.le_refl _) hM.1 rfl ⟨ml_X10_129, mm_X10_isSale⟩ ⟨(Nat.le_of_ble_eq_true rfl), (Nat.le_of_ble_eq_true rfl)⟩ mp_X10_isSale rfl rfl (Nat.le_of_ble_eq_true rfl) dX10_near_2 (fun r M' h => ?_)
  obtain ⟨rfl, rfl⟩ := h
  refine v_ifb_eq (tgt := 24) dX10_near_5 (by decide) (fun h5 => ?_) (fun h5 => ?_)
  · skip
    exact absurd hk (by assumption)
  · skip
    refine v_iload_n dX10_near_8 rfl ?_
    refine v_iconst dX10_near_9 ?_
    refine v_aload_n dX10_near_10 rfl ?_
    refine v_getfH 6 hM.1 fl_X10_16 rfl dX10_near_11 ?_
    refine v_iload_n dX10_near_14 rfl ?_
    refine v_ria hM ar_6 (by omega) (by omega) g6 dX10_near_15 ?_
    refine v_iconst dX10_near_16 ?_
    refine v_isub dX10_near_17 ?_
    refine v_callS (K10_in (v := truth) (lo := 0) (hi := sTr (sl s k) - 1) hg ⟨by omega, by omega⟩ ⟨by omega, by omega⟩) ⟨rfl, rfl⟩ (Nat.le_refl _) (Nat.le_refl _) ⟨ml_X10_107, mm_X10_in⟩ ⟨(Nat.le_of_ble_eq_true rfl), (Nat.le_of_ble_eq_true rfl)⟩ mp_X10_in rfl rfl (Nat.le_of_ble_eq_true rfl) dX10_near_18 (fun r M' h => ?_)
    obtain ⟨rfl, rfl⟩ := h
    refine v_ifb_ne (tgt := 26) dX10_near_21 (by decide) (fun q => ?_) (fun q => ?_)
    · skip
      refine v_aload_n dX10_near_26 rfl ?_
      refine v_iload_n dX10_near_27 rfl ?_
      refine v_callV (ci := 10) (K10_bg hM (hRI.fr hX hA) hs hk) ⟨rfl, rfl⟩ (Nat.le_refl _) (Nat.le_refl _) hM.1 rfl ⟨ml_X10_199, mm_X10_begin⟩ ⟨(Nat.le_of_ble_eq_true rfl), (Nat.le_of_ble_eq_true rfl)⟩ mp_X10_begin rfl rfl (Nat.le_of_ble_eq_true rfl) dX10_near_28 (fun r M' h => ?_)
      obtain ⟨x2, a2, rfl, hM2, hF2, hx2, ha2, hBG⟩ := h
      replace hM := hM2
      replace hF := hF.tr hF2
      replace hX := hX.tr hx2 (fun t h => h) (by decide)
      replace hA := hA.tr ha2 (fun t h => h) (by decide)
      rw [hn1] at hBG
      refine v_aload_n dX10_near_31 rfl ?_
      refine v_iload_n dX10_near_32 rfl ?_
      refine v_iload_n dX10_near_33 rfl ?_
      refine v_callV (ci := 10) (K10_nearBest hM hBG ⟨hk0, by omega⟩ hw hf (by omega) ⟨by omega, by omega⟩) ⟨rfl, rfl⟩ (Nat.le_refl _) (Nat.le_refl _) hM.1 rfl ⟨ml_X10_310, mm_X10_nearBest⟩ ⟨(Nat.le_of_ble_eq_true rfl), (Nat.le_of_ble_eq_true rfl)⟩ mp_X10_nearBest rfl rfl (Nat.le_of_ble_eq_true rfl) dX10_near_34 (fun r M' h => ?_)
      obtain ⟨x4, a4, rfl, hM4, hF4, hx4, ha4, -⟩ := h
      exact v_iret dX10_near_37 rfl (Nat.le_refl _) (Nat.le_refl _) (⟨by rw [if_pos (by omega)]; rfl, ⟨_, _, hM4, hRI.fr (hX.tr hx4 (fun t h => h) (by decide)) (hA.tr ha4 (fun t h => h) (by decide))⟩, hF.tr hF4⟩)
    · skip
      refine v_iconst dX10_near_24 ?_
      exact v_iret dX10_near_25 rfl (Nat.le_refl _) (Nat.le_refl _) (⟨by rw [if_neg (by omega)], ⟨_, _, hM, hRI⟩, hF⟩)
theorem R9_nearN {truth : Int} (hI : InvR G M s) (hs : stOK s) (hk : ¬ isS s k) (hg : sw_rg k) : Kt l G μX10_near [.ref (sw_al G 70), sw_i k, sw_i truth] M (fun r M' => r = some (sw_i (-1)) ∧ InvR G M' s ∧ frR M M') := by
  refine KtA.of (by decide +kernel) (Nat.le_of_ble_eq_true rfl) ?_
  obtain ⟨x, a, hM, hRI⟩ := hI
  have hns : qN s ≤ 8 := hs.2.1
  refine v_aload_n dX10_near_0 rfl ?_
  refine v_iload_n dX10_near_1 rfl ?_
  refine v_callV (ci := 10) (K10_isSale hM hRI.2.2.1 ⟨by omega, by omega⟩ hg) ⟨rfl, rfl⟩ (Nat.le_refl _) (Nat.le_refl _) hM.1 rfl ⟨ml_X10_129, mm_X10_isSale⟩ ⟨(Nat.le_of_ble_eq_true rfl), (Nat.le_of_ble_eq_true rfl)⟩ mp_X10_isSale rfl rfl (Nat.le_of_ble_eq_true rfl) dX10_near_2 (fun r M' h => ?_)
  obtain ⟨rfl, rfl⟩ := h
  refine v_ifb_eq (tgt := 24) dX10_near_5 (by decide) (fun h5 => ?_) (fun h5 => ?_)
  · skip
    refine v_iconst dX10_near_24 ?_
    exact v_iret dX10_near_25 rfl (Nat.le_refl _) (Nat.le_refl _) (⟨rfl, ⟨_, _, hM, hRI⟩, frR.rf⟩)
  · skip
    exact absurd (by assumption) hk
theorem R9_nearGain (hI : InvR G M s) (hs : stOK s) (hk : isS s k) : Kt l G μX10_nearGain [.ref (sw_al G 70), sw_i k] M (fun r M' => r = some (sw_j (sm (ngF (sl s k) (qT s) (qB s)) (sTr (sl s k)).toNat)) ∧ InvR G M' s ∧ frR M M') := by
  refine KtA.of (by decide +kernel) (Nat.le_of_ble_eq_true rfl) ?_
  have hF : frR M M := frR.rf
  obtain ⟨x, a, hM, hRI⟩ := hI
  have hw := hs.sale hk
  have hnb := hw.2.2.1
  have hsg := hw.1
  have htr := hw.2.1
  have hns : qN s ≤ 8 := hs.2.1
  obtain ⟨hk0, hk1⟩ := id hk
  have hX : xfr XL x x := xfr.rf
  have hA : afr AL a a := afr.rf
  obtain ⟨σ, hσ⟩ : ∃ σ, sl s k = σ := ⟨_, rfl⟩
  obtain ⟨n, hn⟩ : ∃ n : Nat, (sNb σ - 1).toNat = n := ⟨_, rfl⟩
  have hn1 : (sNb σ).toNat = n + 1 := by rw [hσ] at hnb; omega
  have hf := bF_fBd hw hs.c (-1) (n + 1)
  obtain ⟨Zq, hZ⟩ : ∃ Zq : Option Value → sw_M → Prop, Zq = (fun r M' => r = some (sw_j (sm (ngF (sl s k) (qT s) (qB s)) (sTr (sl s k)).toNat)) ∧ InvR G M' s ∧ frR M M') := ⟨_, rfl⟩
  rw [← hZ]
  rw [hσ] at hw hf hnb hsg htr hZ
  have loop : ∀ (c : Nat) (t : Int) (x1 : Nat → Int) (a1 : Nat → Int → Int) (M1 : sw_M), 0 ≤ t → t + c = sTr σ → RS G M1 x1 a1 → frR M M1 → xfr XL x x1 → afr AL a a1 → BG σ k x1 a1 (bF σ (qT s) (qB s) (-1)) (n + 1) (sLe σ) (sWy σ) → V l G μX10_nearGain sw_E0 (sw_Zq G μX10_nearGain (sw_q0 G Zq)) 22 [(0, .ref (sw_al G 70)), (1, sw_i k), (2, sw_j (sm (ngF σ (qT s) (qB s)) t.toNat)), (4, sw_i t)] [] M1 0 0 := by
    intro c
    induction c with
    | zero =>
      intro t x1 a1 M1 t0 tc hM hF hx ha hBG
      have e : t = sTr σ := by omega
      subst e
      have g6 : a1 6 k = sTr σ := hBG.1.2.1
      refine v_iload dX10_nearGain_22 rfl ?_
      refine v_aload_n dX10_nearGain_24 rfl ?_
      refine v_getfH 6 hM.1 fl_X10_16 rfl dX10_nearGain_25 ?_
      refine v_iload_n dX10_nearGain_28 rfl ?_
      refine v_ria hM ar_6 (by omega) (by omega) g6 dX10_nearGain_29 ?_
      refine v_icmp_ge (tgt := 56) dX10_nearGain_30 (by decide) ⟨by omega, by omega⟩ ⟨by omega, by omega⟩ (fun h30 => ?_) (fun h30 => ?_)
      · skip
        refine v_lload_n dX10_nearGain_56 rfl ?_
        exact v_lret dX10_nearGain_57 rfl (Nat.le_refl _) (Nat.le_refl _) (by rw [hZ]; exact ⟨rfl, ⟨x1, a1, hM, hRI.fr hx ha⟩, hF⟩)
      · skip
        exfalso; omega
    | succ c ih =>
      intro t x1 a1 M1 t0 tc hM hF hx ha hBG
      have g6 : a1 6 k = sTr σ := hBG.1.2.1
      have hpk := pk_bd (RG σ (shF (bF σ (qT s) (qB s) (-1)) 0) (pT σ t) n) 60
      refine v_iload dX10_nearGain_22 rfl ?_
      refine v_aload_n dX10_nearGain_24 rfl ?_
      refine v_getfH 6 hM.1 fl_X10_16 rfl dX10_nearGain_25 ?_
      refine v_iload_n dX10_nearGain_28 rfl ?_
      refine v_ria hM ar_6 (by omega) (by omega) g6 dX10_nearGain_29 ?_
      refine v_icmp_ge (tgt := 56) dX10_nearGain_30 (by decide) ⟨by omega, by omega⟩ ⟨by omega, by omega⟩ (fun h30 => ?_) (fun h30 => ?_)
      · skip
        exfalso; omega
      · skip
        refine v_lload_n dX10_nearGain_33 rfl ?_
        refine v_aload_n dX10_nearGain_34 rfl ?_
        refine v_iload_n dX10_nearGain_35 rfl ?_
        refine v_iload dX10_nearGain_36 rfl ?_
        refine v_aload_n dX10_nearGain_38 rfl ?_
        refine v_iload_n dX10_nearGain_39 rfl ?_
        refine v_iload dX10_nearGain_40 rfl ?_
        refine v_callV (ci := 10) (K10_nearBest hM hBG ⟨hk0, by omega⟩ hw hf (by omega) (t := t) ⟨by omega, by omega⟩) ⟨rfl, rfl⟩ (Nat.le_refl _) (Nat.le_refl _) hM.1 rfl ⟨ml_X10_310, mm_X10_nearBest⟩ ⟨(Nat.le_of_ble_eq_true rfl), (Nat.le_of_ble_eq_true rfl)⟩ mp_X10_nearBest rfl rfl (Nat.le_of_ble_eq_true rfl) dX10_nearGain_42 (fun r M' h => ?_)
        obtain ⟨x2, a2, rfl, hM2, hF2, hx2, ha2, hBG2⟩ := h
        replace hM := hM2
        replace hF := hF.tr hF2
        refine v_callV (ci := 10) (K10_nearBy hM hBG2 ⟨hk0, by omega⟩ hw hf (by omega) (t := t) ⟨by omega, by omega⟩ (b := pk (RG σ (shF (bF σ (qT s) (qB s) (-1)) 0) (pT σ t) n) 60) ⟨by omega, by omega⟩) ⟨rfl, rfl⟩ (Nat.le_refl _) (Nat.le_refl _) hM.1 rfl ⟨ml_X10_306, mm_X10_nearBy⟩ ⟨(Nat.le_of_ble_eq_true rfl), (Nat.le_of_ble_eq_true rfl)⟩ mp_X10_nearBy rfl rfl (Nat.le_of_ble_eq_true rfl) dX10_nearGain_45 (fun r M' h => ?_)
        obtain ⟨x3, a3, rfl, hM3, hF3, hx3, ha3, hBG3⟩ := h
        replace hM := hM3
        replace hF := hF.tr hF3
        refine v_ladd dX10_nearGain_48 ?_
        refine v_lstore_n dX10_nearGain_49 (Nat.le_of_ble_eq_true rfl) ?_
        refine v_iinc dX10_nearGain_50 rfl (Nat.le_of_ble_eq_true rfl) ?_
        refine v_goto (tgt := 22) dX10_nearGain_53 (by decide) ?_
        refine v_to (ih (t + 1) x3 a3 _ (by omega) (by omega) hM hF ((hx.tr hx2 (fun t h => h) (by decide)).tr hx3 (fun t h => h) (by decide)) ((ha.tr ha2 (fun t h => h) (by decide)).tr ha3 (fun t h => h) (by decide)) hBG3) rfl ?_
        rw [sm_step _ t0, show ngF σ (qT s) (qB s) t = RG σ (shF (bF σ (qT s) (qB s) (-1)) 0) (pT σ t) n (pk (RG σ (shF (bF σ (qT s) (qB s) (-1)) 0) (pT σ t) n) 60) from by unfold ngF; rw [hn]; rfl]
        exact sw_h1 rfl (sw_h1 rfl (sw_h1 rfl (sw_h1 rfl sw_h0)))
  refine v_aload_n dX10_nearGain_0 rfl ?_
  refine v_iload_n dX10_nearGain_1 rfl ?_
  refine v_callV (ci := 10) (K10_isSale hM hRI.2.2.1 ⟨by omega, by omega⟩ ⟨by omega, by omega⟩) ⟨rfl, rfl⟩ (Nat.le_refl _) (Nat.le_refl _) hM.1 rfl ⟨ml_X10_129, mm_X10_isSale⟩ ⟨(Nat.le_of_ble_eq_true rfl), (Nat.le_of_ble_eq_true rfl)⟩ mp_X10_isSale rfl rfl (Nat.le_of_ble_eq_true rfl) dX10_nearGain_2 (fun r M' h => ?_)
  obtain ⟨rfl, rfl⟩ := h
  refine v_ifb_ne (tgt := 12) dX10_nearGain_5 (by decide) (fun h5 => ?_) (fun h5 => ?_)
  · skip
    refine v_aload_n dX10_nearGain_12 rfl ?_
    refine v_iload_n dX10_nearGain_13 rfl ?_
    refine v_callV (ci := 10) (K10_bg hM (hRI.fr hX hA) hs hk) ⟨rfl, rfl⟩ (Nat.le_refl _) (Nat.le_refl _) hM.1 rfl ⟨ml_X10_199, mm_X10_begin⟩ ⟨(Nat.le_of_ble_eq_true rfl), (Nat.le_of_ble_eq_true rfl)⟩ mp_X10_begin rfl rfl (Nat.le_of_ble_eq_true rfl) dX10_nearGain_14 (fun r M' h => ?_)
    obtain ⟨x2, a2, rfl, hM2, hF2, hx2, ha2, hBG⟩ := h
    replace hM := hM2
    replace hF := hF.tr hF2
    replace hX := hX.tr hx2 (fun t h => h) (by decide)
    replace hA := hA.tr ha2 (fun t h => h) (by decide)
    rw [hσ, hn1] at hBG
    refine v_lconst (z := 0) dX10_nearGain_17 (by decide +kernel) ?_
    refine v_lstore_n dX10_nearGain_18 (Nat.le_of_ble_eq_true rfl) ?_
    refine v_iconst dX10_nearGain_19 ?_
    refine v_istore dX10_nearGain_20 (Nat.le_of_ble_eq_true rfl) ?_
    exact v_to (loop (sTr σ).toNat 0 x2 a2 _ (by omega) (by omega) hM hF hX hA hBG) rfl (sw_h1 rfl (sw_h1 rfl (sw_h1 rfl (sw_h1 rfl sw_h0))))
  · skip
    exact absurd hk (by assumption)
theorem R9_nearGainN (hI : InvR G M s) (hs : stOK s) (hk : ¬ isS s k) (hg : sw_rg k) : Kt l G μX10_nearGain [.ref (sw_al G 70), sw_i k] M (fun r M' => r = some (sw_j (-1000000000000000)) ∧ InvR G M' s ∧ frR M M') := by
  refine KtA.of (by decide +kernel) (Nat.le_of_ble_eq_true rfl) ?_
  obtain ⟨x, a, hM, hRI⟩ := hI
  have hns : qN s ≤ 8 := hs.2.1
  refine v_aload_n dX10_nearGain_0 rfl ?_
  refine v_iload_n dX10_nearGain_1 rfl ?_
  refine v_callV (ci := 10) (K10_isSale hM hRI.2.2.1 ⟨by omega, by omega⟩ hg) ⟨rfl, rfl⟩ (Nat.le_refl _) (Nat.le_refl _) hM.1 rfl ⟨ml_X10_129, mm_X10_isSale⟩ ⟨(Nat.le_of_ble_eq_true rfl), (Nat.le_of_ble_eq_true rfl)⟩ mp_X10_isSale rfl rfl (Nat.le_of_ble_eq_true rfl) dX10_nearGain_2 (fun r M' h => ?_)
  obtain ⟨rfl, rfl⟩ := h
  refine v_ifb_ne (tgt := 12) dX10_nearGain_5 (by decide) (fun h5 => ?_) (fun h5 => ?_)
  · skip
    exact absurd (by assumption) hk
  · skip
    refine v_ldc2 (z := -1000000000000000) kl_X10_278 (by decide +kernel) dX10_nearGain_8 ?_
    exact v_lret dX10_nearGain_11 rfl (Nat.le_refl _) (Nat.le_refl _) (⟨rfl, ⟨_, _, hM, hRI⟩, frR.rf⟩)
end

