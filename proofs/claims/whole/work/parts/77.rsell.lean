/-! the reference's face: by, telling -/
section
variable {l : Launch} {G : sw_G} {M : sw_M} {s : CSt} {k : Int} {x : Nat → Int} {a : Nat → Int → Int}
theorem bI_0 {p : Prop} [Decidable p] (h : bI p = 0) : ¬ p := fun hp => by
  unfold bI at h
  rw [if_pos hp] at h
  omega
theorem bI_1 {p : Prop} [Decidable p] (h : ¬ bI p = 0) : p := by
  by_cases c : p
  · exact c
  · exact absurd (show bI p = 0 from if_neg c) h
theorem bs_al {σ : SaleT} {T : Int → Int} {many sort j i : Int} {wise : Prop} [Decidable wise] (h : sort = if wise then -2 else -1) : bsF σ T many sort j (-1) = alF σ many wise i j := by
  unfold bsF alF
  by_cases c : wise
  · rw [if_pos c] at h
    subst h
    rw [if_neg (by omega)]
    by_cases d : 1 < many
    · rw [if_pos ⟨rfl, d⟩, if_pos ⟨c, d⟩]
    · rw [if_neg (fun h => d h.2), if_neg (fun h => d h.2)]
  · rw [if_neg c] at h
    subst h
    rw [if_neg (by omega), if_neg (by omega), if_neg (fun h => c h.1)]
theorem K10_sell {n : Nat} {bar sort : Int} {wise : Prop} [Decidable wise] (hM : RS G M x a) (hRI : RI s x a) (hs : stOK s) (hk : isS s k) (hn : 1 ≤ n ∧ n ≤ 4) (hb : 0 ≤ bar ∧ bar ≤ 60) (hso : sort = if wise then -2 else -1) : Kt l G μX10_sell [.ref (sw_al G 70), sw_i k, sw_i (n : Int), sw_i bar, sw_i sort] M (fun r M' => ∃ x' a', r = none ∧ RS G M' x' a' ∧ frR M M' ∧ xfr XL x x' ∧ afr AL a a' ∧ ∀ j, 28 ≤ j → j ≤ 34 → x' j = ms (sSg (sl s k)).toNat n (goT (sl s k) bar (sWy (sl s k)) n (alF (sl s k) n wise) (-1) (-1) (-1) (-1) (-1) (-1) j)) := by
  refine KtA.of (by decide +kernel) (Nat.le_of_ble_eq_true rfl) ?_
  have hF : frR M M := frR.rf
  have hw := hs.sale hk
  have hnb := hw.2.2.1
  have htr := hw.2.1
  have hwy := hw.2.2.2.2.1
  have hns : qN s ≤ 8 := hs.2.1
  obtain ⟨hk0, hk1⟩ := id hk
  have hX : xfr XL x x := xfr.rf
  have hA : afr AL a a := afr.rf
  have hle := hb
  have hf : fBd (alF (sl s k) n wise) n (sSg (sl s k)) := fun i j _ _ _ _ => alF_bd hw i j
  have hso2 : -2 ≤ sort ∧ sort < 10 := by rw [hso]; split <;> omega
  refine v_aload_n dX10_sell_0 rfl ?_
  refine v_iload_n dX10_sell_1 rfl ?_
  refine v_callV (ci := 10) (K10_bg hM (hRI.fr hX hA) hs hk) ⟨rfl, rfl⟩ (Nat.le_refl _) (Nat.le_refl _) hM.1 rfl ⟨ml_X10_199, mm_X10_begin⟩ ⟨(Nat.le_of_ble_eq_true rfl), (Nat.le_of_ble_eq_true rfl)⟩ mp_X10_begin rfl rfl (Nat.le_of_ble_eq_true rfl) dX10_sell_2 (fun r M' h => ?_)
  obtain ⟨x2, a2, rfl, hM2, hF2, hx2, ha2, hBG⟩ := h
  replace hM := hM2
  replace hF := hF.tr hF2
  replace hX := hX.tr hx2 (fun t h => h) (by decide)
  replace hA := hA.tr ha2 (fun t h => h) (by decide)
  refine v_aload_n dX10_sell_5 rfl ?_
  refine v_iload_n dX10_sell_6 rfl ?_
  refine v_rp 21 hM hF (flS_21 G _ _) fp_X10_176 rfl rfl (Nat.le_of_ble_eq_true rfl) dX10_sell_7 (fun M hM hF => ?_)
  refine v_aload_n dX10_sell_10 rfl ?_
  refine v_iload_n dX10_sell_11 rfl ?_
  refine v_rp 22 hM hF (flS_22 G _ _) fp_X10_183 rfl rfl (Nat.le_of_ble_eq_true rfl) dX10_sell_12 (fun M hM hF => ?_)
  replace hX := (hX.up (k := 21) (v := (n : Int)) (by decide)).up (k := 22) (v := bar) (by decide)
  refine v_aload_n dX10_sell_15 rfl ?_
  refine v_iload_n dX10_sell_16 rfl ?_
  refine v_iload dX10_sell_17 rfl ?_
  refine v_callV (ci := 10) (K10_fillAll hM hBG.1 ⟨by omega, by omega⟩ hw (many := n) ((upn_o (by decide)).trans upn_s) (by omega) hso2) ⟨rfl, rfl⟩ (Nat.le_refl _) (Nat.le_refl _) hM.1 rfl ⟨ml_X10_297, mm_X10_fillAll⟩ ⟨(Nat.le_of_ble_eq_true rfl), (Nat.le_of_ble_eq_true rfl)⟩ mp_X10_fillAll rfl rfl (Nat.le_of_ble_eq_true rfl) dX10_sell_19 (fun r M' h => ?_)
  obtain ⟨x5, a5, rfl, hM5, hF5, hx5, ha5, hR5⟩ := h
  replace hM := hM5
  replace hF := hF.tr hF5
  replace hX := hX.tr hx5 (fun t h => h) (by decide)
  replace hA := hA.tr ha5 (fun t h => h) (by decide)
  replace hBG : BG (sl s k) k x5 a5 (alF (sl s k) n wise) n bar (sWy (sl s k)) := ⟨hBG.1.fr ha5 (by decide), (hx5 21 (by decide)).trans ((upn_o (by decide)).trans upn_s), (hx5 22 (by decide)).trans upn_s, (hx5 23 (by decide)).trans ((upn_o (by decide)).trans ((upn_o (by decide)).trans hBG.2.2.2.1)), fun i j i0 i1 j0 j1 => by rw [hR5 i j i0 i1 j0 j1]; exact bs_al hso⟩
  refine v_aload_n dX10_sell_22 rfl ?_
  refine v_iconst dX10_sell_23 ?_
  refine v_iconst dX10_sell_24 ?_
  refine v_iconst dX10_sell_25 ?_
  refine v_callV (ci := 10) (K10_ak hM) ⟨rfl, rfl⟩ (Nat.le_refl _) (Nat.le_refl _) hM.1 rfl ⟨ml_X10_271, mm_X10_ask⟩ ⟨(Nat.le_of_ble_eq_true rfl), (Nat.le_of_ble_eq_true rfl)⟩ mp_X10_ask rfl rfl (Nat.le_of_ble_eq_true rfl) dX10_sell_26 (fun r M' h => ?_)
  obtain ⟨x3, rfl, hM3, hF3, hx3, hAS⟩ := h
  replace hM := hM3
  replace hF := hF.tr hF3
  replace hX := hX.tr hx3 (fun t h => h) (by decide)
  replace hBG := hBG.fr hx3 afr.rf (K := []) (by decide) (by decide)
  refine v_aload_n dX10_sell_29 rfl ?_
  refine v_iload_n dX10_sell_30 rfl ?_
  refine v_iconst dX10_sell_31 ?_
  refine v_callV (ci := 10) (K10_go hM hBG hAS ⟨hk0, by omega⟩ hw hf (Or.inl rfl) ⟨by omega, by omega⟩ hle hwy ⟨by omega, by omega⟩ ⟨by omega, by omega⟩ (fun _ => by omega) ⟨by omega, by omega⟩ ⟨by omega, by omega⟩ ⟨by omega, by omega⟩ (fun _ => by omega)) ⟨rfl, rfl⟩ (Nat.le_refl _) (Nat.le_refl _) hM.1 rfl ⟨ml_X10_275, mm_X10_goThrough⟩ ⟨(Nat.le_of_ble_eq_true rfl), (Nat.le_of_ble_eq_true rfl)⟩ mp_X10_goThrough rfl rfl (Nat.le_of_ble_eq_true rfl) dX10_sell_32 (fun r M' h => ?_)
  obtain ⟨x4, a4, rfl, hM4, hF4, hx4, ha4, hT⟩ := h
  replace hM := hM4
  replace hF := hF.tr hF4
  replace hX := hX.tr hx4 (fun t h => h) (by decide)
  replace hA := hA.tr ha4 (fun t h => h) (by decide)
  replace hBG := hBG.fr hx4 ha4 (by decide) (by decide)
  have t28 := hT 28 (by decide) (by decide)
  have t29 := hT 29 (by decide) (by decide)
  have t30 := hT 30 (by decide) (by decide)
  have t31 := hT 31 (by decide) (by decide)
  have t32 := hT 32 (by decide) (by decide)
  have t33 := hT 33 (by decide) (by decide)
  have t34 := hT 34 (by decide) (by decide)
  exact v_vret dX10_sell_35 rfl (Nat.le_refl _) (Nat.le_refl _) (⟨x4, a4, rfl, hM, hF, hX, hA, hT⟩)
theorem R9_by {many what : Int} {wise : Prop} [Decidable wise] (hI : InvR G M s) (hs : stOK s) (hk : isS s k) (g1 : sw_rg many) (g2 : sw_rg what) : Kt l G μX10_by [.ref (sw_al G 70), sw_i k, sw_i many, sw_i (bI wise), sw_i what] M (fun r M' => r = some (sw_j (if (1 ≤ many ∧ many ≤ 4) ∧ (what = 0 ∨ what = 1) then byF (sl s k) many wise what else -1)) ∧ InvR G M' s ∧ frR M M') := by
  refine KtA.of (by decide +kernel) (Nat.le_of_ble_eq_true rfl) ?_
  have hF : frR M M := frR.rf
  obtain ⟨x, a, hM, hRI⟩ := hI
  have hw := hs.sale hk
  have hle := hw.2.2.2.1
  have hns : qN s ≤ 8 := hs.2.1
  obtain ⟨hk0, hk1⟩ := id hk
  have hr := hRI.row hk
  have g11 : a 11 k = sLe (sl s k) := hr.2.2.2.1
  obtain ⟨w0, w1⟩ := bI_rg (p := wise)
  refine v_aload_n dX10_by_0 rfl ?_
  refine v_iload_n dX10_by_1 rfl ?_
  refine v_callV (ci := 10) (K10_isSale hM hRI.2.2.1 ⟨by omega, by omega⟩ ⟨by omega, by omega⟩) ⟨rfl, rfl⟩ (Nat.le_refl _) (Nat.le_refl _) hM.1 rfl ⟨ml_X10_129, mm_X10_isSale⟩ ⟨(Nat.le_of_ble_eq_true rfl), (Nat.le_of_ble_eq_true rfl)⟩ mp_X10_isSale rfl rfl (Nat.le_of_ble_eq_true rfl) dX10_by_2 (fun r M' h => ?_)
  obtain ⟨rfl, rfl⟩ := h
  refine v_ifb_eq (tgt := 27) dX10_by_5 (by decide) (fun h5 => ?_) (fun h5 => ?_)
  · skip
    exact absurd hk (by assumption)
  · skip
    refine v_iload_n dX10_by_8 rfl ?_
    refine v_iconst dX10_by_9 ?_
    refine v_iconst dX10_by_10 ?_
    refine v_callS (K10_in (v := many) (lo := 1) (hi := 4) g1 ⟨by omega, by omega⟩ ⟨by omega, by omega⟩) ⟨rfl, rfl⟩ (Nat.le_refl _) (Nat.le_refl _) ⟨ml_X10_107, mm_X10_in⟩ ⟨(Nat.le_of_ble_eq_true rfl), (Nat.le_of_ble_eq_true rfl)⟩ mp_X10_in rfl rfl (Nat.le_of_ble_eq_true rfl) dX10_by_11 (fun r M' h => ?_)
    obtain ⟨rfl, rfl⟩ := h
    refine v_ifb_eq (tgt := 27) dX10_by_14 (by decide) (fun q1 => ?_) (fun q1 => ?_)
    · skip
      refine v_ldc2 (z := -1) kl_X10_269 (by decide +kernel) dX10_by_27 ?_
      exact v_lret dX10_by_30 rfl (Nat.le_refl _) (Nat.le_refl _) (⟨by rw [if_neg (fun h => q1 h.1)], ⟨_, _, hM, hRI⟩, hF⟩)
    · skip
      refine v_iload dX10_by_17 rfl ?_
      refine v_iconst dX10_by_19 ?_
      refine v_iconst dX10_by_20 ?_
      refine v_callS (K10_in (v := what) (lo := 0) (hi := 1) g2 ⟨by omega, by omega⟩ ⟨by omega, by omega⟩) ⟨rfl, rfl⟩ (Nat.le_refl _) (Nat.le_refl _) ⟨ml_X10_107, mm_X10_in⟩ ⟨(Nat.le_of_ble_eq_true rfl), (Nat.le_of_ble_eq_true rfl)⟩ mp_X10_in rfl rfl (Nat.le_of_ble_eq_true rfl) dX10_by_21 (fun r M' h => ?_)
      obtain ⟨rfl, rfl⟩ := h
      refine v_ifb_ne (tgt := 31) dX10_by_24 (by decide) (fun q2 => ?_) (fun q2 => ?_)
      · skip
        obtain ⟨n, rfl⟩ : ∃ n : Nat, many = (n : Int) := ⟨many.toNat, by omega⟩
        have hn : 1 ≤ n ∧ n ≤ 4 := by omega
        have hf : fBd (alF (sl s k) n wise) n (sSg (sl s k)) := fun i j _ _ _ _ => alF_bd hw i j
        have htt := TT_bd hw (pS_B hw (-1)) hn.2 (f := alF (sl s k) n wise) (fun i j _ _ _ _ => alF_bd hw i j)
        have hta := TA_bd hw (pS_B hw (-1)) (m := n) hn.2
        have hta0 := TA_pos hw (m := n) (pS_B hw (-1)) hn.2 (pS_pos hw)
        have hcc : (1 ≤ (n : Int) ∧ (n : Int) ≤ 4) ∧ (what = 0 ∨ what = 1) := by omega
        have hby : byF (sl s k) (n : Int) wise what = (if what = 0 then TT (sl s k) (rwF (alF (sl s k) n wise)) (pS (sl s k) (-1)) n else TA (sl s k) (pS (sl s k) (-1)) n).tdiv (gcdI (TT (sl s k) (rwF (alF (sl s k) n wise)) (pS (sl s k) (-1)) n) (TA (sl s k) (pS (sl s k) (-1)) n)) := by unfold byF; rw [Int.toNat_natCast]
        rw [if_pos hcc, hby]
        refine v_aload_n dX10_by_31 rfl ?_
        refine v_iload_n dX10_by_32 rfl ?_
        refine v_iload_n dX10_by_33 rfl ?_
        refine v_aload_n dX10_by_34 rfl ?_
        refine v_getfH 11 hM.1 fl_X10_31 rfl dX10_by_35 ?_
        refine v_iload_n dX10_by_38 rfl ?_
        refine v_ria hM ar_11 (by omega) (by omega) g11 dX10_by_39 ?_
        refine v_iload_n dX10_by_40 rfl ?_
        refine v_if_eq (tgt := 49) dX10_by_41 (by decide) ⟨by omega, by omega⟩ (fun c => ?_) (fun c => ?_)
        · skip
          refine v_iconst dX10_by_49 ?_
          refine v_callV (ci := 10) (K10_sell hM hRI hs hk hn hle (wise := wise) (if_neg (bI_0 c)).symm) ⟨rfl, rfl⟩ (Nat.le_refl _) (Nat.le_refl _) hM.1 rfl ⟨ml_X10_303, mm_X10_sell⟩ ⟨(Nat.le_of_ble_eq_true rfl), (Nat.le_of_ble_eq_true rfl)⟩ mp_X10_sell rfl rfl (Nat.le_of_ble_eq_true rfl) dX10_by_50 (fun r M' h => ?_)
          obtain ⟨x4, a4, rfl, hM4, hF4, hX, hA, hT⟩ := h
          replace hM := hM4
          replace hF := hF.tr hF4
          have t28 := (hT 28 (by decide) (by decide)).trans (go28 hw)
          have t29 := (hT 29 (by decide) (by decide)).trans (go29 hw hf)
          refine v_aload_n dX10_by_53 rfl ?_
          refine v_rgj 29 hM t29 fl_X10_234 rfl dX10_by_54 ?_
          refine v_aload_n dX10_by_57 rfl ?_
          refine v_rgj 28 hM t28 fl_X10_231 rfl dX10_by_58 ?_
          refine v_iload dX10_by_61 rfl ?_
          refine v_callS (K10_part (p := TT (sl s k) (rwF (alF (sl s k) n wise)) (pS (sl s k) (-1)) n) (q := TA (sl s k) (pS (sl s k) (-1)) n) (what := what) ⟨by omega, by omega⟩ ⟨by omega, by omega⟩ g2) ⟨rfl, rfl⟩ (Nat.le_refl _) (Nat.le_refl _) ⟨ml_X10_169, mm_X10_part⟩ ⟨(Nat.le_of_ble_eq_true rfl), (Nat.le_of_ble_eq_true rfl)⟩ mp_X10_part rfl rfl (Nat.le_of_ble_eq_true rfl) dX10_by_63 (fun r M' h => ?_)
          obtain ⟨rfl, rfl⟩ := h
          exact v_lret dX10_by_66 rfl (Nat.le_refl _) (Nat.le_refl _) (⟨rfl, ⟨_, _, hM, hRI.fr hX hA⟩, hF⟩)
        · skip
          refine v_bipush dX10_by_44 (by decide +kernel) ?_
          refine v_goto (tgt := 50) dX10_by_46 (by decide) ?_
          refine v_callV (ci := 10) (K10_sell hM hRI hs hk hn hle (wise := wise) (if_pos (bI_1 c)).symm) ⟨rfl, rfl⟩ (Nat.le_refl _) (Nat.le_refl _) hM.1 rfl ⟨ml_X10_303, mm_X10_sell⟩ ⟨(Nat.le_of_ble_eq_true rfl), (Nat.le_of_ble_eq_true rfl)⟩ mp_X10_sell rfl rfl (Nat.le_of_ble_eq_true rfl) dX10_by_50 (fun r M' h => ?_)
          obtain ⟨x4, a4, rfl, hM4, hF4, hX, hA, hT⟩ := h
          replace hM := hM4
          replace hF := hF.tr hF4
          have t28 := (hT 28 (by decide) (by decide)).trans (go28 hw)
          have t29 := (hT 29 (by decide) (by decide)).trans (go29 hw hf)
          refine v_aload_n dX10_by_53 rfl ?_
          refine v_rgj 29 hM t29 fl_X10_234 rfl dX10_by_54 ?_
          refine v_aload_n dX10_by_57 rfl ?_
          refine v_rgj 28 hM t28 fl_X10_231 rfl dX10_by_58 ?_
          refine v_iload dX10_by_61 rfl ?_
          refine v_callS (K10_part (p := TT (sl s k) (rwF (alF (sl s k) n wise)) (pS (sl s k) (-1)) n) (q := TA (sl s k) (pS (sl s k) (-1)) n) (what := what) ⟨by omega, by omega⟩ ⟨by omega, by omega⟩ g2) ⟨rfl, rfl⟩ (Nat.le_refl _) (Nat.le_refl _) ⟨ml_X10_169, mm_X10_part⟩ ⟨(Nat.le_of_ble_eq_true rfl), (Nat.le_of_ble_eq_true rfl)⟩ mp_X10_part rfl rfl (Nat.le_of_ble_eq_true rfl) dX10_by_63 (fun r M' h => ?_)
          obtain ⟨rfl, rfl⟩ := h
          exact v_lret dX10_by_66 rfl (Nat.le_refl _) (Nat.le_refl _) (⟨rfl, ⟨_, _, hM, hRI.fr hX hA⟩, hF⟩)
      · skip
        refine v_ldc2 (z := -1) kl_X10_269 (by decide +kernel) dX10_by_27 ?_
        exact v_lret dX10_by_30 rfl (Nat.le_refl _) (Nat.le_refl _) (⟨by rw [if_neg (fun h => q2 (by omega))], ⟨_, _, hM, hRI⟩, hF⟩)
theorem R9_byN {many what : Int} {wise : Prop} [Decidable wise] (hI : InvR G M s) (hs : stOK s) (hk : ¬ isS s k) (hg : sw_rg k) : Kt l G μX10_by [.ref (sw_al G 70), sw_i k, sw_i many, sw_i (bI wise), sw_i what] M (fun r M' => r = some (sw_j (-1)) ∧ InvR G M' s ∧ frR M M') := by
  refine KtA.of (by decide +kernel) (Nat.le_of_ble_eq_true rfl) ?_
  obtain ⟨x, a, hM, hRI⟩ := hI
  have hns : qN s ≤ 8 := hs.2.1
  refine v_aload_n dX10_by_0 rfl ?_
  refine v_iload_n dX10_by_1 rfl ?_
  refine v_callV (ci := 10) (K10_isSale hM hRI.2.2.1 ⟨by omega, by omega⟩ hg) ⟨rfl, rfl⟩ (Nat.le_refl _) (Nat.le_refl _) hM.1 rfl ⟨ml_X10_129, mm_X10_isSale⟩ ⟨(Nat.le_of_ble_eq_true rfl), (Nat.le_of_ble_eq_true rfl)⟩ mp_X10_isSale rfl rfl (Nat.le_of_ble_eq_true rfl) dX10_by_2 (fun r M' h => ?_)
  obtain ⟨rfl, rfl⟩ := h
  refine v_ifb_eq (tgt := 27) dX10_by_5 (by decide) (fun h5 => ?_) (fun h5 => ?_)
  · skip
    refine v_ldc2 (z := -1) kl_X10_269 (by decide +kernel) dX10_by_27 ?_
    exact v_lret dX10_by_30 rfl (Nat.le_refl _) (Nat.le_refl _) (⟨rfl, ⟨_, _, hM, hRI⟩, frR.rf⟩)
  · skip
    exact absurd (by assumption) hk
theorem R9_telling (hI : InvR G M s) (hs : stOK s) (hk : isS s k) : Kt l G μX10_telling [.ref (sw_al G 70), sw_i k] M (fun r M' => r = some (sw_j (sm (tlF (sl s k) (qT s) (qB s)) (sSg (sl s k)).toNat)) ∧ InvR G M' s ∧ frR M M') := by
  refine KtA.of (by decide +kernel) (Nat.le_of_ble_eq_true rfl) ?_
  have hF : frR M M := frR.rf
  obtain ⟨x, a, hM, hRI⟩ := hI
  have hw := hs.sale hk
  have hnb := hw.2.2.1
  have hsg := hw.1
  have htr := hw.2.1
  have hle := hw.2.2.2.1
  have hwy := hw.2.2.2.2.1
  have hns : qN s ≤ 8 := hs.2.1
  obtain ⟨hk0, hk1⟩ := id hk
  have hX : xfr XL x x := xfr.rf
  have hA : afr AL a a := afr.rf
  obtain ⟨σ, hσ⟩ : ∃ σ, sl s k = σ := ⟨_, rfl⟩
  obtain ⟨m, hm⟩ : ∃ m, (sNb (sl s k)).toNat = m := ⟨_, rfl⟩
  have hc := hs.c
  have hst : ∀ x1 a1, RI s x1 a1 → ∀ i, 0 ≤ i → i < 4 → -2 ≤ a1 13 (4 * k + i) ∧ a1 13 (4 * k + i) < 10 := fun x1 a1 h i i0 i1 => by
    rw [h.seat hk i0 i1]; exact hw.2.2.2.2.2.2.2.2 i i0 i1
  have hbd : ∀ x1 a1, RI s x1 a1 → ∀ i j h, (0 ≤ i ∧ i < 4) → (0 ≤ j ∧ j < sSg (sl s k)) → bsF (sl s k) (a1 18) (sNb (sl s k)) (a1 13 (4 * k + i)) j h = bdF (sl s k) (qT s) (qB s) i j h := fun x1 a1 hR i j h i0 j0 => bsF_bdF hs hk hR i0 j0
  obtain ⟨Zq, hZ⟩ : ∃ Zq : Option Value → sw_M → Prop, Zq = (fun r M' => r = some (sw_j (sm (tlF (sl s k) (qT s) (qB s)) (sSg (sl s k)).toNat)) ∧ InvR G M' s ∧ frR M M') := ⟨_, rfl⟩
  rw [← hZ]
  rw [hσ] at hw hnb hsg htr hle hwy hZ hm hbd
  have loop : ∀ (c : Nat) (h : Int) (x1 : Nat → Int) (a1 : Nat → Int → Int) (M1 : sw_M), 0 ≤ h → h + c = sSg σ → RS G M1 x1 a1 → frR M M1 → xfr XL x x1 → afr AL a a1 → (∃ f, BG σ k x1 a1 f m (sLe σ) (sWy σ)) → V l G μX10_telling sw_E0 (sw_Zq G μX10_telling (sw_q0 G Zq)) 22 [(0, .ref (sw_al G 70)), (1, sw_i k), (2, sw_j (sm (tlF σ (qT s) (qB s)) h.toNat)), (4, sw_i h)] [] M1 0 0 := by
    intro c
    induction c with
    | zero =>
      intro h x1 a1 M1 h0 hc' hM hF hX hA hBG
      obtain ⟨f, hBG⟩ := hBG
      have e : h = sSg σ := by omega
      subst e
      have g5 : a1 5 k = sSg σ := hBG.1.1
      refine v_iload dX10_telling_22 rfl ?_
      refine v_aload_n dX10_telling_24 rfl ?_
      refine v_getfH 5 hM.1 fl_X10_13 rfl dX10_telling_25 ?_
      refine v_iload_n dX10_telling_28 rfl ?_
      refine v_ria hM ar_5 (by omega) (by omega) g5 dX10_telling_29 ?_
      refine v_icmp_ge (tgt := 67) dX10_telling_30 (by decide) ⟨by omega, by omega⟩ ⟨by omega, by omega⟩ (fun h30 => ?_) (fun h30 => ?_)
      · skip
        refine v_lload_n dX10_telling_67 rfl ?_
        exact v_lret dX10_telling_68 rfl (Nat.le_refl _) (Nat.le_refl _) (by rw [hZ]; exact ⟨rfl, ⟨x1, a1, hM, hRI.fr hX hA⟩, hF⟩)
      · skip
        exfalso; omega
    | succ c ih =>
      intro h x1 a1 M1 h0 hc' hM hF hX hA hBG
      obtain ⟨f, hBG⟩ := hBG
      have g5 : a1 5 k = sSg σ := hBG.1.1
      have hf := bF_fBd hw hc h m
      have hR1 := hRI.fr hX hA
      refine v_iload dX10_telling_22 rfl ?_
      refine v_aload_n dX10_telling_24 rfl ?_
      refine v_getfH 5 hM.1 fl_X10_13 rfl dX10_telling_25 ?_
      refine v_iload_n dX10_telling_28 rfl ?_
      refine v_ria hM ar_5 (by omega) (by omega) g5 dX10_telling_29 ?_
      refine v_icmp_ge (tgt := 67) dX10_telling_30 (by decide) ⟨by omega, by omega⟩ ⟨by omega, by omega⟩ (fun h30 => ?_) (fun h30 => ?_)
      · skip
        exfalso; omega
      · skip
        refine v_aload_n dX10_telling_33 rfl ?_
        refine v_iload_n dX10_telling_34 rfl ?_
        refine v_iload dX10_telling_35 rfl ?_
        refine v_callV (ci := 10) (K10_fill hM hBG.1 ⟨by omega, by omega⟩ hw (many := m) hBG.2.1 (by omega) (hst x1 a1 hR1) (told := h) (Or.inr ⟨by omega, by omega⟩)) ⟨rfl, rfl⟩ (Nat.le_refl _) (Nat.le_refl _) hM.1 rfl ⟨ml_X10_189, mm_X10_fill⟩ ⟨(Nat.le_of_ble_eq_true rfl), (Nat.le_of_ble_eq_true rfl)⟩ mp_X10_fill rfl rfl (Nat.le_of_ble_eq_true rfl) dX10_telling_37 (fun r M' h => ?_)
        obtain ⟨x5, a5, rfl, hM5, hF5, hx5, ha5, hR5⟩ := h
        replace hM := hM5
        replace hF := hF.tr hF5
        replace hX := hX.tr hx5 (fun t h => h) (by decide)
        replace hA := hA.tr ha5 (fun t h => h) (by decide)
        replace hBG : BG σ k x5 a5 (bF σ (qT s) (qB s) h) m (sLe σ) (sWy σ) := ⟨hBG.1.fr ha5 (by decide), (hx5 21 (by decide)).trans hBG.2.1, (hx5 22 (by decide)).trans hBG.2.2.1, (hx5 23 (by decide)).trans hBG.2.2.2.1, fun i j i0 i1 j0 j1 => by rw [hR5 i j i0 i1 j0 j1, show (m : Int) = sNb σ by omega]; exact hbd x1 a1 hR1 i j h ⟨i0, by omega⟩ ⟨j0, j1⟩⟩
        refine v_aload_n dX10_telling_40 rfl ?_
        refine v_iconst dX10_telling_41 ?_
        refine v_iconst dX10_telling_42 ?_
        refine v_iconst dX10_telling_43 ?_
        refine v_callV (ci := 10) (K10_ak hM) ⟨rfl, rfl⟩ (Nat.le_refl _) (Nat.le_refl _) hM.1 rfl ⟨ml_X10_271, mm_X10_ask⟩ ⟨(Nat.le_of_ble_eq_true rfl), (Nat.le_of_ble_eq_true rfl)⟩ mp_X10_ask rfl rfl (Nat.le_of_ble_eq_true rfl) dX10_telling_44 (fun r M' h => ?_)
        obtain ⟨x3, rfl, hM3, hF3, hx3, hAS⟩ := h
        replace hM := hM3
        replace hF := hF.tr hF3
        replace hX := hX.tr hx3 (fun t h => h) (by decide)
        replace hBG := hBG.fr hx3 afr.rf (K := []) (by decide) (by decide)
        refine v_aload_n dX10_telling_47 rfl ?_
        refine v_iload_n dX10_telling_48 rfl ?_
        refine v_iload dX10_telling_49 rfl ?_
        refine v_callV (ci := 10) (K10_go hM hBG hAS ⟨hk0, by omega⟩ hw hf (Or.inr ⟨by omega, by omega⟩) ⟨by omega, by omega⟩ hle hwy ⟨by omega, by omega⟩ ⟨by omega, by omega⟩ (fun _ => by omega) ⟨by omega, by omega⟩ ⟨by omega, by omega⟩ ⟨by omega, by omega⟩ (fun _ => by omega)) ⟨rfl, rfl⟩ (Nat.le_refl _) (Nat.le_refl _) hM.1 rfl ⟨ml_X10_275, mm_X10_goThrough⟩ ⟨(Nat.le_of_ble_eq_true rfl), (Nat.le_of_ble_eq_true rfl)⟩ mp_X10_goThrough rfl rfl (Nat.le_of_ble_eq_true rfl) dX10_telling_51 (fun r M' h => ?_)
        obtain ⟨x4, a4, rfl, hM4, hF4, hx4, ha4, hT⟩ := h
        replace hM := hM4
        replace hF := hF.tr hF4
        replace hX := hX.tr hx4 (fun t h => h) (by decide)
        replace hA := hA.tr ha4 (fun t h => h) (by decide)
        replace hBG := hBG.fr hx4 ha4 (by decide) (by decide)
        have t28 := hT 28 (by decide) (by decide)
        have t29 := hT 29 (by decide) (by decide)
        have t30 := hT 30 (by decide) (by decide)
        have t31 := hT 31 (by decide) (by decide)
        have t32 := hT 32 (by decide) (by decide)
        have t33 := hT 33 (by decide) (by decide)
        have t34 := hT 34 (by decide) (by decide)
        refine v_lload_n dX10_telling_54 rfl ?_
        refine v_aload_n dX10_telling_55 rfl ?_
        refine v_rgj 29 hM t29 fl_X10_234 rfl dX10_telling_56 ?_
        refine v_ladd dX10_telling_59 ?_
        refine v_lstore_n dX10_telling_60 (Nat.le_of_ble_eq_true rfl) ?_
        refine v_iinc dX10_telling_61 rfl (Nat.le_of_ble_eq_true rfl) ?_
        refine v_goto (tgt := 22) dX10_telling_64 (by decide) ?_
        refine v_to (ih (h + 1) x4 a4 _ (by omega) (by omega) hM hF hX hA ⟨_, hBG⟩) rfl ?_
        rw [sm_step _ h0, show tlF σ (qT s) (qB s) h = TT σ (rwF (bF σ (qT s) (qB s) h)) (pS σ h) m from by unfold tlF; rw [hm], ← go29 hw hf (ask := -1)]
        exact sw_h1 rfl (sw_h1 rfl (sw_h1 rfl (sw_h1 rfl sw_h0)))
  refine v_aload_n dX10_telling_0 rfl ?_
  refine v_iload_n dX10_telling_1 rfl ?_
  refine v_callV (ci := 10) (K10_isSale hM hRI.2.2.1 ⟨by omega, by omega⟩ ⟨by omega, by omega⟩) ⟨rfl, rfl⟩ (Nat.le_refl _) (Nat.le_refl _) hM.1 rfl ⟨ml_X10_129, mm_X10_isSale⟩ ⟨(Nat.le_of_ble_eq_true rfl), (Nat.le_of_ble_eq_true rfl)⟩ mp_X10_isSale rfl rfl (Nat.le_of_ble_eq_true rfl) dX10_telling_2 (fun r M' h => ?_)
  obtain ⟨rfl, rfl⟩ := h
  refine v_ifb_ne (tgt := 12) dX10_telling_5 (by decide) (fun h5 => ?_) (fun h5 => ?_)
  · skip
    refine v_aload_n dX10_telling_12 rfl ?_
    refine v_iload_n dX10_telling_13 rfl ?_
    refine v_callV (ci := 10) (K10_bg hM (hRI.fr hX hA) hs hk) ⟨rfl, rfl⟩ (Nat.le_refl _) (Nat.le_refl _) hM.1 rfl ⟨ml_X10_199, mm_X10_begin⟩ ⟨(Nat.le_of_ble_eq_true rfl), (Nat.le_of_ble_eq_true rfl)⟩ mp_X10_begin rfl rfl (Nat.le_of_ble_eq_true rfl) dX10_telling_14 (fun r M' h => ?_)
    obtain ⟨x2, a2, rfl, hM2, hF2, hx2, ha2, hBG⟩ := h
    replace hM := hM2
    replace hF := hF.tr hF2
    replace hX := hX.tr hx2 (fun t h => h) (by decide)
    replace hA := hA.tr ha2 (fun t h => h) (by decide)
    rw [hσ, hm] at hBG
    refine v_lconst (z := 0) dX10_telling_17 (by decide +kernel) ?_
    refine v_lstore_n dX10_telling_18 (Nat.le_of_ble_eq_true rfl) ?_
    refine v_iconst dX10_telling_19 ?_
    refine v_istore dX10_telling_20 (Nat.le_of_ble_eq_true rfl) ?_
    exact v_to (loop (sSg σ).toNat 0 x2 a2 _ (by omega) (by omega) hM hF hX hA ⟨_, hBG⟩) rfl (sw_h1 rfl (sw_h1 rfl (sw_h1 rfl (sw_h1 rfl sw_h0))))
  · skip
    exact absurd hk (by assumption)
theorem R9_tellingN (hI : InvR G M s) (hs : stOK s) (hk : ¬ isS s k) (hg : sw_rg k) : Kt l G μX10_telling [.ref (sw_al G 70), sw_i k] M (fun r M' => r = some (sw_j (-1)) ∧ InvR G M' s ∧ frR M M') := by
  refine KtA.of (by decide +kernel) (Nat.le_of_ble_eq_true rfl) ?_
  obtain ⟨x, a, hM, hRI⟩ := hI
  have hns : qN s ≤ 8 := hs.2.1
  refine v_aload_n dX10_telling_0 rfl ?_
  refine v_iload_n dX10_telling_1 rfl ?_
  refine v_callV (ci := 10) (K10_isSale hM hRI.2.2.1 ⟨by omega, by omega⟩ hg) ⟨rfl, rfl⟩ (Nat.le_refl _) (Nat.le_refl _) hM.1 rfl ⟨ml_X10_129, mm_X10_isSale⟩ ⟨(Nat.le_of_ble_eq_true rfl), (Nat.le_of_ble_eq_true rfl)⟩ mp_X10_isSale rfl rfl (Nat.le_of_ble_eq_true rfl) dX10_telling_2 (fun r M' h => ?_)
  obtain ⟨rfl, rfl⟩ := h
  refine v_ifb_ne (tgt := 12) dX10_telling_5 (by decide) (fun h5 => ?_) (fun h5 => ?_)
  · skip
    exact absurd (by assumption) hk
  · skip
    refine v_ldc2 (z := -1) kl_X10_269 (by decide +kernel) dX10_telling_8 ?_
    exact v_lret dX10_telling_11 rfl (Nat.le_refl _) (Nat.le_refl _) (⟨rfl, ⟨_, _, hM, hRI⟩, frR.rf⟩)
end

