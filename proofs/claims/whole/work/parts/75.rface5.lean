/-! the reference's face: best, judge -/
/-- the rows without one seat's -/
def shF (f : Int → Int → Int) (i : Int) : Int → Int → Int := fun p k => f (if p < i then p else p + 1) k
theorem pk_max (g : Int → Int) : ∀ (k : Nat) (j : Int), 0 ≤ j → j ≤ k → g j ≤ g (pk g k)
  | 0, j, h0, h1 => by
    have e : j = 0 := by omega
    subst e; exact Int.le_refl _
  | k + 1, j, h0, h1 => by
    show g j ≤ g (if g (pk g k) < g ((k : Int) + 1) then (k : Int) + 1 else pk g k)
    by_cases c : g (pk g k) < g ((k : Int) + 1)
    · rw [if_pos c]
      by_cases d : j = (k : Int) + 1
      · rw [d]; exact Int.le_refl _
      · have := pk_max g k j h0 (by omega); omega
    · rw [if_neg c]
      by_cases d : j = (k : Int) + 1
      · rw [d]; omega
      · exact pk_max g k j h0 (by omega)
abbrev XB : List Nat := [16, 17, 26, 27, 28, 29, 30, 31, 32, 33, 34, 35, 36, 37, 38, 39]
section
variable {l : Launch} {G : sw_G} {M : sw_M} {s : CSt} {k : Int} {x : Nat → Int} {a : Nat → Int → Int}
theorem K10_gainBy {σ : SaleT} {f : Int → Int → Int} {n i : Nat} {d b : Int} (hM : RS G M x a) (hBG : BG σ k x a f (n + 1) (sLe σ) (sWy σ)) (hk : 0 ≤ k ∧ k < 8) (hw : wfS σ) (hf : fBd f (n + 1) (sSg σ)) (hn : n ≤ 3) (hi : i ≤ n) (hd : 0 ≤ d ∧ d < sSg σ) (hb : 0 ≤ b ∧ b ≤ 60) : Kt l G μX10_gainBy [.ref (sw_al G 70), sw_i k, sw_i (i : Int), sw_i d, sw_i b] M (fun r M' => ∃ x' a', r = some (sw_j (RG σ (shF f i) (pS σ d) n b)) ∧ RS G M' x' a' ∧ frR M M' ∧ xfr XB x x' ∧ afr [15, 24, 25] a a' ∧ BG σ k x' a' f (n + 1) (sLe σ) (sWy σ)) := by
  refine KtA.of (by decide +kernel) (Nat.le_of_ble_eq_true rfl) ?_
  have hF : frR M M := frR.rf
  have htr := hw.2.1
  have hsg := hw.1
  have hle := hw.2.2.2.1
  have hwy := hw.2.2.2.2.1
  have hX : xfr XB x x := xfr.rf
  have hA : afr [15, 24, 25] a a := afr.rf
  refine v_aload_n dX10_gainBy_0 rfl ?_
  refine v_iload_n dX10_gainBy_1 rfl ?_
  refine v_iload_n dX10_gainBy_2 rfl ?_
  refine v_iload dX10_gainBy_3 rfl ?_
  refine v_callV (ci := 10) (K10_ak hM) ⟨rfl, rfl⟩ (Nat.le_refl _) (Nat.le_refl _) hM.1 rfl ⟨ml_X10_271, mm_X10_ask⟩ ⟨(Nat.le_of_ble_eq_true rfl), (Nat.le_of_ble_eq_true rfl)⟩ mp_X10_ask rfl rfl (Nat.le_of_ble_eq_true rfl) dX10_gainBy_5 (fun r M' h => ?_)
  obtain ⟨x3, rfl, hM3, hF3, hx3, hAS⟩ := h
  replace hM := hM3
  replace hF := hF.tr hF3
  replace hX := hX.tr hx3 (fun t h => h) (by decide)
  replace hBG := hBG.fr hx3 afr.rf (K := []) (by decide) (by decide)
  refine v_aload_n dX10_gainBy_8 rfl ?_
  refine v_iload_n dX10_gainBy_9 rfl ?_
  refine v_iconst dX10_gainBy_10 ?_
  refine v_callV (ci := 10) (K10_go hM hBG hAS hk hw hf (Or.inl rfl) ⟨by omega, by omega⟩ hle hwy ⟨by omega, by omega⟩ ⟨by omega, by omega⟩ (fun _ => by omega) ⟨by omega, by omega⟩ ⟨by omega, by omega⟩ ⟨by omega, by omega⟩ (fun _ => by omega)) ⟨rfl, rfl⟩ (Nat.le_refl _) (Nat.le_refl _) hM.1 rfl ⟨ml_X10_275, mm_X10_goThrough⟩ ⟨(Nat.le_of_ble_eq_true rfl), (Nat.le_of_ble_eq_true rfl)⟩ mp_X10_goThrough rfl rfl (Nat.le_of_ble_eq_true rfl) dX10_gainBy_11 (fun r M' h => ?_)
  obtain ⟨x4, a4, rfl, hM4, hF4, hx4, ha4, hT⟩ := h
  replace hM := hM4
  replace hF := hF.tr hF4
  replace hX := hX.tr hx4 (fun t h => h) (by decide)
  replace hA := hA.tr ha4 (fun t h => h) (by decide)
  replace hBG := hBG.fr hx4 ha4 (by decide) (by decide)
  have t28 := hT 28 (by decide) (by decide)
  have t29 := hT 29 (by decide) (by decide)
  have t30 := hT 30 (by decide) (by decide)
  have t31 := hT 31 (by decide) (by decide)
  have t32 := hT 32 (by decide) (by decide)
  have t33 := hT 33 (by decide) (by decide)
  have t34 := hT 34 (by decide) (by decide)
  refine v_aload_n dX10_gainBy_14 rfl ?_
  refine v_rgj 32 hM t32 fl_X10_243 rfl dX10_gainBy_15 ?_
  exact v_lret dX10_gainBy_18 rfl (Nat.le_refl _) (Nat.le_refl _) (⟨_, _, by rw [go_best hw hn hf hb hi hd]; rfl, hM, hF, hX, hA, hBG⟩)
theorem K10_bestOf {σ : SaleT} {f : Int → Int → Int} {n i : Nat} {d : Int} (hM : RS G M x a) (hBG : BG σ k x a f (n + 1) (sLe σ) (sWy σ)) (hk : 0 ≤ k ∧ k < 8) (hw : wfS σ) (hf : fBd f (n + 1) (sSg σ)) (hn : n ≤ 3) (hi : i ≤ n) (hd : 0 ≤ d ∧ d < sSg σ) : Kt l G μX10_bestOf [.ref (sw_al G 70), sw_i k, sw_i (i : Int), sw_i d] M (fun r M' => ∃ x' a', r = some (sw_i (pk (RG σ (shF f i) (pS σ d) n) 60)) ∧ RS G M' x' a' ∧ frR M M' ∧ xfr XB x x' ∧ afr [15, 24, 25] a a' ∧ BG σ k x' a' f (n + 1) (sLe σ) (sWy σ)) := by
  refine KtA.of (by decide +kernel) (Nat.le_of_ble_eq_true rfl) ?_
  have hF : frR M M := frR.rf
  obtain ⟨Zq, hZ⟩ : ∃ Zq : Option Value → sw_M → Prop, Zq = (fun r M' => ∃ x' a', r = some (sw_i (pk (RG σ (shF f i) (pS σ d) n) 60)) ∧ RS G M' x' a' ∧ frR M M' ∧ xfr XB x x' ∧ afr [15, 24, 25] a a' ∧ BG σ k x' a' f (n + 1) (sLe σ) (sWy σ)) := ⟨_, rfl⟩
  rw [← hZ]
  obtain ⟨g, hg⟩ : ∃ g, RG σ (shF f i) (pS σ d) n = g := ⟨_, rfl⟩
  have hgb : ∀ j, 0 ≤ j → j ≤ 60 → sw_rl (g j) := fun j j0 j1 => by rw [← hg]; exact RG_bd hw _ (pS_B hw d) (by omega) j0 j1
  have hpb := pk_bd g
  rw [hg] at hZ
  have loop : ∀ (c j : Nat) (x1 : Nat → Int) (a1 : Nat → Int → Int) (M1 : sw_M), j + c = 60 → RS G M1 x1 a1 → frR M M1 → xfr XB x x1 → afr [15, 24, 25] a a1 → BG σ k x1 a1 f (n + 1) (sLe σ) (sWy σ) → V l G μX10_bestOf sw_E0 (sw_Zq G μX10_bestOf (sw_q0 G Zq)) 16 [(0, .ref (sw_al G 70)), (1, sw_i k), (2, sw_i (i : Int)), (3, sw_i d), (4, sw_i (pk g j)), (5, sw_j (g (pk g j))), (7, sw_i ((j : Int) + 1))] [] M1 0 0 := by
    intro c
    induction c with
    | zero =>
      intro j x1 a1 M1 hj hM hF hx ha hBG
      have e : j = 60 := by omega
      subst e
      refine v_iload dX10_bestOf_16 rfl ?_
      refine v_bipush dX10_bestOf_18 (by decide +kernel) ?_
      refine v_icmp_gt (tgt := 56) dX10_bestOf_20 (by decide) ⟨by omega, by omega⟩ ⟨by omega, by omega⟩ (fun h20 => ?_) (fun h20 => ?_)
      · skip
        refine v_iload dX10_bestOf_56 rfl ?_
        exact v_iret dX10_bestOf_58 rfl (Nat.le_refl _) (Nat.le_refl _) (by rw [hZ]; exact ⟨x1, a1, rfl, hM, hF, hx, ha, hBG⟩)
      · skip
        exfalso; omega
    | succ c ih =>
      intro j x1 a1 M1 hj hM hF hx ha hBG
      have hp := hpb j
      have b1 := hgb (pk g j) (by omega) (by omega)
      have b2 := hgb ((j : Int) + 1) (by omega) (by omega)
      have hst : pk g (j + 1) = if g (pk g j) < g ((j : Int) + 1) then (j : Int) + 1 else pk g j := rfl
      refine v_iload dX10_bestOf_16 rfl ?_
      refine v_bipush dX10_bestOf_18 (by decide +kernel) ?_
      refine v_icmp_gt (tgt := 56) dX10_bestOf_20 (by decide) ⟨by omega, by omega⟩ ⟨by omega, by omega⟩ (fun h20 => ?_) (fun h20 => ?_)
      · skip
        exfalso; omega
      · skip
        refine v_aload_n dX10_bestOf_23 rfl ?_
        refine v_iload_n dX10_bestOf_24 rfl ?_
        refine v_iload_n dX10_bestOf_25 rfl ?_
        refine v_iload_n dX10_bestOf_26 rfl ?_
        refine v_iload dX10_bestOf_27 rfl ?_
        refine v_callV (ci := 10) (K10_gainBy hM hBG hk hw hf hn hi hd (b := (j : Int) + 1) ⟨by omega, by omega⟩) ⟨rfl, rfl⟩ (Nat.le_refl _) (Nat.le_refl _) hM.1 rfl ⟨ml_X10_283, mm_X10_gainBy⟩ ⟨(Nat.le_of_ble_eq_true rfl), (Nat.le_of_ble_eq_true rfl)⟩ mp_X10_gainBy rfl rfl (Nat.le_of_ble_eq_true rfl) dX10_bestOf_29 (fun r M' h => ?_)
        obtain ⟨x2, a2, rfl, hM2, hF2, hx2, ha2, hBG2⟩ := h
        replace hM := hM2
        replace hF := hF.tr hF2
        rw [hg]
        refine v_lstore dX10_bestOf_32 (Nat.le_of_ble_eq_true rfl) ?_
        refine v_lload dX10_bestOf_34 rfl ?_
        refine v_lload dX10_bestOf_36 rfl ?_
        refine v_lcmp_le (tgt := 50) dX10_bestOf_38 dX10_bestOf_39 (by decide) b2 b1 (fun q => ?_) (fun q => ?_)
        · skip
          refine v_iinc dX10_bestOf_50 rfl (Nat.le_of_ble_eq_true rfl) ?_
          refine v_goto (tgt := 16) dX10_bestOf_53 (by decide) ?_
          refine v_to (ih (j + 1) x2 a2 _ (by omega) hM hF (hx.tr hx2 (fun t h => h) (fun t h => h)) (ha.tr ha2 (fun t h => h) (fun t h => h)) hBG2) rfl ?_
          rw [hst, if_neg (by omega)]
          exact sw_h1 rfl (sw_h1 rfl (sw_h1 rfl (sw_h1 rfl (sw_h1 rfl (sw_h1 rfl (sw_h1 rfl sw_h0))))))
        · skip
          refine v_iload dX10_bestOf_42 rfl ?_
          refine v_istore dX10_bestOf_44 (Nat.le_of_ble_eq_true rfl) ?_
          refine v_lload dX10_bestOf_46 rfl ?_
          refine v_lstore dX10_bestOf_48 (Nat.le_of_ble_eq_true rfl) ?_
          refine v_iinc dX10_bestOf_50 rfl (Nat.le_of_ble_eq_true rfl) ?_
          refine v_goto (tgt := 16) dX10_bestOf_53 (by decide) ?_
          refine v_to (ih (j + 1) x2 a2 _ (by omega) hM hF (hx.tr hx2 (fun t h => h) (fun t h => h)) (ha.tr ha2 (fun t h => h) (fun t h => h)) hBG2) rfl ?_
          rw [hst, if_pos (by omega)]
          exact sw_h1 rfl (sw_h1 rfl (sw_h1 rfl (sw_h1 rfl (sw_h1 rfl (sw_h1 rfl (sw_h1 rfl sw_h0))))))
  refine v_iconst dX10_bestOf_0 ?_
  refine v_istore dX10_bestOf_1 (Nat.le_of_ble_eq_true rfl) ?_
  refine v_aload_n dX10_bestOf_3 rfl ?_
  refine v_iload_n dX10_bestOf_4 rfl ?_
  refine v_iload_n dX10_bestOf_5 rfl ?_
  refine v_iload_n dX10_bestOf_6 rfl ?_
  refine v_iconst dX10_bestOf_7 ?_
  refine v_callV (ci := 10) (K10_gainBy hM hBG hk hw hf hn hi hd (b := 0) ⟨by omega, by omega⟩) ⟨rfl, rfl⟩ (Nat.le_refl _) (Nat.le_refl _) hM.1 rfl ⟨ml_X10_283, mm_X10_gainBy⟩ ⟨(Nat.le_of_ble_eq_true rfl), (Nat.le_of_ble_eq_true rfl)⟩ mp_X10_gainBy rfl rfl (Nat.le_of_ble_eq_true rfl) dX10_bestOf_8 (fun r M' h => ?_)
  obtain ⟨x2, a2, rfl, hM2, hF2, hx2, ha2, hBG2⟩ := h
  replace hM := hM2
  replace hF := hF.tr hF2
  rw [hg]
  refine v_lstore dX10_bestOf_11 (Nat.le_of_ble_eq_true rfl) ?_
  refine v_iconst dX10_bestOf_13 ?_
  refine v_istore dX10_bestOf_14 (Nat.le_of_ble_eq_true rfl) ?_
  exact v_to (loop 60 0 x2 a2 _ (by omega) hM hF hx2 ha2 hBG2) rfl (sw_h1 rfl (sw_h1 rfl (sw_h1 rfl (sw_h1 rfl (sw_h1 rfl (sw_h1 rfl (sw_h1 rfl sw_h0)))))))
theorem R9_best {seat sign : Int} (hI : InvR G M s) (hs : stOK s) (hk : isS s k) (hp : (0 ≤ seat ∧ seat < sNb (sl s k)) ∧ 0 ≤ sign ∧ sign < sSg (sl s k)) : Kt l G μX10_best [.ref (sw_al G 70), sw_i k, sw_i seat, sw_i sign] M (fun r M' => r = some (sw_i (pk (RG (sl s k) (oF (sl s k) (qT s) (qB s) seat) (pS (sl s k) sign) (sNb (sl s k) - 1).toNat) 60)) ∧ InvR G M' s ∧ frR M M') := by
  refine KtA.of (by decide +kernel) (Nat.le_of_ble_eq_true rfl) ?_
  have hF : frR M M := frR.rf
  obtain ⟨x, a, hM, hRI⟩ := hI
  have hw := hs.sale hk
  have hnb := hw.2.2.1
  have hsg := hw.1
  have hns : qN s ≤ 8 := hs.2.1
  obtain ⟨hk0, hk1⟩ := id hk
  have hX : xfr XL x x := xfr.rf
  have hA : afr AL a a := afr.rf
  obtain ⟨p1, p2⟩ := hp
  obtain ⟨i, rfl⟩ : ∃ i : Nat, seat = (i : Int) := ⟨seat.toNat, by omega⟩
  obtain ⟨n, hn⟩ : ∃ n : Nat, (sNb (sl s k) - 1).toNat = n := ⟨_, rfl⟩
  rw [hn]
  have hn1 : (sNb (sl s k)).toNat = n + 1 := by omega
  have hf := bF_fBd hw hs.c (-1) (n + 1)
  refine v_aload_n dX10_best_0 rfl ?_
  refine v_iload_n dX10_best_1 rfl ?_
  refine v_iload_n dX10_best_2 rfl ?_
  refine v_callV (ci := 10) (K10_isSeat hM hRI.2.2.1 ⟨by omega, by omega⟩ (nb := sNb (sl s k)) (fun _ => (hRI.row hk).2.2.1) ⟨by omega, by omega⟩ ⟨by omega, by omega⟩ ⟨by omega, by omega⟩) ⟨rfl, rfl⟩ (Nat.le_refl _) (Nat.le_refl _) hM.1 rfl ⟨ml_X10_196, mm_X10_isSeat⟩ ⟨(Nat.le_of_ble_eq_true rfl), (Nat.le_of_ble_eq_true rfl)⟩ mp_X10_isSeat rfl rfl (Nat.le_of_ble_eq_true rfl) dX10_best_3 (fun r M' h => ?_)
  obtain ⟨rfl, rfl⟩ := h
  refine v_ifb_eq (tgt := 18) dX10_best_6 (by decide) (fun q0 => ?_) (fun q0 => ?_)
  · skip
    exact (q0 ⟨hk, p1⟩).elim
  · skip
    refine v_aload_n dX10_best_9 rfl ?_
    refine v_iload_n dX10_best_10 rfl ?_
    refine v_iload_n dX10_best_11 rfl ?_
    refine v_callV (ci := 10) (K10_isSign hM (hRI.row hk).1 ⟨by omega, by omega⟩ ⟨by omega, by omega⟩ ⟨by omega, by omega⟩) ⟨rfl, rfl⟩ (Nat.le_refl _) (Nat.le_refl _) hM.1 rfl ⟨ml_X10_162, mm_X10_isSign⟩ ⟨(Nat.le_of_ble_eq_true rfl), (Nat.le_of_ble_eq_true rfl)⟩ mp_X10_isSign rfl rfl (Nat.le_of_ble_eq_true rfl) dX10_best_12 (fun r M' h => ?_)
    obtain ⟨rfl, rfl⟩ := h
    refine v_ifb_ne (tgt := 20) dX10_best_15 (by decide) (fun h15 => ?_) (fun h15 => ?_)
    · skip
      refine v_aload_n dX10_best_20 rfl ?_
      refine v_iload_n dX10_best_21 rfl ?_
      refine v_callV (ci := 10) (K10_bg hM (hRI.fr hX hA) hs hk) ⟨rfl, rfl⟩ (Nat.le_refl _) (Nat.le_refl _) hM.1 rfl ⟨ml_X10_199, mm_X10_begin⟩ ⟨(Nat.le_of_ble_eq_true rfl), (Nat.le_of_ble_eq_true rfl)⟩ mp_X10_begin rfl rfl (Nat.le_of_ble_eq_true rfl) dX10_best_22 (fun r M' h => ?_)
      obtain ⟨x2, a2, rfl, hM2, hF2, hx2, ha2, hBG⟩ := h
      replace hM := hM2
      replace hF := hF.tr hF2
      replace hX := hX.tr hx2 (fun t h => h) (by decide)
      replace hA := hA.tr ha2 (fun t h => h) (by decide)
      rw [hn1] at hBG
      refine v_aload_n dX10_best_25 rfl ?_
      refine v_iload_n dX10_best_26 rfl ?_
      refine v_iload_n dX10_best_27 rfl ?_
      refine v_iload_n dX10_best_28 rfl ?_
      refine v_callV (ci := 10) (K10_bestOf hM hBG ⟨hk0, by omega⟩ hw hf (by omega) (by omega) p2) ⟨rfl, rfl⟩ (Nat.le_refl _) (Nat.le_refl _) hM.1 rfl ⟨ml_X10_287, mm_X10_bestOf⟩ ⟨(Nat.le_of_ble_eq_true rfl), (Nat.le_of_ble_eq_true rfl)⟩ mp_X10_bestOf rfl rfl (Nat.le_of_ble_eq_true rfl) dX10_best_29 (fun r M' h => ?_)
      obtain ⟨x4, a4, rfl, hM4, hF4, hx4, ha4, -⟩ := h
      exact v_iret dX10_best_32 rfl (Nat.le_refl _) (Nat.le_refl _) (⟨rfl, ⟨_, _, hM4, hRI.fr (hX.tr hx4 (fun t h => h) (by decide)) (hA.tr ha4 (fun t h => h) (by decide))⟩, hF.tr hF4⟩)
    · skip
      exact absurd p2 (by assumption)
theorem R9_bestX {seat sign : Int} (hI : InvR G M s) (hs : stOK s) (g0 : sw_rg k) (g1 : sw_rg seat) (g2 : sw_rg sign) (hp : ¬ (isS s k ∧ (0 ≤ seat ∧ seat < sNb (sl s k)) ∧ 0 ≤ sign ∧ sign < sSg (sl s k))) : Kt l G μX10_best [.ref (sw_al G 70), sw_i k, sw_i seat, sw_i sign] M (fun r M' => r = some (sw_i (-1)) ∧ InvR G M' s ∧ frR M M') := by
  refine KtA.of (by decide +kernel) (Nat.le_of_ble_eq_true rfl) ?_
  obtain ⟨x, a, hM, hRI⟩ := hI
  have hns : qN s ≤ 8 := hs.2.1
  by_cases hk : isS s k
  · have hw := hs.sale hk
    have hnb := hw.2.2.1
    have hsg := hw.1
    obtain ⟨hk0, hk1⟩ := id hk
    refine v_aload_n dX10_best_0 rfl ?_
    refine v_iload_n dX10_best_1 rfl ?_
    refine v_iload_n dX10_best_2 rfl ?_
    refine v_callV (ci := 10) (K10_isSeat hM hRI.2.2.1 ⟨by omega, by omega⟩ (nb := sNb (sl s k)) (fun _ => (hRI.row hk).2.2.1) ⟨by omega, by omega⟩ g0 g1) ⟨rfl, rfl⟩ (Nat.le_refl _) (Nat.le_refl _) hM.1 rfl ⟨ml_X10_196, mm_X10_isSeat⟩ ⟨(Nat.le_of_ble_eq_true rfl), (Nat.le_of_ble_eq_true rfl)⟩ mp_X10_isSeat rfl rfl (Nat.le_of_ble_eq_true rfl) dX10_best_3 (fun r M' h => ?_)
    obtain ⟨rfl, rfl⟩ := h
    refine v_ifb_eq (tgt := 18) dX10_best_6 (by decide) (fun q1 => ?_) (fun q1 => ?_)
    · skip
      refine v_iconst dX10_best_18 ?_
      exact v_iret dX10_best_19 rfl (Nat.le_refl _) (Nat.le_refl _) (⟨rfl, ⟨_, _, hM, hRI⟩, frR.rf⟩)
    · skip
      refine v_aload_n dX10_best_9 rfl ?_
      refine v_iload_n dX10_best_10 rfl ?_
      refine v_iload_n dX10_best_11 rfl ?_
      refine v_callV (ci := 10) (K10_isSign hM (hRI.row hk).1 ⟨by omega, by omega⟩ ⟨by omega, by omega⟩ g2) ⟨rfl, rfl⟩ (Nat.le_refl _) (Nat.le_refl _) hM.1 rfl ⟨ml_X10_162, mm_X10_isSign⟩ ⟨(Nat.le_of_ble_eq_true rfl), (Nat.le_of_ble_eq_true rfl)⟩ mp_X10_isSign rfl rfl (Nat.le_of_ble_eq_true rfl) dX10_best_12 (fun r M' h => ?_)
      obtain ⟨rfl, rfl⟩ := h
      refine v_ifb_ne (tgt := 20) dX10_best_15 (by decide) (fun q2 => ?_) (fun q2 => ?_)
      · skip
        exact absurd ⟨hk, q1.2, q2⟩ hp
      · skip
        refine v_iconst dX10_best_18 ?_
        exact v_iret dX10_best_19 rfl (Nat.le_refl _) (Nat.le_refl _) (⟨rfl, ⟨_, _, hM, hRI⟩, frR.rf⟩)
  · skip
    refine v_aload_n dX10_best_0 rfl ?_
    refine v_iload_n dX10_best_1 rfl ?_
    refine v_iload_n dX10_best_2 rfl ?_
    refine v_callV (ci := 10) (K10_isSeat hM hRI.2.2.1 ⟨by omega, by omega⟩ (nb := 0) (fun h => absurd h hk) ⟨by omega, by omega⟩ g0 g1) ⟨rfl, rfl⟩ (Nat.le_refl _) (Nat.le_refl _) hM.1 rfl ⟨ml_X10_196, mm_X10_isSeat⟩ ⟨(Nat.le_of_ble_eq_true rfl), (Nat.le_of_ble_eq_true rfl)⟩ mp_X10_isSeat rfl rfl (Nat.le_of_ble_eq_true rfl) dX10_best_3 (fun r M' h => ?_)
    obtain ⟨rfl, rfl⟩ := h
    refine v_ifb_eq (tgt := 18) dX10_best_6 (by decide) (fun q1 => ?_) (fun q1 => ?_)
    · skip
      refine v_iconst dX10_best_18 ?_
      exact v_iret dX10_best_19 rfl (Nat.le_refl _) (Nat.le_refl _) (⟨rfl, ⟨_, _, hM, hRI⟩, frR.rf⟩)
    · skip
      exact absurd q1.1 hk
theorem R9_judge (hI : InvR G M s) (hs : stOK s) (hk : isS s k) : Kt l G μX10_judge [.ref (sw_al G 70), sw_i k] M (fun r M' => r = some (sw_i (jdO (jdB (sl s k) (qT s) (qB s)) (sSg (sl s k)).toNat (sNb (sl s k)).toNat 0)) ∧ InvR G M' s ∧ frR M M') := by
  refine KtA.of (by decide +kernel) (Nat.le_of_ble_eq_true rfl) ?_
  have hF : frR M M := frR.rf
  obtain ⟨x, a, hM, hRI⟩ := hI
  have hw := hs.sale hk
  have hnb := hw.2.2.1
  have hsg := hw.1
  have hns : qN s ≤ 8 := hs.2.1
  obtain ⟨hk0, hk1⟩ := id hk
  have hX : xfr XL x x := xfr.rf
  have hA : afr AL a a := afr.rf
  obtain ⟨σ, hσ⟩ : ∃ σ, sl s k = σ := ⟨_, rfl⟩
  obtain ⟨n, hn⟩ : ∃ n : Nat, (sNb σ - 1).toNat = n := ⟨_, rfl⟩
  have hn1 : (sNb σ).toNat = n + 1 := by rw [hσ] at hnb; omega
  have hf := bF_fBd hw hs.c (-1) (n + 1)
  have hbg := hs.c
  obtain ⟨Zq, hZ⟩ : ∃ Zq : Option Value → sw_M → Prop, Zq = (fun r M' => r = some (sw_i (jdO (jdB (sl s k) (qT s) (qB s)) (sSg (sl s k)).toNat (sNb (sl s k)).toNat 0)) ∧ InvR G M' s ∧ frR M M') := ⟨_, rfl⟩
  rw [← hZ]
  rw [hσ] at hw hf hnb hsg hZ
  have outer : ∀ (c p : Nat) (x1 : Nat → Int) (a1 : Nat → Int → Int) (M1 : sw_M), p + c = n + 1 → jdO (jdB σ (qT s) (qB s)) (sSg σ).toNat (sNb σ).toNat 0 = jdO (jdB σ (qT s) (qB s)) (sSg σ).toNat c p → RS G M1 x1 a1 → frR M M1 → xfr XL x x1 → afr AL a a1 → BG σ k x1 a1 (bF σ (qT s) (qB s) (-1)) (n + 1) (sLe σ) (sWy σ) → V l G μX10_judge sw_E0 (sw_Zq G μX10_judge (sw_q0 G Zq)) 17 [(0, .ref (sw_al G 70)), (1, sw_i k), (2, sw_i (p : Int))] [] M1 0 0 := by
    intro c
    induction c with
    | zero =>
      intro p x1 a1 M1 hp hJ hM hF hx ha hBG
      have g21 := hBG.2.1
      refine v_iload_n dX10_judge_17 rfl ?_
      refine v_aload_n dX10_judge_18 rfl ?_
      refine v_rgi 21 hM g21 fl_X10_176 rfl dX10_judge_19 ?_
      refine v_icmp_ge (tgt := 95) dX10_judge_22 (by decide) ⟨by omega, by omega⟩ ⟨by omega, by omega⟩ (fun h22 => ?_) (fun h22 => ?_)
      · skip
        refine v_iconst dX10_judge_95 ?_
        exact v_iret dX10_judge_96 rfl (Nat.le_refl _) (Nat.le_refl _) (by rw [hZ]; exact ⟨by rw [hJ]; rfl, ⟨x1, a1, hM, hRI.fr hx ha⟩, hF⟩)
      · skip
        exfalso; omega
    | succ c ih =>
      intro p x1 a1 M1 hp hJ hM hF hx ha hBG
      have inner : ∀ (c2 i : Nat) (x1 : Nat → Int) (a1 : Nat → Int → Int) (M1 : sw_M), (i : Int) + c2 = sSg σ → jdN (jdB σ (qT s) (qB s)) p (sSg σ).toNat 0 = jdN (jdB σ (qT s) (qB s)) p c2 i → RS G M1 x1 a1 → frR M M1 → xfr XL x x1 → afr AL a a1 → BG σ k x1 a1 (bF σ (qT s) (qB s) (-1)) (n + 1) (sLe σ) (sWy σ) → V l G μX10_judge sw_E0 (sw_Zq G μX10_judge (sw_q0 G Zq)) 27 [(0, .ref (sw_al G 70)), (1, sw_i k), (2, sw_i (p : Int)), (3, sw_i (i : Int))] [] M1 0 0 := by
        intro c2
        induction c2 with
        | zero =>
          intro i x1 a1 M1 hi hN hM hF hx ha hBG
          have g5 : a1 5 k = sSg σ := hBG.1.1
          have hz : jdN (jdB σ (qT s) (qB s)) p (sSg σ).toNat 0 = -1 := hN
          refine v_iload_n dX10_judge_27 rfl ?_
          refine v_aload_n dX10_judge_28 rfl ?_
          refine v_getfH 5 hM.1 fl_X10_13 rfl dX10_judge_29 ?_
          refine v_iload_n dX10_judge_32 rfl ?_
          refine v_ria hM ar_5 (by omega) (by omega) g5 dX10_judge_33 ?_
          refine v_icmp_ge (tgt := 89) dX10_judge_34 (by decide) ⟨by omega, by omega⟩ ⟨by omega, by omega⟩ (fun h34 => ?_) (fun h34 => ?_)
          · skip
            refine v_iinc dX10_judge_89 rfl (Nat.le_of_ble_eq_true rfl) ?_
            refine v_goto (tgt := 17) dX10_judge_92 (by decide) ?_
            refine v_to (ih (p + 1) x1 a1 M1 (by omega) ?_ hM hF hx ha hBG) rfl (sw_h1 rfl (sw_h1 rfl (sw_h1 rfl sw_h0)))
            rw [hJ]
            show (if jdN (jdB σ (qT s) (qB s)) p (sSg σ).toNat 0 = -1 then _ else _) = _
            rw [if_pos hz]; rfl
          · skip
            exfalso; omega
        | succ c2 ih2 =>
          intro i x1 a1 M1 hi hN hM hF hx ha hBG
          have g5 : a1 5 k = sSg σ := hBG.1.1
          have g20 : a1 20 (5 * (p : Int) + i) = bdF σ (qT s) (qB s) p i (-1) := hBG.2.2.2.2 p i (by omega) (by omega) (by omega) (by omega)
          have hbd := bdF_bd hw hbg (seat := (p : Int)) (k := (i : Int)) (-1) ⟨by omega, by omega⟩
          obtain ⟨g, hg⟩ : ∃ g, RG σ (oF σ (qT s) (qB s) p) (pS σ i) n = g := ⟨_, rfl⟩
          have hg' : RG σ (shF (bF σ (qT s) (qB s) (-1)) p) (pS σ i) n = g := hg
          have hgb : ∀ j, 0 ≤ j → j ≤ 60 → sw_rl (g j) := fun j j0 j1 => by rw [← hg]; exact RG_bd hw _ (pS_B hw i) (by omega) j0 j1
          have hpk := pk_bd g 60
          have hmx := pk_max g 60 (bdF σ (qT s) (qB s) p i (-1)) hbd.1 hbd.2
          have hB : jdB σ (qT s) (qB s) p i = decide (g (bdF σ (qT s) (qB s) p i (-1)) = g (pk g 60)) := by
            unfold jdB; rw [hn, hg]
          have hst : jdN (jdB σ (qT s) (qB s)) p (c2 + 1) i = if jdB σ (qT s) (qB s) p i = true then jdN (jdB σ (qT s) (qB s)) p c2 ((i : Int) + 1) else 10 * (p : Int) + i := rfl
          rw [hst, hB] at hN
          refine v_iload_n dX10_judge_27 rfl ?_
          refine v_aload_n dX10_judge_28 rfl ?_
          refine v_getfH 5 hM.1 fl_X10_13 rfl dX10_judge_29 ?_
          refine v_iload_n dX10_judge_32 rfl ?_
          refine v_ria hM ar_5 (by omega) (by omega) g5 dX10_judge_33 ?_
          refine v_icmp_ge (tgt := 89) dX10_judge_34 (by decide) ⟨by omega, by omega⟩ ⟨by omega, by omega⟩ (fun h34 => ?_) (fun h34 => ?_)
          · skip
            exfalso; omega
          · skip
            refine v_aload_n dX10_judge_37 rfl ?_
            refine v_iload_n dX10_judge_38 rfl ?_
            refine v_iload_n dX10_judge_39 rfl ?_
            refine v_iload_n dX10_judge_40 rfl ?_
            refine v_aload_n dX10_judge_41 rfl ?_
            refine v_getfH 20 hM.1 fl_X10_46 rfl dX10_judge_42 ?_
            refine v_iconst dX10_judge_45 ?_
            refine v_iload_n dX10_judge_46 rfl ?_
            refine v_imul dX10_judge_47 ?_
            refine v_iload_n dX10_judge_48 rfl ?_
            refine v_iadd dX10_judge_49 ?_
            refine v_ria hM ar_20 (by omega) (by omega) g20 dX10_judge_50 ?_
            refine v_callV (ci := 10) (K10_gainBy hM hBG ⟨hk0, by omega⟩ hw hf (by omega) (by omega) (d := (i : Int)) ⟨by omega, by omega⟩ hbd) ⟨rfl, rfl⟩ (Nat.le_refl _) (Nat.le_refl _) hM.1 rfl ⟨ml_X10_283, mm_X10_gainBy⟩ ⟨(Nat.le_of_ble_eq_true rfl), (Nat.le_of_ble_eq_true rfl)⟩ mp_X10_gainBy rfl rfl (Nat.le_of_ble_eq_true rfl) dX10_judge_51 (fun r M' h => ?_)
            obtain ⟨x2, a2, rfl, hM2, hF2, hx2, ha2, hBG2⟩ := h
            replace hM := hM2
            replace hF := hF.tr hF2
            rw [hg']
            refine v_lstore dX10_judge_54 (Nat.le_of_ble_eq_true rfl) ?_
            refine v_lload dX10_judge_56 rfl ?_
            refine v_aload_n dX10_judge_58 rfl ?_
            refine v_iload_n dX10_judge_59 rfl ?_
            refine v_iload_n dX10_judge_60 rfl ?_
            refine v_iload_n dX10_judge_61 rfl ?_
            refine v_aload_n dX10_judge_62 rfl ?_
            refine v_iload_n dX10_judge_63 rfl ?_
            refine v_iload_n dX10_judge_64 rfl ?_
            refine v_iload_n dX10_judge_65 rfl ?_
            refine v_callV (ci := 10) (K10_bestOf hM hBG2 ⟨hk0, by omega⟩ hw hf (by omega) (by omega) (d := (i : Int)) ⟨by omega, by omega⟩) ⟨rfl, rfl⟩ (Nat.le_refl _) (Nat.le_refl _) hM.1 rfl ⟨ml_X10_287, mm_X10_bestOf⟩ ⟨(Nat.le_of_ble_eq_true rfl), (Nat.le_of_ble_eq_true rfl)⟩ mp_X10_bestOf rfl rfl (Nat.le_of_ble_eq_true rfl) dX10_judge_66 (fun r M' h => ?_)
            obtain ⟨x3, a3, rfl, hM3, hF3, hx3, ha3, hBG3⟩ := h
            replace hM := hM3
            replace hF := hF.tr hF3
            rw [hg']
            refine v_callV (ci := 10) (K10_gainBy hM hBG3 ⟨hk0, by omega⟩ hw hf (by omega) (by omega) (d := (i : Int)) ⟨by omega, by omega⟩ (b := pk g 60) ⟨by omega, by omega⟩) ⟨rfl, rfl⟩ (Nat.le_refl _) (Nat.le_refl _) hM.1 rfl ⟨ml_X10_283, mm_X10_gainBy⟩ ⟨(Nat.le_of_ble_eq_true rfl), (Nat.le_of_ble_eq_true rfl)⟩ mp_X10_gainBy rfl rfl (Nat.le_of_ble_eq_true rfl) dX10_judge_69 (fun r M' h => ?_)
            obtain ⟨x4, a4, rfl, hM4, hF4, hx4, ha4, hBG4⟩ := h
            replace hM := hM4
            replace hF := hF.tr hF4
            rw [hg']
            have hX4 := ((hx.tr hx2 (fun t h => h) (by decide)).tr hx3 (fun t h => h) (by decide)).tr hx4 (fun t h => h) (by decide)
            have hA4 := ((ha.tr ha2 (fun t h => h) (by decide)).tr ha3 (fun t h => h) (by decide)).tr ha4 (fun t h => h) (by decide)
            refine v_lcmp_ge (tgt := 83) dX10_judge_72 dX10_judge_73 (by decide) (hgb _ hbd.1 hbd.2) (hgb _ (by omega) (by omega)) (fun q => ?_) (fun q => ?_)
            · skip
              refine v_iinc dX10_judge_83 rfl (Nat.le_of_ble_eq_true rfl) ?_
              refine v_goto (tgt := 27) dX10_judge_86 (by decide) ?_
              refine v_to (ih2 (i + 1) x4 a4 _ (by omega) ?_ hM hF hX4 hA4 hBG4) rfl (sw_h1 rfl (sw_h1 rfl (sw_h1 rfl (sw_h1 rfl sw_h0))))
              rw [hN, if_pos (decide_eq_true (by omega))]; rfl
            · skip
              refine v_bipush dX10_judge_76 (by decide +kernel) ?_
              refine v_iload_n dX10_judge_78 rfl ?_
              refine v_imul dX10_judge_79 ?_
              refine v_iload_n dX10_judge_80 rfl ?_
              refine v_iadd dX10_judge_81 ?_
              refine v_iret dX10_judge_82 rfl (Nat.le_refl _) (Nat.le_refl _) ?_
              skip
              rw [hZ]
              refine ⟨?_, ⟨x4, a4, hM, hRI.fr hX4 hA4⟩, hF⟩
              have e1 : ¬ decide (g (bdF σ (qT s) (qB s) p i (-1)) = g (pk g 60)) = true := by rw [decide_eq_false (by omega)]; exact Bool.false_ne_true
              rw [if_neg e1] at hN
              rw [hJ]
              show _ = some (sw_i (if jdN (jdB σ (qT s) (qB s)) p (sSg σ).toNat 0 = -1 then _ else jdN (jdB σ (qT s) (qB s)) p (sSg σ).toNat 0))
              rw [hN, if_neg (by omega)]
      have g21 := hBG.2.1
      refine v_iload_n dX10_judge_17 rfl ?_
      refine v_aload_n dX10_judge_18 rfl ?_
      refine v_rgi 21 hM g21 fl_X10_176 rfl dX10_judge_19 ?_
      refine v_icmp_ge (tgt := 95) dX10_judge_22 (by decide) ⟨by omega, by omega⟩ ⟨by omega, by omega⟩ (fun h22 => ?_) (fun h22 => ?_)
      · skip
        exfalso; omega
      · skip
        refine v_iconst dX10_judge_25 ?_
        refine v_istore_n dX10_judge_26 (Nat.le_of_ble_eq_true rfl) ?_
        exact v_to (inner (sSg σ).toNat 0 x1 a1 M1 (by omega) rfl hM hF hx ha hBG) rfl (sw_h1 rfl (sw_h1 rfl (sw_h1 rfl (sw_h1 rfl sw_h0))))
  refine v_aload_n dX10_judge_0 rfl ?_
  refine v_iload_n dX10_judge_1 rfl ?_
  refine v_callV (ci := 10) (K10_isSale hM hRI.2.2.1 ⟨by omega, by omega⟩ ⟨by omega, by omega⟩) ⟨rfl, rfl⟩ (Nat.le_refl _) (Nat.le_refl _) hM.1 rfl ⟨ml_X10_129, mm_X10_isSale⟩ ⟨(Nat.le_of_ble_eq_true rfl), (Nat.le_of_ble_eq_true rfl)⟩ mp_X10_isSale rfl rfl (Nat.le_of_ble_eq_true rfl) dX10_judge_2 (fun r M' h => ?_)
  obtain ⟨rfl, rfl⟩ := h
  refine v_ifb_ne (tgt := 10) dX10_judge_5 (by decide) (fun h5 => ?_) (fun h5 => ?_)
  · skip
    refine v_aload_n dX10_judge_10 rfl ?_
    refine v_iload_n dX10_judge_11 rfl ?_
    refine v_callV (ci := 10) (K10_bg hM (hRI.fr hX hA) hs hk) ⟨rfl, rfl⟩ (Nat.le_refl _) (Nat.le_refl _) hM.1 rfl ⟨ml_X10_199, mm_X10_begin⟩ ⟨(Nat.le_of_ble_eq_true rfl), (Nat.le_of_ble_eq_true rfl)⟩ mp_X10_begin rfl rfl (Nat.le_of_ble_eq_true rfl) dX10_judge_12 (fun r M' h => ?_)
    obtain ⟨x2, a2, rfl, hM2, hF2, hx2, ha2, hBG⟩ := h
    replace hM := hM2
    replace hF := hF.tr hF2
    replace hX := hX.tr hx2 (fun t h => h) (by decide)
    replace hA := hA.tr ha2 (fun t h => h) (by decide)
    rw [hσ, hn1] at hBG
    refine v_iconst dX10_judge_15 ?_
    refine v_istore_n dX10_judge_16 (Nat.le_of_ble_eq_true rfl) ?_
    exact v_to (outer (n + 1) 0 x2 a2 _ (by omega) (by rw [hn1]; rfl) hM hF hX hA hBG) rfl (sw_h1 rfl (sw_h1 rfl (sw_h1 rfl sw_h0)))
  · skip
    exact absurd hk (by assumption)
theorem R9_judgeN (hI : InvR G M s) (hs : stOK s) (hk : ¬ isS s k) (hg : sw_rg k) : Kt l G μX10_judge [.ref (sw_al G 70), sw_i k] M (fun r M' => r = some (sw_i (-1)) ∧ InvR G M' s ∧ frR M M') := by
  refine KtA.of (by decide +kernel) (Nat.le_of_ble_eq_true rfl) ?_
  obtain ⟨x, a, hM, hRI⟩ := hI
  have hns : qN s ≤ 8 := hs.2.1
  refine v_aload_n dX10_judge_0 rfl ?_
  refine v_iload_n dX10_judge_1 rfl ?_
  refine v_callV (ci := 10) (K10_isSale hM hRI.2.2.1 ⟨by omega, by omega⟩ hg) ⟨rfl, rfl⟩ (Nat.le_refl _) (Nat.le_refl _) hM.1 rfl ⟨ml_X10_129, mm_X10_isSale⟩ ⟨(Nat.le_of_ble_eq_true rfl), (Nat.le_of_ble_eq_true rfl)⟩ mp_X10_isSale rfl rfl (Nat.le_of_ble_eq_true rfl) dX10_judge_2 (fun r M' h => ?_)
  obtain ⟨rfl, rfl⟩ := h
  refine v_ifb_ne (tgt := 10) dX10_judge_5 (by decide) (fun h5 => ?_) (fun h5 => ?_)
  · skip
    exact absurd (by assumption) hk
  · skip
    refine v_iconst dX10_judge_8 ?_
    exact v_iret dX10_judge_9 rfl (Nat.le_refl _) (Nat.le_refl _) (⟨rfl, ⟨_, _, hM, hRI⟩, frR.rf⟩)
end

