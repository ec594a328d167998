/-! the reference's face: bids, cases, gain, won, less -/
/-- the reference has begun a sale; it has been asked -/
def BG (σ : SaleT) (k : Int) (x : Nat → Int) (a : Nat → Int → Int) (f : Int → Int → Int) (m : Nat) (le wy : Int) : Prop := rowR a k σ ∧ x 21 = (m : Int) ∧ x 22 = le ∧ x 23 = wy ∧ rwR a f m (sSg σ)
theorem BG.fr {σ : SaleT} {k : Int} {x x' : Nat → Int} {a a' : Nat → Int → Int} {f : Int → Int → Int} {m : Nat} {le wy : Int} (h : BG σ k x a f m le wy) {L K : List Nat} (hx : xfr L x x') (ha : afr K a a') (h1 : 21 ∉ L ∧ 22 ∉ L ∧ 23 ∉ L) (h2 : (∀ t ∈ [5, 6, 7, 8, 9, 10, 11, 12], t ∉ K) ∧ 20 ∉ K) : BG σ k x' a' f m le wy := by
  refine ⟨h.1.fr ha h2.1, (hx 21 h1.1).trans h.2.1, (hx 22 h1.2.1).trans h.2.2.1, (hx 23 h1.2.2).trans h.2.2.2.1, ?_⟩
  unfold rwR
  rw [ha 20 h2.2]
  exact h.2.2.2.2
def AS (x : Nat → Int) (ask as' ab kn sil : Int) : Prop := x 35 = ask ∧ x 36 = as' ∧ x 37 = ab ∧ x 38 = kn ∧ x 39 = sil ∧ ∀ j : Nat, 28 ≤ j → j ≤ 34 → x j = 0
theorem bF_fBd {σ : SaleT} (hw : wfS σ) {nt : Int} {T : Int → Int} (hc : wfC nt T) (his : Int) (m : Nat) : fBd (bF σ nt T his) m (sSg σ) := fun i k _ _ k0 k1 => bdF_bd hw hc his ⟨k0, by have := hw.1; omega⟩
section
variable {l : Launch} {G : sw_G} {M : sw_M} {s : CSt} {k : Int} {x : Nat → Int} {a : Nat → Int → Int}
theorem K10_bg (hM : RS G M x a) (hRI : RI s x a) (hs : stOK s) (hk : isS s k) : Kt l G μX10_begin [.ref (sw_al G 70), sw_i k] M (fun r M' => ∃ x' a', r = none ∧ RS G M' x' a' ∧ frR M M' ∧ xfr [16, 17, 21, 22, 23] x x' ∧ afr [15, 20] a a' ∧ BG (sl s k) k x' a' (bF (sl s k) (qT s) (qB s) (-1)) (sNb (sl s k)).toNat (sLe (sl s k)) (sWy (sl s k))) :=
  KtA.mono (K10_begin hM hRI hs hk) (fun _ _ _ ⟨h0, x', a', h1, h2, h3, h4, h5, h6, h7, h8, h9⟩ => by
    have hnb := (hs.sale hk).2.2.1
    refine ⟨h0, x', a', h1, h2, h3, h4, h5, (hRI.row hk).fr h5 (by decide), by omega, h7, h8, ?_⟩
    rw [show (((sNb (sl s k)).toNat : Nat) : Int) = sNb (sl s k) by omega]
    exact h9)
theorem K10_ak {p q b : Int} (hM : RS G M x a) : Kt l G μX10_ask [.ref (sw_al G 70), sw_i p, sw_i q, sw_i b] M (fun r M' => ∃ x', r = none ∧ RS G M' x' a ∧ frR M M' ∧ xfr [28, 29, 30, 31, 32, 33, 34, 35, 36, 37, 38, 39] x x' ∧ AS x' p q b (-1) (-1)) :=
  KtA.mono (K10_ask hM) (fun _ _ _ ⟨h0, x', h1, h2, h3, h4, h5, h6, h7, h8, h9, h10⟩ => ⟨h0, x', h1, h2, h3, h4, h5, h6, h7, h8, h9, h10⟩)
theorem K10_go {σ : SaleT} {f : Int → Int → Int} {m : Nat} {le wy ask as' ab kn sil told : Int} (hM : RS G M x a) (hBG : BG σ k x a f m le wy) (hAS : AS x ask as' ab kn sil) (hk : 0 ≤ k ∧ k < 8) (hw : wfS σ) (hf : fBd f m (sSg σ)) (hto : soN σ told) (hm : 1 ≤ m ∧ m ≤ 4) (hle : 0 ≤ le ∧ le ≤ 60) (hwy : 0 ≤ wy ∧ wy ≤ 2) (hask : -1 ≤ ask ∧ ask < (m : Int)) (has : -1 ≤ as' ∧ as' ≤ 4) (hasA : as' ≠ -1 → 0 ≤ ask) (hab : -1 ≤ ab ∧ ab ≤ 60) (hkn : -1 ≤ kn ∧ kn < sTr σ) (hsi : -1 ≤ sil ∧ sil ≤ 1) (hm2 : sil ≠ -1 → 2 ≤ m) : Kt l G μX10_goThrough [.ref (sw_al G 70), sw_i k, sw_i told] M (fun r M' => ∃ x' a', r = none ∧ RS G M' x' a' ∧ frR M M' ∧ xfr [16, 17, 26, 27, 28, 29, 30, 31, 32, 33, 34] x x' ∧ afr [15, 24, 25] a a' ∧ ∀ j, 28 ≤ j → j ≤ 34 → x' j = ms (sSg σ).toNat m (goT σ le wy m f ask as' ab kn sil told j)) :=
  KtA.mono (K10_goThrough hM hBG.1 hk hw hBG.2.1 hBG.2.2.1 hBG.2.2.2.1 hAS.1 hAS.2.1 hAS.2.2.1 hAS.2.2.2.1 hAS.2.2.2.2.1 hm hle hwy hBG.2.2.2.2 hf hask has hasA hab hkn hsi hm2 hto) (fun _ _ _ ⟨h0, x', a', h1, h2, h3, h4, h5, h6⟩ => ⟨h0, x', a', h1, h2, h3, h4, h5, fun j j0 j1 => by rw [h6 j j0 j1, hAS.2.2.2.2.2 j j0 j1]; omega⟩)
theorem R9_bidsN {seat sign : Int} (hI : InvR G M s) (hs : stOK s) (hk : ¬ isS s k) (hg : sw_rg k) (g1 : sw_rg seat) : Kt l G μX10_bids [.ref (sw_al G 70), sw_i k, sw_i seat, sw_i sign] M (fun r M' => r = some (sw_i (-1)) ∧ InvR G M' s ∧ frR M M') := by
  refine KtA.of (by decide +kernel) (Nat.le_of_ble_eq_true rfl) ?_
  obtain ⟨x, a, hM, hRI⟩ := hI
  have hns : qN s ≤ 8 := hs.2.1
  refine v_aload_n dX10_bids_0 rfl ?_
  refine v_iload_n dX10_bids_1 rfl ?_
  refine v_iload_n dX10_bids_2 rfl ?_
  refine v_callV (ci := 10) (K10_isSeat hM hRI.2.2.1 ⟨by omega, by omega⟩ (nb := 0) (fun h => absurd h hk) ⟨by omega, by omega⟩ hg g1) ⟨rfl, rfl⟩ (Nat.le_refl _) (Nat.le_refl _) hM.1 rfl ⟨ml_X10_196, mm_X10_isSeat⟩ ⟨(Nat.le_of_ble_eq_true rfl), (Nat.le_of_ble_eq_true rfl)⟩ mp_X10_isSeat rfl rfl (Nat.le_of_ble_eq_true rfl) dX10_bids_3 (fun r M' h => ?_)
  obtain ⟨rfl, rfl⟩ := h
  refine v_ifb_eq (tgt := 18) dX10_bids_6 (by decide) (fun q1 => ?_) (fun q1 => ?_)
  · skip
    refine v_iconst dX10_bids_18 ?_
    exact v_iret dX10_bids_19 rfl (Nat.le_refl _) (Nat.le_refl _) (⟨rfl, ⟨_, _, hM, hRI⟩, frR.rf⟩)
  · skip
    exact absurd q1.1 hk
theorem R9_cases {w : Int} (hI : InvR G M s) (hs : stOK s) (hk : isS s k) (hg : sw_rg w) : Kt l G μX10_cases [.ref (sw_al G 70), sw_i k, sw_i w] M (fun r M' => r = some (sw_j (if 0 ≤ w ∧ w ≤ 3 then casesF (sl s k) (qT s) (qB s) w else -1)) ∧ InvR G M' s ∧ frR M M') := by
  refine KtA.of (by decide +kernel) (Nat.le_of_ble_eq_true rfl) ?_
  have hF : frR M M := frR.rf
  obtain ⟨x, a, hM, hRI⟩ := hI
  have hw := hs.sale hk
  have hnb := hw.2.2.1
  have htr := hw.2.1
  have hle := hw.2.2.2.1
  have hwy := hw.2.2.2.2.1
  have hns : qN s ≤ 8 := hs.2.1
  obtain ⟨hk0, hk1⟩ := id hk
  have hX : xfr XL x x := xfr.rf
  have hA : afr AL a a := afr.rf
  have hf := bF_fBd hw hs.c (-1) (sNb (sl s k)).toNat
  refine v_aload_n dX10_cases_0 rfl ?_
  refine v_iload_n dX10_cases_1 rfl ?_
  refine v_callV (ci := 10) (K10_isSale hM hRI.2.2.1 ⟨by omega, by omega⟩ ⟨by omega, by omega⟩) ⟨rfl, rfl⟩ (Nat.le_refl _) (Nat.le_refl _) hM.1 rfl ⟨ml_X10_129, mm_X10_isSale⟩ ⟨(Nat.le_of_ble_eq_true rfl), (Nat.le_of_ble_eq_true rfl)⟩ mp_X10_isSale rfl rfl (Nat.le_of_ble_eq_true rfl) dX10_cases_2 (fun r M' h => ?_)
  obtain ⟨rfl, rfl⟩ := h
  refine v_ifb_eq (tgt := 17) dX10_cases_5 (by decide) (fun h5 => ?_) (fun h5 => ?_)
  · skip
    exact absurd hk (by assumption)
  · skip
    refine v_iload_n dX10_cases_8 rfl ?_
    refine v_iconst dX10_cases_9 ?_
    refine v_iconst dX10_cases_10 ?_
    refine v_callS (K10_in (v := w) (lo := 0) (hi := 3) hg ⟨by omega, by omega⟩ ⟨by omega, by omega⟩) ⟨rfl, rfl⟩ (Nat.le_refl _) (Nat.le_refl _) ⟨ml_X10_107, mm_X10_in⟩ ⟨(Nat.le_of_ble_eq_true rfl), (Nat.le_of_ble_eq_true rfl)⟩ mp_X10_in rfl rfl (Nat.le_of_ble_eq_true rfl) dX10_cases_11 (fun r M' h => ?_)
    obtain ⟨rfl, rfl⟩ := h
    refine v_ifb_ne (tgt := 21) dX10_cases_14 (by decide) (fun q => ?_) (fun q => ?_)
    · skip
      refine v_aload_n dX10_cases_21 rfl ?_
      refine v_iload_n dX10_cases_22 rfl ?_
      refine v_callV (ci := 10) (K10_bg hM (hRI.fr hX hA) hs hk) ⟨rfl, rfl⟩ (Nat.le_refl _) (Nat.le_refl _) hM.1 rfl ⟨ml_X10_199, mm_X10_begin⟩ ⟨(Nat.le_of_ble_eq_true rfl), (Nat.le_of_ble_eq_true rfl)⟩ mp_X10_begin rfl rfl (Nat.le_of_ble_eq_true rfl) dX10_cases_23 (fun r M' h => ?_)
      obtain ⟨x2, a2, rfl, hM2, hF2, hx2, ha2, hBG⟩ := h
      replace hM := hM2
      replace hF := hF.tr hF2
      replace hX := hX.tr hx2 (fun t h => h) (by decide)
      replace hA := hA.tr ha2 (fun t h => h) (by decide)
      refine v_aload_n dX10_cases_26 rfl ?_
      refine v_iconst dX10_cases_27 ?_
      refine v_iconst dX10_cases_28 ?_
      refine v_iconst dX10_cases_29 ?_
      refine v_callV (ci := 10) (K10_ak hM) ⟨rfl, rfl⟩ (Nat.le_refl _) (Nat.le_refl _) hM.1 rfl ⟨ml_X10_271, mm_X10_ask⟩ ⟨(Nat.le_of_ble_eq_true rfl), (Nat.le_of_ble_eq_true rfl)⟩ mp_X10_ask rfl rfl (Nat.le_of_ble_eq_true rfl) dX10_cases_30 (fun r M' h => ?_)
      obtain ⟨x3, rfl, hM3, hF3, hx3, hAS⟩ := h
      replace hM := hM3
      replace hF := hF.tr hF3
      replace hX := hX.tr hx3 (fun t h => h) (by decide)
      replace hBG := hBG.fr hx3 afr.rf (K := []) (by decide) (by decide)
      refine v_aload_n dX10_cases_33 rfl ?_
      refine v_iload_n dX10_cases_34 rfl ?_
      refine v_iconst dX10_cases_35 ?_
      refine v_callV (ci := 10) (K10_go hM hBG hAS ⟨hk0, by omega⟩ hw hf (Or.inl rfl) ⟨by omega, by omega⟩ hle hwy ⟨by omega, by omega⟩ ⟨by omega, by omega⟩ (fun _ => by omega) ⟨by omega, by omega⟩ ⟨by omega, by omega⟩ ⟨by omega, by omega⟩ (fun _ => by omega)) ⟨rfl, rfl⟩ (Nat.le_refl _) (Nat.le_refl _) hM.1 rfl ⟨ml_X10_275, mm_X10_goThrough⟩ ⟨(Nat.le_of_ble_eq_true rfl), (Nat.le_of_ble_eq_true rfl)⟩ mp_X10_goThrough rfl rfl (Nat.le_of_ble_eq_true rfl) dX10_cases_36 (fun r M' h => ?_)
      obtain ⟨x4, a4, rfl, hM4, hF4, hx4, ha4, hT⟩ := h
      replace hM := hM4
      replace hF := hF.tr hF4
      replace hX := hX.tr hx4 (fun t h => h) (by decide)
      replace hA := hA.tr ha4 (fun t h => h) (by decide)
      replace hBG := hBG.fr hx4 ha4 (by decide) (by decide)
      have t28 := hT 28 (by decide) (by decide)
      have t29 := hT 29 (by decide) (by decide)
      have t30 := hT 30 (by decide) (by decide)
      have t31 := hT 31 (by decide) (by decide)
      have t32 := hT 32 (by decide) (by decide)
      have t33 := hT 33 (by decide) (by decide)
      have t34 := hT 34 (by decide) (by decide)
      refine v_iload_n dX10_cases_39 rfl ?_
      refine v_if_ne (tgt := 50) dX10_cases_40 (by decide) ⟨by omega, by omega⟩ (fun c0 => ?_) (fun c0 => ?_)
      · skip
        refine v_iload_n dX10_cases_50 rfl ?_
        refine v_iconst dX10_cases_51 ?_
        refine v_icmp_ne (tgt := 62) dX10_cases_52 (by decide) ⟨by omega, by omega⟩ ⟨by omega, by omega⟩ (fun c1 => ?_) (fun c1 => ?_)
        · skip
          refine v_iload_n dX10_cases_62 rfl ?_
          refine v_iconst dX10_cases_63 ?_
          refine v_icmp_ne (tgt := 74) dX10_cases_64 (by decide) ⟨by omega, by omega⟩ ⟨by omega, by omega⟩ (fun c2 => ?_) (fun c2 => ?_)
          · skip
            refine v_aload_n dX10_cases_74 rfl ?_
            refine v_rgj 31 hM t31 fl_X10_240 rfl dX10_cases_75 ?_
            exact v_lret dX10_cases_78 rfl (Nat.le_refl _) (Nat.le_refl _) (⟨by rw [if_pos q]; unfold casesF; rw [if_neg c0, if_neg c1, if_neg c2, go31 hw hf], ⟨_, _, hM, hRI.fr hX hA⟩, hF⟩)
          · skip
            refine v_aload_n dX10_cases_67 rfl ?_
            refine v_rgj 30 hM t30 fl_X10_237 rfl dX10_cases_68 ?_
            refine v_goto (tgt := 78) dX10_cases_71 (by decide) ?_
            exact v_lret dX10_cases_78 rfl (Nat.le_refl _) (Nat.le_refl _) (⟨by rw [if_pos q]; unfold casesF; rw [if_neg c0, if_neg c1, if_pos c2, go30 hw hf], ⟨_, _, hM, hRI.fr hX hA⟩, hF⟩)
        · skip
          refine v_aload_n dX10_cases_55 rfl ?_
          refine v_rgj 29 hM t29 fl_X10_234 rfl dX10_cases_56 ?_
          refine v_goto (tgt := 78) dX10_cases_59 (by decide) ?_
          exact v_lret dX10_cases_78 rfl (Nat.le_refl _) (Nat.le_refl _) (⟨by rw [if_pos q]; unfold casesF; rw [if_neg c0, if_pos c1, go29 hw hf], ⟨_, _, hM, hRI.fr hX hA⟩, hF⟩)
      · skip
        refine v_aload_n dX10_cases_43 rfl ?_
        refine v_rgj 28 hM t28 fl_X10_231 rfl dX10_cases_44 ?_
        refine v_goto (tgt := 78) dX10_cases_47 (by decide) ?_
        exact v_lret dX10_cases_78 rfl (Nat.le_refl _) (Nat.le_refl _) (⟨by rw [if_pos q]; unfold casesF; rw [if_pos c0, go28 hw], ⟨_, _, hM, hRI.fr hX hA⟩, hF⟩)
    · skip
      refine v_ldc2 (z := -1) kl_X10_269 (by decide +kernel) dX10_cases_17 ?_
      exact v_lret dX10_cases_20 rfl (Nat.le_refl _) (Nat.le_refl _) (⟨by rw [if_neg q], ⟨_, _, hM, hRI⟩, frR.rf⟩)
theorem R9_casesN {w : Int} (hI : InvR G M s) (hs : stOK s) (hk : ¬ isS s k) (hg : sw_rg k) : Kt l G μX10_cases [.ref (sw_al G 70), sw_i k, sw_i w] M (fun r M' => r = some (sw_j (-1)) ∧ InvR G M' s ∧ frR M M') := by
  refine KtA.of (by decide +kernel) (Nat.le_of_ble_eq_true rfl) ?_
  obtain ⟨x, a, hM, hRI⟩ := hI
  have hns : qN s ≤ 8 := hs.2.1
  refine v_aload_n dX10_cases_0 rfl ?_
  refine v_iload_n dX10_cases_1 rfl ?_
  refine v_callV (ci := 10) (K10_isSale hM hRI.2.2.1 ⟨by omega, by omega⟩ hg) ⟨rfl, rfl⟩ (Nat.le_refl _) (Nat.le_refl _) hM.1 rfl ⟨ml_X10_129, mm_X10_isSale⟩ ⟨(Nat.le_of_ble_eq_true rfl), (Nat.le_of_ble_eq_true rfl)⟩ mp_X10_isSale rfl rfl (Nat.le_of_ble_eq_true rfl) dX10_cases_2 (fun r M' h => ?_)
  obtain ⟨rfl, rfl⟩ := h
  refine v_ifb_eq (tgt := 17) dX10_cases_5 (by decide) (fun h5 => ?_) (fun h5 => ?_)
  · skip
    refine v_ldc2 (z := -1) kl_X10_269 (by decide +kernel) dX10_cases_17 ?_
    exact v_lret dX10_cases_20 rfl (Nat.le_refl _) (Nat.le_refl _) (⟨rfl, ⟨_, _, hM, hRI⟩, frR.rf⟩)
  · skip
    exact absurd (by assumption) hk
theorem R9_gain {seat : Int} (hI : InvR G M s) (hs : stOK s) (hk : isS s k) (hg : sw_rg seat) : Kt l G μX10_gain [.ref (sw_al G 70), sw_i k, sw_i seat] M (fun r M' => r = some (sw_j (if 0 ≤ seat ∧ seat < sNb (sl s k) then TG (sl s k) (rwF (bF (sl s k) (qT s) (qB s) (-1))) (pS (sl s k) (-1)) (sNb (sl s k)).toNat seat.toNat else -1000000000000000)) ∧ InvR G M' s ∧ frR M M') := by
  refine KtA.of (by decide +kernel) (Nat.le_of_ble_eq_true rfl) ?_
  have hF : frR M M := frR.rf
  obtain ⟨x, a, hM, hRI⟩ := hI
  have hw := hs.sale hk
  have hnb := hw.2.2.1
  have htr := hw.2.1
  have hle := hw.2.2.2.1
  have hwy := hw.2.2.2.2.1
  have hns : qN s ≤ 8 := hs.2.1
  obtain ⟨hk0, hk1⟩ := id hk
  have hX : xfr XL x x := xfr.rf
  have hA : afr AL a a := afr.rf
  have hf := bF_fBd hw hs.c (-1) (sNb (sl s k)).toNat
  refine v_aload_n dX10_gain_0 rfl ?_
  refine v_iload_n dX10_gain_1 rfl ?_
  refine v_iload_n dX10_gain_2 rfl ?_
  refine v_callV (ci := 10) (K10_isSeat hM hRI.2.2.1 ⟨by omega, by omega⟩ (nb := sNb (sl s k)) (fun _ => (hRI.row hk).2.2.1) ⟨by omega, by omega⟩ ⟨by omega, by omega⟩ hg) ⟨rfl, rfl⟩ (Nat.le_refl _) (Nat.le_refl _) hM.1 rfl ⟨ml_X10_196, mm_X10_isSeat⟩ ⟨(Nat.le_of_ble_eq_true rfl), (Nat.le_of_ble_eq_true rfl)⟩ mp_X10_isSeat rfl rfl (Nat.le_of_ble_eq_true rfl) dX10_gain_3 (fun r M' h => ?_)
  obtain ⟨rfl, rfl⟩ := h
  refine v_ifb_ne (tgt := 13) dX10_gain_6 (by decide) (fun q1 => ?_) (fun q1 => ?_)
  · skip
    refine v_aload_n dX10_gain_13 rfl ?_
    refine v_iload_n dX10_gain_14 rfl ?_
    refine v_callV (ci := 10) (K10_bg hM (hRI.fr hX hA) hs hk) ⟨rfl, rfl⟩ (Nat.le_refl _) (Nat.le_refl _) hM.1 rfl ⟨ml_X10_199, mm_X10_begin⟩ ⟨(Nat.le_of_ble_eq_true rfl), (Nat.le_of_ble_eq_true rfl)⟩ mp_X10_begin rfl rfl (Nat.le_of_ble_eq_true rfl) dX10_gain_15 (fun r M' h => ?_)
    obtain ⟨x2, a2, rfl, hM2, hF2, hx2, ha2, hBG⟩ := h
    replace hM := hM2
    replace hF := hF.tr hF2
    replace hX := hX.tr hx2 (fun t h => h) (by decide)
    replace hA := hA.tr ha2 (fun t h => h) (by decide)
    refine v_aload_n dX10_gain_18 rfl ?_
    refine v_iload_n dX10_gain_19 rfl ?_
    refine v_iconst dX10_gain_20 ?_
    refine v_iconst dX10_gain_21 ?_
    refine v_callV (ci := 10) (K10_ak hM) ⟨rfl, rfl⟩ (Nat.le_refl _) (Nat.le_refl _) hM.1 rfl ⟨ml_X10_271, mm_X10_ask⟩ ⟨(Nat.le_of_ble_eq_true rfl), (Nat.le_of_ble_eq_true rfl)⟩ mp_X10_ask rfl rfl (Nat.le_of_ble_eq_true rfl) dX10_gain_22 (fun r M' h => ?_)
    obtain ⟨x3, rfl, hM3, hF3, hx3, hAS⟩ := h
    replace hM := hM3
    replace hF := hF.tr hF3
    replace hX := hX.tr hx3 (fun t h => h) (by decide)
    replace hBG := hBG.fr hx3 afr.rf (K := []) (by decide) (by decide)
    refine v_aload_n dX10_gain_25 rfl ?_
    refine v_iload_n dX10_gain_26 rfl ?_
    refine v_iconst dX10_gain_27 ?_
    refine v_callV (ci := 10) (K10_go hM hBG hAS ⟨hk0, by omega⟩ hw hf (Or.inl rfl) ⟨by omega, by omega⟩ hle hwy ⟨by omega, by omega⟩ ⟨by omega, by omega⟩ (fun _ => by omega) ⟨by omega, by omega⟩ ⟨by omega, by omega⟩ ⟨by omega, by omega⟩ (fun _ => by omega)) ⟨rfl, rfl⟩ (Nat.le_refl _) (Nat.le_refl _) hM.1 rfl ⟨ml_X10_275, mm_X10_goThrough⟩ ⟨(Nat.le_of_ble_eq_true rfl), (Nat.le_of_ble_eq_true rfl)⟩ mp_X10_goThrough rfl rfl (Nat.le_of_ble_eq_true rfl) dX10_gain_28 (fun r M' h => ?_)
    obtain ⟨x4, a4, rfl, hM4, hF4, hx4, ha4, hT⟩ := h
    replace hM := hM4
    replace hF := hF.tr hF4
    replace hX := hX.tr hx4 (fun t h => h) (by decide)
    replace hA := hA.tr ha4 (fun t h => h) (by decide)
    replace hBG := hBG.fr hx4 ha4 (by decide) (by decide)
    have t28 := hT 28 (by decide) (by decide)
    have t29 := hT 29 (by decide) (by decide)
    have t30 := hT 30 (by decide) (by decide)
    have t31 := hT 31 (by decide) (by decide)
    have t32 := hT 32 (by decide) (by decide)
    have t33 := hT 33 (by decide) (by decide)
    have t34 := hT 34 (by decide) (by decide)
    refine v_aload_n dX10_gain_31 rfl ?_
    refine v_rgj 32 hM t32 fl_X10_243 rfl dX10_gain_32 ?_
    refine v_lret dX10_gain_35 rfl (Nat.le_refl _) (Nat.le_refl _) ?_
    skip
    obtain ⟨q11, q12⟩ := q1
    obtain ⟨n, rfl⟩ : ∃ n : Nat, seat = (n : Int) := ⟨seat.toNat, by omega⟩
    rw [if_pos q12, Int.toNat_natCast, go32 hw hf (show n < (sNb (sl s k)).toNat by omega)]
    exact ⟨rfl, ⟨_, _, hM, hRI.fr hX hA⟩, hF⟩
  · skip
    refine v_ldc2 (z := -1000000000000000) kl_X10_278 (by decide +kernel) dX10_gain_9 ?_
    exact v_lret dX10_gain_12 rfl (Nat.le_refl _) (Nat.le_refl _) (⟨by rw [if_neg (fun h => q1 ⟨⟨hk0, hk1⟩, h⟩)], ⟨_, _, hM, hRI⟩, frR.rf⟩)
theorem R9_gainN {seat : Int} (hI : InvR G M s) (hs : stOK s) (hk : ¬ isS s k) (hg : sw_rg k) (g1 : sw_rg seat) : Kt l G μX10_gain [.ref (sw_al G 70), sw_i k, sw_i seat] M (fun r M' => r = some (sw_j (-1000000000000000)) ∧ InvR G M' s ∧ frR M M') := by
  refine KtA.of (by decide +kernel) (Nat.le_of_ble_eq_true rfl) ?_
  obtain ⟨x, a, hM, hRI⟩ := hI
  have hns : qN s ≤ 8 := hs.2.1
  refine v_aload_n dX10_gain_0 rfl ?_
  refine v_iload_n dX10_gain_1 rfl ?_
  refine v_iload_n dX10_gain_2 rfl ?_
  refine v_callV (ci := 10) (K10_isSeat hM hRI.2.2.1 ⟨by omega, by omega⟩ (nb := 0) (fun h => absurd h hk) ⟨by omega, by omega⟩ hg g1) ⟨rfl, rfl⟩ (Nat.le_refl _) (Nat.le_refl _) hM.1 rfl ⟨ml_X10_196, mm_X10_isSeat⟩ ⟨(Nat.le_of_ble_eq_true rfl), (Nat.le_of_ble_eq_true rfl)⟩ mp_X10_isSeat rfl rfl (Nat.le_of_ble_eq_true rfl) dX10_gain_3 (fun r M' h => ?_)
  obtain ⟨rfl, rfl⟩ := h
  refine v_ifb_ne (tgt := 13) dX10_gain_6 (by decide) (fun q1 => ?_) (fun q1 => ?_)
  · skip
    exact absurd q1.1 hk
  · skip
    refine v_ldc2 (z := -1000000000000000) kl_X10_278 (by decide +kernel) dX10_gain_9 ?_
    exact v_lret dX10_gain_12 rfl (Nat.le_refl _) (Nat.le_refl _) (⟨rfl, ⟨_, _, hM, hRI⟩, frR.rf⟩)
end

