/-! the face: gain, won, less -/
section
variable {l : Launch} {G : sw_G} {M : sw_M} {s : CSt}
theorem F9_gain {k seat : Int} (hI : InvC G M s) (hs : stOK s) (hk : isS s k) (hg1 : sw_rg seat) : Kt l G μX9_gain [.ref (sw_al G 0), sw_i k, sw_i seat] M (fun r M' => r = some (sw_j (if 0 ≤ seat ∧ seat < sNb (sl s k) then TG (sl s k) (rwF (bF (sl s k) (qT s) (qB s) (-1))) (pS (sl s k) (-1)) (sNb (sl s k)).toNat seat.toNat else -1000000000000000)) ∧ InvC G M' s ∧ frC M M') := by
  refine KtA.of (by decide +kernel) (Nat.le_of_ble_eq_true rfl) ?_
  have i0 := hI.1
  have i3 := hI.2.1
  have i4 := hI.2.2.1
  obtain ⟨hwf, hns, hsal, hc, hD, hqm, hqr⟩ := id hs
  obtain ⟨hk0, hk1⟩ := id hk
  obtain ⟨u, d, h5⟩ := hI.2.2.2.2.2.2.2.1 k.toNat (by omega)
  have hw := (hsal k.toNat (by omega)).1
  have hb : 50 ≤ 100 + 5 * k.toNat := by omega
  have hsg := hw.1
  have htr := hw.2.1
  have hnb := hw.2.2.1
  have hle := hw.2.2.2.1
  have hwy := hw.2.2.2.2.1
  obtain ⟨σ, hσ⟩ : ∃ σ, qS s k.toNat = σ := ⟨_, rfl⟩
  obtain ⟨b, hbb⟩ : ∃ b, 100 + 5 * k.toNat = b := ⟨_, rfl⟩
  rw [hσ] at h5 hw hsg htr hnb hle hwy
  rw [hbb] at h5 hb
  have oks : ∀ u d, okC G M s (cO G b σ u d) := fun u d => Or.inr (Or.inl ⟨k.toNat, u, d, by omega, by rw [hσ, hbb]⟩)
  have hsl : sl s k = σ := hσ
  rw [hsl]
  obtain ⟨b0, m0, le0, wt, wo, hi, al, nx', su, x6⟩ := hI.x6
  obtain ⟨R, x7⟩ := hI.x7
  obtain ⟨S, x8⟩ := hI.x8
  obtain ⟨P, x9⟩ := hI.x9
  obtain ⟨a, tk, so, un, g, ww, wc, xY⟩ := hI.xY
  have hn := cTw_nd hb
  refine v_aload_n dX9_gain_0 rfl ?_
  refine v_iload_n dX9_gain_1 rfl ?_
  refine v_callV (ci := 9) (K9_saleAt (ns := qN s) (nt := qT s) (k := k) i0 i3 hns hk) ⟨rfl, rfl⟩ (Nat.le_refl _) (Nat.le_refl _) i0 rfl ⟨ml_X9_104, mm_X9_saleAt⟩ ⟨(Nat.le_of_ble_eq_true rfl), (Nat.le_of_ble_eq_true rfl)⟩ mp_X9_saleAt rfl rfl (Nat.le_of_ble_eq_true rfl) dX9_gain_2 (fun r M' h => ?_)
  obtain ⟨rfl, rfl⟩ := h
  rw [hbb]
  refine v_astore_n dX9_gain_5 (Nat.le_of_ble_eq_true rfl) ?_
  refine v_aload_n dX9_gain_6 rfl ?_
  refine v_ifnull dX9_gain_7 ?_
  refine v_aload_n dX9_gain_10 rfl ?_
  refine v_iload_n dX9_gain_11 rfl ?_
  refine v_callV (ci := 5) (K5_hasSeat (b := b) (σ := σ) (u := u) (d := d) h5.hd ⟨by omega, by omega⟩ (k := seat) hg1) ⟨rfl, rfl⟩ (Nat.le_refl _) (Nat.le_refl _) (h5.hd) rfl ⟨ml_X9_177, mm_X5_hasSeat⟩ ⟨(Nat.le_of_ble_eq_true rfl), (Nat.le_of_ble_eq_true rfl)⟩ mp_X5_hasSeat rfl rfl (Nat.le_of_ble_eq_true rfl) dX9_gain_12 (fun r M' h => ?_)
  obtain ⟨rfl, rfl⟩ := h
  refine v_ifb_ne (tgt := 22) dX9_gain_15 (by decide) (fun q1 => ?_) (fun q1 => ?_)
  · skip
    refine v_aload_n dX9_gain_22 rfl ?_
    refine v_aload_n dX9_gain_23 rfl ?_
    refine v_callV (ci := 9) (K9_tallyOf hb i0 i4 x6 x7 x8 x9 xY h5 hw hc (m := (sNb σ).toNat) (by omega)) ⟨rfl, rfl⟩ (Nat.le_refl _) (Nat.le_refl _) i0 rfl ⟨ml_X9_186, mm_X9_tallyOf⟩ ⟨(Nat.le_of_ble_eq_true rfl), (Nat.le_of_ble_eq_true rfl)⟩ mp_X9_tallyOf rfl rfl (Nat.le_of_ble_eq_true rfl) dX9_gain_24 (fun r M' h => ?_)
    obtain ⟨wt2, hi2, al2, nx2, su2, wo2, R2, S2, P2, gg2, ww2, wc2, u2, d2, rfl, f1, f2, f3, rfl⟩ := h
    refine v_aload_n dX9_gain_27 rfl ?_
    refine v_getf 0 7 fl_X9_46 hn rfl rfl dX9_gain_28 ?_
    refine v_getf 5 4 fl_X9_204 hn rfl rfl dX9_gain_31 ?_
    refine v_iload_n dX9_gain_34 rfl ?_
    refine v_lald 6 hn rfl (Nat.le_of_ble_eq_true rfl) (by omega) (by omega) dX9_gain_35 ?_
    have hf := f1 seat.toNat (by omega)
    rw [show ((seat.toNat : Nat) : Int) = seat by omega] at hf
    rw [hf]
    exact v_lret dX9_gain_36 rfl (Nat.le_refl _) (Nat.le_refl _) (⟨by rw [if_pos q1], hI.ov (cTw_ok hI oks), frC.ov (cTw_fr (by omega))⟩)
  · skip
    refine v_ldc2 (z := -1000000000000000) kl_X9_202 (by decide +kernel) dX9_gain_18 ?_
    exact v_lret dX9_gain_21 rfl (Nat.le_refl _) (Nat.le_refl _) (⟨by rw [if_neg q1], hI, frC.rf⟩)
theorem F9_gainN {k seat : Int} (hI : InvC G M s) (hs : stOK s) (hk : ¬ isS s k) (hg : sw_rg k) : Kt l G μX9_gain [.ref (sw_al G 0), sw_i k, sw_i seat] M (fun r M' => r = some (sw_j (-1000000000000000)) ∧ InvC G M' s ∧ frC M M') := by
  refine KtA.of (by decide +kernel) (Nat.le_of_ble_eq_true rfl) ?_
  have i0 := hI.1
  have i3 := hI.2.1
  have i4 := hI.2.2.1
  obtain ⟨hwf, hns, hsal, hc, hD, hqm, hqr⟩ := id hs
  refine v_aload_n dX9_gain_0 rfl ?_
  refine v_iload_n dX9_gain_1 rfl ?_
  refine v_callV (ci := 9) (K9_saleAtN (ns := qN s) (nt := qT s) (k := k) i0 hns hk hg) ⟨rfl, rfl⟩ (Nat.le_refl _) (Nat.le_refl _) i0 rfl ⟨ml_X9_104, mm_X9_saleAt⟩ ⟨(Nat.le_of_ble_eq_true rfl), (Nat.le_of_ble_eq_true rfl)⟩ mp_X9_saleAt rfl rfl (Nat.le_of_ble_eq_true rfl) dX9_gain_2 (fun r M' h => ?_)
  obtain ⟨rfl, rfl⟩ := h
  refine v_astore_nN dX9_gain_5 (Nat.le_of_ble_eq_true rfl) ?_
  refine v_aload_nN dX9_gain_6 rfl ?_
  refine v_ifnullN (tgt := 18) dX9_gain_7 (by decide) ?_
  refine v_ldc2 (z := -1000000000000000) kl_X9_202 (by decide +kernel) dX9_gain_18 ?_
  exact v_lret dX9_gain_21 rfl (Nat.le_refl _) (Nat.le_refl _) (⟨rfl, hI, frC.rf⟩)
/-- whether a seat wins with a sign -/
def winP (σ : SaleT) (nt : Int) (T : Int → Int) (seat sign what : Int) : Prop := (what = 0 ∨ what = 1) ∧ (0 ≤ seat ∧ seat < sNb σ) ∧ 0 ≤ sign ∧ sign < sSg σ
def wC (σ : SaleT) (nt : Int) (T : Int → Int) (seat sign : Int) : Int := TC σ (rwF (bF σ nt T (-1))) (pS σ (-1)) (sNb σ).toNat seat.toNat sign
def wV (σ : SaleT) (nt : Int) (T : Int → Int) (seat sign : Int) : Int := TV σ (rwF (bF σ nt T (-1))) (pS σ (-1)) (sNb σ).toNat seat.toNat sign
theorem F9_won {k seat sign what : Int} (hI : InvC G M s) (hs : stOK s) (hk : isS s k) (hp : winP (sl s k) (qT s) (qB s) seat sign what) : Kt l G μX9_won [.ref (sw_al G 0), sw_i k, sw_i seat, sw_i sign, sw_i what] M (fun r M' => r = some (sw_j (if 0 < wC (sl s k) (qT s) (qB s) seat sign then (if what = 0 then wV (sl s k) (qT s) (qB s) seat sign else wC (sl s k) (qT s) (qB s) seat sign).tdiv (gcdI (wV (sl s k) (qT s) (qB s) seat sign) (wC (sl s k) (qT s) (qB s) seat sign)) else -1)) ∧ InvC G M' s ∧ frC M M') := by
  refine KtA.of (by decide +kernel) (Nat.le_of_ble_eq_true rfl) ?_
  have i0 := hI.1
  have i3 := hI.2.1
  have i4 := hI.2.2.1
  obtain ⟨hwf, hns, hsal, hc, hD, hqm, hqr⟩ := id hs
  obtain ⟨hk0, hk1⟩ := id hk
  obtain ⟨u, d, h5⟩ := hI.2.2.2.2.2.2.2.1 k.toNat (by omega)
  have hw := (hsal k.toNat (by omega)).1
  have hb : 50 ≤ 100 + 5 * k.toNat := by omega
  have hsg := hw.1
  have htr := hw.2.1
  have hnb := hw.2.2.1
  have hle := hw.2.2.2.1
  have hwy := hw.2.2.2.2.1
  obtain ⟨σ, hσ⟩ : ∃ σ, qS s k.toNat = σ := ⟨_, rfl⟩
  obtain ⟨b, hbb⟩ : ∃ b, 100 + 5 * k.toNat = b := ⟨_, rfl⟩
  rw [hσ] at h5 hw hsg htr hnb hle hwy
  rw [hbb] at h5 hb
  have oks : ∀ u d, okC G M s (cO G b σ u d) := fun u d => Or.inr (Or.inl ⟨k.toNat, u, d, by omega, by rw [hσ, hbb]⟩)
  have hsl : sl s k = σ := hσ
  rw [hsl] at hp ⊢
  obtain ⟨b0, m0, le0, wt, wo, hi, al, nx', su, x6⟩ := hI.x6
  obtain ⟨R, x7⟩ := hI.x7
  obtain ⟨S, x8⟩ := hI.x8
  obtain ⟨P, x9⟩ := hI.x9
  obtain ⟨a, tk, so, un, g, ww, wc, xY⟩ := hI.xY
  have hn := cTw_nd hb
  obtain ⟨p1, p2, p3, p4⟩ := hp
  obtain ⟨n, rfl⟩ : ∃ n : Nat, seat = (n : Int) := ⟨seat.toNat, by omega⟩
  have en : ((n : Int)).toNat = n := Int.toNat_natCast n
  have hcb := TC_bd hw (rwF (bF σ (qT s) (qB s) (-1))) (pS_B hw (-1)) (m := (sNb σ).toNat) (by omega) n sign
  have hvb := TV_bd hw (rwF (bF σ (qT s) (qB s) (-1))) (pS_B hw (-1)) (m := (sNb σ).toNat) (by omega) n sign
  refine v_aload_n dX9_won_0 rfl ?_
  refine v_iload_n dX9_won_1 rfl ?_
  refine v_callV (ci := 9) (K9_saleAt (ns := qN s) (nt := qT s) (k := k) i0 i3 hns hk) ⟨rfl, rfl⟩ (Nat.le_refl _) (Nat.le_refl _) i0 rfl ⟨ml_X9_104, mm_X9_saleAt⟩ ⟨(Nat.le_of_ble_eq_true rfl), (Nat.le_of_ble_eq_true rfl)⟩ mp_X9_saleAt rfl rfl (Nat.le_of_ble_eq_true rfl) dX9_won_2 (fun r M' h => ?_)
  obtain ⟨rfl, rfl⟩ := h
  rw [hbb]
  refine v_astore dX9_won_5 (Nat.le_of_ble_eq_true rfl) ?_
  refine v_aload dX9_won_7 rfl ?_
  refine v_ifnull dX9_won_9 ?_
  refine v_iload dX9_won_12 rfl ?_
  refine v_callS (K9_isHalf (k := what) ⟨by omega, by omega⟩) ⟨rfl, rfl⟩ (Nat.le_refl _) (Nat.le_refl _) ⟨ml_X9_149, mm_X9_isHalf⟩ ⟨(Nat.le_of_ble_eq_true rfl), (Nat.le_of_ble_eq_true rfl)⟩ mp_X9_isHalf rfl rfl (Nat.le_of_ble_eq_true rfl) dX9_won_14 (fun r M' h => ?_)
  obtain ⟨rfl, rfl⟩ := h
  refine v_ifb_eq (tgt := 38) dX9_won_17 (by decide) (fun h17 => ?_) (fun h17 => ?_)
  · skip
    exfalso; omega
  · skip
    refine v_aload dX9_won_20 rfl ?_
    refine v_iload_n dX9_won_22 rfl ?_
    refine v_callV (ci := 5) (K5_hasSeat (b := b) (σ := σ) (u := u) (d := d) h5.hd ⟨by omega, by omega⟩ (k := (n : Int)) ⟨by omega, by omega⟩) ⟨rfl, rfl⟩ (Nat.le_refl _) (Nat.le_refl _) (h5.hd) rfl ⟨ml_X9_177, mm_X5_hasSeat⟩ ⟨(Nat.le_of_ble_eq_true rfl), (Nat.le_of_ble_eq_true rfl)⟩ mp_X5_hasSeat rfl rfl (Nat.le_of_ble_eq_true rfl) dX9_won_23 (fun r M' h => ?_)
    obtain ⟨rfl, rfl⟩ := h
    refine v_ifb_eq (tgt := 38) dX9_won_26 (by decide) (fun h26 => ?_) (fun h26 => ?_)
    · skip
      exfalso; omega
    · skip
      refine v_aload dX9_won_29 rfl ?_
      refine v_iload_n dX9_won_31 rfl ?_
      refine v_callV (ci := 5) (K5_hasSign (b := b) (σ := σ) (u := u) (d := d) h5.hd ⟨by omega, by omega⟩ (k := sign) ⟨by omega, by omega⟩) ⟨rfl, rfl⟩ (Nat.le_refl _) (Nat.le_refl _) (h5.hd) rfl ⟨ml_X9_145, mm_X5_hasSign⟩ ⟨(Nat.le_of_ble_eq_true rfl), (Nat.le_of_ble_eq_true rfl)⟩ mp_X5_hasSign rfl rfl (Nat.le_of_ble_eq_true rfl) dX9_won_32 (fun r M' h => ?_)
      obtain ⟨rfl, rfl⟩ := h
      refine v_ifb_ne (tgt := 42) dX9_won_35 (by decide) (fun h35 => ?_) (fun h35 => ?_)
      · skip
        refine v_aload_n dX9_won_42 rfl ?_
        refine v_aload dX9_won_43 rfl ?_
        refine v_callV (ci := 9) (K9_tallyOf hb i0 i4 x6 x7 x8 x9 xY h5 hw hc (m := (sNb σ).toNat) (by omega)) ⟨rfl, rfl⟩ (Nat.le_refl _) (Nat.le_refl _) i0 rfl ⟨ml_X9_186, mm_X9_tallyOf⟩ ⟨(Nat.le_of_ble_eq_true rfl), (Nat.le_of_ble_eq_true rfl)⟩ mp_X9_tallyOf rfl rfl (Nat.le_of_ble_eq_true rfl) dX9_won_45 (fun r M' h => ?_)
        obtain ⟨wt2, hi2, al2, nx2, su2, wo2, R2, S2, P2, gg2, ww2, wc2, u2, d2, rfl, f1, f2, f3, rfl⟩ := h
        refine v_iload_n dX9_won_48 rfl ?_
        refine v_iconst dX9_won_49 ?_
        refine v_imul dX9_won_50 ?_
        refine v_iload_n dX9_won_51 rfl ?_
        refine v_iadd dX9_won_52 ?_
        refine v_istore dX9_won_53 (Nat.le_of_ble_eq_true rfl) ?_
        refine v_aload_n dX9_won_55 rfl ?_
        refine v_getf 0 7 fl_X9_46 hn rfl rfl dX9_won_56 ?_
        refine v_getf 5 6 fl_X9_208 hn rfl rfl dX9_won_59 ?_
        refine v_iload dX9_won_62 rfl ?_
        refine v_lald 8 hn rfl (Nat.le_of_ble_eq_true rfl) (by omega) (by omega) dX9_won_64 ?_
        rw [f3 n sign (by omega) p3 (by omega)]
        refine v_lconst (z := 0) dX9_won_65 (by decide +kernel) ?_
        refine v_lcmp_le (tgt := 98) dX9_won_66 dX9_won_67 (by decide) ⟨by omega, by omega⟩ ⟨by omega, by omega⟩ (fun h66 => ?_) (fun h66 => ?_)
        · skip
          refine v_ldc2 (z := -1) kl_X9_184 (by decide +kernel) dX9_won_98 ?_
          exact v_lret dX9_won_101 rfl (Nat.le_refl _) (Nat.le_refl _) (⟨by unfold wC; rw [en, if_neg (by omega)], hI.ov (cTw_ok hI oks), frC.ov (cTw_fr (by omega))⟩)
        · skip
          have q2 : 0 < TC σ (rwF (bF σ (qT s) (qB s) (-1))) (pS σ (-1)) (sNb σ).toNat n sign := by omega
          refine v_aload_n dX9_won_70 rfl ?_
          refine v_getf 0 7 fl_X9_46 hn rfl rfl dX9_won_71 ?_
          refine v_getf 5 5 fl_X9_211 hn rfl rfl dX9_won_74 ?_
          refine v_iload dX9_won_77 rfl ?_
          refine v_lald 7 hn rfl (Nat.le_of_ble_eq_true rfl) (by omega) (by omega) dX9_won_79 ?_
          rw [f2 n sign (by omega) p3 (by omega)]
          refine v_aload_n dX9_won_80 rfl ?_
          refine v_getf 0 7 fl_X9_46 hn rfl rfl dX9_won_81 ?_
          refine v_getf 5 6 fl_X9_208 hn rfl rfl dX9_won_84 ?_
          refine v_iload dX9_won_87 rfl ?_
          refine v_lald 8 hn rfl (Nat.le_of_ble_eq_true rfl) (by omega) (by omega) dX9_won_89 ?_
          rw [f3 n sign (by omega) p3 (by omega)]
          refine v_iload dX9_won_90 rfl ?_
          refine v_callS (K9_half (up' := TV σ (rwF (bF σ (qT s) (qB s) (-1))) (pS σ (-1)) (sNb σ).toNat n sign) (dn := TC σ (rwF (bF σ (qT s) (qB s) (-1))) (pS σ (-1)) (sNb σ).toNat n sign) (what := what) ⟨by omega, by omega⟩ ⟨by omega, by omega⟩ ⟨by omega, by omega⟩) ⟨rfl, rfl⟩ (Nat.le_refl _) (Nat.le_refl _) ⟨ml_X9_167, mm_X9_half⟩ ⟨(Nat.le_of_ble_eq_true rfl), (Nat.le_of_ble_eq_true rfl)⟩ mp_X9_half rfl rfl (Nat.le_of_ble_eq_true rfl) dX9_won_92 (fun r M' h => ?_)
          obtain ⟨rfl, rfl⟩ := h
          refine v_goto (tgt := 101) dX9_won_95 (by decide) ?_
          exact v_lret dX9_won_101 rfl (Nat.le_refl _) (Nat.le_refl _) (⟨by unfold wC wV; rw [en, if_pos q2], hI.ov (cTw_ok hI oks), frC.ov (cTw_fr (by omega))⟩)
      · skip
        exfalso; omega
theorem F9_wonX {k seat sign what : Int} (hI : InvC G M s) (hs : stOK s) (hk : isS s k) (hp : ¬ winP (sl s k) (qT s) (qB s) seat sign what) (g1 : sw_rg seat) (g2 : sw_rg sign) (g3 : sw_rg what) : Kt l G μX9_won [.ref (sw_al G 0), sw_i k, sw_i seat, sw_i sign, sw_i what] M (fun r M' => r = some (sw_j (-1)) ∧ InvC G M' s ∧ frC M M') := by
  refine KtA.of (by decide +kernel) (Nat.le_of_ble_eq_true rfl) ?_
  have i0 := hI.1
  have i3 := hI.2.1
  have i4 := hI.2.2.1
  obtain ⟨hwf, hns, hsal, hc, hD, hqm, hqr⟩ := id hs
  obtain ⟨hk0, hk1⟩ := id hk
  obtain ⟨u, d, h5⟩ := hI.2.2.2.2.2.2.2.1 k.toNat (by omega)
  have hw := (hsal k.toNat (by omega)).1
  have hb : 50 ≤ 100 + 5 * k.toNat := by omega
  have hsg := hw.1
  have htr := hw.2.1
  have hnb := hw.2.2.1
  have hle := hw.2.2.2.1
  have hwy := hw.2.2.2.2.1
  obtain ⟨σ, hσ⟩ : ∃ σ, qS s k.toNat = σ := ⟨_, rfl⟩
  obtain ⟨b, hbb⟩ : ∃ b, 100 + 5 * k.toNat = b := ⟨_, rfl⟩
  rw [hσ] at h5 hw hsg htr hnb hle hwy
  rw [hbb] at h5 hb
  have oks : ∀ u d, okC G M s (cO G b σ u d) := fun u d => Or.inr (Or.inl ⟨k.toNat, u, d, by omega, by rw [hσ, hbb]⟩)
  have hsl : sl s k = σ := hσ
  rw [hsl] at hp
  refine v_aload_n dX9_won_0 rfl ?_
  refine v_iload_n dX9_won_1 rfl ?_
  refine v_callV (ci := 9) (K9_saleAt (ns := qN s) (nt := qT s) (k := k) i0 i3 hns hk) ⟨rfl, rfl⟩ (Nat.le_refl _) (Nat.le_refl _) i0 rfl ⟨ml_X9_104, mm_X9_saleAt⟩ ⟨(Nat.le_of_ble_eq_true rfl), (Nat.le_of_ble_eq_true rfl)⟩ mp_X9_saleAt rfl rfl (Nat.le_of_ble_eq_true rfl) dX9_won_2 (fun r M' h => ?_)
  obtain ⟨rfl, rfl⟩ := h
  rw [hbb]
  refine v_astore dX9_won_5 (Nat.le_of_ble_eq_true rfl) ?_
  refine v_aload dX9_won_7 rfl ?_
  refine v_ifnull dX9_won_9 ?_
  refine v_iload dX9_won_12 rfl ?_
  refine v_callS (K9_isHalf (k := what) g3) ⟨rfl, rfl⟩ (Nat.le_refl _) (Nat.le_refl _) ⟨ml_X9_149, mm_X9_isHalf⟩ ⟨(Nat.le_of_ble_eq_true rfl), (Nat.le_of_ble_eq_true rfl)⟩ mp_X9_isHalf rfl rfl (Nat.le_of_ble_eq_true rfl) dX9_won_14 (fun r M' h => ?_)
  obtain ⟨rfl, rfl⟩ := h
  refine v_ifb_eq (tgt := 38) dX9_won_17 (by decide) (fun q1 => ?_) (fun q1 => ?_)
  · skip
    refine v_ldc2 (z := -1) kl_X9_184 (by decide +kernel) dX9_won_38 ?_
    exact v_lret dX9_won_41 rfl (Nat.le_refl _) (Nat.le_refl _) (⟨rfl, hI, frC.rf⟩)
  · skip
    refine v_aload dX9_won_20 rfl ?_
    refine v_iload_n dX9_won_22 rfl ?_
    refine v_callV (ci := 5) (K5_hasSeat (b := b) (σ := σ) (u := u) (d := d) h5.hd ⟨by omega, by omega⟩ (k := seat) g1) ⟨rfl, rfl⟩ (Nat.le_refl _) (Nat.le_refl _) (h5.hd) rfl ⟨ml_X9_177, mm_X5_hasSeat⟩ ⟨(Nat.le_of_ble_eq_true rfl), (Nat.le_of_ble_eq_true rfl)⟩ mp_X5_hasSeat rfl rfl (Nat.le_of_ble_eq_true rfl) dX9_won_23 (fun r M' h => ?_)
    obtain ⟨rfl, rfl⟩ := h
    refine v_ifb_eq (tgt := 38) dX9_won_26 (by decide) (fun q2 => ?_) (fun q2 => ?_)
    · skip
      refine v_ldc2 (z := -1) kl_X9_184 (by decide +kernel) dX9_won_38 ?_
      exact v_lret dX9_won_41 rfl (Nat.le_refl _) (Nat.le_refl _) (⟨rfl, hI, frC.rf⟩)
    · skip
      refine v_aload dX9_won_29 rfl ?_
      refine v_iload_n dX9_won_31 rfl ?_
      refine v_callV (ci := 5) (K5_hasSign (b := b) (σ := σ) (u := u) (d := d) h5.hd ⟨by omega, by omega⟩ (k := sign) g2) ⟨rfl, rfl⟩ (Nat.le_refl _) (Nat.le_refl _) (h5.hd) rfl ⟨ml_X9_145, mm_X5_hasSign⟩ ⟨(Nat.le_of_ble_eq_true rfl), (Nat.le_of_ble_eq_true rfl)⟩ mp_X5_hasSign rfl rfl (Nat.le_of_ble_eq_true rfl) dX9_won_32 (fun r M' h => ?_)
      obtain ⟨rfl, rfl⟩ := h
      refine v_ifb_ne (tgt := 42) dX9_won_35 (by decide) (fun q3 => ?_) (fun q3 => ?_)
      · skip
        exact (hp ⟨q1, q2, q3⟩).elim
      · skip
        refine v_ldc2 (z := -1) kl_X9_184 (by decide +kernel) dX9_won_38 ?_
        exact v_lret dX9_won_41 rfl (Nat.le_refl _) (Nat.le_refl _) (⟨rfl, hI, frC.rf⟩)
theorem F9_wonN {k seat sign what : Int} (hI : InvC G M s) (hs : stOK s) (hk : ¬ isS s k) (hg : sw_rg k) : Kt l G μX9_won [.ref (sw_al G 0), sw_i k, sw_i seat, sw_i sign, sw_i what] M (fun r M' => r = some (sw_j (-1)) ∧ InvC G M' s ∧ frC M M') := by
  refine KtA.of (by decide +kernel) (Nat.le_of_ble_eq_true rfl) ?_
  have i0 := hI.1
  have i3 := hI.2.1
  have i4 := hI.2.2.1
  obtain ⟨hwf, hns, hsal, hc, hD, hqm, hqr⟩ := id hs
  refine v_aload_n dX9_won_0 rfl ?_
  refine v_iload_n dX9_won_1 rfl ?_
  refine v_callV (ci := 9) (K9_saleAtN (ns := qN s) (nt := qT s) (k := k) i0 hns hk hg) ⟨rfl, rfl⟩ (Nat.le_refl _) (Nat.le_refl _) i0 rfl ⟨ml_X9_104, mm_X9_saleAt⟩ ⟨(Nat.le_of_ble_eq_true rfl), (Nat.le_of_ble_eq_true rfl)⟩ mp_X9_saleAt rfl rfl (Nat.le_of_ble_eq_true rfl) dX9_won_2 (fun r M' h => ?_)
  obtain ⟨rfl, rfl⟩ := h
  refine v_astoreN dX9_won_5 (Nat.le_of_ble_eq_true rfl) ?_
  refine v_aloadN dX9_won_7 rfl ?_
  refine v_ifnullN (tgt := 38) dX9_won_9 (by decide) ?_
  refine v_ldc2 (z := -1) kl_X9_184 (by decide +kernel) dX9_won_38 ?_
  exact v_lret dX9_won_41 rfl (Nat.le_refl _) (Nat.le_refl _) (⟨rfl, hI, frC.rf⟩)
end

