/-! the face: less, best -/
section
variable {l : Launch} {G : sw_G} {M : sw_M} {s : CSt}
def lsU (σ : SaleT) (nt : Int) (T : Int → Int) (seat sign : Int) : Int := upS σ sign (-1) (-1) (-1) (sTr σ).toNat * wC σ nt T seat sign - wV σ nt T seat sign * dnS σ sign (-1) (-1) (-1) (sTr σ).toNat
def lsD (σ : SaleT) (nt : Int) (T : Int → Int) (seat sign : Int) : Int := dnS σ sign (-1) (-1) (-1) (sTr σ).toNat * wC σ nt T seat sign
theorem F9_less {k seat sign what : Int} (hI : InvC G M s) (hs : stOK s) (hk : isS s k) (hp : winP (sl s k) (qT s) (qB s) seat sign what) : Kt l G μX9_less [.ref (sw_al G 0), sw_i k, sw_i seat, sw_i sign, sw_i what] M (fun r M' => r = some (sw_j (if 0 < wC (sl s k) (qT s) (qB s) seat sign ∧ 0 < dnS (sl s k) sign (-1) (-1) (-1) (sTr (sl s k)).toNat then (if what = 0 then lsU (sl s k) (qT s) (qB s) seat sign else lsD (sl s k) (qT s) (qB s) seat sign).tdiv (gcdI (lsU (sl s k) (qT s) (qB s) seat sign) (lsD (sl s k) (qT s) (qB s) seat sign)) else -1000000000000000)) ∧ InvC G M' s ∧ frC M M') := by
  refine KtA.of (by decide +kernel) (Nat.le_of_ble_eq_true rfl) ?_
  have i0 := hI.1
  have i3 := hI.2.1
  have i4 := hI.2.2.1
  obtain ⟨hwf, hns, hsal, hc, hD, hqm, hqr⟩ := id hs
  obtain ⟨hk0, hk1⟩ := id hk
  obtain ⟨u, d, h5⟩ := hI.2.2.2.2.2.2.2.1 k.toNat (by omega)
  have hw := (hsal k.toNat (by omega)).1
  have hb : 50 ≤ 100 + 5 * k.toNat := by omega
  have hsg := hw.1
  have htr := hw.2.1
  have hnb := hw.2.2.1
  have hle := hw.2.2.2.1
  have hwy := hw.2.2.2.2.1
  obtain ⟨σ, hσ⟩ : ∃ σ, qS s k.toNat = σ := ⟨_, rfl⟩
  obtain ⟨b, hbb⟩ : ∃ b, 100 + 5 * k.toNat = b := ⟨_, rfl⟩
  rw [hσ] at h5 hw hsg htr hnb hle hwy
  rw [hbb] at h5 hb
  have oks : ∀ u d, okC G M s (cO G b σ u d) := fun u d => Or.inr (Or.inl ⟨k.toNat, u, d, by omega, by rw [hσ, hbb]⟩)
  have hsl : sl s k = σ := hσ
  rw [hsl] at hp ⊢
  obtain ⟨b0, m0, le0, wt, wo, hi, al, nx', su, x6⟩ := hI.x6
  obtain ⟨R, x7⟩ := hI.x7
  obtain ⟨S, x8⟩ := hI.x8
  obtain ⟨P, x9⟩ := hI.x9
  obtain ⟨a, tk, so, un, g, ww, wc, xY⟩ := hI.xY
  have hn := cTw_nd hb
  obtain ⟨p1, p2, p3, p4⟩ := hp
  obtain ⟨n, rfl⟩ : ∃ n : Nat, seat = (n : Int) := ⟨seat.toNat, by omega⟩
  have en : ((n : Int)).toNat = n := Int.toNat_natCast n
  obtain ⟨tc, htc⟩ : ∃ tc, TC σ (rwF (bF σ (qT s) (qB s) (-1))) (pS σ (-1)) (sNb σ).toNat n sign = tc := ⟨_, rfl⟩
  obtain ⟨tv, htv⟩ : ∃ tv, TV σ (rwF (bF σ (qT s) (qB s) (-1))) (pS σ (-1)) (sNb σ).toNat n sign = tv := ⟨_, rfl⟩
  have ewc : wC σ (qT s) (qB s) (n : Int) sign = tc := by unfold wC; rw [en, htc]
  have ewv : wV σ (qT s) (qB s) (n : Int) sign = tv := by unfold wV; rw [en, htv]
  obtain ⟨uu, huu⟩ : ∃ uu, upS σ sign (-1) (-1) (-1) (sTr σ).toNat = uu := ⟨_, rfl⟩
  obtain ⟨dd, hdd⟩ : ∃ dd, dnS σ sign (-1) (-1) (-1) (sTr σ).toNat = dd := ⟨_, rfl⟩
  have elu : lsU σ (qT s) (qB s) (n : Int) sign = uu * tc - tv * dd := by unfold lsU; rw [ewc, ewv, huu, hdd]
  have eld : lsD σ (qT s) (qB s) (n : Int) sign = dd * tc := by unfold lsD; rw [ewc, hdd]
  rw [ewc, elu, eld, hdd]
  have hcb := TC_bd hw (rwF (bF σ (qT s) (qB s) (-1))) (pS_B hw (-1)) (m := (sNb σ).toNat) (by omega) n sign
  have hvb := TV_bd hw (rwF (bF σ (qT s) (qB s) (-1))) (pS_B hw (-1)) (m := (sNb σ).toNat) (by omega) n sign
  have hub := up_bd hw sign (-1) (-1) (-1) (n := (sTr σ).toNat) (by omega)
  have hdb := dn_bd hw sign (-1) (-1) (-1) (n := (sTr σ).toNat) (by omega)
  rw [htc] at hcb
  rw [htv] at hvb
  rw [huu] at hub
  rw [hdd] at hdb
  have m1 := mul_bd hub hcb
  have m2 := mul_bd hvb hdb
  have m3 := mul_bd hdb hcb
  refine v_aload_n dX9_less_0 rfl ?_
  refine v_iload_n dX9_less_1 rfl ?_
  refine v_callV (ci := 9) (K9_saleAt (ns := qN s) (nt := qT s) (k := k) i0 i3 hns hk) ⟨rfl, rfl⟩ (Nat.le_refl _) (Nat.le_refl _) i0 rfl ⟨ml_X9_104, mm_X9_saleAt⟩ ⟨(Nat.le_of_ble_eq_true rfl), (Nat.le_of_ble_eq_true rfl)⟩ mp_X9_saleAt rfl rfl (Nat.le_of_ble_eq_true rfl) dX9_less_2 (fun r M' h => ?_)
  obtain ⟨rfl, rfl⟩ := h
  rw [hbb]
  refine v_astore dX9_less_5 (Nat.le_of_ble_eq_true rfl) ?_
  refine v_aload dX9_less_7 rfl ?_
  refine v_ifnull dX9_less_9 ?_
  refine v_iload dX9_less_12 rfl ?_
  refine v_callS (K9_isHalf (k := what) ⟨by omega, by omega⟩) ⟨rfl, rfl⟩ (Nat.le_refl _) (Nat.le_refl _) ⟨ml_X9_149, mm_X9_isHalf⟩ ⟨(Nat.le_of_ble_eq_true rfl), (Nat.le_of_ble_eq_true rfl)⟩ mp_X9_isHalf rfl rfl (Nat.le_of_ble_eq_true rfl) dX9_less_14 (fun r M' h => ?_)
  obtain ⟨rfl, rfl⟩ := h
  refine v_ifb_eq (tgt := 43) dX9_less_17 (by decide) (fun h17 => ?_) (fun h17 => ?_)
  · skip
    exfalso; omega
  · skip
    refine v_aload_n dX9_less_20 rfl ?_
    refine v_aload dX9_less_21 rfl ?_
    refine v_iload_n dX9_less_23 rfl ?_
    refine v_iload_n dX9_less_24 rfl ?_
    refine v_callV (ci := 9) (K9_wins hb i0 i4 x6 x7 x8 x9 xY h5 hw hc (m := (sNb σ).toNat) (seat := n) (k := sign) (by omega) (by omega) ⟨p3, p4⟩) ⟨rfl, rfl⟩ (Nat.le_refl _) (Nat.le_refl _) i0 rfl ⟨ml_X9_208, mm_X9_wins⟩ ⟨(Nat.le_of_ble_eq_true rfl), (Nat.le_of_ble_eq_true rfl)⟩ mp_X9_wins rfl rfl (Nat.le_of_ble_eq_true rfl) dX9_less_25 (fun r M' h => ?_)
    obtain ⟨wt2, hi2, al2, nx2, su2, wo2, R2, S2, P2, gg2, ww2, wc2, u2, d2, rfl, f2, f3, rfl⟩ := h
    rw [htc]
    refine v_ifb_eq (tgt := 43) dX9_less_28 (by decide) (fun q2 => ?_) (fun q2 => ?_)
    · skip
      refine v_ldc2 (z := -1000000000000000) kl_X9_202 (by decide +kernel) dX9_less_43 ?_
      exact v_lret dX9_less_46 rfl (Nat.le_refl _) (Nat.le_refl _) (⟨by rw [if_neg (fun h => q2 h.1)], hI.ov (cTw_ok hI oks), frC.ov (cTw_fr (by omega))⟩)
    · skip
      refine v_aload dX9_less_31 rfl ?_
      refine v_iload_n dX9_less_33 rfl ?_
      refine v_iconst dX9_less_34 ?_
      refine v_iconst dX9_less_35 ?_
      refine v_iconst dX9_less_36 ?_
      refine v_callV (ci := 5) (K5_weigh (σ := σ) (u0 := u2) (d0 := d2) (cTw_S hb h5) hw (a := sign) (e := -1) (c := -1) (d := -1) ⟨by omega, by omega⟩ ⟨by omega, by omega⟩ ⟨by omega, by omega⟩ ⟨by omega, by omega⟩) ⟨rfl, rfl⟩ (Nat.le_refl _) (Nat.le_refl _) (cTw_at hb 9 b rfl) rfl ⟨ml_X9_156, mm_X5_weigh⟩ ⟨(Nat.le_of_ble_eq_true rfl), (Nat.le_of_ble_eq_true rfl)⟩ mp_X5_weigh rfl rfl (Nat.le_of_ble_eq_true rfl) dX9_less_37 (fun r M' h => ?_)
      obtain ⟨rfl, rfl⟩ := h
      rw [huu, hdd]
      refine v_ovp [9] rfl rfl hn ?_
      refine v_ifb_ne (tgt := 47) dX9_less_40 (by decide) (fun q3 => ?_) (fun q3 => ?_)
      · skip
        refine v_iload_n dX9_less_47 rfl ?_
        refine v_iconst dX9_less_48 ?_
        refine v_imul dX9_less_49 ?_
        refine v_iload_n dX9_less_50 rfl ?_
        refine v_iadd dX9_less_51 ?_
        refine v_istore dX9_less_52 (Nat.le_of_ble_eq_true rfl) ?_
        refine v_aload dX9_less_54 rfl ?_
        refine v_getf 9 9 fl_X9_160 hn rfl rfl dX9_less_56 ?_
        refine v_aload_n dX9_less_59 rfl ?_
        refine v_getf 0 7 fl_X9_46 hn rfl rfl dX9_less_60 ?_
        refine v_getf 5 6 fl_X9_215 hn rfl rfl dX9_less_63 ?_
        refine v_iload dX9_less_66 rfl ?_
        refine v_lald 8 hn rfl (Nat.le_of_ble_eq_true rfl) (by omega) (by omega) dX9_less_68 ?_
        rw [f3 n sign (by omega) p3 (by omega), htc]
        refine v_lmul dX9_less_69 ?_
        refine v_aload_n dX9_less_70 rfl ?_
        refine v_getf 0 7 fl_X9_46 hn rfl rfl dX9_less_71 ?_
        refine v_getf 5 5 fl_X9_212 hn rfl rfl dX9_less_74 ?_
        refine v_iload dX9_less_77 rfl ?_
        refine v_lald 7 hn rfl (Nat.le_of_ble_eq_true rfl) (by omega) (by omega) dX9_less_79 ?_
        rw [f2 n sign (by omega) p3 (by omega), htv]
        refine v_aload dX9_less_80 rfl ?_
        refine v_getf 9 10 fl_X9_164 hn rfl rfl dX9_less_82 ?_
        refine v_lmul dX9_less_85 ?_
        refine v_lsub dX9_less_86 ?_
        refine v_lstore dX9_less_87 (Nat.le_of_ble_eq_true rfl) ?_
        refine v_lload dX9_less_89 rfl ?_
        refine v_aload dX9_less_91 rfl ?_
        refine v_getf 9 10 fl_X9_164 hn rfl rfl dX9_less_93 ?_
        refine v_aload_n dX9_less_96 rfl ?_
        refine v_getf 0 7 fl_X9_46 hn rfl rfl dX9_less_97 ?_
        refine v_getf 5 6 fl_X9_215 hn rfl rfl dX9_less_100 ?_
        refine v_iload dX9_less_103 rfl ?_
        refine v_lald 8 hn rfl (Nat.le_of_ble_eq_true rfl) (by omega) (by omega) dX9_less_105 ?_
        rw [f3 n sign (by omega) p3 (by omega), htc]
        refine v_lmul dX9_less_106 ?_
        refine v_iload dX9_less_107 rfl ?_
        refine v_callS (K9_half (up' := uu * tc - tv * dd) (dn := dd * tc) (what := what) ⟨by omega, by omega⟩ ⟨Int.mul_pos q3 q2, by omega⟩ ⟨by omega, by omega⟩) ⟨rfl, rfl⟩ (Nat.le_refl _) (Nat.le_refl _) ⟨ml_X9_167, mm_X9_half⟩ ⟨(Nat.le_of_ble_eq_true rfl), (Nat.le_of_ble_eq_true rfl)⟩ mp_X9_half rfl rfl (Nat.le_of_ble_eq_true rfl) dX9_less_109 (fun r M' h => ?_)
        obtain ⟨rfl, rfl⟩ := h
        exact v_lret dX9_less_112 rfl (Nat.le_refl _) (Nat.le_refl _) (⟨by rw [if_pos (show 0 < tc ∧ 0 < dd from ⟨q2, q3⟩)], hI.ov (cTw_ok hI oks), frC.ov (cTw_fr (by omega))⟩)
      · skip
        refine v_ldc2 (z := -1000000000000000) kl_X9_202 (by decide +kernel) dX9_less_43 ?_
        exact v_lret dX9_less_46 rfl (Nat.le_refl _) (Nat.le_refl _) (⟨by rw [if_neg (fun h => q3 h.2)], hI.ov (cTw_ok hI oks), frC.ov (cTw_fr (by omega))⟩)
theorem F9_lessX {k seat sign what : Int} (hI : InvC G M s) (hs : stOK s) (hk : isS s k) (hp : ¬ winP (sl s k) (qT s) (qB s) seat sign what) (g1 : sw_rg seat) (g2 : sw_rg sign) (g3 : sw_rg what) : Kt l G μX9_less [.ref (sw_al G 0), sw_i k, sw_i seat, sw_i sign, sw_i what] M (fun r M' => r = some (sw_j (-1000000000000000)) ∧ InvC G M' s ∧ frC M M') := by
  refine KtA.of (by decide +kernel) (Nat.le_of_ble_eq_true rfl) ?_
  have i0 := hI.1
  have i3 := hI.2.1
  have i4 := hI.2.2.1
  obtain ⟨hwf, hns, hsal, hc, hD, hqm, hqr⟩ := id hs
  obtain ⟨hk0, hk1⟩ := id hk
  obtain ⟨u, d, h5⟩ := hI.2.2.2.2.2.2.2.1 k.toNat (by omega)
  have hw := (hsal k.toNat (by omega)).1
  have hb : 50 ≤ 100 + 5 * k.toNat := by omega
  have hsg := hw.1
  have htr := hw.2.1
  have hnb := hw.2.2.1
  have hle := hw.2.2.2.1
  have hwy := hw.2.2.2.2.1
  obtain ⟨σ, hσ⟩ : ∃ σ, qS s k.toNat = σ := ⟨_, rfl⟩
  obtain ⟨b, hbb⟩ : ∃ b, 100 + 5 * k.toNat = b := ⟨_, rfl⟩
  rw [hσ] at h5 hw hsg htr hnb hle hwy
  rw [hbb] at h5 hb
  have oks : ∀ u d, okC G M s (cO G b σ u d) := fun u d => Or.inr (Or.inl ⟨k.toNat, u, d, by omega, by rw [hσ, hbb]⟩)
  have hsl : sl s k = σ := hσ
  rw [hsl] at hp
  refine v_aload_n dX9_less_0 rfl ?_
  refine v_iload_n dX9_less_1 rfl ?_
  refine v_callV (ci := 9) (K9_saleAt (ns := qN s) (nt := qT s) (k := k) i0 i3 hns hk) ⟨rfl, rfl⟩ (Nat.le_refl _) (Nat.le_refl _) i0 rfl ⟨ml_X9_104, mm_X9_saleAt⟩ ⟨(Nat.le_of_ble_eq_true rfl), (Nat.le_of_ble_eq_true rfl)⟩ mp_X9_saleAt rfl rfl (Nat.le_of_ble_eq_true rfl) dX9_less_2 (fun r M' h => ?_)
  obtain ⟨rfl, rfl⟩ := h
  rw [hbb]
  refine v_astore dX9_less_5 (Nat.le_of_ble_eq_true rfl) ?_
  refine v_aload dX9_less_7 rfl ?_
  refine v_ifnull dX9_less_9 ?_
  refine v_iload dX9_less_12 rfl ?_
  refine v_callS (K9_isHalf (k := what) g3) ⟨rfl, rfl⟩ (Nat.le_refl _) (Nat.le_refl _) ⟨ml_X9_149, mm_X9_isHalf⟩ ⟨(Nat.le_of_ble_eq_true rfl), (Nat.le_of_ble_eq_true rfl)⟩ mp_X9_isHalf rfl rfl (Nat.le_of_ble_eq_true rfl) dX9_less_14 (fun r M' h => ?_)
  obtain ⟨rfl, rfl⟩ := h
  refine v_ifb_eq (tgt := 43) dX9_less_17 (by decide) (fun q1 => ?_) (fun q1 => ?_)
  · skip
    refine v_ldc2 (z := -1000000000000000) kl_X9_202 (by decide +kernel) dX9_less_43 ?_
    exact v_lret dX9_less_46 rfl (Nat.le_refl _) (Nat.le_refl _) (⟨rfl, hI, frC.rf⟩)
  · skip
    refine v_aload_n dX9_less_20 rfl ?_
    refine v_aload dX9_less_21 rfl ?_
    refine v_iload_n dX9_less_23 rfl ?_
    refine v_iload_n dX9_less_24 rfl ?_
    refine v_callV (ci := 9) (K9_winsN (ns := qN s) (nt := qT s) (σ := σ) (u := u) (d := d) (seat := seat) (k := sign) h5.hd ⟨by omega, by omega⟩ ⟨by omega, by omega⟩ g1 g2 (fun h => hp ⟨q1, h.1, h.2⟩)) ⟨rfl, rfl⟩ (Nat.le_refl _) (Nat.le_refl _) i0 rfl ⟨ml_X9_208, mm_X9_wins⟩ ⟨(Nat.le_of_ble_eq_true rfl), (Nat.le_of_ble_eq_true rfl)⟩ mp_X9_wins rfl rfl (Nat.le_of_ble_eq_true rfl) dX9_less_25 (fun r M' h => ?_)
    obtain ⟨rfl, rfl⟩ := h
    refine v_if_eq (tgt := 43) dX9_less_28 (by decide) ⟨by omega, by omega⟩ (fun h28 => ?_) (fun h28 => ?_)
    · skip
      refine v_ldc2 (z := -1000000000000000) kl_X9_202 (by decide +kernel) dX9_less_43 ?_
      exact v_lret dX9_less_46 rfl (Nat.le_refl _) (Nat.le_refl _) (⟨rfl, hI, frC.rf⟩)
    · skip
      exfalso; omega
theorem F9_lessN {k seat sign what : Int} (hI : InvC G M s) (hs : stOK s) (hk : ¬ isS s k) (hg : sw_rg k) : Kt l G μX9_less [.ref (sw_al G 0), sw_i k, sw_i seat, sw_i sign, sw_i what] M (fun r M' => r = some (sw_j (-1000000000000000)) ∧ InvC G M' s ∧ frC M M') := by
  refine KtA.of (by decide +kernel) (Nat.le_of_ble_eq_true rfl) ?_
  have i0 := hI.1
  have i3 := hI.2.1
  have i4 := hI.2.2.1
  obtain ⟨hwf, hns, hsal, hc, hD, hqm, hqr⟩ := id hs
  refine v_aload_n dX9_less_0 rfl ?_
  refine v_iload_n dX9_less_1 rfl ?_
  refine v_callV (ci := 9) (K9_saleAtN (ns := qN s) (nt := qT s) (k := k) i0 hns hk hg) ⟨rfl, rfl⟩ (Nat.le_refl _) (Nat.le_refl _) i0 rfl ⟨ml_X9_104, mm_X9_saleAt⟩ ⟨(Nat.le_of_ble_eq_true rfl), (Nat.le_of_ble_eq_true rfl)⟩ mp_X9_saleAt rfl rfl (Nat.le_of_ble_eq_true rfl) dX9_less_2 (fun r M' h => ?_)
  obtain ⟨rfl, rfl⟩ := h
  refine v_astoreN dX9_less_5 (Nat.le_of_ble_eq_true rfl) ?_
  refine v_aloadN dX9_less_7 rfl ?_
  refine v_ifnullN (tgt := 43) dX9_less_9 (by decide) ?_
  refine v_ldc2 (z := -1000000000000000) kl_X9_202 (by decide +kernel) dX9_less_43 ?_
  exact v_lret dX9_less_46 rfl (Nat.le_refl _) (Nat.le_refl _) (⟨rfl, hI, frC.rf⟩)
end

