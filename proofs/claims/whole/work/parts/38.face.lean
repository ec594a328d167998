/-! the face: less, best -/
section
variable {l : Launch} {G : sw_G} {M : sw_M} {s : CSt}
def lsU (σ : SaleT) (nt : Int) (T : Int → Int) (seat sign : Int) : Int := upS σ sign (-1) (-1) (-1) (sTr σ).toNat * wC σ nt T seat sign - wV σ nt T seat sign * dnS σ sign (-1) (-1) (-1) (sTr σ).toNat
def lsD (σ : SaleT) (nt : Int) (T : Int → Int) (seat sign : Int) : Int := dnS σ sign (-1) (-1) (-1) (sTr σ).toNat * wC σ nt T seat sign
theorem F9_less {k seat sign what : Int} (hI : InvC G M s) (hs : stOK s) (hk : isS s k) (hp : winP (sl s k) (qT s) (qB s) seat sign what) : Kt l G μX9_less [.ref (sw_al G 0), sw_i k, sw_i seat, sw_i sign, sw_i what] M (fun r M' => r = some (sw_j (if 0 < wC (sl s k) (qT s) (qB s) seat sign ∧ 0 < dnS (sl s k) sign (-1) (-1) (-1) (sTr (sl s k)).toNat then (if what = 0 then lsU (sl s k) (qT s) (qB s) seat sign else lsD (sl s k) (qT s) (qB s) seat sign).tdiv (gcdI (lsU (sl s k) (qT s) (qB s) seat sign) (lsD (sl s k) (qT s) (qB s) seat sign)) else -1000000000000000)) ∧ InvC G M' s ∧ frC M M') := by
  refine KtA.of (by decide +kernel) (Nat.le_of_ble_eq_true rfl) ?_
  have i0 := hI.1
  have i3 := hI.2.1
  have i4 := hI.2.2.1
  obtain ⟨hwf, hns, hsal, hc, hD, hqm, hqr⟩ := id hs
  obtain ⟨hk0, hk1⟩ := id hk
  obtain ⟨u, d, h5⟩ := hI.2.2.2.2.2.2.2.1 k.toNat (by omega)
  have hw := (hsal k.toNat (by omega)).1
  have hb : 50 ≤ 100 + 5 * k.toNat := by omega
  have hsg := hw.1
  have htr := hw.2.1
  have hnb := hw.2.2.1
  have hle := hw.2.2.2.1
  have hwy := hw.2.2.2.2.1
  obtain ⟨σ, hσ⟩ : ∃ σ, qS s k.toNat = σ := ⟨_, rfl⟩
  obtain ⟨b, hbb⟩ : ∃ b, 100 + 5 * k.toNat = b := ⟨_, rfl⟩
  rw [hσ] at h5 hw hsg htr hnb hle hwy
  rw [hbb] at h5 hb
  have oks : ∀ u d, okC G M s (cO G b σ u d) := fun u d => Or.inr (Or.inl ⟨k.toNat, u, d, by omega, by rw [hσ, hbb]⟩)
  have hsl : sl s k = σ := hσ
  rw [hsl] at hp ⊢
  obtain ⟨b0, m0, le0, wt, wo, hi, al, nx', su, x6⟩ := hI.x6
  obtain ⟨R, x7⟩ := hI.x7
  obtain ⟨S, x8⟩ := hI.x8
  obtain ⟨P, x9⟩ := hI.x9
  obtain ⟨a, tk, so, un, g, ww, wc, xY⟩ := hI.xY
  have hn := cTw_nd hb
  obtain ⟨p1, p2, p3, p4⟩ := hp
  obtain ⟨n, rfl⟩ : ∃ n : Nat, seat = (n : Int) := ⟨seat.toNat, by omega⟩
  have en : ((n : Int)).toNat = n := Int.toNat_natCast n
  obtain ⟨tc, htc⟩ : ∃ tc, TC σ (rwF (bF σ (qT s) (qB s) (-1))) (pS σ (-1)) (sNb σ).toNat n sign = tc := ⟨_, rfl⟩
  obtain ⟨tv, htv⟩ : ∃ tv, TV σ (rwF (bF σ (qT s) (qB s) (-1))) (pS σ (-1)) (sNb σ).toNat n sign = tv := ⟨_, rfl⟩
  have ewc : wC σ (qT s) (qB s) (n : Int) sign = tc := by unfold wC; rw [en, htc]
  have ewv : wV σ (qT s) (qB s) (n : Int) sign = tv := by unfold wV; rw [en, htv]
  obtain ⟨uu, huu⟩ : ∃ uu, upS σ sign (-1) (-1) (-1) (sTr σ).toNat = uu := ⟨_, rfl⟩
  obtain ⟨dd, hdd⟩ : ∃ dd, dnS σ sign (-1) (-1) (-1) (sTr σ).toNat = dd := ⟨_, rfl⟩
  have elu : lsU σ (qT s) (qB s) (n : Int) sign = uu * tc - tv * dd := by unfold lsU; rw [ewc, ewv, huu, hdd]
  have eld : lsD σ (qT s) (qB s) (n : Int) sign = dd * tc := by unfold lsD; rw [ewc, hdd]
  rw [ewc, elu, eld, hdd]
  have hcb := TC_bd hw (rwF (bF σ (qT s) (qB s) (-1))) (pS_B hw (-1)) (m := (sNb σ).toNat) (by omega) n sign
  have hvb := TV_bd hw (rwF (bF σ (qT s) (qB s) (-1))) (pS_B hw (-1)) (m := (sNb σ).toNat) (by omega) n sign
  have hub := up_bd hw sign (-1) (-1) (-1) (n := (sTr σ).toNat) (by omega)
  have hdb := dn_bd hw sign (-1) (-1) (-1) (n := (sTr σ).toNat) (by omega)
  rw [htc] at hcb
  rw [htv] at hvb
  rw [huu] at hub
  rw [hdd] at hdb
  have m1 := mul_bd hub hcb
  have m2 := mul_bd hvb hdb
  have m3 := mul_bd hdb hcb
  refine v_aload_n dX9_less_0 rfl ?_
  refine v_iload_n dX9_less_1 rfl ?_
  refine v_callV (ci := 9) (K9_saleAt (ns := qN s) (nt := qT s) (k := k) i0 i3 hns hk) ⟨rfl, rfl⟩ (Nat.le_refl _) (Nat.le_refl _) i0 rfl ⟨ml_X9_104, mm_X9_saleAt⟩ ⟨(Nat.le_of_ble_eq_true rfl), (Nat.le_of_ble_eq_true rfl)⟩ mp_X9_saleAt rfl rfl (Nat.le_of_ble_eq_true rfl) dX9_less_2 (fun r M' h => ?_)
  obtain ⟨rfl, rfl⟩ := h
  rw [hbb]
  refine v_astore dX9_less_5 (Nat.le_of_ble_eq_true rfl) ?_
  refine v_aload dX9_less_7 rfl ?_
  refine v_ifnull dX9_less_9 ?_
  refine v_iload dX9_less_12 rfl ?_
  refine v_callS (K9_isHalf (k := what) ⟨by omega, by omega⟩) ⟨rfl, rfl⟩ (Nat.le_refl _) (Nat.le_refl _) ⟨ml_X9_149, mm_X9_isHalf⟩ ⟨(Nat.le_of_ble_eq_true rfl), (Nat.le_of_ble_eq_true rfl)⟩ mp_X9_isHalf rfl rfl (Nat.le_of_ble_eq_true rfl) dX9_less_14 (fun r M' h => ?_)
  obtain ⟨rfl, rfl⟩ := h
  refine v_ifb_eq (tgt := 38) dX9_less_17 (by decide) (fun h17 => ?_) (fun h17 => ?_)
  · skip
    exfalso; omega
  · skip
    refine v_aload dX9_less_20 rfl ?_
    refine v_iload_n dX9_less_22 rfl ?_
    refine v_callV (ci := 5) (K5_hasSeat (b := b) (σ := σ) (u := u) (d := d) h5.hd ⟨by omega, by omega⟩ (k := (n : Int)) ⟨by omega, by omega⟩) ⟨rfl, rfl⟩ (Nat.le_refl _) (Nat.le_refl _) (h5.hd) rfl ⟨ml_X9_177, mm_X5_hasSeat⟩ ⟨(Nat.le_of_ble_eq_true rfl), (Nat.le_of_ble_eq_true rfl)⟩ mp_X5_hasSeat rfl rfl (Nat.le_of_ble_eq_true rfl) dX9_less_23 (fun r M' h => ?_)
    obtain ⟨rfl, rfl⟩ := h
    refine v_ifb_eq (tgt := 38) dX9_less_26 (by decide) (fun h26 => ?_) (fun h26 => ?_)
    · skip
      exfalso; omega
    · skip
      refine v_aload dX9_less_29 rfl ?_
      refine v_iload_n dX9_less_31 rfl ?_
      refine v_callV (ci := 5) (K5_hasSign (b := b) (σ := σ) (u := u) (d := d) h5.hd ⟨by omega, by omega⟩ (k := sign) ⟨by omega, by omega⟩) ⟨rfl, rfl⟩ (Nat.le_refl _) (Nat.le_refl _) (h5.hd) rfl ⟨ml_X9_145, mm_X5_hasSign⟩ ⟨(Nat.le_of_ble_eq_true rfl), (Nat.le_of_ble_eq_true rfl)⟩ mp_X5_hasSign rfl rfl (Nat.le_of_ble_eq_true rfl) dX9_less_32 (fun r M' h => ?_)
      obtain ⟨rfl, rfl⟩ := h
      refine v_ifb_ne (tgt := 42) dX9_less_35 (by decide) (fun h35 => ?_) (fun h35 => ?_)
      · skip
        refine v_aload_n dX9_less_42 rfl ?_
        refine v_aload dX9_less_43 rfl ?_
        refine v_callV (ci := 9) (K9_tallyOf hb i0 i4 x6 x7 x8 x9 xY h5 hw hc (m := (sNb σ).toNat) (by omega)) ⟨rfl, rfl⟩ (Nat.le_refl _) (Nat.le_refl _) i0 rfl ⟨ml_X9_186, mm_X9_tallyOf⟩ ⟨(Nat.le_of_ble_eq_true rfl), (Nat.le_of_ble_eq_true rfl)⟩ mp_X9_tallyOf rfl rfl (Nat.le_of_ble_eq_true rfl) dX9_less_45 (fun r M' h => ?_)
        obtain ⟨wt2, hi2, al2, nx2, su2, wo2, R2, S2, P2, gg2, ww2, wc2, u2, d2, rfl, f1, f2, f3, rfl⟩ := h
        refine v_iload_n dX9_less_48 rfl ?_
        refine v_iconst dX9_less_49 ?_
        refine v_imul dX9_less_50 ?_
        refine v_iload_n dX9_less_51 rfl ?_
        refine v_iadd dX9_less_52 ?_
        refine v_istore dX9_less_53 (Nat.le_of_ble_eq_true rfl) ?_
        refine v_aload_n dX9_less_55 rfl ?_
        refine v_getf 0 7 fl_X9_46 hn rfl rfl dX9_less_56 ?_
        refine v_getf 5 6 fl_X9_208 hn rfl rfl dX9_less_59 ?_
        refine v_iload dX9_less_62 rfl ?_
        refine v_lald 8 hn rfl (Nat.le_of_ble_eq_true rfl) (by omega) (by omega) dX9_less_64 ?_
        rw [f3 n sign (by omega) p3 (by omega), htc]
        refine v_lconst (z := 0) dX9_less_65 (by decide +kernel) ?_
        refine v_lcmp_le (tgt := 82) dX9_less_66 dX9_less_67 (by decide) ⟨by omega, by omega⟩ ⟨by omega, by omega⟩ (fun h66 => ?_) (fun h66 => ?_)
        · skip
          refine v_ldc2 (z := -1000000000000000) kl_X9_202 (by decide +kernel) dX9_less_82 ?_
          exact v_lret dX9_less_85 rfl (Nat.le_refl _) (Nat.le_refl _) (⟨by rw [if_neg (show ¬ (0 < tc ∧ 0 < dd) by omega)], hI.ov (cTw_ok hI oks), frC.ov (cTw_fr (by omega))⟩)
        · skip
          have q2 : 0 < tc := by omega
          refine v_aload dX9_less_70 rfl ?_
          refine v_iload_n dX9_less_72 rfl ?_
          refine v_iconst dX9_less_73 ?_
          refine v_iconst dX9_less_74 ?_
          refine v_iconst dX9_less_75 ?_
          refine v_callV (ci := 5) (K5_weigh (σ := σ) (u0 := u2) (d0 := d2) (cTw_S hb h5) hw (a := sign) (e := -1) (c := -1) (d := -1) ⟨by omega, by omega⟩ ⟨by omega, by omega⟩ ⟨by omega, by omega⟩ ⟨by omega, by omega⟩) ⟨rfl, rfl⟩ (Nat.le_refl _) (Nat.le_refl _) (cTw_at hb 9 b rfl) rfl ⟨ml_X9_156, mm_X5_weigh⟩ ⟨(Nat.le_of_ble_eq_true rfl), (Nat.le_of_ble_eq_true rfl)⟩ mp_X5_weigh rfl rfl (Nat.le_of_ble_eq_true rfl) dX9_less_76 (fun r M' h => ?_)
          obtain ⟨rfl, rfl⟩ := h
          rw [huu, hdd]
          refine v_ovp [9] rfl rfl hn ?_
          refine v_ifb_ne (tgt := 86) dX9_less_79 (by decide) (fun q3 => ?_) (fun q3 => ?_)
          · skip
            refine v_aload dX9_less_86 rfl ?_
            refine v_getf 9 9 fl_X9_160 hn rfl rfl dX9_less_88 ?_
            refine v_aload_n dX9_less_91 rfl ?_
            refine v_getf 0 7 fl_X9_46 hn rfl rfl dX9_less_92 ?_
            refine v_getf 5 6 fl_X9_208 hn rfl rfl dX9_less_95 ?_
            refine v_iload dX9_less_98 rfl ?_
            refine v_lald 8 hn rfl (Nat.le_of_ble_eq_true rfl) (by omega) (by omega) dX9_less_100 ?_
            rw [f3 n sign (by omega) p3 (by omega), htc]
            refine v_lmul dX9_less_101 ?_
            refine v_aload_n dX9_less_102 rfl ?_
            refine v_getf 0 7 fl_X9_46 hn rfl rfl dX9_less_103 ?_
            refine v_getf 5 5 fl_X9_211 hn rfl rfl dX9_less_106 ?_
            refine v_iload dX9_less_109 rfl ?_
            refine v_lald 7 hn rfl (Nat.le_of_ble_eq_true rfl) (by omega) (by omega) dX9_less_111 ?_
            rw [f2 n sign (by omega) p3 (by omega), htv]
            refine v_aload dX9_less_112 rfl ?_
            refine v_getf 9 10 fl_X9_164 hn rfl rfl dX9_less_114 ?_
            refine v_lmul dX9_less_117 ?_
            refine v_lsub dX9_less_118 ?_
            refine v_lstore dX9_less_119 (Nat.le_of_ble_eq_true rfl) ?_
            refine v_lload dX9_less_121 rfl ?_
            refine v_aload dX9_less_123 rfl ?_
            refine v_getf 9 10 fl_X9_164 hn rfl rfl dX9_less_125 ?_
            refine v_aload_n dX9_less_128 rfl ?_
            refine v_getf 0 7 fl_X9_46 hn rfl rfl dX9_less_129 ?_
            refine v_getf 5 6 fl_X9_208 hn rfl rfl dX9_less_132 ?_
            refine v_iload dX9_less_135 rfl ?_
            refine v_lald 8 hn rfl (Nat.le_of_ble_eq_true rfl) (by omega) (by omega) dX9_less_137 ?_
            rw [f3 n sign (by omega) p3 (by omega), htc]
            refine v_lmul dX9_less_138 ?_
            refine v_iload dX9_less_139 rfl ?_
            refine v_callS (K9_half (up' := uu * tc - tv * dd) (dn := dd * tc) (what := what) ⟨by omega, by omega⟩ ⟨Int.mul_pos q3 q2, by omega⟩ ⟨by omega, by omega⟩) ⟨rfl, rfl⟩ (Nat.le_refl _) (Nat.le_refl _) ⟨ml_X9_167, mm_X9_half⟩ ⟨(Nat.le_of_ble_eq_true rfl), (Nat.le_of_ble_eq_true rfl)⟩ mp_X9_half rfl rfl (Nat.le_of_ble_eq_true rfl) dX9_less_141 (fun r M' h => ?_)
            obtain ⟨rfl, rfl⟩ := h
            exact v_lret dX9_less_144 rfl (Nat.le_refl _) (Nat.le_refl _) (⟨by rw [if_pos (show 0 < tc ∧ 0 < dd from ⟨q2, q3⟩)], hI.ov (cTw_ok hI oks), frC.ov (cTw_fr (by omega))⟩)
          · skip
            refine v_ldc2 (z := -1000000000000000) kl_X9_202 (by decide +kernel) dX9_less_82 ?_
            exact v_lret dX9_less_85 rfl (Nat.le_refl _) (Nat.le_refl _) (⟨by rw [if_neg (fun h => q3 h.2)], hI.ov (cTw_ok hI oks), frC.ov (cTw_fr (by omega))⟩)
      · skip
        exfalso; omega
theorem F9_lessX {k seat sign what : Int} (hI : InvC G M s) (hs : stOK s) (hk : isS s k) (hp : ¬ winP (sl s k) (qT s) (qB s) seat sign what) (g1 : sw_rg seat) (g2 : sw_rg sign) (g3 : sw_rg what) : Kt l G μX9_less [.ref (sw_al G 0), sw_i k, sw_i seat, sw_i sign, sw_i what] M (fun r M' => r = some (sw_j (-1000000000000000)) ∧ InvC G M' s ∧ frC M M') := by
  refine KtA.of (by decide +kernel) (Nat.le_of_ble_eq_true rfl) ?_
  have i0 := hI.1
  have i3 := hI.2.1
  have i4 := hI.2.2.1
  obtain ⟨hwf, hns, hsal, hc, hD, hqm, hqr⟩ := id hs
  obtain ⟨hk0, hk1⟩ := id hk
  obtain ⟨u, d, h5⟩ := hI.2.2.2.2.2.2.2.1 k.toNat (by omega)
  have hw := (hsal k.toNat (by omega)).1
  have hb : 50 ≤ 100 + 5 * k.toNat := by omega
  have hsg := hw.1
  have htr := hw.2.1
  have hnb := hw.2.2.1
  have hle := hw.2.2.2.1
  have hwy := hw.2.2.2.2.1
  obtain ⟨σ, hσ⟩ : ∃ σ, qS s k.toNat = σ := ⟨_, rfl⟩
  obtain ⟨b, hbb⟩ : ∃ b, 100 + 5 * k.toNat = b := ⟨_, rfl⟩
  rw [hσ] at h5 hw hsg htr hnb hle hwy
  rw [hbb] at h5 hb
  have oks : ∀ u d, okC G M s (cO G b σ u d) := fun u d => Or.inr (Or.inl ⟨k.toNat, u, d, by omega, by rw [hσ, hbb]⟩)
  have hsl : sl s k = σ := hσ
  rw [hsl] at hp
  refine v_aload_n dX9_less_0 rfl ?_
  refine v_iload_n dX9_less_1 rfl ?_
  refine v_callV (ci := 9) (K9_saleAt (ns := qN s) (nt := qT s) (k := k) i0 i3 hns hk) ⟨rfl, rfl⟩ (Nat.le_refl _) (Nat.le_refl _) i0 rfl ⟨ml_X9_104, mm_X9_saleAt⟩ ⟨(Nat.le_of_ble_eq_true rfl), (Nat.le_of_ble_eq_true rfl)⟩ mp_X9_saleAt rfl rfl (Nat.le_of_ble_eq_true rfl) dX9_less_2 (fun r M' h => ?_)
  obtain ⟨rfl, rfl⟩ := h
  rw [hbb]
  refine v_astore dX9_less_5 (Nat.le_of_ble_eq_true rfl) ?_
  refine v_aload dX9_less_7 rfl ?_
  refine v_ifnull dX9_less_9 ?_
  refine v_iload dX9_less_12 rfl ?_
  refine v_callS (K9_isHalf (k := what) g3) ⟨rfl, rfl⟩ (Nat.le_refl _) (Nat.le_refl _) ⟨ml_X9_149, mm_X9_isHalf⟩ ⟨(Nat.le_of_ble_eq_true rfl), (Nat.le_of_ble_eq_true rfl)⟩ mp_X9_isHalf rfl rfl (Nat.le_of_ble_eq_true rfl) dX9_less_14 (fun r M' h => ?_)
  obtain ⟨rfl, rfl⟩ := h
  refine v_ifb_eq (tgt := 38) dX9_less_17 (by decide) (fun q1 => ?_) (fun q1 => ?_)
  · skip
    refine v_ldc2 (z := -1000000000000000) kl_X9_202 (by decide +kernel) dX9_less_38 ?_
    exact v_lret dX9_less_41 rfl (Nat.le_refl _) (Nat.le_refl _) (⟨rfl, hI, frC.rf⟩)
  · skip
    refine v_aload dX9_less_20 rfl ?_
    refine v_iload_n dX9_less_22 rfl ?_
    refine v_callV (ci := 5) (K5_hasSeat (b := b) (σ := σ) (u := u) (d := d) h5.hd ⟨by omega, by omega⟩ (k := seat) g1) ⟨rfl, rfl⟩ (Nat.le_refl _) (Nat.le_refl _) (h5.hd) rfl ⟨ml_X9_177, mm_X5_hasSeat⟩ ⟨(Nat.le_of_ble_eq_true rfl), (Nat.le_of_ble_eq_true rfl)⟩ mp_X5_hasSeat rfl rfl (Nat.le_of_ble_eq_true rfl) dX9_less_23 (fun r M' h => ?_)
    obtain ⟨rfl, rfl⟩ := h
    refine v_ifb_eq (tgt := 38) dX9_less_26 (by decide) (fun q2 => ?_) (fun q2 => ?_)
    · skip
      refine v_ldc2 (z := -1000000000000000) kl_X9_202 (by decide +kernel) dX9_less_38 ?_
      exact v_lret dX9_less_41 rfl (Nat.le_refl _) (Nat.le_refl _) (⟨rfl, hI, frC.rf⟩)
    · skip
      refine v_aload dX9_less_29 rfl ?_
      refine v_iload_n dX9_less_31 rfl ?_
      refine v_callV (ci := 5) (K5_hasSign (b := b) (σ := σ) (u := u) (d := d) h5.hd ⟨by omega, by omega⟩ (k := sign) g2) ⟨rfl, rfl⟩ (Nat.le_refl _) (Nat.le_refl _) (h5.hd) rfl ⟨ml_X9_145, mm_X5_hasSign⟩ ⟨(Nat.le_of_ble_eq_true rfl), (Nat.le_of_ble_eq_true rfl)⟩ mp_X5_hasSign rfl rfl (Nat.le_of_ble_eq_true rfl) dX9_less_32 (fun r M' h => ?_)
      obtain ⟨rfl, rfl⟩ := h
      refine v_ifb_ne (tgt := 42) dX9_less_35 (by decide) (fun q3 => ?_) (fun q3 => ?_)
      · skip
        exact (hp ⟨q1, q2, q3⟩).elim
      · skip
        refine v_ldc2 (z := -1000000000000000) kl_X9_202 (by decide +kernel) dX9_less_38 ?_
        exact v_lret dX9_less_41 rfl (Nat.le_refl _) (Nat.le_refl _) (⟨rfl, hI, frC.rf⟩)
theorem F9_lessN {k seat sign what : Int} (hI : InvC G M s) (hs : stOK s) (hk : ¬ isS s k) (hg : sw_rg k) : Kt l G μX9_less [.ref (sw_al G 0), sw_i k, sw_i seat, sw_i sign, sw_i what] M (fun r M' => r = some (sw_j (-1000000000000000)) ∧ InvC G M' s ∧ frC M M') := by
  refine KtA.of (by decide +kernel) (Nat.le_of_ble_eq_true rfl) ?_
  have i0 := hI.1
  have i3 := hI.2.1
  have i4 := hI.2.2.1
  obtain ⟨hwf, hns, hsal, hc, hD, hqm, hqr⟩ := id hs
  refine v_aload_n dX9_less_0 rfl ?_
  refine v_iload_n dX9_less_1 rfl ?_
  refine v_callV (ci := 9) (K9_saleAtN (ns := qN s) (nt := qT s) (k := k) i0 hns hk hg) ⟨rfl, rfl⟩ (Nat.le_refl _) (Nat.le_refl _) i0 rfl ⟨ml_X9_104, mm_X9_saleAt⟩ ⟨(Nat.le_of_ble_eq_true rfl), (Nat.le_of_ble_eq_true rfl)⟩ mp_X9_saleAt rfl rfl (Nat.le_of_ble_eq_true rfl) dX9_less_2 (fun r M' h => ?_)
  obtain ⟨rfl, rfl⟩ := h
  refine v_astoreN dX9_less_5 (Nat.le_of_ble_eq_true rfl) ?_
  refine v_aloadN dX9_less_7 rfl ?_
  refine v_ifnullN (tgt := 38) dX9_less_9 (by decide) ?_
  refine v_ldc2 (z := -1000000000000000) kl_X9_202 (by decide +kernel) dX9_less_38 ?_
  exact v_lret dX9_less_41 rfl (Nat.le_refl _) (Nat.le_refl _) (⟨rfl, hI, frC.rf⟩)
end

