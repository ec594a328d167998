/-! a round of LEARN by the reference: the whole -/
section
variable {l : Launch} {G : sw_G} {M : sw_M} {s : CSt} {k : Int} {x : Nat → Int} {a : Nat → Int → Int}
theorem K10_round {σ : SaleT} {m : Nat} {q : LsT} (hM : RS G M x a) (hk : 0 ≤ k ∧ k < 8) (hw : wfS σ) (hr : rowR a k σ) (hm : 1 ≤ m ∧ m ≤ 4) (h21 : x 21 = (m : Int)) (h22 : x 22 = sLe σ) (h23 : x 23 = sWy σ) (hL : LR σ m q x a) (hin : ∀ j, 0 ≤ j → j < 20 → 0 ≤ q.2.2.2.1 j ∧ q.2.2.2.1 j ≤ 60) : Kt l G μX10_round [.ref (sw_al G 70), sw_i k] M (fun r M' => ∃ z x' a', r = some (sw_i z) ∧ (z = 0 ∨ z = 1) ∧ (rnd σ m q).2.2.1 = q.2.2.1 + z ∧ RS G M' x' a' ∧ frR M M' ∧ xfr [26, 27, 52, 53] x x' ∧ afr [24, 25, 48, 49] a a' ∧ LR σ m (rnd σ m q) x' a') := by
  refine KtA.of (by decide +kernel) (Nat.le_of_ble_eq_true rfl) ?_
  have hF : frR M M := frR.rf
  have hsg := hw.1
  have htr := hw.2.1
  have hle := hw.2.2.2.1
  have hwy := hw.2.2.2.2.1
  obtain ⟨X, tk, so, Rw, Gd, Sg⟩ := q
  obtain ⟨l53, l52, l48, l49⟩ := hL
  dsimp only at l53 l52 l48 l49 hin ⊢
  obtain ⟨t, ht⟩ : ∃ t, rdT σ X = t := ⟨_, rfl⟩
  have htb : 0 ≤ t ∧ t < sTr σ := by
    have := fd_bd (sW σ) (sTr σ - 1).toNat 0 (drw (nxX X) (sm (sW σ) (sTr σ).toNat))
    rw [← ht]
    unfold rdT
    omega
  have hvb := (hw.2.2.2.2.2.1 t htb.1 htb.2).1
  obtain ⟨S, hS⟩ : ∃ S, sgD σ t (nxX X) Sg m = S := ⟨_, rfl⟩
  obtain ⟨Y, hY⟩ : ∃ Y, xsN (nxX X) m = Y := ⟨_, rfl⟩
  have hrn : rnd σ m (X, tk, so, Rw, Gd, Sg) = rnE σ m t Y S (X, tk, so, Rw, Gd, Sg) := by
    unfold rnd
    dsimp only
    rw [ht, hS, hY]
  have hSo : sOK σ S m := fun i hi => by rw [← hS]; exact sgD_bd hw t (nxX X) Sg m i hi
  have hb0 : ∀ i : Int, 0 ≤ i → i < (m : Int) → 0 ≤ bdN Rw S i ∧ bdN Rw S i ≤ 60 := fun i i0 i1 => by
    have := hSo i.toNat (by omega)
    rw [show ((i.toNat : Nat) : Int) = i by omega] at this
    exact hin _ (by omega) (by omega)
  have hB : bbO (bdN Rw S) m := fun i i0 i1 => by have := hb0 i i0 i1; omega
  have hhg := hg_rkb (Rw := Rw) (Sg := S) hle.1 m hB (-1) (fun i hi => by omega)
  have hct := ctH_rkb (Rw := Rw) (Sg := S) hle.1 m hB
  have ok := rkb_ok hle.1 m hB
  have oq := ok.1
  unfold qkO at oq
  rw [hrn]
  obtain ⟨P, hP⟩ : ∃ P : Int → (Nat → Int) → (Nat → Int → Int) → sw_M → Prop, P = fun z x' a' M' => (z = 0 ∨ z = 1) ∧ (rnE σ m t Y S (X, tk, so, Rw, Gd, Sg)).2.2.1 = so + z ∧ RS G M' x' a' ∧ frR M M' ∧ xfr [26, 27, 52, 53] x x' ∧ afr [24, 25, 48, 49] a a' ∧ LR σ m (rnE σ m t Y S (X, tk, so, Rw, Gd, Sg)) x' a' := ⟨_, rfl⟩
  have hPe : (fun (r : Option Value) (M' : sw_M) => ∃ (z : Int) (x' : Nat → Int) (a' : Nat → Int → Int), r = some (sw_i z) ∧ (z = 0 ∨ z = 1) ∧ (rnE σ m t Y S (X, tk, so, Rw, Gd, Sg)).2.2.1 = so + z ∧ RS G M' x' a' ∧ frR M M' ∧ xfr [26, 27, 52, 53] x x' ∧ afr [24, 25, 48, 49] a a' ∧ LR σ m (rnE σ m t Y S (X, tk, so, Rw, Gd, Sg)) x' a') = fun r M' => ∃ z x' a', r = some (sw_i z) ∧ P z x' a' M' := by rw [hP]
  rw [hPe]
  -- nobody bids: all move up
  have none : (rkb (bdN Rw S) (sLe σ) m).1 = -1 → ∀ (n i : Nat) (a1 : Nat → Int → Int) (x1 : Nat → Int) (M1 : sw_M), i + n = m → (i = 0 ∨ sLe σ ≤ sV σ t) → RS G M1 x1 a1 → frR M M1 → xfr [26, 27, 52, 53] x x1 → afr [24, 25, 48, 49] a a1 → x1 53 = Y → x1 52 = tk → (∀ j, 0 ≤ j → j < (m : Int) → a1 25 j = S j) → (∀ j, 0 ≤ j → j < (m : Int) → a1 49 j = Gd j) → (∀ p j, 0 ≤ p → p < (m : Int) → 0 ≤ j → j < sSg σ → a1 48 (5 * p + j) = mvA Rw S i (p * 5 + j)) → V l G μX10_round sw_E0 (sw_Zq G μX10_round (sw_q0 G (fun r M' => ∃ z x' a', r = some (sw_i z) ∧ P z x' a' M'))) 88 [(0, .ref (sw_al G 70)), (1, sw_i k), (2, sw_i t), (3, sw_i (sV σ t)), (4, sw_i (i : Int))] [] M1 0 0 := by
    intro hno
    have hrE : rnE σ m t Y S (X, tk, so, Rw, Gd, Sg) = (Y, tk, so, if sLe σ ≤ sV σ t then mvA Rw S m else Rw, Gd, S) := by
      unfold rnE
      dsimp only
      rw [if_pos (by rw [← hhg]; exact hno)]
    intro n
    induction n with
    | zero =>
      intro i a1 x1 M1 hi hor hM hF hx ha h53 h52 h25 h49 h48
      have e : i = m := by omega
      subst e
      have g21 : x1 21 = (i : Int) := (hx 21 (by decide)).trans h21
      refine v_iload dX10_round_88 rfl ?_
      refine v_aload_n dX10_round_90 rfl ?_
      refine v_rgi 21 hM g21 fl_X10_176 rfl dX10_round_91 ?_
      refine v_icmp_ge (tgt := 118) dX10_round_94 (by decide) ⟨by omega, by omega⟩ ⟨by omega, by omega⟩ (fun h94 => ?_) (fun h94 => ?_)
      · skip
        refine v_iconst dX10_round_118 ?_
        refine v_zret rfl dX10_round_119 rfl (Nat.le_refl _) (Nat.le_refl _) ?_
        skip
        refine ⟨0, x1, a1, rfl, ?_⟩
        rw [hP, hrE]
        refine ⟨Or.inl rfl, (Int.add_zero _).symm, hM, hF, hx, ha, h53, h52, fun p j p0 p1 j0 j1 => ?_, h49⟩
        show _ = (if sLe σ ≤ sV σ t then mvA Rw S i else Rw) (p * 5 + j)
        rw [if_pos (by omega)]
        exact h48 p j p0 p1 j0 j1
      · skip
        exfalso; omega
    | succ n ih =>
      intro i a1 x1 M1 hi hor hM hF hx ha h53 h52 h25 h49 h48
      have g21 : x1 21 = (m : Int) := (hx 21 (by decide)).trans h21
      have g22 : x1 22 = sLe σ := (hx 22 (by decide)).trans h22
      have hSi := hSo i (by omega)
      have hb := mvA_in (Sg := S) hin i ((i : Int) * 5 + S i) (by omega) (by omega)
      refine v_iload dX10_round_88 rfl ?_
      refine v_aload_n dX10_round_90 rfl ?_
      refine v_rgi 21 hM g21 fl_X10_176 rfl dX10_round_91 ?_
      refine v_icmp_ge (tgt := 118) dX10_round_94 (by decide) ⟨by omega, by omega⟩ ⟨by omega, by omega⟩ (fun h94 => ?_) (fun h94 => ?_)
      · skip
        exfalso; omega
      · skip
        refine v_iload_n dX10_round_97 rfl ?_
        refine v_aload_n dX10_round_98 rfl ?_
        refine v_rgi 22 hM g22 fl_X10_183 rfl dX10_round_99 ?_
        refine v_icmp_lt (tgt := 118) dX10_round_102 (by decide) ⟨by omega, by omega⟩ ⟨by omega, by omega⟩ (fun h102 => ?_) (fun h102 => ?_)
        · skip
          refine v_iconst dX10_round_118 ?_
          refine v_zret rfl dX10_round_119 rfl (Nat.le_refl _) (Nat.le_refl _) ?_
          skip
          refine ⟨0, x1, a1, rfl, ?_⟩
          rw [hP, hrE]
          refine ⟨Or.inl rfl, (Int.add_zero _).symm, hM, hF, hx, ha, h53, h52, fun p j p0 p1 j0 j1 => ?_, h49⟩
          show _ = (if sLe σ ≤ sV σ t then mvA Rw S m else Rw) (p * 5 + j)
          have e : i = 0 := by omega
          subst e
          rw [if_neg (by omega)]
          exact h48 p j p0 p1 j0 j1
        · skip
          refine v_aload_n dX10_round_105 rfl ?_
          refine v_iload dX10_round_106 rfl ?_
          refine v_iconst dX10_round_108 ?_
          refine v_callV (ci := 10) (K10_change hM ⟨by omega, by omega⟩ (h25 i (by omega) (by omega)) ⟨by omega, by omega⟩ (h48 i (S i) (by omega) (by omega) hSi.1 hSi.2) hb (b := 1) ⟨by omega, by omega⟩) ⟨rfl, rfl⟩ (Nat.le_refl _) (Nat.le_refl _) hM.1 rfl ⟨ml_X10_364, mm_X10_change_⟩ ⟨(Nat.le_of_ble_eq_true rfl), (Nat.le_of_ble_eq_true rfl)⟩ mp_X10_change_ rfl rfl (Nat.le_of_ble_eq_true rfl) dX10_round_109 (fun r M' h => ?_)
          obtain ⟨rfl, hM1, hF1⟩ := h
          replace hM := hM1
          replace hF := hF.tr hF1
          refine v_iinc dX10_round_112 rfl (Nat.le_of_ble_eq_true rfl) ?_
          refine v_goto (tgt := 88) dX10_round_115 (by decide) ?_
          exact v_to (ih (i + 1) _ x1 _ (by omega) (Or.inr (by omega)) hM hF hx (ha.up (k := 48) (by decide)) h53 h52 h25 h49 (rows_up h48 ⟨by omega, by omega⟩ hsg.2)) rfl (sw_h1 rfl (sw_h1 rfl (sw_h1 rfl (sw_h1 rfl (sw_h1 rfl sw_h0)))))
  have seats : ∀ (n i : Nat) (x1 : Nat → Int) (a1 : Nat → Int → Int) (M1 : sw_M), i + n = m → RS G M1 x1 a1 → frR M M1 → xfr [53] x x1 → afr [24, 25] a a1 → x1 53 = xsN (nxX X) i → (∀ j, 0 ≤ j → j < (i : Int) → a1 25 j = sgD σ t (nxX X) Sg i j) → (∀ j, 0 ≤ j → j < (i : Int) → a1 24 j = bdN Rw (sgD σ t (nxX X) Sg i) j) → V l G μX10_round sw_E0 (sw_Zq G μX10_round (sw_q0 G (fun r M' => ∃ z x' a', r = some (sw_i z) ∧ P z x' a' M'))) 21 [(0, .ref (sw_al G 70)), (1, sw_i k), (2, sw_i t), (3, sw_i (sV σ t)), (4, sw_i (i : Int))] [] M1 0 0 := by
    intro n
    induction n with
    | zero =>
      intro i x1 a1 M1 hi hM hF hx ha h53 h25 h24
      have e : i = m := by omega
      subst e
      rw [hS] at h25 h24
      rw [hY] at h53
      have g21 : x1 21 = (i : Int) := (hx 21 (by decide)).trans h21
      have g22 : x1 22 = sLe σ := (hx 22 (by decide)).trans h22
      have g23 : x1 23 = sWy σ := (hx 23 (by decide)).trans h23
      refine v_iload dX10_round_21 rfl ?_
      refine v_aload_n dX10_round_23 rfl ?_
      refine v_rgi 21 hM g21 fl_X10_176 rfl dX10_round_24 ?_
      refine v_icmp_ge (tgt := 73) dX10_round_27 (by decide) ⟨by omega, by omega⟩ ⟨by omega, by omega⟩ (fun h27 => ?_) (fun h27 => ?_)
      · skip
        refine v_aload_n dX10_round_73 rfl ?_
        refine v_callV (ci := 10) (K10_settle hM g21 g22 g23 h24 hm.2 hle hB) ⟨rfl, rfl⟩ (Nat.le_refl _) (Nat.le_refl _) hM.1 rfl ⟨ml_X10_258, mm_X10_settle⟩ ⟨(Nat.le_of_ble_eq_true rfl), (Nat.le_of_ble_eq_true rfl)⟩ mp_X10_settle rfl rfl (Nat.le_of_ble_eq_true rfl) dX10_round_74 (fun r M' h => ?_)
        obtain ⟨x2, a2, rfl, hM2, hF2, hx2, ha2, hq2⟩ := h
        replace hM := hM2
        replace hF := hF.tr hF2
        have g26 := hq2.2.2.2.1
        have g27 := hq2.2.2.2.2.1
        have g53 : x2 53 = Y := (hx2 53 (by decide)).trans h53
        have g52 : x2 52 = tk := (hx2 52 (by decide)).trans ((hx 52 (by decide)).trans l52)
        have hX2 : xfr [26, 27, 52, 53] x x2 := hx.tr hx2 (by decide) (by decide)
        have hA2 : afr [24, 25, 48, 49] a a2 := ha.tr ha2 (by decide) (by decide)
        have k25 : ∀ j, 0 ≤ j → j < (i : Int) → a2 25 j = S j := by rw [ha2 25 (by decide)]; exact h25
        have k49 : ∀ j, 0 ≤ j → j < (i : Int) → a2 49 j = Gd j := by rw [ha2 49 (by decide), ha 49 (by decide)]; exact l49
        have k48 : ∀ p j, 0 ≤ p → p < (i : Int) → 0 ≤ j → j < sSg σ → a2 48 (5 * p + j) = Rw (p * 5 + j) := by rw [ha2 48 (by decide), ha 48 (by decide)]; exact l48
        refine v_aload_n dX10_round_77 rfl ?_
        refine v_rgi 26 hM g26 fl_X10_202 rfl dX10_round_78 ?_
        refine v_iconst dX10_round_81 ?_
        refine v_icmp_ne (tgt := 120) dX10_round_82 (by decide) ⟨by omega, by omega⟩ ⟨by omega, by omega⟩ (fun h82 => ?_) (fun h82 => ?_)
        · skip
          have hne : (rkb (bdN Rw S) (sLe σ) i).1 ≠ -1 := by omega
          have hcc := hct hne
          have hcb := ctH_bd Rw S (rkb (bdN Rw S) (sLe σ) i).1 i
          have hal : 1 ≤ (rkb (bdN Rw S) (sLe σ) i).2.1 := by omega
          refine v_aload_n dX10_round_120 rfl ?_
          refine v_aload_n dX10_round_121 rfl ?_
          refine v_rgi 27 hM g27 fl_X10_205 rfl dX10_round_122 ?_
          refine v_callV (ci := 10) (K10_draw hM g53 (k := (rkb (bdN Rw S) (sLe σ) i).2.1) ⟨by omega, by omega⟩) ⟨rfl, rfl⟩ (Nat.le_refl _) (Nat.le_refl _) hM.1 rfl ⟨ml_X10_343, mm_X10_draw⟩ ⟨(Nat.le_of_ble_eq_true rfl), (Nat.le_of_ble_eq_true rfl)⟩ mp_X10_draw rfl rfl (Nat.le_of_ble_eq_true rfl) dX10_round_125 (fun r M' h => ?_)
          obtain ⟨rfl, hM1, hF1⟩ := h
          replace hM := hM1
          replace hF := hF.tr hF1
          have hdr := drw_bd (nxX Y) (k := (rkb (bdN Rw S) (sLe σ) i).2.1) (by omega)
          refine v_istore dX10_round_128 (Nat.le_of_ble_eq_true rfl) ?_
          refine v_to (K10_rnWin hm hB hle hM (hq2.up (k := 53) (by decide)) (hi := hg Rw S (sLe σ) (-1) i) hhg (by rw [← hhg]; exact hne) (sk := drw (nxX Y) (rkb (bdN Rw S) (sLe σ) i).2.1) (by rw [← hhg, ← hcc]; exact hdr) (fun w sk' j0 w1 w2 w3 => ?_)) rfl (sw_h1 rfl (sw_h1 rfl (sw_h1 rfl (sw_h1 rfl (sw_h1 rfl sw_h0)))))
          refine K10_rnPay (P := P) (Gd := Gd) (tk := tk) hw hm hSo hin ⟨by omega, by omega⟩ w1 hB (w2.trans hhg.symm) hne hb0 hM hF (hq2.up (k := 53) (by decide)) k25 k48 k49 ((upn_o (by decide)).trans g52) (fun x3 a3 M3 p1 p2 p3 p4 p5 p6 p7 => ?_)
          have hrE : rnE σ i t Y S (X, tk, so, Rw, Gd, Sg) = (nxX Y, tkL σ Rw S w (prL σ Rw S i w) tk i, so + (if sV σ t < prL σ Rw S i w then 1 else 0), rwL Rw S i (sV σ t) w (prL σ Rw S i w), gdL σ Rw S Gd (sV σ t) w (prL σ Rw S i w) i, S) := by
            have w3' : pkW Rw S (hg Rw S (sLe σ) (-1) i) i 0 (drw (nxX Y) (ctH Rw S (hg Rw S (sLe σ) (-1) i) i)) = (w : Int) := by
              have h := w3
              rw [hcc, hhg] at h; exact h
            unfold rnE
            dsimp only
            rw [if_neg (by rw [← hhg]; exact hne), w3']
          rw [hP, hrE]
          refine ⟨by split <;> omega, rfl, p1, p2, (hX2.up (k := 53) (by decide)).tr p3 (fun t h => h) (by decide), hA2.tr p4 (fun t h => h) (by decide), (p3 53 (by decide)).trans upn_s, p5, p6, p7⟩
        · skip
          refine v_iconst dX10_round_85 ?_
          refine v_istore dX10_round_86 (Nat.le_of_ble_eq_true rfl) ?_
          exact v_to (none (by omega) i 0 a2 x2 _ (by omega) (Or.inl rfl) hM hF hX2 hA2 g53 g52 k25 k49 k48) rfl (sw_h1 rfl (sw_h1 rfl (sw_h1 rfl (sw_h1 rfl (sw_h1 rfl sw_h0)))))
      · skip
        exfalso; omega
    | succ n ih =>
      intro i x1 a1 M1 hi hM hF hx ha h53 h25 h24
      have g21 : x1 21 = (m : Int) := (hx 21 (by decide)).trans h21
      have hsi := sgD_bd hw t (nxX X) Sg (i + 1) i (by omega)
      obtain ⟨z, hz⟩ : ∃ z, fd (see σ t) (sSg σ - 1).toNat 0 (drw (nxX (xsN (nxX X) i)) 10) = z := ⟨_, rfl⟩
      have hst : sgD σ t (nxX X) Sg (i + 1) = up (sgD σ t (nxX X) Sg i) i z := by rw [← hz]; rfl
      have hzz : sgD σ t (nxX X) Sg (i + 1) (i : Int) = z := by rw [hst, up_eq]
      rw [hzz] at hsi
      have k48 : a1 48 (5 * (i : Int) + z) = Rw ((i : Int) * 5 + z) := by rw [ha 48 (by decide)]; exact l48 i z (by omega) (by omega) hsi.1 hsi.2
      refine v_iload dX10_round_21 rfl ?_
      refine v_aload_n dX10_round_23 rfl ?_
      refine v_rgi 21 hM g21 fl_X10_176 rfl dX10_round_24 ?_
      refine v_icmp_ge (tgt := 73) dX10_round_27 (by decide) ⟨by omega, by omega⟩ ⟨by omega, by omega⟩ (fun h27 => ?_) (fun h27 => ?_)
      · skip
        exfalso; omega
      · skip
        refine v_aload_n dX10_round_30 rfl ?_
        refine v_getfH 25 hM.1 fl_X10_52 rfl dX10_round_31 ?_
        refine v_iload dX10_round_34 rfl ?_
        refine v_aload_n dX10_round_36 rfl ?_
        refine v_iload_n dX10_round_37 rfl ?_
        refine v_iload_n dX10_round_38 rfl ?_
        refine v_callV (ci := 10) (K10_drawSign hM h53 (hr.fr ha (by decide)) hk hw htb) ⟨rfl, rfl⟩ (Nat.le_refl _) (Nat.le_refl _) hM.1 rfl ⟨ml_X10_361, mm_X10_drawSign⟩ ⟨(Nat.le_of_ble_eq_true rfl), (Nat.le_of_ble_eq_true rfl)⟩ mp_X10_drawSign rfl rfl (Nat.le_of_ble_eq_true rfl) dX10_round_39 (fun r M' h => ?_)
        obtain ⟨rfl, hM1, hF1⟩ := h
        replace hM := hM1
        replace hF := hF.tr hF1
        rw [hz]
        refine v_ris hM hF ar_25 (by omega) (by omega) dX10_round_42 (fun M hM hF => ?_)
        refine v_aload_n dX10_round_43 rfl ?_
        refine v_getfH 24 hM.1 fl_X10_49 rfl dX10_round_44 ?_
        refine v_iload dX10_round_47 rfl ?_
        refine v_aload_n dX10_round_49 rfl ?_
        refine v_getfH 48 hM.1 fl_X10_70 rfl dX10_round_50 ?_
        refine v_iconst dX10_round_53 ?_
        refine v_iload dX10_round_54 rfl ?_
        refine v_imul dX10_round_56 ?_
        refine v_aload_n dX10_round_57 rfl ?_
        refine v_getfH 25 hM.1 fl_X10_52 rfl dX10_round_58 ?_
        refine v_iload dX10_round_61 rfl ?_
        refine v_ria hM ar_25 (by omega) (by omega) up_eq dX10_round_63 ?_
        refine v_iadd dX10_round_64 ?_
        refine v_ria hM ar_48 (by omega) (by omega) k48 dX10_round_65 ?_
        refine v_ris hM hF ar_24 (by omega) (by omega) dX10_round_66 (fun M hM hF => ?_)
        refine v_iinc dX10_round_67 rfl (Nat.le_of_ble_eq_true rfl) ?_
        refine v_goto (tgt := 21) dX10_round_70 (by decide) ?_
        refine v_to (ih (i + 1) _ _ _ (by omega) hM hF (hx.up (k := 53) (by decide)) ((ha.up (k := 25) (by decide)).up (k := 24) (by decide)) upn_s (fun j j0 j1 => ?_) (fun j j0 j1 => ?_)) rfl (sw_h1 rfl (sw_h1 rfl (sw_h1 rfl (sw_h1 rfl (sw_h1 rfl sw_h0)))))
        · show up (a1 25) (i : Int) z j = _
          rw [hst]
          by_cases c : j = (i : Int)
          · subst c; rw [up_eq, up_eq]
          · rw [up_ne c, up_ne c]; exact h25 j j0 (by omega)
        · show up (a1 24) (i : Int) (Rw ((i : Int) * 5 + z)) j = Rw (j * 5 + sgD σ t (nxX X) Sg (i + 1) j)
          rw [hst]
          by_cases c : j = (i : Int)
          · subst c; rw [up_eq, up_eq]
          · rw [up_ne c, up_ne c]; exact h24 j j0 (by omega)
  have v1 := (hr.2.2.2.2.2 t htb.1 htb.2).1
  refine v_aload_n dX10_round_0 rfl ?_
  refine v_iload_n dX10_round_1 rfl ?_
  refine v_callV (ci := 10) (K10_drawTruth hM l53 hr hk hw) ⟨rfl, rfl⟩ (Nat.le_refl _) (Nat.le_refl _) hM.1 rfl ⟨ml_X10_358, mm_X10_drawTruth⟩ ⟨(Nat.le_of_ble_eq_true rfl), (Nat.le_of_ble_eq_true rfl)⟩ mp_X10_drawTruth rfl rfl (Nat.le_of_ble_eq_true rfl) dX10_round_2 (fun r M' h => ?_)
  obtain ⟨rfl, hM1, hF1⟩ := h
  replace hM := hM1
  replace hF := hF.tr hF1
  rw [ht]
  refine v_istore_n dX10_round_5 (Nat.le_of_ble_eq_true rfl) ?_
  refine v_aload_n dX10_round_6 rfl ?_
  refine v_getfH 7 hM.1 fl_X10_19 rfl dX10_round_7 ?_
  refine v_bipush dX10_round_10 (by decide +kernel) ?_
  refine v_iload_n dX10_round_12 rfl ?_
  refine v_imul dX10_round_13 ?_
  refine v_iload_n dX10_round_14 rfl ?_
  refine v_iadd dX10_round_15 ?_
  refine v_ria hM ar_7 (by omega) (by omega) v1 dX10_round_16 ?_
  refine v_istore_n dX10_round_17 (Nat.le_of_ble_eq_true rfl) ?_
  refine v_iconst dX10_round_18 ?_
  refine v_istore dX10_round_19 (Nat.le_of_ble_eq_true rfl) ?_
  exact v_to (seats m 0 _ a _ (by omega) hM hF (xfr.rf.up (k := 53) (by decide)) afr.rf upn_s (fun j j0 j1 => by omega) (fun j j0 j1 => by omega)) rfl (sw_h1 rfl (sw_h1 rfl (sw_h1 rfl (sw_h1 rfl (sw_h1 rfl sw_h0)))))
end

