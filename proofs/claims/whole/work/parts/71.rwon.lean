/-! the reference's face: won, less -/
theorem gcdI_mul {g : Int} (hg : 0 < g) (u v : Int) : gcdI (g * u) (g * v) = g * gcdI u v := by
  unfold gcdI
  rw [Int.natAbs_mul, Int.natAbs_mul, Nat.gcd_mul_left, Int.natCast_mul, show ((g.natAbs : Nat) : Int) = g by omega]
theorem gcd_split {p q : Int} (hp : 0 ≤ p) (hq : 0 < q) : ∃ u v, p = gcdI p q * u ∧ q = gcdI p q * v ∧ (0 ≤ u ∧ u ≤ p) ∧ (0 < v ∧ v ≤ q) ∧ 0 < gcdI p q := by
  obtain ⟨P, rfl⟩ : ∃ P : Nat, p = (P : Int) := ⟨p.toNat, by omega⟩
  obtain ⟨Q, rfl⟩ : ∃ Q : Nat, q = (Q : Int) := ⟨q.toNat, by omega⟩
  have e : gcdI (P : Int) (Q : Int) = ((Nat.gcd P Q : Nat) : Int) := rfl
  have hg : 0 < Nat.gcd P Q := Nat.gcd_pos_of_pos_right _ (by omega)
  obtain ⟨u, hu⟩ := Nat.gcd_dvd_left P Q
  obtain ⟨v, hv⟩ := Nat.gcd_dvd_right P Q
  have hu1 : u ≤ Nat.gcd P Q * u := Nat.le_mul_of_pos_left u hg
  have hv1 : v ≤ Nat.gcd P Q * v := Nat.le_mul_of_pos_left v hg
  have hv0 : 0 < v := by
    rcases Nat.eq_zero_or_pos v with h | h
    · rw [h, Nat.mul_zero] at hv; omega
    · exact h
  rw [e]
  refine ⟨u, v, ?_, ?_, by omega, by omega, by omega⟩
  · rw [← Int.natCast_mul, ← hu]
  · rw [← Int.natCast_mul, ← hv]
theorem pwt_zero {σ : SaleT} {S P0 : Int → Int} {t : Int} {i : Nat} (h : sO σ (t * 5 + S i) = 0) : ∀ m : Nat, i < m → pwt σ S P0 m t = 0
  | 0, hi => by omega
  | m + 1, hi => by
    show pwt σ S P0 m t * sO σ (t * 5 + S m) = 0
    by_cases e : i = m
    · rw [← e, h, Int.mul_zero]
    · rw [pwt_zero h m (by omega), Int.zero_mul]
theorem sm_nn0 {g : Int → Int} : ∀ n : Nat, (∀ t : Int, 0 ≤ t → t < n → 0 ≤ g t) → sm g n = 0 → ∀ t : Int, 0 ≤ t → t < n → g t = 0 := fun n h e t t0 t1 => by
  have h1 := sm_ge n t h t0 t1
  have h2 := h t t0 t1
  omega
theorem wC_dn {σ : SaleT} (hw : wfS σ) {R : Int → Int} {P0 : Int → Int} {m i : Nat} {k : Int} (hi : i < m) (hk : 0 ≤ k ∧ k < sSg σ) (h : 0 < TC σ R P0 m i k) : 0 < dnS σ k (-1) (-1) (-1) (sTr σ).toNat := by
  have hb := dn_bd hw k (-1) (-1) (-1) (n := (sTr σ).toNat) (by have := hw.2.1; omega)
  by_cases c : dnS σ k (-1) (-1) (-1) (sTr σ).toNat = 0
  · exfalso
    have htr := hw.2.1
    have hz := sm_nn0 (g := wgt σ k (-1) (-1) (-1)) (sTr σ).toNat (fun t t0 t1 => (wgt_bd hw t0 (by omega) k (-1) (-1) (-1)).1) c
    have ho : ∀ t, 0 ≤ t → t < sTr σ → sO σ (t * 5 + k) = 0 := fun t t0 t1 => by
      have h1 := hz t t0 (by omega)
      have e1 : see σ t (-1) = 1 := if_neg (by omega)
      have e2 : see σ t k = sO σ (t * 5 + k) := if_pos hk
      unfold wgt at h1
      rw [e1, e2, Int.mul_one, Int.mul_one, Int.mul_one] at h1
      have hwt := hw.2.2.2.2.2.1 t t0 t1
      rcases Int.mul_eq_zero.mp h1 with h2 | h2
      · omega
      · exact h2
    have hT : TC σ R P0 m i k = 0 := by
      have e3 : TC σ R P0 m i k = sn (fun _ => 0) (pwi (sSg σ) m).toNat := sn_congr _ (fun n _ => by
        unfold tX
        by_cases c1 : (rk R (sq (sSg σ) m z0 n) (sLe σ) m).2.1 = 0
        · rw [if_pos c1]
        · rw [if_neg c1]
          by_cases c2 : sq (sSg σ) m z0 n i = k ∧ R ((i : Int) * 5 + sq (sSg σ) m z0 n i) = (rk R (sq (sSg σ) m z0 n) (sLe σ) m).1
          · rw [if_pos c2]
            have e4 : crW σ (sq (sSg σ) m z0 n) P0 m = 0 := by
              have e5 := sm_congr (f := pwt σ (sq (sSg σ) m z0 n) P0 m) (g := fun t => 0 * sV σ t) (sTr σ).toNat (fun t t0 t1 => by
                rw [Int.zero_mul]
                exact pwt_zero (by rw [c2.1]; exact ho t t0 (by omega)) m hi)
              show sm (pwt σ (sq (sSg σ) m z0 n) P0 m) _ = 0
              rw [e5, sm_mul, Int.zero_mul]
            show _ * crW σ (sq (sSg σ) m z0 n) P0 m = 0
            rw [e4, Int.mul_zero]
          · rw [if_neg c2])
      rw [e3, sn_zero]
    omega
  · omega
section
variable {l : Launch} {G : sw_G} {M : sw_M} {s : CSt} {k : Int} {x : Nat → Int} {a : Nat → Int → Int}
theorem K10_findWon {seat sign : Int} (hM : RS G M x a) (hRI : RI s x a) (hs : stOK s) (hk : isS s k) (hp : (0 ≤ seat ∧ seat < sNb (sl s k)) ∧ 0 ≤ sign ∧ sign < sSg (sl s k)) : Kt l G μX10_findWon [.ref (sw_al G 70), sw_i k, sw_i seat, sw_i sign] M (fun r M' => ∃ x' a', r = some (sw_i (bI (0 < wC (sl s k) (qT s) (qB s) seat sign))) ∧ RS G M' x' a' ∧ frR M M' ∧ xfr XL x x' ∧ afr AL a a' ∧ x' 33 = wV (sl s k) (qT s) (qB s) seat sign ∧ x' 34 = wC (sl s k) (qT s) (qB s) seat sign) := by
  refine KtA.of (by decide +kernel) (Nat.le_of_ble_eq_true rfl) ?_
  have hF : frR M M := frR.rf
  have hw := hs.sale hk
  have hnb := hw.2.2.1
  have htr := hw.2.1
  have hsg := hw.1
  have hle := hw.2.2.2.1
  have hwy := hw.2.2.2.2.1
  have hns : qN s ≤ 8 := hs.2.1
  obtain ⟨hk0, hk1⟩ := id hk
  have hX : xfr XL x x := xfr.rf
  have hA : afr AL a a := afr.rf
  have hf := bF_fBd hw hs.c (-1) (sNb (sl s k)).toNat
  obtain ⟨p1, p2⟩ := hp
  obtain ⟨n, rfl⟩ : ∃ n : Nat, seat = (n : Int) := ⟨seat.toNat, by omega⟩
  have en : ((n : Int)).toNat = n := Int.toNat_natCast n
  have hcb := TC_bd hw (rwF (bF (sl s k) (qT s) (qB s) (-1))) (pS_B hw (-1)) (m := (sNb (sl s k)).toNat) (by omega) n sign
  refine v_aload_n dX10_findWon_0 rfl ?_
  refine v_iload_n dX10_findWon_1 rfl ?_
  refine v_iload_n dX10_findWon_2 rfl ?_
  refine v_callV (ci := 10) (K10_isSeat hM hRI.2.2.1 ⟨by omega, by omega⟩ (nb := sNb (sl s k)) (fun _ => (hRI.row hk).2.2.1) ⟨by omega, by omega⟩ ⟨by omega, by omega⟩ ⟨by omega, by omega⟩) ⟨rfl, rfl⟩ (Nat.le_refl _) (Nat.le_refl _) hM.1 rfl ⟨ml_X10_196, mm_X10_isSeat⟩ ⟨(Nat.le_of_ble_eq_true rfl), (Nat.le_of_ble_eq_true rfl)⟩ mp_X10_isSeat rfl rfl (Nat.le_of_ble_eq_true rfl) dX10_findWon_3 (fun r M' h => ?_)
  obtain ⟨rfl, rfl⟩ := h
  refine v_ifb_eq (tgt := 18) dX10_findWon_6 (by decide) (fun q0 => ?_) (fun q0 => ?_)
  · skip
    exact (q0 ⟨hk, p1⟩).elim
  · skip
    refine v_aload_n dX10_findWon_9 rfl ?_
    refine v_iload_n dX10_findWon_10 rfl ?_
    refine v_iload_n dX10_findWon_11 rfl ?_
    refine v_callV (ci := 10) (K10_isSign hM (hRI.row hk).1 ⟨by omega, by omega⟩ ⟨by omega, by omega⟩ ⟨by omega, by omega⟩) ⟨rfl, rfl⟩ (Nat.le_refl _) (Nat.le_refl _) hM.1 rfl ⟨ml_X10_162, mm_X10_isSign⟩ ⟨(Nat.le_of_ble_eq_true rfl), (Nat.le_of_ble_eq_true rfl)⟩ mp_X10_isSign rfl rfl (Nat.le_of_ble_eq_true rfl) dX10_findWon_12 (fun r M' h => ?_)
    obtain ⟨rfl, rfl⟩ := h
    refine v_ifb_ne (tgt := 20) dX10_findWon_15 (by decide) (fun h15 => ?_) (fun h15 => ?_)
    · skip
      refine v_aload_n dX10_findWon_20 rfl ?_
      refine v_iload_n dX10_findWon_21 rfl ?_
      refine v_callV (ci := 10) (K10_bg hM (hRI.fr hX hA) hs hk) ⟨rfl, rfl⟩ (Nat.le_refl _) (Nat.le_refl _) hM.1 rfl ⟨ml_X10_199, mm_X10_begin⟩ ⟨(Nat.le_of_ble_eq_true rfl), (Nat.le_of_ble_eq_true rfl)⟩ mp_X10_begin rfl rfl (Nat.le_of_ble_eq_true rfl) dX10_findWon_22 (fun r M' h => ?_)
      obtain ⟨x2, a2, rfl, hM2, hF2, hx2, ha2, hBG⟩ := h
      replace hM := hM2
      replace hF := hF.tr hF2
      replace hX := hX.tr hx2 (fun t h => h) (by decide)
      replace hA := hA.tr ha2 (fun t h => h) (by decide)
      refine v_aload_n dX10_findWon_25 rfl ?_
      refine v_iload_n dX10_findWon_26 rfl ?_
      refine v_iload_n dX10_findWon_27 rfl ?_
      refine v_iconst dX10_findWon_28 ?_
      refine v_callV (ci := 10) (K10_ak hM) ⟨rfl, rfl⟩ (Nat.le_refl _) (Nat.le_refl _) hM.1 rfl ⟨ml_X10_271, mm_X10_ask⟩ ⟨(Nat.le_of_ble_eq_true rfl), (Nat.le_of_ble_eq_true rfl)⟩ mp_X10_ask rfl rfl (Nat.le_of_ble_eq_true rfl) dX10_findWon_29 (fun r M' h => ?_)
      obtain ⟨x3, rfl, hM3, hF3, hx3, hAS⟩ := h
      replace hM := hM3
      replace hF := hF.tr hF3
      replace hX := hX.tr hx3 (fun t h => h) (by decide)
      replace hBG := hBG.fr hx3 afr.rf (K := []) (by decide) (by decide)
      refine v_aload_n dX10_findWon_32 rfl ?_
      refine v_iload_n dX10_findWon_33 rfl ?_
      refine v_iconst dX10_findWon_34 ?_
      refine v_callV (ci := 10) (K10_go hM hBG hAS ⟨hk0, by omega⟩ hw hf (Or.inl rfl) ⟨by omega, by omega⟩ hle hwy ⟨by omega, by omega⟩ ⟨by omega, by omega⟩ (fun _ => by omega) ⟨by omega, by omega⟩ ⟨by omega, by omega⟩ ⟨by omega, by omega⟩ (fun _ => by omega)) ⟨rfl, rfl⟩ (Nat.le_refl _) (Nat.le_refl _) hM.1 rfl ⟨ml_X10_275, mm_X10_goThrough⟩ ⟨(Nat.le_of_ble_eq_true rfl), (Nat.le_of_ble_eq_true rfl)⟩ mp_X10_goThrough rfl rfl (Nat.le_of_ble_eq_true rfl) dX10_findWon_35 (fun r M' h => ?_)
      obtain ⟨x4, a4, rfl, hM4, hF4, hx4, ha4, hT⟩ := h
      replace hM := hM4
      replace hF := hF.tr hF4
      replace hX := hX.tr hx4 (fun t h => h) (by decide)
      replace hA := hA.tr ha4 (fun t h => h) (by decide)
      replace hBG := hBG.fr hx4 ha4 (by decide) (by decide)
      have t28 := hT 28 (by decide) (by decide)
      have t29 := hT 29 (by decide) (by decide)
      have t30 := hT 30 (by decide) (by decide)
      have t31 := hT 31 (by decide) (by decide)
      have t32 := hT 32 (by decide) (by decide)
      have t33 := hT 33 (by decide) (by decide)
      have t34 := hT 34 (by decide) (by decide)
      rw [go34 hw hf (show n < (sNb (sl s k)).toNat by omega) (show sign ≠ -1 by omega)] at t34
      rw [go33 hw hf (show n < (sNb (sl s k)).toNat by omega) (show sign ≠ -1 by omega)] at t33
      have ewc : wC (sl s k) (qT s) (qB s) (n : Int) sign = x4 34 := by unfold wC; rw [en, t34]
      have ewv : wV (sl s k) (qT s) (qB s) (n : Int) sign = x4 33 := by unfold wV; rw [en, t33]
      refine v_aload_n dX10_findWon_38 rfl ?_
      refine v_rgj 34 hM t34 fl_X10_249 rfl dX10_findWon_39 ?_
      refine v_lconst (z := 0) dX10_findWon_42 (by decide +kernel) ?_
      refine v_lcmp_le (tgt := 51) dX10_findWon_43 dX10_findWon_44 (by decide) ⟨by omega, by omega⟩ ⟨by omega, by omega⟩ (fun q => ?_) (fun q => ?_)
      · skip
        refine v_iconst dX10_findWon_51 ?_
        exact v_zret rfl dX10_findWon_52 rfl (Nat.le_refl _) (Nat.le_refl _) (⟨_, _, by unfold bI; rw [if_neg (by omega)], hM, hF, hX, hA, ewv.symm, ewc.symm⟩)
      · skip
        refine v_iconst dX10_findWon_47 ?_
        refine v_goto (tgt := 52) dX10_findWon_48 (by decide) ?_
        exact v_zret rfl dX10_findWon_52 rfl (Nat.le_refl _) (Nat.le_refl _) (⟨_, _, by unfold bI; rw [if_pos (by omega)], hM, hF, hX, hA, ewv.symm, ewc.symm⟩)
    · skip
      exact absurd p2 (by assumption)
theorem K10_findWonX {seat sign : Int} (hM : RS G M x a) (hRI : RI s x a) (hs : stOK s) (g0 : sw_rg k) (g1 : sw_rg seat) (g2 : sw_rg sign) (hp : ¬ (isS s k ∧ (0 ≤ seat ∧ seat < sNb (sl s k)) ∧ 0 ≤ sign ∧ sign < sSg (sl s k))) : Kt l G μX10_findWon [.ref (sw_al G 70), sw_i k, sw_i seat, sw_i sign] M (fun r M' => r = some (sw_i (bI False)) ∧ M' = M) := by
  refine KtA.of (by decide +kernel) (Nat.le_of_ble_eq_true rfl) ?_
  have hns : qN s ≤ 8 := hs.2.1
  by_cases hk : isS s k
  · have hw := hs.sale hk
    have hnb := hw.2.2.1
    have hsg := hw.1
    obtain ⟨hk0, hk1⟩ := id hk
    refine v_aload_n dX10_findWon_0 rfl ?_
    refine v_iload_n dX10_findWon_1 rfl ?_
    refine v_iload_n dX10_findWon_2 rfl ?_
    refine v_callV (ci := 10) (K10_isSeat hM hRI.2.2.1 ⟨by omega, by omega⟩ (nb := sNb (sl s k)) (fun _ => (hRI.row hk).2.2.1) ⟨by omega, by omega⟩ g0 g1) ⟨rfl, rfl⟩ (Nat.le_refl _) (Nat.le_refl _) hM.1 rfl ⟨ml_X10_196, mm_X10_isSeat⟩ ⟨(Nat.le_of_ble_eq_true rfl), (Nat.le_of_ble_eq_true rfl)⟩ mp_X10_isSeat rfl rfl (Nat.le_of_ble_eq_true rfl) dX10_findWon_3 (fun r M' h => ?_)
    obtain ⟨rfl, rfl⟩ := h
    refine v_ifb_eq (tgt := 18) dX10_findWon_6 (by decide) (fun q1 => ?_) (fun q1 => ?_)
    · skip
      refine v_iconst dX10_findWon_18 ?_
      exact v_zret rfl dX10_findWon_19 rfl (Nat.le_refl _) (Nat.le_refl _) (⟨by unfold bI; rw [if_neg id], rfl⟩)
    · skip
      refine v_aload_n dX10_findWon_9 rfl ?_
      refine v_iload_n dX10_findWon_10 rfl ?_
      refine v_iload_n dX10_findWon_11 rfl ?_
      refine v_callV (ci := 10) (K10_isSign hM (hRI.row hk).1 ⟨by omega, by omega⟩ ⟨by omega, by omega⟩ g2) ⟨rfl, rfl⟩ (Nat.le_refl _) (Nat.le_refl _) hM.1 rfl ⟨ml_X10_162, mm_X10_isSign⟩ ⟨(Nat.le_of_ble_eq_true rfl), (Nat.le_of_ble_eq_true rfl)⟩ mp_X10_isSign rfl rfl (Nat.le_of_ble_eq_true rfl) dX10_findWon_12 (fun r M' h => ?_)
      obtain ⟨rfl, rfl⟩ := h
      refine v_ifb_ne (tgt := 20) dX10_findWon_15 (by decide) (fun q2 => ?_) (fun q2 => ?_)
      · skip
        exact absurd ⟨hk, q1.2, q2⟩ hp
      · skip
        refine v_iconst dX10_findWon_18 ?_
        exact v_zret rfl dX10_findWon_19 rfl (Nat.le_refl _) (Nat.le_refl _) (⟨by unfold bI; rw [if_neg id], rfl⟩)
  · skip
    refine v_aload_n dX10_findWon_0 rfl ?_
    refine v_iload_n dX10_findWon_1 rfl ?_
    refine v_iload_n dX10_findWon_2 rfl ?_
    refine v_callV (ci := 10) (K10_isSeat hM hRI.2.2.1 ⟨by omega, by omega⟩ (nb := 0) (fun h => absurd h hk) ⟨by omega, by omega⟩ g0 g1) ⟨rfl, rfl⟩ (Nat.le_refl _) (Nat.le_refl _) hM.1 rfl ⟨ml_X10_196, mm_X10_isSeat⟩ ⟨(Nat.le_of_ble_eq_true rfl), (Nat.le_of_ble_eq_true rfl)⟩ mp_X10_isSeat rfl rfl (Nat.le_of_ble_eq_true rfl) dX10_findWon_3 (fun r M' h => ?_)
    obtain ⟨rfl, rfl⟩ := h
    refine v_ifb_eq (tgt := 18) dX10_findWon_6 (by decide) (fun q1 => ?_) (fun q1 => ?_)
    · skip
      refine v_iconst dX10_findWon_18 ?_
      exact v_zret rfl dX10_findWon_19 rfl (Nat.le_refl _) (Nat.le_refl _) (⟨by unfold bI; rw [if_neg id], rfl⟩)
    · skip
      exact absurd q1.1 hk
theorem R9_won {seat sign what : Int} (hI : InvR G M s) (hs : stOK s) (hk : isS s k) (hp : winP (sl s k) (qT s) (qB s) seat sign what) : Kt l G μX10_won [.ref (sw_al G 70), sw_i k, sw_i seat, sw_i sign, sw_i what] M (fun r M' => r = some (sw_j (if 0 < wC (sl s k) (qT s) (qB s) seat sign then (if what = 0 then wV (sl s k) (qT s) (qB s) seat sign else wC (sl s k) (qT s) (qB s) seat sign).tdiv (gcdI (wV (sl s k) (qT s) (qB s) seat sign) (wC (sl s k) (qT s) (qB s) seat sign)) else -1)) ∧ InvR G M' s ∧ frR M M') := by
  refine KtA.of (by decide +kernel) (Nat.le_of_ble_eq_true rfl) ?_
  have hF : frR M M := frR.rf
  obtain ⟨x, a, hM, hRI⟩ := hI
  have hw := hs.sale hk
  have hnb := hw.2.2.1
  obtain ⟨p1, p2⟩ := hp
  have hcb := TC_bd hw (rwF (bF (sl s k) (qT s) (qB s) (-1))) (pS_B hw (-1)) (m := (sNb (sl s k)).toNat) (by omega) seat.toNat sign
  have hvb := TV_bd hw (rwF (bF (sl s k) (qT s) (qB s) (-1))) (pS_B hw (-1)) (m := (sNb (sl s k)).toNat) (by omega) seat.toNat sign
  rw [show TC (sl s k) _ _ _ _ sign = wC (sl s k) (qT s) (qB s) seat sign from rfl] at hcb
  rw [show TV (sl s k) _ _ _ _ sign = wV (sl s k) (qT s) (qB s) seat sign from rfl] at hvb
  refine v_iload dX10_won_0 rfl ?_
  refine v_iconst dX10_won_2 ?_
  refine v_iconst dX10_won_3 ?_
  refine v_callS (K10_in (v := what) (lo := 0) (hi := 1) ⟨by omega, by omega⟩ ⟨by omega, by omega⟩ ⟨by omega, by omega⟩) ⟨rfl, rfl⟩ (Nat.le_refl _) (Nat.le_refl _) ⟨ml_X10_107, mm_X10_in⟩ ⟨(Nat.le_of_ble_eq_true rfl), (Nat.le_of_ble_eq_true rfl)⟩ mp_X10_in rfl rfl (Nat.le_of_ble_eq_true rfl) dX10_won_4 (fun r M' h => ?_)
  obtain ⟨rfl, rfl⟩ := h
  refine v_ifb_eq (tgt := 36) dX10_won_7 (by decide) (fun h7 => ?_) (fun h7 => ?_)
  · skip
    exfalso; omega
  · skip
    refine v_aload_n dX10_won_10 rfl ?_
    refine v_iload_n dX10_won_11 rfl ?_
    refine v_iload_n dX10_won_12 rfl ?_
    refine v_iload_n dX10_won_13 rfl ?_
    refine v_callV (ci := 10) (K10_findWon hM hRI hs hk p2) ⟨rfl, rfl⟩ (Nat.le_refl _) (Nat.le_refl _) hM.1 rfl ⟨ml_X10_280, mm_X10_findWon⟩ ⟨(Nat.le_of_ble_eq_true rfl), (Nat.le_of_ble_eq_true rfl)⟩ mp_X10_findWon rfl rfl (Nat.le_of_ble_eq_true rfl) dX10_won_14 (fun r M' h => ?_)
    obtain ⟨x2, a2, rfl, hM2, hF2, hX, hA, v33, v34⟩ := h
    replace hM := hM2
    replace hF := hF.tr hF2
    refine v_ifb_eq (tgt := 36) dX10_won_17 (by decide) (fun q => ?_) (fun q => ?_)
    · skip
      refine v_ldc2 (z := -1) kl_X10_269 (by decide +kernel) dX10_won_36 ?_
      exact v_lret dX10_won_39 rfl (Nat.le_refl _) (Nat.le_refl _) (⟨by rw [if_neg q], ⟨_, _, hM, hRI.fr hX hA⟩, hF⟩)
    · skip
      refine v_aload_n dX10_won_20 rfl ?_
      refine v_rgj 33 hM v33 fl_X10_246 rfl dX10_won_21 ?_
      refine v_aload_n dX10_won_24 rfl ?_
      refine v_rgj 34 hM v34 fl_X10_249 rfl dX10_won_25 ?_
      refine v_iload dX10_won_28 rfl ?_
      refine v_callS (K10_part (p := wV (sl s k) (qT s) (qB s) seat sign) (q := wC (sl s k) (qT s) (qB s) seat sign) (what := what) ⟨by omega, by omega⟩ ⟨by omega, by omega⟩ ⟨by omega, by omega⟩) ⟨rfl, rfl⟩ (Nat.le_refl _) (Nat.le_refl _) ⟨ml_X10_169, mm_X10_part⟩ ⟨(Nat.le_of_ble_eq_true rfl), (Nat.le_of_ble_eq_true rfl)⟩ mp_X10_part rfl rfl (Nat.le_of_ble_eq_true rfl) dX10_won_30 (fun r M' h => ?_)
      obtain ⟨rfl, rfl⟩ := h
      refine v_goto (tgt := 39) dX10_won_33 (by decide) ?_
      exact v_lret dX10_won_39 rfl (Nat.le_refl _) (Nat.le_refl _) (⟨by rw [if_pos q], ⟨_, _, hM, hRI.fr hX hA⟩, hF⟩)
theorem R9_wonX {seat sign what : Int} (hI : InvR G M s) (hs : stOK s) (g0 : sw_rg k) (hp : ¬ (isS s k ∧ winP (sl s k) (qT s) (qB s) seat sign what)) (g1 : sw_rg seat) (g2 : sw_rg sign) (g3 : sw_rg what) : Kt l G μX10_won [.ref (sw_al G 70), sw_i k, sw_i seat, sw_i sign, sw_i what] M (fun r M' => r = some (sw_j (-1)) ∧ InvR G M' s ∧ frR M M') := by
  refine KtA.of (by decide +kernel) (Nat.le_of_ble_eq_true rfl) ?_
  obtain ⟨x, a, hM, hRI⟩ := hI
  refine v_iload dX10_won_0 rfl ?_
  refine v_iconst dX10_won_2 ?_
  refine v_iconst dX10_won_3 ?_
  refine v_callS (K10_in (v := what) (lo := 0) (hi := 1) g3 ⟨by omega, by omega⟩ ⟨by omega, by omega⟩) ⟨rfl, rfl⟩ (Nat.le_refl _) (Nat.le_refl _) ⟨ml_X10_107, mm_X10_in⟩ ⟨(Nat.le_of_ble_eq_true rfl), (Nat.le_of_ble_eq_true rfl)⟩ mp_X10_in rfl rfl (Nat.le_of_ble_eq_true rfl) dX10_won_4 (fun r M' h => ?_)
  obtain ⟨rfl, rfl⟩ := h
  refine v_ifb_eq (tgt := 36) dX10_won_7 (by decide) (fun q0 => ?_) (fun q0 => ?_)
  · skip
    refine v_ldc2 (z := -1) kl_X10_269 (by decide +kernel) dX10_won_36 ?_
    exact v_lret dX10_won_39 rfl (Nat.le_refl _) (Nat.le_refl _) (⟨rfl, ⟨_, _, hM, hRI⟩, frR.rf⟩)
  · skip
    refine v_aload_n dX10_won_10 rfl ?_
    refine v_iload_n dX10_won_11 rfl ?_
    refine v_iload_n dX10_won_12 rfl ?_
    refine v_iload_n dX10_won_13 rfl ?_
    refine v_callV (ci := 10) (K10_findWonX hM hRI hs g0 g1 g2 (fun h => hp ⟨h.1, by omega, h.2⟩)) ⟨rfl, rfl⟩ (Nat.le_refl _) (Nat.le_refl _) hM.1 rfl ⟨ml_X10_280, mm_X10_findWon⟩ ⟨(Nat.le_of_ble_eq_true rfl), (Nat.le_of_ble_eq_true rfl)⟩ mp_X10_findWon rfl rfl (Nat.le_of_ble_eq_true rfl) dX10_won_14 (fun r M' h => ?_)
    obtain ⟨rfl, rfl⟩ := h
    refine v_ifb_eq (tgt := 36) dX10_won_17 (by decide) (fun h17 => ?_) (fun h17 => ?_)
    · skip
      refine v_ldc2 (z := -1) kl_X10_269 (by decide +kernel) dX10_won_36 ?_
      exact v_lret dX10_won_39 rfl (Nat.le_refl _) (Nat.le_refl _) (⟨rfl, ⟨_, _, hM, hRI⟩, frR.rf⟩)
    · skip
      exact absurd (by assumption) id
theorem R9_less {seat sign what : Int} (hI : InvR G M s) (hs : stOK s) (hk : isS s k) (hp : winP (sl s k) (qT s) (qB s) seat sign what) : Kt l G μX10_less [.ref (sw_al G 70), sw_i k, sw_i seat, sw_i sign, sw_i what] M (fun r M' => r = some (sw_j (if 0 < wC (sl s k) (qT s) (qB s) seat sign ∧ 0 < dnS (sl s k) sign (-1) (-1) (-1) (sTr (sl s k)).toNat then (if what = 0 then lsU (sl s k) (qT s) (qB s) seat sign else lsD (sl s k) (qT s) (qB s) seat sign).tdiv (gcdI (lsU (sl s k) (qT s) (qB s) seat sign) (lsD (sl s k) (qT s) (qB s) seat sign)) else -1000000000000000)) ∧ InvR G M' s ∧ frR M M') := by
  refine KtA.of (by decide +kernel) (Nat.le_of_ble_eq_true rfl) ?_
  have hF : frR M M := frR.rf
  obtain ⟨x, a, hM, hRI⟩ := hI
  have hw := hs.sale hk
  have hnb := hw.2.2.1
  have htr := hw.2.1
  have hsg := hw.1
  have hns : qN s ≤ 8 := hs.2.1
  obtain ⟨hk0, hk1⟩ := id hk
  obtain ⟨p1, p2⟩ := hp
  have hr := hRI.row hk
  have hdn : 0 < wC (sl s k) (qT s) (qB s) seat sign → 0 < dnS (sl s k) sign (-1) (-1) (-1) (sTr (sl s k)).toNat := wC_dn hw (show seat.toNat < (sNb (sl s k)).toNat by omega) p2.2
  have hub := up_bd hw sign (-1) (-1) (-1) (n := (sTr (sl s k)).toNat) (by omega)
  have hdb := dn_bd hw sign (-1) (-1) (-1) (n := (sTr (sl s k)).toNat) (by omega)
  have hcb := TC_bd hw (rwF (bF (sl s k) (qT s) (qB s) (-1))) (pS_B hw (-1)) (m := (sNb (sl s k)).toNat) (by omega) seat.toNat sign
  have hvb := TV_bd hw (rwF (bF (sl s k) (qT s) (qB s) (-1))) (pS_B hw (-1)) (m := (sNb (sl s k)).toNat) (by omega) seat.toNat sign
  rw [show TC (sl s k) _ _ _ _ sign = wC (sl s k) (qT s) (qB s) seat sign from rfl] at hcb
  rw [show TV (sl s k) _ _ _ _ sign = wV (sl s k) (qT s) (qB s) seat sign from rfl] at hvb
  unfold lsU lsD
  obtain ⟨wc, hwc⟩ : ∃ wc, wC (sl s k) (qT s) (qB s) seat sign = wc := ⟨_, rfl⟩
  obtain ⟨wv, hwv⟩ : ∃ wv, wV (sl s k) (qT s) (qB s) seat sign = wv := ⟨_, rfl⟩
  obtain ⟨uu, huu⟩ : ∃ uu, upS (sl s k) sign (-1) (-1) (-1) (sTr (sl s k)).toNat = uu := ⟨_, rfl⟩
  obtain ⟨dd, hdd⟩ : ∃ dd, dnS (sl s k) sign (-1) (-1) (-1) (sTr (sl s k)).toNat = dd := ⟨_, rfl⟩
  rw [hwc] at hcb hdn ⊢
  rw [hwv] at hvb ⊢
  rw [huu] at hub ⊢
  rw [hdd] at hdb hdn ⊢
  refine v_iload dX10_less_0 rfl ?_
  refine v_iconst dX10_less_2 ?_
  refine v_iconst dX10_less_3 ?_
  refine v_callS (K10_in (v := what) (lo := 0) (hi := 1) ⟨by omega, by omega⟩ ⟨by omega, by omega⟩ ⟨by omega, by omega⟩) ⟨rfl, rfl⟩ (Nat.le_refl _) (Nat.le_refl _) ⟨ml_X10_107, mm_X10_in⟩ ⟨(Nat.le_of_ble_eq_true rfl), (Nat.le_of_ble_eq_true rfl)⟩ mp_X10_in rfl rfl (Nat.le_of_ble_eq_true rfl) dX10_less_4 (fun r M' h => ?_)
  obtain ⟨rfl, rfl⟩ := h
  refine v_ifb_eq (tgt := 20) dX10_less_7 (by decide) (fun h7 => ?_) (fun h7 => ?_)
  · skip
    exfalso; omega
  · skip
    refine v_aload_n dX10_less_10 rfl ?_
    refine v_iload_n dX10_less_11 rfl ?_
    refine v_iload_n dX10_less_12 rfl ?_
    refine v_iload_n dX10_less_13 rfl ?_
    refine v_callV (ci := 10) (K10_findWon hM hRI hs hk p2) ⟨rfl, rfl⟩ (Nat.le_refl _) (Nat.le_refl _) hM.1 rfl ⟨ml_X10_280, mm_X10_findWon⟩ ⟨(Nat.le_of_ble_eq_true rfl), (Nat.le_of_ble_eq_true rfl)⟩ mp_X10_findWon rfl rfl (Nat.le_of_ble_eq_true rfl) dX10_less_14 (fun r M' h => ?_)
    obtain ⟨x2, a2, rfl, hM2, hF2, hX, hA, v33, v34⟩ := h
    replace hM := hM2
    replace hF := hF.tr hF2
    rw [hwc] at v34
    rw [hwv] at v33
    rw [hwc]
    refine v_ifb_ne (tgt := 24) dX10_less_17 (by decide) (fun q => ?_) (fun q => ?_)
    · skip
      obtain ⟨u, v, hu, hv, bu, bv, hg⟩ := gcd_split hvb.1 q
      have hd0 := hdn q
      have e1 : wv.tdiv (gcdI wv wc) = u := by
        have := Int.mul_tdiv_cancel_left (a := gcdI wv wc) u (by omega)
        rw [← hu] at this; exact this
      have e2 : wc.tdiv (gcdI wv wc) = v := by
        have := Int.mul_tdiv_cancel_left (a := gcdI wv wc) v (by omega)
        rw [← hv] at this; exact this
      have m1 := mul_bd (A := 43200000) (B := 54000000000) (show 0 ≤ uu ∧ uu ≤ 43200000 by omega) (show 0 ≤ v ∧ v ≤ 54000000000 by omega)
      have m2 := mul_bd (A := 3240000000000) (B := 720000) (show 0 ≤ u ∧ u ≤ 3240000000000 by omega) (show 0 ≤ dd ∧ dd ≤ 720000 by omega)
      have m3 := mul_bd (A := 720000) (B := 54000000000) (show 0 ≤ dd ∧ dd ≤ 720000 by omega) (show 0 ≤ v ∧ v ≤ 54000000000 by omega)
      have m4 : 0 < dd * v := Int.mul_pos hd0 bv.1
      have f1 : uu * wc - wv * dd = gcdI wv wc * (uu * v - u * dd) := by
        generalize gcdI wv wc = g at *
        subst hu; subst hv
        grind
      have f2 : dd * wc = gcdI wv wc * (dd * v) := by
        generalize gcdI wv wc = g at *
        subst hu; subst hv
        grind
      refine v_aload_n dX10_less_24 rfl ?_
      refine v_rgj 33 hM v33 fl_X10_246 rfl dX10_less_25 ?_
      refine v_aload_n dX10_less_28 rfl ?_
      refine v_rgj 34 hM v34 fl_X10_249 rfl dX10_less_29 ?_
      refine v_iconst dX10_less_32 ?_
      refine v_callS (K10_part (p := wv) (q := wc) (what := 0) ⟨by omega, by omega⟩ ⟨by omega, by omega⟩ ⟨by omega, by omega⟩) ⟨rfl, rfl⟩ (Nat.le_refl _) (Nat.le_refl _) ⟨ml_X10_169, mm_X10_part⟩ ⟨(Nat.le_of_ble_eq_true rfl), (Nat.le_of_ble_eq_true rfl)⟩ mp_X10_part rfl rfl (Nat.le_of_ble_eq_true rfl) dX10_less_33 (fun r M' h => ?_)
      obtain ⟨rfl, rfl⟩ := h
      rw [if_pos rfl, e1]
      refine v_lstore dX10_less_36 (Nat.le_of_ble_eq_true rfl) ?_
      refine v_aload_n dX10_less_38 rfl ?_
      refine v_rgj 33 hM v33 fl_X10_246 rfl dX10_less_39 ?_
      refine v_aload_n dX10_less_42 rfl ?_
      refine v_rgj 34 hM v34 fl_X10_249 rfl dX10_less_43 ?_
      refine v_iconst dX10_less_46 ?_
      refine v_callS (K10_part (p := wv) (q := wc) (what := 1) ⟨by omega, by omega⟩ ⟨by omega, by omega⟩ ⟨by omega, by omega⟩) ⟨rfl, rfl⟩ (Nat.le_refl _) (Nat.le_refl _) ⟨ml_X10_169, mm_X10_part⟩ ⟨(Nat.le_of_ble_eq_true rfl), (Nat.le_of_ble_eq_true rfl)⟩ mp_X10_part rfl rfl (Nat.le_of_ble_eq_true rfl) dX10_less_47 (fun r M' h => ?_)
      obtain ⟨rfl, rfl⟩ := h
      rw [if_neg (show ¬ (1 : Int) = 0 by omega), e2]
      refine v_lstore dX10_less_50 (Nat.le_of_ble_eq_true rfl) ?_
      refine v_aload_n dX10_less_52 rfl ?_
      refine v_iload_n dX10_less_53 rfl ?_
      refine v_iconst dX10_less_54 ?_
      refine v_iconst dX10_less_55 ?_
      refine v_iconst dX10_less_56 ?_
      refine v_callV (ci := 10) (K10_see hM (p := sign) (q := -1) (r' := -1) (s' := -1) ⟨by omega, by omega⟩ ⟨by omega, by omega⟩ ⟨by omega, by omega⟩ ⟨by omega, by omega⟩) ⟨rfl, rfl⟩ (Nat.le_refl _) (Nat.le_refl _) hM.1 rfl ⟨ml_X10_145, mm_X10_see⟩ ⟨(Nat.le_of_ble_eq_true rfl), (Nat.le_of_ble_eq_true rfl)⟩ mp_X10_see rfl rfl (Nat.le_of_ble_eq_true rfl) dX10_less_57 (fun r M' h => ?_)
      obtain ⟨S, rfl, hM1, hF1, hS⟩ := h
      replace hM := hM1
      replace hF := hF.tr hF1
      refine v_aload_n dX10_less_60 rfl ?_
      refine v_iload_n dX10_less_61 rfl ?_
      refine v_callV (ci := 10) (K10_weigh hM ((hr.fr hA (by decide)).fr (K := [15]) (afr.rf.up (by simp)) (by decide)) ⟨by omega, by omega⟩ hw (p := sign) (q := -1) (r' := -1) (s' := -1) (fun k k0 k1 => by rw [upa_s]; exact hS k k0 k1) (Or.inr p2.2) (Or.inl rfl) (Or.inl rfl) (Or.inl rfl)) ⟨rfl, rfl⟩ (Nat.le_refl _) (Nat.le_refl _) hM.1 rfl ⟨ml_X10_142, mm_X10_weigh⟩ ⟨(Nat.le_of_ble_eq_true rfl), (Nat.le_of_ble_eq_true rfl)⟩ mp_X10_weigh rfl rfl (Nat.le_of_ble_eq_true rfl) dX10_less_62 (fun r M' h => ?_)
      obtain ⟨rfl, hM1, hF1⟩ := h
      replace hM := hM1
      replace hF := hF.tr hF1
      rw [huu, hdd] at hM
      have f16 : upn (upn x2 16 uu) 17 dd 16 = uu := (upn_o (by decide)).trans upn_s
      have f17 : upn (upn x2 16 uu) 17 dd 17 = dd := upn_s
      have hfin := (show InvR G _ s from ⟨_, _, hM, hRI.fr ((hX.up (k := 16) (by decide)).up (k := 17) (by decide)) (hA.up (k := 15) (by decide))⟩)
      refine v_aload_n dX10_less_65 rfl ?_
      refine v_rgj 16 hM f16 fl_X10_135 rfl dX10_less_66 ?_
      refine v_lload dX10_less_69 rfl ?_
      refine v_lmul dX10_less_71 ?_
      refine v_lload dX10_less_72 rfl ?_
      refine v_aload_n dX10_less_74 rfl ?_
      refine v_rgj 17 hM f17 fl_X10_139 rfl dX10_less_75 ?_
      refine v_lmul dX10_less_78 ?_
      refine v_lsub dX10_less_79 ?_
      refine v_aload_n dX10_less_80 rfl ?_
      refine v_rgj 17 hM f17 fl_X10_139 rfl dX10_less_81 ?_
      refine v_lload dX10_less_84 rfl ?_
      refine v_lmul dX10_less_86 ?_
      refine v_iload dX10_less_87 rfl ?_
      refine v_callS (K10_part (p := uu * v - u * dd) (q := dd * v) (what := what) ⟨by omega, by omega⟩ ⟨by omega, by omega⟩ ⟨by omega, by omega⟩) ⟨rfl, rfl⟩ (Nat.le_refl _) (Nat.le_refl _) ⟨ml_X10_169, mm_X10_part⟩ ⟨(Nat.le_of_ble_eq_true rfl), (Nat.le_of_ble_eq_true rfl)⟩ mp_X10_part rfl rfl (Nat.le_of_ble_eq_true rfl) dX10_less_89 (fun r M' h => ?_)
      obtain ⟨rfl, rfl⟩ := h
      refine v_lret dX10_less_92 rfl (Nat.le_refl _) (Nat.le_refl _) ?_
      skip
      have hc : 0 < wc ∧ 0 < dd := ⟨q, hd0⟩
      rw [if_pos hc, f1, f2, gcdI_mul hg]
      refine ⟨?_, hfin, hF⟩
      rcases p1 with e | e
      · rw [if_pos e, if_pos e, Int.mul_tdiv_mul_of_pos _ _ hg]
      · have e' : ¬ what = 0 := by omega
        rw [if_neg e', if_neg e', Int.mul_tdiv_mul_of_pos _ _ hg]
    · skip
      refine v_ldc2 (z := -1000000000000000) kl_X10_278 (by decide +kernel) dX10_less_20 ?_
      exact v_lret dX10_less_23 rfl (Nat.le_refl _) (Nat.le_refl _) (⟨by rw [if_neg (fun h => q h.1)], ⟨_, _, hM, hRI.fr hX hA⟩, hF⟩)
theorem R9_lessX {seat sign what : Int} (hI : InvR G M s) (hs : stOK s) (g0 : sw_rg k) (hp : ¬ (isS s k ∧ winP (sl s k) (qT s) (qB s) seat sign what)) (g1 : sw_rg seat) (g2 : sw_rg sign) (g3 : sw_rg what) : Kt l G μX10_less [.ref (sw_al G 70), sw_i k, sw_i seat, sw_i sign, sw_i what] M (fun r M' => r = some (sw_j (-1000000000000000)) ∧ InvR G M' s ∧ frR M M') := by
  refine KtA.of (by decide +kernel) (Nat.le_of_ble_eq_true rfl) ?_
  obtain ⟨x, a, hM, hRI⟩ := hI
  refine v_iload dX10_less_0 rfl ?_
  refine v_iconst dX10_less_2 ?_
  refine v_iconst dX10_less_3 ?_
  refine v_callS (K10_in (v := what) (lo := 0) (hi := 1) g3 ⟨by omega, by omega⟩ ⟨by omega, by omega⟩) ⟨rfl, rfl⟩ (Nat.le_refl _) (Nat.le_refl _) ⟨ml_X10_107, mm_X10_in⟩ ⟨(Nat.le_of_ble_eq_true rfl), (Nat.le_of_ble_eq_true rfl)⟩ mp_X10_in rfl rfl (Nat.le_of_ble_eq_true rfl) dX10_less_4 (fun r M' h => ?_)
  obtain ⟨rfl, rfl⟩ := h
  refine v_ifb_eq (tgt := 20) dX10_less_7 (by decide) (fun q0 => ?_) (fun q0 => ?_)
  · skip
    refine v_ldc2 (z := -1000000000000000) kl_X10_278 (by decide +kernel) dX10_less_20 ?_
    exact v_lret dX10_less_23 rfl (Nat.le_refl _) (Nat.le_refl _) (⟨rfl, ⟨_, _, hM, hRI⟩, frR.rf⟩)
  · skip
    refine v_aload_n dX10_less_10 rfl ?_
    refine v_iload_n dX10_less_11 rfl ?_
    refine v_iload_n dX10_less_12 rfl ?_
    refine v_iload_n dX10_less_13 rfl ?_
    refine v_callV (ci := 10) (K10_findWonX hM hRI hs g0 g1 g2 (fun h => hp ⟨h.1, by omega, h.2⟩)) ⟨rfl, rfl⟩ (Nat.le_refl _) (Nat.le_refl _) hM.1 rfl ⟨ml_X10_280, mm_X10_findWon⟩ ⟨(Nat.le_of_ble_eq_true rfl), (Nat.le_of_ble_eq_true rfl)⟩ mp_X10_findWon rfl rfl (Nat.le_of_ble_eq_true rfl) dX10_less_14 (fun r M' h => ?_)
    obtain ⟨rfl, rfl⟩ := h
    refine v_ifb_ne (tgt := 24) dX10_less_17 (by decide) (fun h17 => ?_) (fun h17 => ?_)
    · skip
      exact absurd (by assumption) id
    · skip
      refine v_ldc2 (z := -1000000000000000) kl_X10_278 (by decide +kernel) dX10_less_20 ?_
      exact v_lret dX10_less_23 rfl (Nat.le_refl _) (Nat.le_refl _) (⟨rfl, ⟨_, _, hM, hRI⟩, frR.rf⟩)
end

