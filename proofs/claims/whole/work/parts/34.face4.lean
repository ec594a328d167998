/-! who wins; a turn of FIND -/
theorem tX_bd {σ : SaleT} (hw : wfS σ) {R S : Int → Int} {m : Nat} {i : Nat} {k B : Int} {w : (Int → Int) → Int} (h : 0 ≤ w S ∧ w S ≤ B) : 0 ≤ tX R m (sLe σ) i k w S ∧ tX R m (sLe σ) i k w S ≤ 12 * B := by
  have ha := rk_al (R := R) (S := S) hw.2.2.2.1.1 m
  unfold tX
  split
  · omega
  · split
    · exact mul_bd (sh_bd (by omega)) h
    · omega
theorem TC_bd {σ : SaleT} (hw : wfS σ) (R : Int → Int) {P0 : Int → Int} (hP : pB σ P0) {m : Nat} (hm : m ≤ 4) (i : Nat) (k : Int) : 0 ≤ TC σ R P0 m i k ∧ TC σ R P0 m i k ≤ 54000000000 := by
  have h := sum_bd hw hm (B := 12 * 7200000) (F := fun n => tX R m (sLe σ) i k (fun S => crW σ S P0 m) (sq (sSg σ) m z0 n)) (by omega) (fun n => tX_bd hw (crW_bd hw hP (fun j hj => sq_ok (by have := hw.1; omega) m z0 n j hj) hm))
  exact h
theorem TV_bd {σ : SaleT} (hw : wfS σ) (R : Int → Int) {P0 : Int → Int} (hP : pB σ P0) {m : Nat} (hm : m ≤ 4) (i : Nat) (k : Int) : 0 ≤ TV σ R P0 m i k ∧ TV σ R P0 m i k ≤ 3240000000000 := by
  have h := sum_bd hw hm (B := 12 * 432000000) (F := fun n => tX R m (sLe σ) i k (fun S => crV σ S P0 m) (sq (sSg σ) m z0 n)) (by omega) (fun n => tX_bd hw (crV_bd hw hP (fun j hj => sq_ok (by have := hw.1; omega) m z0 n j hj) hm))
  exact h
section
variable {l : Launch} {G : sw_G} {M : sw_M}
theorem K9_wins {b ns b0 : Nat} (hb : 50 ≤ b) {σ : SaleT} {u d nt m0 le wt wo hi al nx' su a tk so un k : Int} {T R S P g ww wc : Int → Int} (h0 : M 0 = some (c0 G ns nt).2) (h4 : M 4 = some (cTb T).2) (h6 : M 6 = some (cC G b0 m0 le wt wo hi al nx' su).2) (h7 : M 7 = some (cR R).2) (h8 : M 8 = some (cG S).2) (h9 : M 9 = some (cP P).2) (hY : sw_hold M (cYs G a tk so un g ww wc)) (h5 : sw_hold M (cS G b σ u d)) (hw : wfS σ) (hc : wfC nt T) {m seat : Nat} (hm : (m : Int) = sNb σ) (hs : seat < m) (hk : 0 ≤ k ∧ k < sSg σ) :
    Kt l G μX9_wins [.ref (sw_al G 0), .ref (sw_al G b), sw_i (seat : Int), sw_i k] M (fun r M' => ∃ wt hi al nx' su wo R' S' P' g' ww' wc' u' d', r = some (sw_i (bI (0 < TC σ (rwF (bF σ nt T (-1))) (pS σ (-1)) m seat k))) ∧ (∀ (i : Nat) (k : Int), i < m → 0 ≤ k → k < 5 → ww' ((i : Int) * 5 + k) = TV σ (rwF (bF σ nt T (-1))) (pS σ (-1)) m i k) ∧ (∀ (i : Nat) (k : Int), i < m → 0 ≤ k → k < 5 → wc' ((i : Int) * 5 + k) = TC σ (rwF (bF σ nt T (-1))) (pS σ (-1)) m i k) ∧
      M' = sw_ov M (cTw G ns nt (cC G b m (sLe σ) wt wo hi al nx' su).2 R' S' P' (TA σ (pS σ (-1)) m) (TT σ (rwF (bF σ nt T (-1))) (pS σ (-1)) m) (TS σ (rwF (bF σ nt T (-1))) (pS σ (-1)) m) (TU σ (rwF (bF σ nt T (-1))) (pS σ (-1)) m) g' ww' wc' b σ u' d')) := by
  refine KtA.of (by decide +kernel) (Nat.le_of_ble_eq_true rfl) ?_
  have hn := cTw_nd hb
  have hnb := hw.2.2.1
  have hsg := hw.1
  have hcb := TC_bd hw (rwF (bF σ nt T (-1))) (pS_B hw (-1)) (m := m) (by omega) seat k
  refine v_aload_n dX9_wins_0 rfl ?_
  refine v_iload_n dX9_wins_1 rfl ?_
  refine v_callV (ci := 5) (K5_hasSeat (b := b) (σ := σ) (u := u) (d := d) h5.hd ⟨by omega, by omega⟩ (k := (seat : Int)) ⟨by omega, by omega⟩) ⟨rfl, rfl⟩ (Nat.le_refl _) (Nat.le_refl _) (h5.hd) rfl ⟨ml_X9_177, mm_X5_hasSeat⟩ ⟨(Nat.le_of_ble_eq_true rfl), (Nat.le_of_ble_eq_true rfl)⟩ mp_X5_hasSeat rfl rfl (Nat.le_of_ble_eq_true rfl) dX9_wins_2 (fun r M' h => ?_)
  obtain ⟨rfl, rfl⟩ := h
  refine v_ifb_eq (tgt := 16) dX9_wins_5 (by decide) (fun q5 => ?_) (fun q5 => ?_)
  · skip
    exfalso; omega
  · skip
    refine v_aload_n dX9_wins_8 rfl ?_
    refine v_iload_n dX9_wins_9 rfl ?_
    refine v_callV (ci := 5) (K5_hasSign (b := b) (σ := σ) (u := u) (d := d) h5.hd ⟨by omega, by omega⟩ (k := k) ⟨by omega, by omega⟩) ⟨rfl, rfl⟩ (Nat.le_refl _) (Nat.le_refl _) (h5.hd) rfl ⟨ml_X9_145, mm_X5_hasSign⟩ ⟨(Nat.le_of_ble_eq_true rfl), (Nat.le_of_ble_eq_true rfl)⟩ mp_X5_hasSign rfl rfl (Nat.le_of_ble_eq_true rfl) dX9_wins_10 (fun r M' h => ?_)
    obtain ⟨rfl, rfl⟩ := h
    refine v_ifb_ne (tgt := 18) dX9_wins_13 (by decide) (fun q13 => ?_) (fun q13 => ?_)
    · skip
      refine v_aload_n dX9_wins_18 rfl ?_
      refine v_aload_n dX9_wins_19 rfl ?_
      refine v_callV (ci := 9) (K9_tallyOf hb h0 h4 h6 h7 h8 h9 hY h5 hw hc hm) ⟨rfl, rfl⟩ (Nat.le_refl _) (Nat.le_refl _) h0 rfl ⟨ml_X9_186, mm_X9_tallyOf⟩ ⟨(Nat.le_of_ble_eq_true rfl), (Nat.le_of_ble_eq_true rfl)⟩ mp_X9_tallyOf rfl rfl (Nat.le_of_ble_eq_true rfl) dX9_wins_20 (fun r M' h => ?_)
      obtain ⟨wt2, hi2, al2, nx2, su2, wo2, R2, S2, P2, g2, ww2, wc2, u2, d2, rfl, f1, f2, f3, rfl⟩ := h
      refine v_aload_n dX9_wins_23 rfl ?_
      refine v_getf 0 7 fl_X9_46 hn rfl rfl dX9_wins_24 ?_
      refine v_getf 5 6 fl_X9_215 hn rfl rfl dX9_wins_27 ?_
      refine v_iload_n dX9_wins_30 rfl ?_
      refine v_iconst dX9_wins_31 ?_
      refine v_imul dX9_wins_32 ?_
      refine v_iload_n dX9_wins_33 rfl ?_
      refine v_iadd dX9_wins_34 ?_
      refine v_lald 8 hn rfl (Nat.le_of_ble_eq_true rfl) (by omega) (by omega) dX9_wins_35 ?_
      rw [f3 seat k hs hk.1 (by omega)]
      refine v_lconst (z := 0) dX9_wins_36 (by decide +kernel) ?_
      refine v_lcmp_le (tgt := 45) dX9_wins_37 dX9_wins_38 (by decide) ⟨by omega, by omega⟩ ⟨by omega, by omega⟩ (fun h37 => ?_) (fun h37 => ?_)
      · skip
        refine v_iconst dX9_wins_45 ?_
        exact v_zret rfl dX9_wins_46 rfl (Nat.le_refl _) (Nat.le_refl _) (⟨wt2, hi2, al2, nx2, su2, wo2, R2, S2, P2, g2, ww2, wc2, u2, d2, by rw [bI_f (by omega)], f2, f3, rfl⟩)
      · skip
        refine v_iconst dX9_wins_41 ?_
        refine v_goto (tgt := 46) dX9_wins_42 (by decide) ?_
        exact v_zret rfl dX9_wins_46 rfl (Nat.le_refl _) (Nat.le_refl _) (⟨wt2, hi2, al2, nx2, su2, wo2, R2, S2, P2, g2, ww2, wc2, u2, d2, by rw [bI_t (by omega)], f2, f3, rfl⟩)
    · skip
      exfalso; omega
theorem K9_winsN {b : Nat} {σ : SaleT} {u d nt k seat : Int} {ns : Nat} (h5 : M b = some (cO G b σ u d).2) (h1 : sw_rg (sNb σ)) (h2 : sw_rg (sSg σ)) (h3 : sw_rg seat) (h4 : sw_rg k) (hn : ¬ ((0 ≤ seat ∧ seat < sNb σ) ∧ 0 ≤ k ∧ k < sSg σ)) : Kt l G μX9_wins [.ref (sw_al G 0), .ref (sw_al G b), sw_i seat, sw_i k] M (fun r M' => r = some (sw_i 0) ∧ M' = M) := by
  refine KtA.of (by decide +kernel) (Nat.le_of_ble_eq_true rfl) ?_
  refine v_aload_n dX9_wins_0 rfl ?_
  refine v_iload_n dX9_wins_1 rfl ?_
  refine v_callV (ci := 5) (K5_hasSeat (b := b) (σ := σ) (u := u) (d := d) h5 h1 (k := seat) h3) ⟨rfl, rfl⟩ (Nat.le_refl _) (Nat.le_refl _) (h5) rfl ⟨ml_X9_177, mm_X5_hasSeat⟩ ⟨(Nat.le_of_ble_eq_true rfl), (Nat.le_of_ble_eq_true rfl)⟩ mp_X5_hasSeat rfl rfl (Nat.le_of_ble_eq_true rfl) dX9_wins_2 (fun r M' h => ?_)
  obtain ⟨rfl, rfl⟩ := h
  refine v_ifb_eq (tgt := 16) dX9_wins_5 (by decide) (fun q5 => ?_) (fun q5 => ?_)
  · skip
    refine v_iconst dX9_wins_16 ?_
    exact v_zret rfl dX9_wins_17 rfl (Nat.le_refl _) (Nat.le_refl _) (⟨rfl, rfl⟩)
  · skip
    refine v_aload_n dX9_wins_8 rfl ?_
    refine v_iload_n dX9_wins_9 rfl ?_
    refine v_callV (ci := 5) (K5_hasSign (b := b) (σ := σ) (u := u) (d := d) h5 h2 (k := k) h4) ⟨rfl, rfl⟩ (Nat.le_refl _) (Nat.le_refl _) (h5) rfl ⟨ml_X9_145, mm_X5_hasSign⟩ ⟨(Nat.le_of_ble_eq_true rfl), (Nat.le_of_ble_eq_true rfl)⟩ mp_X5_hasSign rfl rfl (Nat.le_of_ble_eq_true rfl) dX9_wins_10 (fun r M' h => ?_)
    obtain ⟨rfl, rfl⟩ := h
    refine v_ifb_ne (tgt := 18) dX9_wins_13 (by decide) (fun h13 => ?_) (fun h13 => ?_)
    · skip
      exact absurd ⟨q5, h13⟩ hn
    · skip
      refine v_iconst dX9_wins_16 ?_
      exact v_zret rfl dX9_wins_17 rfl (Nat.le_refl _) (Nat.le_refl _) (⟨rfl, rfl⟩)
end

