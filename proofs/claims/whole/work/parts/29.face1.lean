/-! what the face is made of: bids, rows, the tally, the rivals -/
def bdF (σ : SaleT) (nt : Int) (T : Int → Int) (seat k his : Int) : Int := if 0 ≤ sSt σ seat ∧ sSt σ seat < nt then T (sSt σ seat * 5 + k) else hld σ k (if sSt σ seat = -2 ∧ 1 < sNb σ then k else -1) his (-1)
def wfC (nt : Int) (T : Int → Int) : Prop := (0 ≤ nt ∧ nt ≤ 10) ∧ ∀ i, 0 ≤ i → i < 50 → 0 ≤ T i ∧ T i ≤ 60
theorem bdF_bd {σ : SaleT} (hw : wfS σ) {nt : Int} {T : Int → Int} (hc : wfC nt T) {seat k : Int} (his : Int) (hk : 0 ≤ k ∧ k < 5) : 0 ≤ bdF σ nt T seat k his ∧ bdF σ nt T seat k his ≤ 60 := by
  unfold bdF
  split
  · exact hc.2 _ (by omega) (by have := hc.1; omega)
  · exact hld_bd hw _ _ _ _
section
variable {l : Launch} {G : sw_G} {M : sw_M}
theorem K9_bidOf {b ns : Nat} (hb : 50 ≤ b) {σ : SaleT} {u d nt seat k his : Int} {T : Int → Int} (h0 : M 0 = some (c0 G ns nt).2) (h4 : M 4 = some (cTb T).2) (h5 : sw_hold M (cS G b σ u d)) (hw : wfS σ) (hc : wfC nt T) (hs : 0 ≤ seat ∧ seat < 4) (hk : 0 ≤ k ∧ k < 5) (hh : sw_rg his) :
    Kt l G μX9_bidOf [.ref (sw_al G 0), .ref (sw_al G b), sw_i seat, sw_i k, sw_i his] M (fun r M' => ∃ u' d', r = some (sw_i (bdF σ nt T seat k his)) ∧ M' = sw_ov M [cO G b σ u' d']) := by
  refine KtA.of (by decide +kernel) (Nat.le_of_ble_eq_true rfl) ?_
  have hn : sw_nd [0, 4, b, b + 4] := sw_nd_of (by simp; omega)
  have hx4 := h5.tl.tl.tl.tl.hd
  have hself : sw_ov M [c0 G ns nt, cTb T, cO G b σ u d, (b + 4, sw_ia 4 (sSt σ))] = M := sw_ov_self (sw_hold1 h0 (sw_hold1 h4 (sw_hold1 h5.hd (sw_hold1 hx4 sw_hold0))))
  refine v_mem hself.symm ?_
  have hst := hw.2.2.2.2.2.2.2.2 seat hs.1 hs.2
  have hnb := hw.2.2.1
  obtain ⟨st, hst2⟩ : ∃ st, sSt σ seat = st := ⟨_, rfl⟩
  have hdef : bdF σ nt T seat k his = if 0 ≤ st ∧ st < nt then T (st * 5 + k) else hld σ k (if st = -2 ∧ 1 < sNb σ then k else -1) his (-1) := by unfold bdF; rw [hst2]
  rw [hst2] at hst
  have fin : ∀ (u' d' : Int), sw_ov (sw_ov M [c0 G ns nt, cTb T, cO G b σ u d, (b + 4, sw_ia 4 (sSt σ))]) [cO G b σ u' d'] = sw_ov M [cO G b σ u' d'] := fun u' d' => by rw [hself]
  have same : sw_ov M [c0 G ns nt, cTb T, cO G b σ u d, (b + 4, sw_ia 4 (sSt σ))] = sw_ov M [cO G b σ u d] := by rw [hself]; exact (sw_ov_self (sw_hold1 h5.hd sw_hold0)).symm
  have plain : ∀ (e : Int) (lv : List (Nat × Value)), sw_rg e → sw_lk lv 4 = some (sw_i his) → V l G μX9_bidOf sw_E0 (sw_Zq G μX9_bidOf (sw_q0 G (fun r M' => ∃ u' d', r = some (sw_i (hld σ k e his (-1))) ∧ M' = sw_ov M [cO G b σ u' d']))) 51 lv [sw_i e, sw_i k, .ref (sw_al G b)] (sw_ov M [c0 G ns nt, cTb T, cO G b σ u d, (b + 4, sw_ia 4 (sSt σ))]) 0 0 := by
    intro e lv he hl
    refine v_iload dX9_bidOf_51 hl ?_
    refine v_iconst dX9_bidOf_53 ?_
    refine v_callV (ci := 5) (K5_held (u0 := u) (d0 := d) (σ := σ) (a := k) (e := e) (c := his) (d := -1) (by rw [hself]; exact h5) hw ⟨by omega, by omega⟩ he hh ⟨by omega, by omega⟩) ⟨rfl, rfl⟩ (Nat.le_refl _) (Nat.le_refl _) (by rw [hself]; exact h5.hd) rfl ⟨ml_X9_230, mm_X5_held⟩ ⟨(Nat.le_of_ble_eq_true rfl), (Nat.le_of_ble_eq_true rfl)⟩ mp_X5_held rfl rfl (Nat.le_of_ble_eq_true rfl) dX9_bidOf_54 (fun r M' h => ?_)
    obtain ⟨rfl, rfl⟩ := h
    exact v_iret dX9_bidOf_57 rfl (Nat.le_refl _) (Nat.le_refl _) ⟨_, _, rfl, fin _ _⟩
  refine v_aload_n dX9_bidOf_0 rfl ?_
  refine v_getf 2 3 fl_X9_174 hn rfl rfl dX9_bidOf_1 ?_
  refine v_iload_n dX9_bidOf_4 rfl ?_
  refine v_iald 3 hn rfl (Nat.le_of_ble_eq_true rfl) (by omega) (by omega) dX9_bidOf_5 ?_
  rw [hst2]
  refine v_istore dX9_bidOf_6 (Nat.le_of_ble_eq_true rfl) ?_
  refine v_aload_n dX9_bidOf_8 rfl ?_
  refine v_iload dX9_bidOf_9 rfl ?_
  refine v_callV (ci := 9) (K9_hasTable (ns := ns) (nt := nt) (k := st) (by rw [hself]; exact h0) hc.1 ⟨by omega, by omega⟩) ⟨rfl, rfl⟩ (Nat.le_refl _) (Nat.le_refl _) ((by rw [hself]; exact h0)) rfl ⟨ml_X9_171, mm_X9_hasTable⟩ ⟨(Nat.le_of_ble_eq_true rfl), (Nat.le_of_ble_eq_true rfl)⟩ mp_X9_hasTable rfl rfl (Nat.le_of_ble_eq_true rfl) dX9_bidOf_11 (fun r M' h => ?_)
  obtain ⟨rfl, rfl⟩ := h
  refine v_ifb_eq (tgt := 29) dX9_bidOf_14 (by decide) (fun h14 => ?_) (fun h14 => ?_)
  · skip
    rw [if_neg h14] at hdef
    rw [hdef]
    refine v_aload_n dX9_bidOf_29 rfl ?_
    refine v_iload_n dX9_bidOf_30 rfl ?_
    refine v_iload dX9_bidOf_31 rfl ?_
    refine v_bipush dX9_bidOf_33 (by decide +kernel) ?_
    refine v_icmp_ne (tgt := 50) dX9_bidOf_35 (by decide) ⟨by omega, by omega⟩ ⟨by omega, by omega⟩ (fun h35 => ?_) (fun h35 => ?_)
    · skip
      refine v_iconst dX9_bidOf_50 ?_
      rw [if_neg (show ¬ (st = -2 ∧ 1 < sNb σ) by omega)]
      exact plain (-1) _ ⟨by omega, by omega⟩ rfl
    · skip
      refine v_aload_n dX9_bidOf_38 rfl ?_
      refine v_getf 2 6 fl_X9_114 hn rfl rfl dX9_bidOf_39 ?_
      refine v_iconst dX9_bidOf_42 ?_
      refine v_icmp_le (tgt := 50) dX9_bidOf_43 (by decide) ⟨by omega, by omega⟩ ⟨by omega, by omega⟩ (fun h43 => ?_) (fun h43 => ?_)
      · skip
        refine v_iconst dX9_bidOf_50 ?_
        rw [if_neg (show ¬ (st = -2 ∧ 1 < sNb σ) by omega)]
        exact plain (-1) _ ⟨by omega, by omega⟩ rfl
      · skip
        refine v_iload_n dX9_bidOf_46 rfl ?_
        refine v_goto (tgt := 51) dX9_bidOf_47 (by decide) ?_
        rw [if_pos (show st = -2 ∧ 1 < sNb σ by omega)]
        exact plain k _ ⟨by omega, by omega⟩ rfl
  · skip
    rw [if_pos h14] at hdef
    have hnt := hc.1
    refine v_aload_n dX9_bidOf_17 rfl ?_
    refine v_getf 0 3 fl_X9_26 hn rfl rfl dX9_bidOf_18 ?_
    refine v_iload dX9_bidOf_21 rfl ?_
    refine v_iconst dX9_bidOf_23 ?_
    refine v_imul dX9_bidOf_24 ?_
    refine v_iload_n dX9_bidOf_25 rfl ?_
    refine v_iadd dX9_bidOf_26 ?_
    refine v_iald 1 hn rfl (Nat.le_of_ble_eq_true rfl) (by omega) (by omega) dX9_bidOf_27 ?_
    exact v_iret dX9_bidOf_28 rfl (Nat.le_refl _) (Nat.le_refl _) (⟨u, d, by rw [hdef], same⟩)
theorem K9_rowOf {b ns b0 : Nat} (hb : 50 ≤ b) {σ : SaleT} {u d nt seat place his m le wt wo hi al nx' su : Int} {T R : Int → Int} (h0 : M 0 = some (c0 G ns nt).2) (h4 : M 4 = some (cTb T).2) (h6 : M 6 = some (cC G b0 m le wt wo hi al nx' su).2) (h7 : M 7 = some (cR R).2) (h5 : sw_hold M (cS G b σ u d)) (hw : wfS σ) (hc : wfC nt T) (hs : 0 ≤ seat ∧ seat < 4) (hp : 0 ≤ place ∧ place < 4) (hh : sw_rg his) :
    Kt l G μX9_rowOf [.ref (sw_al G 0), .ref (sw_al G b), sw_i seat, sw_i place, sw_i his] M (fun r M' => ∃ R' u' d', r = none ∧ (∀ k, 0 ≤ k → k < sSg σ → R' (place * 5 + k) = bdF σ nt T seat k his) ∧ (∀ i, i < place * 5 ∨ place * 5 + 5 ≤ i → R' i = R i) ∧ M' = sw_ov M [cR R', cO G b σ u' d']) := by
  refine KtA.of (by decide +kernel) (Nat.le_of_ble_eq_true rfl) ?_
  have hn : sw_nd [0, 6, 7, b] := sw_nd_of (by simp; omega)
  refine v_mem (sw_ov_self (cs := [c0 G ns nt, cC G b0 m le wt wo hi al nx' su, cR R, cO G b σ u d]) (sw_hold1 h0 (sw_hold1 h6 (sw_hold1 h7 (sw_hold1 h5.hd sw_hold0))))).symm ?_
  have hsg := hw.1
  have hback : ∀ (R' : Int → Int) (u' d' : Int), sw_ov M [c0 G ns nt, cC G b0 m le wt wo hi al nx' su, cR R', cO G b σ u' d'] = sw_ov M [cR R', cO G b σ u' d'] := by
    intro R' u' d'
    funext q
    show (if q = 0 then some (c0 G ns nt).2 else if q = 6 then some (cC G b0 m le wt wo hi al nx' su).2 else if q = 7 then _ else if q = b then _ else M q) = (if q = 7 then _ else if q = b then _ else M q)
    by_cases e1 : q = 0
    · rw [if_pos e1, if_neg (by omega), if_neg (by omega), e1, h0]
    · rw [if_neg e1]
      by_cases e2 : q = 6
      · rw [if_pos e2, if_neg (by omega), if_neg (by omega), e2, h6]
      · rw [if_neg e2]
  have loop : ∀ (n : Nat) (k : Int) (R' : Int → Int) (u' d' : Int), 0 ≤ k → k + n = sSg σ → (∀ j, 0 ≤ j → j < k → R' (place * 5 + j) = bdF σ nt T seat j his) → (∀ i, i < place * 5 ∨ place * 5 + 5 ≤ i → R' i = R i) → V l G μX9_rowOf sw_E0 (sw_Zq G μX9_rowOf (sw_q0 G (fun r M' => ∃ R' u' d', r = none ∧ (∀ k, 0 ≤ k → k < sSg σ → R' (place * 5 + k) = bdF σ nt T seat k his) ∧ (∀ i, i < place * 5 ∨ place * 5 + 5 ≤ i → R' i = R i) ∧ M' = sw_ov M [cR R', cO G b σ u' d']))) 3 [(0, .ref (sw_al G 0)), (1, .ref (sw_al G b)), (2, sw_i seat), (3, sw_i place), (4, sw_i his), (5, sw_i k)] [] (sw_ov M [c0 G ns nt, cC G b0 m le wt wo hi al nx' su, cR R', cO G b σ u' d']) 0 0 := by
    intro n
    induction n with
    | zero =>
      intro k R' u' d' hk0 hk e1 e2
      refine v_iload dX9_rowOf_3 rfl ?_
      refine v_aload_n dX9_rowOf_5 rfl ?_
      refine v_getf 3 4 fl_X9_108 hn rfl rfl dX9_rowOf_6 ?_
      refine v_icmp_ge (tgt := 38) dX9_rowOf_9 (by decide) ⟨by omega, by omega⟩ ⟨by omega, by omega⟩ (fun h9 => ?_) (fun h9 => ?_)
      · skip
        exact v_vret dX9_rowOf_38 rfl (Nat.le_refl _) (Nat.le_refl _) (⟨R', u', d', rfl, fun j j0 j1 => e1 j j0 (by omega), e2, hback _ _ _⟩)
      · skip
        exfalso; omega
    | succ n ih =>
      intro k R' u' d' hk0 hk e1 e2
      refine v_iload dX9_rowOf_3 rfl ?_
      refine v_aload_n dX9_rowOf_5 rfl ?_
      refine v_getf 3 4 fl_X9_108 hn rfl rfl dX9_rowOf_6 ?_
      refine v_icmp_ge (tgt := 38) dX9_rowOf_9 (by decide) ⟨by omega, by omega⟩ ⟨by omega, by omega⟩ (fun h9 => ?_) (fun h9 => ?_)
      · skip
        exfalso; omega
      · skip
        refine v_aload_n dX9_rowOf_12 rfl ?_
        refine v_getf 0 6 fl_X9_39 hn rfl rfl dX9_rowOf_13 ?_
        refine v_iload_n dX9_rowOf_16 rfl ?_
        refine v_iload dX9_rowOf_17 rfl ?_
        refine v_aload_n dX9_rowOf_19 rfl ?_
        refine v_aload_n dX9_rowOf_20 rfl ?_
        refine v_iload_n dX9_rowOf_21 rfl ?_
        refine v_iload dX9_rowOf_22 rfl ?_
        refine v_iload dX9_rowOf_24 rfl ?_
        refine v_callV (ci := 9) (K9_bidOf hb (σ := σ) (u := u') (d := d') (T := T) (seat := seat) (k := k) (his := his) (sw_ov_at (cs := [c0 G ns nt, cC G b0 m le wt wo hi al nx' su, cR R', cO G b σ u' d']) (q := 0) (t := 0) hn rfl) (by rw [sw_ov_out (by simp; omega)]; exact h4) (sw_hold1 (sw_ov_at (cs := [c0 G ns nt, cC G b0 m le wt wo hi al nx' su, cR R', cO G b σ u' d']) (q := 3) (t := b) hn rfl) (h5.tl.out (by simp; omega))) hw hc hs ⟨by omega, by omega⟩ hh) ⟨rfl, rfl⟩ (Nat.le_refl _) (Nat.le_refl _) (sw_ov_at (q := 0) (t := 0) hn rfl) rfl ⟨ml_X9_180, mm_X9_bidOf⟩ ⟨(Nat.le_of_ble_eq_true rfl), (Nat.le_of_ble_eq_true rfl)⟩ mp_X9_bidOf rfl rfl (Nat.le_of_ble_eq_true rfl) dX9_rowOf_26 (fun r M' h => ?_)
        obtain ⟨u2, d2, rfl, rfl⟩ := h
        refine v_ovp [3] rfl rfl hn ?_
        refine v_callV (ci := 1) (K1_bidBy (b := b0) (m := m) (le := le) (wt := wt) (wo := wo) (hi := hi) (al := al) (nx := nx') (su := su) (R := R') (sw_ov_at (cs := [c0 G ns nt, cC G b0 m le wt wo hi al nx' su, cR R', cO G b σ u2 d2]) (q := 1) (t := 6) hn rfl) (sw_ov_at (cs := [c0 G ns nt, cC G b0 m le wt wo hi al nx' su, cR R', cO G b σ u2 d2]) (q := 2) (t := 7) hn rfl) (i := place) (k := k) (v := bdF σ nt T seat k his) hp ⟨by omega, by omega⟩) ⟨rfl, rfl⟩ (Nat.le_refl _) (Nat.le_refl _) (sw_ov_at (cs := [c0 G ns nt, cC G b0 m le wt wo hi al nx' su, cR R', cO G b σ u2 d2]) (q := 1) (t := 6) hn rfl) rfl ⟨ml_X9_280, mm_X1_bidBy⟩ ⟨(Nat.le_of_ble_eq_true rfl), (Nat.le_of_ble_eq_true rfl)⟩ mp_X1_bidBy rfl rfl (Nat.le_of_ble_eq_true rfl) dX9_rowOf_29 (fun r M' h => ?_)
        obtain ⟨rfl, rfl⟩ := h
        refine v_ovp [2] rfl rfl hn ?_
        refine v_iinc dX9_rowOf_32 rfl (Nat.le_of_ble_eq_true rfl) ?_
        refine v_goto (tgt := 3) dX9_rowOf_35 (by decide) ?_
        refine v_to (ih (k + 1) (up R' (place * 5 + k) (bdF σ nt T seat k his)) u2 d2 (by omega) (by omega) ?_ ?_) rfl (sw_h1 rfl (sw_h1 rfl (sw_h1 rfl (sw_h1 rfl (sw_h1 rfl (sw_h1 rfl sw_h0))))))
        · intro j j0 j1
          show (if (place * 5 + j : Int) = place * 5 + k then _ else R' _) = _
          by_cases e : j = k
          · subst e; rw [if_pos rfl]
          · rw [if_neg (by omega)]; exact e1 j j0 (by omega)
        · intro i hi
          show (if i = place * 5 + k then _ else R' i) = _
          rw [if_neg (by omega)]; exact e2 i hi
  refine v_iconst dX9_rowOf_0 ?_
  refine v_istore dX9_rowOf_1 (Nat.le_of_ble_eq_true rfl) ?_
  exact v_to (loop (sSg σ).toNat 0 R u d (by omega) (by omega) (fun j j0 j1 => by omega) (fun _ _ => rfl)) rfl (sw_h1 rfl (sw_h1 rfl (sw_h1 rfl (sw_h1 rfl (sw_h1 rfl (sw_h1 rfl sw_h0))))))
theorem K9_rowsWithout {b ns b0 : Nat} (hb : 50 ≤ b) {σ : SaleT} {u d nt seat m le wt wo hi al nx' su : Int} {T R : Int → Int} (h0 : M 0 = some (c0 G ns nt).2) (h4 : M 4 = some (cTb T).2) (h6 : M 6 = some (cC G b0 m le wt wo hi al nx' su).2) (h7 : M 7 = some (cR R).2) (h5 : sw_hold M (cS G b σ u d)) (hw : wfS σ) (hc : wfC nt T) (hs : 0 ≤ seat ∧ seat < sNb σ) :
    Kt l G μX9_rowsWithout [.ref (sw_al G 0), .ref (sw_al G b), sw_i seat] M (fun r M' => ∃ R' u' d', r = none ∧ (∀ p k, 0 ≤ p → p < sNb σ - 1 → 0 ≤ k → k < sSg σ → R' (p * 5 + k) = bdF σ nt T (if p < seat then p else p + 1) k (-1)) ∧ M' = sw_ov M [cR R', cO G b σ u' d']) := by
  refine KtA.of (by decide +kernel) (Nat.le_of_ble_eq_true rfl) ?_
  have hn : sw_nd [7, b] := sw_nd_of (by simp; omega)
  refine v_mem (sw_ov_self (cs := [cR R, cO G b σ u d]) (sw_hold1 h7 (sw_hold1 h5.hd sw_hold0))).symm ?_
  have hnb := hw.2.2.1
  have hsg := hw.1
  have loop : ∀ (n : Nat) (o : Int) (R' : Int → Int) (u' d' : Int), 0 ≤ o → o + n = sNb σ → (∀ p k, 0 ≤ p → p < (if o ≤ seat then o else o - 1) → 0 ≤ k → k < sSg σ → R' (p * 5 + k) = bdF σ nt T (if p < seat then p else p + 1) k (-1)) → V l G μX9_rowsWithout sw_E0 (sw_Zq G μX9_rowsWithout (sw_q0 G (fun r M' => ∃ R' u' d', r = none ∧ (∀ p k, 0 ≤ p → p < sNb σ - 1 → 0 ≤ k → k < sSg σ → R' (p * 5 + k) = bdF σ nt T (if p < seat then p else p + 1) k (-1)) ∧ M' = sw_ov M [cR R', cO G b σ u' d']))) 5 [(0, .ref (sw_al G 0)), (1, .ref (sw_al G b)), (2, sw_i seat), (3, sw_i (if o ≤ seat then o else o - 1)), (4, sw_i o)] [] (sw_ov M [cR R', cO G b σ u' d']) 0 0 := by
    intro n
    induction n with
    | zero =>
      intro o R' u' d' ho hon e1
      rw [if_neg (by omega)] at e1 ⊢
      refine v_iload dX9_rowsWithout_5 rfl ?_
      refine v_aload_n dX9_rowsWithout_7 rfl ?_
      refine v_getf 1 6 fl_X9_114 hn rfl rfl dX9_rowsWithout_8 ?_
      refine v_icmp_ge (tgt := 38) dX9_rowsWithout_11 (by decide) ⟨by omega, by omega⟩ ⟨by omega, by omega⟩ (fun h11 => ?_) (fun h11 => ?_)
      · skip
        exact v_vret dX9_rowsWithout_38 rfl (Nat.le_refl _) (Nat.le_refl _) (⟨R', u', d', rfl, fun p k p0 p1 k0 k1 => e1 p k p0 (by omega) k0 k1, rfl⟩)
      · skip
        exfalso; omega
    | succ n ih =>
      intro o R' u' d' ho hon e1
      obtain ⟨pl, hpl⟩ : ∃ pl, (if o ≤ seat then o else o - 1) = pl := ⟨_, rfl⟩
      have hplb : 0 ≤ pl ∧ pl < 4 ∧ (o = seat ∧ pl = o ∨ o < seat ∧ pl = o ∨ seat < o ∧ pl = o - 1) := by rw [← hpl]; split <;> omega
      rw [hpl] at e1 ⊢
      refine v_iload dX9_rowsWithout_5 rfl ?_
      refine v_aload_n dX9_rowsWithout_7 rfl ?_
      refine v_getf 1 6 fl_X9_114 hn rfl rfl dX9_rowsWithout_8 ?_
      refine v_icmp_ge (tgt := 38) dX9_rowsWithout_11 (by decide) ⟨by omega, by omega⟩ ⟨by omega, by omega⟩ (fun h11 => ?_) (fun h11 => ?_)
      · skip
        exfalso; omega
      · skip
        refine v_iload dX9_rowsWithout_14 rfl ?_
        refine v_iload_n dX9_rowsWithout_16 rfl ?_
        refine v_icmp_eq (tgt := 32) dX9_rowsWithout_17 (by decide) ⟨by omega, by omega⟩ ⟨by omega, by omega⟩ (fun h17 => ?_) (fun h17 => ?_)
        · skip
          refine v_iinc dX9_rowsWithout_32 rfl (Nat.le_of_ble_eq_true rfl) ?_
          refine v_goto (tgt := 5) dX9_rowsWithout_35 (by decide) ?_
          refine v_to (ih (o + 1) R' u' d' (by omega) (by omega) ?_) rfl (sw_h1 rfl (sw_h1 rfl (sw_h1 rfl (sw_h1 (by rw [if_neg (by omega), show o + 1 - 1 = pl by omega]; rfl) (sw_h1 rfl sw_h0)))))
          rw [if_neg (by omega), show o + 1 - 1 = pl by omega]
          exact e1
        · skip
          refine v_aload_n dX9_rowsWithout_20 rfl ?_
          refine v_aload_n dX9_rowsWithout_21 rfl ?_
          refine v_iload dX9_rowsWithout_22 rfl ?_
          refine v_iload_n dX9_rowsWithout_24 rfl ?_
          refine v_iconst dX9_rowsWithout_25 ?_
          refine v_callV (ci := 9) (K9_rowOf hb (ns := ns) (nt := nt) (b0 := b0) (m := m) (le := le) (wt := wt) (wo := wo) (hi := hi) (al := al) (nx' := nx') (su := su) (σ := σ) (u := u') (d := d') (T := T) (R := R') (seat := o) (place := pl) (his := -1) (by rw [sw_ov_out (by simp; omega)]; exact h0) (by rw [sw_ov_out (by simp; omega)]; exact h4) (by rw [sw_ov_out (by simp; omega)]; exact h6) (sw_ov_at (cs := [cR R', cO G b σ u' d']) (q := 0) (t := 7) hn rfl) (sw_hold1 (sw_ov_at (cs := [cR R', cO G b σ u' d']) (q := 1) (t := b) hn rfl) (h5.tl.out (by simp; omega))) hw hc ⟨by omega, by omega⟩ ⟨by omega, by omega⟩ ⟨by omega, by omega⟩) ⟨rfl, rfl⟩ (Nat.le_refl _) (Nat.le_refl _) (t := 0) (by rw [sw_ov_out (by simp; omega)]; exact h0) rfl ⟨ml_X9_269, mm_X9_rowOf⟩ ⟨(Nat.le_of_ble_eq_true rfl), (Nat.le_of_ble_eq_true rfl)⟩ mp_X9_rowOf rfl rfl (Nat.le_of_ble_eq_true rfl) dX9_rowsWithout_26 (fun r M' h => ?_)
          obtain ⟨R2, u2, d2, rfl, f1, f2, rfl⟩ := h
          refine v_ovp [0, 1] rfl rfl hn ?_
          refine v_iinc dX9_rowsWithout_29 rfl (Nat.le_of_ble_eq_true rfl) ?_
          refine v_iinc dX9_rowsWithout_32 rfl (Nat.le_of_ble_eq_true rfl) ?_
          refine v_goto (tgt := 5) dX9_rowsWithout_35 (by decide) ?_
          refine v_to (ih (o + 1) R2 u2 d2 (by omega) (by omega) ?_) rfl (sw_h1 rfl (sw_h1 rfl (sw_h1 rfl (sw_h1 (by rw [show (if o + 1 ≤ seat then o + 1 else o + 1 - 1) = pl + 1 by split <;> omega]; rfl) (sw_h1 rfl sw_h0)))))
          rw [show (if o + 1 ≤ seat then o + 1 else o + 1 - 1) = pl + 1 by split <;> omega]
          intro p k p0 p1 k0 k1
          by_cases e : p = pl
          · subst e
            rw [f1 k k0 k1]
            congr 1
            split <;> omega
          · rw [f2 _ (by omega)]
            exact e1 p k p0 (by omega) k0 k1
  refine v_iconst dX9_rowsWithout_0 ?_
  refine v_istore_n dX9_rowsWithout_1 (Nat.le_of_ble_eq_true rfl) ?_
  refine v_iconst dX9_rowsWithout_2 ?_
  refine v_istore dX9_rowsWithout_3 (Nat.le_of_ble_eq_true rfl) ?_
  exact v_to (loop (sNb σ).toNat 0 R u d (by omega) (by omega) (fun p k p0 p1 => by rw [if_pos hs.1] at p1; omega)) rfl (sw_h1 rfl (sw_h1 rfl (sw_h1 rfl (sw_h1 (by rw [if_pos hs.1]; rfl) (sw_h1 rfl sw_h0)))))
theorem K9_laidFor {b ns : Nat} (hb : 50 ≤ b) {σ : SaleT} {u d nt : Int} {Ld : Int → Int} (h0 : M 0 = some (c0 G ns nt).2) (h5 : M b = some (cO G b σ u d).2) (hL : M 5 = some (cLd Ld).2) (hw : wfS σ) (hLd : ∀ i, 0 ≤ i → i < 4 → 0 ≤ Ld i ∧ Ld i ≤ 4) : Kt l G μX9_laidFor [.ref (sw_al G 0), .ref (sw_al G b)] M (fun r M' => r = some (sw_i (bI (∀ i : Nat, i < (sNb σ).toNat → Ld i < sSg σ))) ∧ M' = M) := by
  refine KtA.of (by decide +kernel) (Nat.le_of_ble_eq_true rfl) ?_
  have hback : sw_ov M [c0 G ns nt, cLd Ld, cO G b σ u d] = M := sw_ov_self (sw_hold1 h0 (sw_hold1 hL (sw_hold1 h5 sw_hold0)))
  refine v_mem hback.symm ?_
  have hn : sw_nd [0, 5, b] := sw_nd_of (by simp; omega)
  have hnb := hw.2.2.1
  have hsg := hw.1
  have loop : ∀ (n i : Nat), (i : Int) + n = sNb σ → (∀ j : Nat, j < i → Ld j < sSg σ) → V l G μX9_laidFor sw_E0 (sw_Zq G μX9_laidFor (sw_q0 G (fun r M' => r = some (sw_i (bI (∀ i : Nat, i < (sNb σ).toNat → Ld i < sSg σ))) ∧ M' = M))) 2 [(0, .ref (sw_al G 0)), (1, .ref (sw_al G b)), (2, sw_i (i : Int))] [] (sw_ov M [c0 G ns nt, cLd Ld, cO G b σ u d]) 0 0 := by
    intro n
    induction n with
    | zero =>
      intro i hi hq
      refine v_iload_n dX9_laidFor_2 rfl ?_
      refine v_aload_n dX9_laidFor_3 rfl ?_
      refine v_getf 2 6 fl_X9_114 hn rfl rfl dX9_laidFor_4 ?_
      refine v_icmp_ge (tgt := 31) dX9_laidFor_7 (by decide) ⟨by omega, by omega⟩ ⟨by omega, by omega⟩ (fun h7 => ?_) (fun h7 => ?_)
      · skip
        refine v_iconst dX9_laidFor_31 ?_
        exact v_zret rfl dX9_laidFor_32 rfl (Nat.le_refl _) (Nat.le_refl _) (⟨by rw [bI_t (fun j hj => hq j (by omega))], hback⟩)
      · skip
        exfalso; omega
    | succ n ih =>
      intro i hi hq
      have hl := hLd i (by omega) (by omega)
      refine v_iload_n dX9_laidFor_2 rfl ?_
      refine v_aload_n dX9_laidFor_3 rfl ?_
      refine v_getf 2 6 fl_X9_114 hn rfl rfl dX9_laidFor_4 ?_
      refine v_icmp_ge (tgt := 31) dX9_laidFor_7 (by decide) ⟨by omega, by omega⟩ ⟨by omega, by omega⟩ (fun h7 => ?_) (fun h7 => ?_)
      · skip
        exfalso; omega
      · skip
        refine v_aload_n dX9_laidFor_10 rfl ?_
        refine v_aload_n dX9_laidFor_11 rfl ?_
        refine v_getf 0 5 fl_X9_33 hn rfl rfl dX9_laidFor_12 ?_
        refine v_iload_n dX9_laidFor_15 rfl ?_
        refine v_iald 1 hn rfl (Nat.le_of_ble_eq_true rfl) (by omega) (by omega) dX9_laidFor_16 ?_
        refine v_callV (ci := 5) (K5_hasSign (u := u) (d := d) (σ := σ) (b := b) (k := Ld i) (sw_ov_at (cs := [c0 G ns nt, cLd Ld, cO G b σ u d]) (q := 2) (t := b) hn rfl) ⟨by omega, by omega⟩ ⟨by omega, by omega⟩) ⟨rfl, rfl⟩ (Nat.le_refl _) (Nat.le_refl _) ((sw_ov_at (cs := [c0 G ns nt, cLd Ld, cO G b σ u d]) (q := 2) (t := b) hn rfl)) rfl ⟨ml_X9_145, mm_X5_hasSign⟩ ⟨(Nat.le_of_ble_eq_true rfl), (Nat.le_of_ble_eq_true rfl)⟩ mp_X5_hasSign rfl rfl (Nat.le_of_ble_eq_true rfl) dX9_laidFor_17 (fun r M' h => ?_)
        obtain ⟨rfl, rfl⟩ := h
        refine v_ifb_ne (tgt := 25) dX9_laidFor_20 (by decide) (fun h20 => ?_) (fun h20 => ?_)
        · skip
          refine v_iinc dX9_laidFor_25 rfl (Nat.le_of_ble_eq_true rfl) ?_
          refine v_goto (tgt := 2) dX9_laidFor_28 (by decide) ?_
          refine v_to (ih (i + 1) (by omega) (fun j hj => ?_)) rfl (sw_h1 rfl (sw_h1 rfl (sw_h1 rfl sw_h0)))
          by_cases e : j = i
          · subst e; omega
          · exact hq j (by omega)
        · skip
          refine v_iconst dX9_laidFor_23 ?_
          exact v_zret rfl dX9_laidFor_24 rfl (Nat.le_refl _) (Nat.le_refl _) (⟨by rw [bI_f (fun h => by have := h i (by omega); omega)], hback⟩)
  refine v_iconst dX9_laidFor_0 ?_
  refine v_istore_n dX9_laidFor_1 (Nat.le_of_ble_eq_true rfl) ?_
  exact v_to (loop (sNb σ).toNat 0 (by omega) (fun j hj => by omega)) rfl (sw_h1 rfl (sw_h1 rfl (sw_h1 rfl sw_h0)))
end

