/-! bids in the OPEN -/
abbrev cU (G : sw_G) (lf wn pr : Int) : sw_Ce := (25, sw_o 3 [.ref (sw_al G 26), .ref (sw_al G 27), .ref (sw_al G 28), .ref (sw_al G 29), sw_i lf, sw_i wn, sw_i pr])
abbrev cUs (G : sw_G) (lf wn pr : Int) (Lv La Gn Sn : Int → Int) : List sw_Ce := [cU G lf wn pr, (26, sw_ia 4 Lv), (27, sw_ia 4 La), (28, sw_za 4 Gn), (29, sw_ia 4 Sn)]
def lmS (nb : Int) (Gn Ld : Int → Int) (seat o : Int) : Int := if o < nb then (if Gn o = 0 then Ld seat else Ld o) else -1
/-- what one still in leaves at -/
def lmt (σ : SaleT) (Gn Ld : Int → Int) (seat : Int) : Int := hld σ (lmS (sNb σ) Gn Ld seat 0) (lmS (sNb σ) Gn Ld seat 1) (lmS (sNb σ) Gn Ld seat 2) (lmS (sNb σ) Gn Ld seat 3)
def wfl (σ : SaleT) (Gn Ld : Int → Int) : Nat → Int × Int
  | 0 => (-1, 0)
  | k + 1 => if Gn k = 0 then (if (wfl σ Gn Ld k).1 = -1 ∨ lmt σ Gn Ld k < (wfl σ Gn Ld k).2 then ((k : Int), lmt σ Gn Ld k) else wfl σ Gn Ld k) else wfl σ Gn Ld k
theorem wfl_bd {σ : SaleT} (hw : wfS σ) (Gn Ld : Int → Int) : ∀ k : Nat, (-1 ≤ (wfl σ Gn Ld k).1 ∧ (wfl σ Gn Ld k).1 < k) ∧ 0 ≤ (wfl σ Gn Ld k).2 ∧ (wfl σ Gn Ld k).2 ≤ 60
  | 0 => by show (-1 ≤ (-1 : Int) ∧ (-1 : Int) < 0) ∧ 0 ≤ (0 : Int) ∧ (0 : Int) ≤ 60; omega
  | k + 1 => by
    have ih := wfl_bd hw Gn Ld k
    have hl : 0 ≤ lmt σ Gn Ld k ∧ lmt σ Gn Ld k ≤ 60 := hld_bd hw _ _ _ _
    unfold wfl
    split
    · split
      · dsimp only; omega
      · omega
    · omega
/-- left, price, gone, who left, at what -/
abbrev riT : Type := Int × Int × (Int → Int) × (Int → Int) × (Int → Int)
def ol (σ : SaleT) (Ld : Int → Int) (ρ : riT) : riT :=
  if (wfl σ ρ.2.2.1 Ld (sNb σ).toNat).1 = -1 ∨ 4 ≤ ρ.1 then ρ
  else (ρ.1 + 1, if ρ.2.1 < (wfl σ ρ.2.2.1 Ld (sNb σ).toNat).2 then (wfl σ ρ.2.2.1 Ld (sNb σ).toNat).2 else ρ.2.1, up ρ.2.2.1 (wfl σ ρ.2.2.1 Ld (sNb σ).toNat).1 1, up ρ.2.2.2.1 ρ.1 (wfl σ ρ.2.2.1 Ld (sNb σ).toNat).1, up ρ.2.2.2.2 ρ.1 (if ρ.2.1 < (wfl σ ρ.2.2.1 Ld (sNb σ).toNat).2 then (wfl σ ρ.2.2.1 Ld (sNb σ).toNat).2 else ρ.2.1))
def olN (σ : SaleT) (Ld : Int → Int) (ρ : riT) : Nat → riT
  | 0 => ρ
  | n + 1 => ol σ Ld (olN σ Ld ρ n)
def wnR (Gn : Int → Int) : Nat → Int
  | 0 => -1
  | n + 1 => if Gn n = 0 then (n : Int) else wnR Gn n
def riOK (ρ : riT) : Prop := (0 ≤ ρ.1 ∧ ρ.1 ≤ 4) ∧ (0 ≤ ρ.2.1 ∧ ρ.2.1 ≤ 60) ∧ (∀ i, ρ.2.2.1 i = 0 ∨ ρ.2.2.1 i = 1 ∨ i < 0 ∨ 4 ≤ i)
theorem ol_ok {σ : SaleT} (hw : wfS σ) (Ld : Int → Int) {ρ : riT} (h : riOK ρ) : riOK (ol σ Ld ρ) := by
  have hb := wfl_bd hw ρ.2.2.1 Ld (sNb σ).toNat
  unfold ol
  split
  · exact h
  · obtain ⟨h1, h2, h3⟩ := h
    refine ⟨by dsimp only; omega, ?_, fun i => ?_⟩
    · dsimp only; split <;> omega
    · show (if i = _ then (1 : Int) else ρ.2.2.1 i) = 0 ∨ (if i = _ then (1 : Int) else ρ.2.2.1 i) = 1 ∨ _
      split
      · exact Or.inr (Or.inl rfl)
      · exact h3 i
section
variable {l : Launch} {G : sw_G} {M : sw_M}
theorem K3_limitOf {b : Nat} (hb : 50 ≤ b) {σ : SaleT} {u d lf wn pr : Int} {Lv La Gn Sn Ld : Int → Int} (hM : sw_hold M (cUs G lf wn pr Lv La Gn Sn)) (h5 : sw_hold M (cS G b σ u d)) (hL : M 5 = some (sw_ia 4 Ld)) (hw : wfS σ) (hLd : ∀ i, 0 ≤ i → i < 4 → 0 ≤ Ld i ∧ Ld i ≤ 4) (hG : ∀ i, Gn i = 0 ∨ Gn i = 1 ∨ i < 0 ∨ 4 ≤ i) {seat : Int} (hs : 0 ≤ seat ∧ seat < 4) :
    Kt l G μX3_limitOf [.ref (sw_al G 25), .ref (sw_al G b), .ref (sw_al G 5), sw_i seat] M (fun r M' => ∃ Sn' u' d', r = some (sw_i (lmt σ Gn Ld seat)) ∧ M' = sw_ov M [(29, sw_ia 4 Sn'), cO G b σ u' d']) := by
  refine KtA.of (by decide +kernel) (Nat.le_of_ble_eq_true rfl) ?_
  have hn : sw_nd [25, 28, 29, b, 5] := sw_nd_of (by simp; omega)
  have hback : ∀ (Sn' : Int → Int) (u' d' : Int), sw_ov M [cU G lf wn pr, (28, sw_za 4 Gn), (29, sw_ia 4 Sn'), cO G b σ u' d', (5, sw_ia 4 Ld)] = sw_ov M [(29, sw_ia 4 Sn'), cO G b σ u' d'] := by
    intro Sn' u' d'
    funext q
    show (if q = 25 then some (cU G lf wn pr).2 else if q = 28 then some (sw_za 4 Gn) else if q = 29 then _ else if q = b then _ else if q = 5 then some (sw_ia 4 Ld) else M q) = (if q = 29 then _ else if q = b then _ else M q)
    have g1 := hM.hd
    have g2 := hM.tl.tl.tl.hd
    by_cases e1 : q = 25
    · rw [if_pos e1, if_neg (by omega), if_neg (by omega), e1, g1]
    · rw [if_neg e1]
      by_cases e2 : q = 28
      · rw [if_pos e2, if_neg (by omega), if_neg (by omega), e2, g2]
      · rw [if_neg e2]
        by_cases e3 : q = 29
        · rw [if_pos e3, if_pos e3]
        · rw [if_neg e3, if_neg e3]
          by_cases e4 : q = b
          · rw [if_pos e4, if_pos e4]
          · rw [if_neg e4, if_neg e4]
            by_cases e5 : q = 5
            · rw [if_pos e5, e5, hL]
            · rw [if_neg e5]
  refine v_mem (sw_ov_self (cs := [cU G lf wn pr, (28, sw_za 4 Gn), (29, sw_ia 4 Sn), cO G b σ u d, (5, sw_ia 4 Ld)]) (sw_hold1 hM.hd (sw_hold1 hM.tl.tl.tl.hd (sw_hold1 hM.tl.tl.tl.tl.hd (sw_hold1 h5.hd (sw_hold1 hL sw_hold0)))))).symm ?_
  have hnb := hw.2.2.1
  have loop : ∀ (n : Nat) (o : Int) (Sn' : Int → Int), 0 ≤ o → o + n = 4 → (∀ j, 0 ≤ j → j < o → Sn' j = lmS (sNb σ) Gn Ld seat j) → V l G μX3_limitOf sw_E0 (sw_Zq G μX3_limitOf (sw_q0 G (fun r M' => ∃ Sn' u' d', r = some (sw_i (lmt σ Gn Ld seat)) ∧ M' = sw_ov M [(29, sw_ia 4 Sn'), cO G b σ u' d']))) 3 [(0, .ref (sw_al G 25)), (1, .ref (sw_al G b)), (2, .ref (sw_al G 5)), (3, sw_i seat), (4, sw_i o)] [] (sw_ov M [cU G lf wn pr, (28, sw_za 4 Gn), (29, sw_ia 4 Sn'), cO G b σ u d, (5, sw_ia 4 Ld)]) 0 0 := by
    intro n
    induction n with
    | zero =>
      intro o Sn' h0 ho hq
      have e0 := hq 0 (by omega) (by omega)
      have e1 := hq 1 (by omega) (by omega)
      have e2 := hq 2 (by omega) (by omega)
      have e3 := hq 3 (by omega) (by omega)
      have lr : ∀ j, 0 ≤ j → j < 4 → sw_rg (lmS (sNb σ) Gn Ld seat j) := by
        intro j j0 j1
        have q1 := hLd j j0 j1
        have q2 := hLd seat hs.1 hs.2
        unfold lmS
        split
        · split <;> exact ⟨by omega, by omega⟩
        · exact ⟨by omega, by omega⟩
      refine v_iload dX3_limitOf_3 rfl ?_
      refine v_iconst dX3_limitOf_5 ?_
      refine v_icmp_ge (tgt := 55) dX3_limitOf_6 (by decide) ⟨by omega, by omega⟩ ⟨by omega, by omega⟩ (fun h6 => ?_) (fun h6 => ?_)
      · skip
        refine v_aload_n dX3_limitOf_55 rfl ?_
        refine v_aload_n dX3_limitOf_56 rfl ?_
        refine v_getf 0 3 fl_X3_22 hn rfl rfl dX3_limitOf_57 ?_
        refine v_iconst dX3_limitOf_60 ?_
        refine v_iald 2 hn rfl (Nat.le_of_ble_eq_true rfl) (by omega) (by omega) dX3_limitOf_61 ?_
        refine v_aload_n dX3_limitOf_62 rfl ?_
        refine v_getf 0 3 fl_X3_22 hn rfl rfl dX3_limitOf_63 ?_
        refine v_iconst dX3_limitOf_66 ?_
        refine v_iald 2 hn rfl (Nat.le_of_ble_eq_true rfl) (by omega) (by omega) dX3_limitOf_67 ?_
        refine v_aload_n dX3_limitOf_68 rfl ?_
        refine v_getf 0 3 fl_X3_22 hn rfl rfl dX3_limitOf_69 ?_
        refine v_iconst dX3_limitOf_72 ?_
        refine v_iald 2 hn rfl (Nat.le_of_ble_eq_true rfl) (by omega) (by omega) dX3_limitOf_73 ?_
        refine v_aload_n dX3_limitOf_74 rfl ?_
        refine v_getf 0 3 fl_X3_22 hn rfl rfl dX3_limitOf_75 ?_
        refine v_iconst dX3_limitOf_78 ?_
        refine v_iald 2 hn rfl (Nat.le_of_ble_eq_true rfl) (by omega) (by omega) dX3_limitOf_79 ?_
        refine v_callV (ci := 5) (K5_held (b := b) (u0 := u) (d0 := d) (σ := σ) (sw_hold1 (sw_ov_at (cs := [cU G lf wn pr, (28, sw_za 4 Gn), (29, sw_ia 4 Sn'), cO G b σ u d, (5, sw_ia 4 Ld)]) (q := 3) (t := b) hn rfl) (h5.tl.out (by simp; omega))) hw (a := Sn' 0) (e := Sn' 1) (c := Sn' 2) (d := Sn' 3) (by rw [e0]; exact lr 0 (by omega) (by omega)) (by rw [e1]; exact lr 1 (by omega) (by omega)) (by rw [e2]; exact lr 2 (by omega) (by omega)) (by rw [e3]; exact lr 3 (by omega) (by omega))) ⟨rfl, rfl⟩ (Nat.le_refl _) (Nat.le_refl _) (sw_ov_at (q := 3) (t := b) hn rfl) rfl ⟨ml_X3_57, mm_X5_held⟩ ⟨(Nat.le_of_ble_eq_true rfl), (Nat.le_of_ble_eq_true rfl)⟩ mp_X5_held rfl rfl (Nat.le_of_ble_eq_true rfl) dX3_limitOf_80 (fun r M' h => ?_)
        obtain ⟨rfl, rfl⟩ := h
        refine v_ovp [3] rfl rfl hn ?_
        exact v_iret dX3_limitOf_83 rfl (Nat.le_refl _) (Nat.le_refl _) (⟨Sn', _, _, by rw [e0, e1, e2, e3]; rfl, hback _ _ _⟩)
      · skip
        exfalso; omega
    | succ n ih =>
      intro o Sn' h0 ho hq
      have hst : ∀ v, v = lmS (sNb σ) Gn Ld seat o → ∀ j, 0 ≤ j → j < o + 1 → up Sn' o v j = lmS (sNb σ) Gn Ld seat j := by
        intro v hv j j0 j1
        show (if j = o then v else Sn' j) = _
        by_cases e : j = o
        · rw [if_pos e, e, hv]
        · rw [if_neg e]; exact hq j j0 (by omega)
      have hGo := hG o
      refine v_iload dX3_limitOf_3 rfl ?_
      refine v_iconst dX3_limitOf_5 ?_
      refine v_icmp_ge (tgt := 55) dX3_limitOf_6 (by decide) ⟨by omega, by omega⟩ ⟨by omega, by omega⟩ (fun h6 => ?_) (fun h6 => ?_)
      · skip
        exfalso; omega
      · skip
        refine v_aload_n dX3_limitOf_9 rfl ?_
        refine v_getf 0 3 fl_X3_22 hn rfl rfl dX3_limitOf_10 ?_
        refine v_iload dX3_limitOf_13 rfl ?_
        refine v_iload dX3_limitOf_15 rfl ?_
        refine v_aload_n dX3_limitOf_17 rfl ?_
        refine v_getf 3 6 fl_X3_40 hn rfl rfl dX3_limitOf_18 ?_
        refine v_icmp_lt (tgt := 28) dX3_limitOf_21 (by decide) ⟨by omega, by omega⟩ ⟨by omega, by omega⟩ (fun h21 => ?_) (fun h21 => ?_)
        · skip
          refine v_aload_n dX3_limitOf_28 rfl ?_
          refine v_getf 0 2 fl_X3_18 hn rfl rfl dX3_limitOf_29 ?_
          refine v_iload dX3_limitOf_32 rfl ?_
          refine v_zald 1 hn rfl (Nat.le_of_ble_eq_true rfl) (by omega) (by omega) dX3_limitOf_34 ?_
          refine v_if_eq (tgt := 45) dX3_limitOf_35 (by decide) ⟨by omega, by omega⟩ (fun h35 => ?_) (fun h35 => ?_)
          · skip
            refine v_aload_n dX3_limitOf_45 rfl ?_
            refine v_iload_n dX3_limitOf_46 rfl ?_
            refine v_iald 4 hn rfl (Nat.le_of_ble_eq_true rfl) (by omega) (by omega) dX3_limitOf_47 ?_
            refine v_iast 2 hn rfl (Nat.le_of_ble_eq_true rfl) (by omega) (by omega) dX3_limitOf_48 ?_
            refine v_iinc dX3_limitOf_49 rfl (Nat.le_of_ble_eq_true rfl) ?_
            refine v_goto (tgt := 3) dX3_limitOf_52 (by decide) ?_
            exact v_to (ih (o + 1) _ (by omega) (by omega) (hst _ (by unfold lmS; rw [if_pos (by omega), if_pos (by omega)]))) rfl (sw_h1 rfl (sw_h1 rfl (sw_h1 rfl (sw_h1 rfl (sw_h1 rfl sw_h0)))))
          · skip
            refine v_aload_n dX3_limitOf_38 rfl ?_
            refine v_iload dX3_limitOf_39 rfl ?_
            refine v_iald 4 hn rfl (Nat.le_of_ble_eq_true rfl) (by omega) (by omega) dX3_limitOf_41 ?_
            refine v_goto (tgt := 48) dX3_limitOf_42 (by decide) ?_
            refine v_iast 2 hn rfl (Nat.le_of_ble_eq_true rfl) (by omega) (by omega) dX3_limitOf_48 ?_
            refine v_iinc dX3_limitOf_49 rfl (Nat.le_of_ble_eq_true rfl) ?_
            refine v_goto (tgt := 3) dX3_limitOf_52 (by decide) ?_
            exact v_to (ih (o + 1) _ (by omega) (by omega) (hst _ (by unfold lmS; rw [if_pos (by omega), if_neg (by omega)]))) rfl (sw_h1 rfl (sw_h1 rfl (sw_h1 rfl (sw_h1 rfl (sw_h1 rfl sw_h0)))))
        · skip
          refine v_iconst dX3_limitOf_24 ?_
          refine v_goto (tgt := 48) dX3_limitOf_25 (by decide) ?_
          refine v_iast 2 hn rfl (Nat.le_of_ble_eq_true rfl) (by omega) (by omega) dX3_limitOf_48 ?_
          refine v_iinc dX3_limitOf_49 rfl (Nat.le_of_ble_eq_true rfl) ?_
          refine v_goto (tgt := 3) dX3_limitOf_52 (by decide) ?_
          exact v_to (ih (o + 1) _ (by omega) (by omega) (hst _ (by unfold lmS; rw [if_neg (by omega)]))) rfl (sw_h1 rfl (sw_h1 rfl (sw_h1 rfl (sw_h1 rfl (sw_h1 rfl sw_h0)))))
  refine v_iconst dX3_limitOf_0 ?_
  refine v_istore dX3_limitOf_1 (Nat.le_of_ble_eq_true rfl) ?_
  exact v_to (loop 4 0 Sn (by omega) (by omega) (fun j j0 j1 => by omega)) rfl (sw_h1 rfl (sw_h1 rfl (sw_h1 rfl (sw_h1 rfl (sw_h1 rfl sw_h0)))))
theorem K3_oneLeaves {b : Nat} (hb : 50 ≤ b) {σ : SaleT} {u d wn : Int} {ρ : riT} {Sn Ld : Int → Int} (hM : sw_hold M (cUs G ρ.1 wn ρ.2.1 ρ.2.2.2.1 ρ.2.2.2.2 ρ.2.2.1 Sn)) (h5 : sw_hold M (cS G b σ u d)) (hL : M 5 = some (sw_ia 4 Ld)) (hw : wfS σ) (hLd : ∀ i, 0 ≤ i → i < 4 → 0 ≤ Ld i ∧ Ld i ≤ 4) (hρ : riOK ρ) :
    Kt l G μX3_oneLeaves [.ref (sw_al G 25), .ref (sw_al G b), .ref (sw_al G 5)] M (fun r M' => ∃ Sn' u' d', r = none ∧ M' = sw_ov M (cUs G (ol σ Ld ρ).1 wn (ol σ Ld ρ).2.1 (ol σ Ld ρ).2.2.2.1 (ol σ Ld ρ).2.2.2.2 (ol σ Ld ρ).2.2.1 Sn' ++ [cO G b σ u' d'])) := by
  refine KtA.of (by decide +kernel) (Nat.le_of_ble_eq_true rfl) ?_
  have hn : sw_nd [25, 26, 27, 28, 29, b] := sw_nd_of (by simp; omega)
  refine v_mem (sw_ov_self (cs := cUs G ρ.1 wn ρ.2.1 ρ.2.2.2.1 ρ.2.2.2.2 ρ.2.2.1 Sn ++ [cO G b σ u d]) (sw_hold.app hM (sw_hold1 h5.hd sw_hold0))).symm ?_
  obtain ⟨lf, pr, Gn, Lv, La⟩ := ρ
  obtain ⟨hr1, hr2, hr3⟩ := hρ
  dsimp only at hr1 hr2 hr3
  have hnb := hw.2.2.1
  have oU : ∀ (Sn' : Int → Int) (u' d' : Int), sw_hold (sw_ov M (cUs G lf wn pr Lv La Gn Sn' ++ [cO G b σ u' d'])) (cUs G lf wn pr Lv La Gn Sn') := fun Sn' u' d' => sw_pick (cs := cUs G lf wn pr Lv La Gn Sn' ++ [cO G b σ u' d']) hn [0, 1, 2, 3, 4] rfl
  have oA : ∀ (Sn' : Int → Int) (u' d' : Int), sw_hold (sw_ov M (cUs G lf wn pr Lv La Gn Sn' ++ [cO G b σ u' d'])) (cS G b σ u' d') := fun Sn' u' d' => sw_hold1 (sw_ov_at (cs := cUs G lf wn pr Lv La Gn Sn' ++ [cO G b σ u' d']) (q := 5) (t := b) hn rfl) (h5.tl.out (by simp; omega))
  have oL : ∀ (Sn' : Int → Int) (u' d' : Int), (sw_ov M (cUs G lf wn pr Lv La Gn Sn' ++ [cO G b σ u' d'])) 5 = some (sw_ia 4 Ld) := fun Sn' u' d' => by rw [sw_ov_out (by simp; omega)]; exact hL
  have hdef : ol σ Ld (lf, pr, Gn, Lv, La) = if (wfl σ Gn Ld (sNb σ).toNat).1 = -1 ∨ 4 ≤ lf then (lf, pr, Gn, Lv, La) else (lf + 1, if pr < (wfl σ Gn Ld (sNb σ).toNat).2 then (wfl σ Gn Ld (sNb σ).toNat).2 else pr, up Gn (wfl σ Gn Ld (sNb σ).toNat).1 1, up Lv lf (wfl σ Gn Ld (sNb σ).toNat).1, up La lf (if pr < (wfl σ Gn Ld (sNb σ).toNat).2 then (wfl σ Gn Ld (sNb σ).toNat).2 else pr)) := rfl
  have loop : ∀ (n k : Nat) (Sn' : Int → Int) (u' d' : Int), k + n = (sNb σ).toNat → V l G μX3_oneLeaves sw_E0 (sw_Zq G μX3_oneLeaves (sw_q0 G (fun r M' => ∃ Sn' u' d', r = none ∧ M' = sw_ov M (cUs G (ol σ Ld (lf, pr, Gn, Lv, La)).1 wn (ol σ Ld (lf, pr, Gn, Lv, La)).2.1 (ol σ Ld (lf, pr, Gn, Lv, La)).2.2.2.1 (ol σ Ld (lf, pr, Gn, Lv, La)).2.2.2.2 (ol σ Ld (lf, pr, Gn, Lv, La)).2.2.1 Sn' ++ [cO G b σ u' d'])))) 8 [(0, .ref (sw_al G 25)), (1, .ref (sw_al G b)), (2, .ref (sw_al G 5)), (3, sw_i (wfl σ Gn Ld k).1), (4, sw_i (wfl σ Gn Ld k).2), (5, sw_i (k : Int))] [] (sw_ov M (cUs G lf wn pr Lv La Gn Sn' ++ [cO G b σ u' d'])) 0 0 := by
    intro n
    induction n with
    | zero =>
      intro k Sn' u' d' hk
      have e : k = (sNb σ).toNat := by omega
      have hwb := wfl_bd hw Gn Ld k
      rw [← e] at hdef
      refine v_iload dX3_oneLeaves_8 rfl ?_
      refine v_aload_n dX3_oneLeaves_10 rfl ?_
      refine v_getf 5 6 fl_X3_40 hn rfl rfl dX3_oneLeaves_11 ?_
      refine v_icmp_ge (tgt := 65) dX3_oneLeaves_14 (by decide) ⟨by omega, by omega⟩ ⟨by omega, by omega⟩ (fun h14 => ?_) (fun h14 => ?_)
      · skip
        refine v_iload_n dX3_oneLeaves_65 rfl ?_
        refine v_iconst dX3_oneLeaves_66 ?_
        refine v_icmp_eq (tgt := 78) dX3_oneLeaves_67 (by decide) ⟨by omega, by omega⟩ ⟨by omega, by omega⟩ (fun h67 => ?_) (fun h67 => ?_)
        · skip
          rw [if_pos (Or.inl (by omega))] at hdef
          exact v_vret dX3_oneLeaves_78 rfl (Nat.le_refl _) (Nat.le_refl _) (⟨Sn', u', d', rfl, by rw [hdef]⟩)
        · skip
          refine v_aload_n dX3_oneLeaves_70 rfl ?_
          refine v_getf 0 4 fl_X3_25 hn rfl rfl dX3_oneLeaves_71 ?_
          refine v_iconst dX3_oneLeaves_74 ?_
          refine v_icmp_lt (tgt := 79) dX3_oneLeaves_75 (by decide) ⟨by omega, by omega⟩ ⟨by omega, by omega⟩ (fun h75 => ?_) (fun h75 => ?_)
          · skip
            rw [if_neg (by omega)] at hdef
            refine v_aload_n dX3_oneLeaves_79 rfl ?_
            refine v_aload_n dX3_oneLeaves_80 rfl ?_
            refine v_getf 0 6 fl_X3_32 hn rfl rfl dX3_oneLeaves_81 ?_
            refine v_iload dX3_oneLeaves_84 rfl ?_
            refine v_max ⟨by omega, by omega⟩ ⟨by omega, by omega⟩ ql_X3_51 ⟨Nat.le_of_ble_eq_true rfl, Nat.le_of_ble_eq_true rfl⟩ (Nat.le_refl _) (Nat.le_refl _) dX3_oneLeaves_86 ?_
            refine v_putf 0 6 fp_X3_32 hn rfl rfl rfl (Nat.le_of_ble_eq_true rfl) dX3_oneLeaves_89 ?_
            refine v_aload_n dX3_oneLeaves_92 rfl ?_
            refine v_getf 0 2 fl_X3_18 hn rfl rfl dX3_oneLeaves_93 ?_
            refine v_iload_n dX3_oneLeaves_96 rfl ?_
            refine v_iconst dX3_oneLeaves_97 ?_
            refine v_zast 3 (by decide +kernel) hn rfl (Nat.le_of_ble_eq_true rfl) (by omega) (by omega) dX3_oneLeaves_98 ?_
            refine v_aload_n dX3_oneLeaves_99 rfl ?_
            refine v_getf 0 0 fl_X3_9 hn rfl rfl dX3_oneLeaves_100 ?_
            refine v_aload_n dX3_oneLeaves_103 rfl ?_
            refine v_getf 0 4 fl_X3_25 hn rfl rfl dX3_oneLeaves_104 ?_
            refine v_iload_n dX3_oneLeaves_107 rfl ?_
            refine v_iast 1 hn rfl (Nat.le_of_ble_eq_true rfl) (by omega) (by omega) dX3_oneLeaves_108 ?_
            refine v_aload_n dX3_oneLeaves_109 rfl ?_
            refine v_getf 0 1 fl_X3_15 hn rfl rfl dX3_oneLeaves_110 ?_
            refine v_aload_n dX3_oneLeaves_113 rfl ?_
            refine v_getf 0 4 fl_X3_25 hn rfl rfl dX3_oneLeaves_114 ?_
            refine v_aload_n dX3_oneLeaves_117 rfl ?_
            refine v_getf 0 6 fl_X3_32 hn rfl rfl dX3_oneLeaves_118 ?_
            refine v_iast 2 hn rfl (Nat.le_of_ble_eq_true rfl) (by omega) (by omega) dX3_oneLeaves_121 ?_
            refine v_aload_n dX3_oneLeaves_122 rfl ?_
            refine v_dup dX3_oneLeaves_123 rfl ?_
            refine v_getf 0 4 fl_X3_25 hn rfl rfl dX3_oneLeaves_124 ?_
            refine v_iconst dX3_oneLeaves_127 ?_
            refine v_iadd dX3_oneLeaves_128 ?_
            refine v_putf 0 4 fp_X3_25 hn rfl rfl rfl (Nat.le_of_ble_eq_true rfl) dX3_oneLeaves_129 ?_
            exact v_vret dX3_oneLeaves_132 rfl (Nat.le_refl _) (Nat.le_refl _) (⟨Sn', u', d', rfl, by rw [hdef]; rfl⟩)
          · skip
            rw [if_pos (Or.inr (by omega))] at hdef
            exact v_vret dX3_oneLeaves_78 rfl (Nat.le_refl _) (Nat.le_refl _) (⟨Sn', u', d', rfl, by rw [hdef]⟩)
      · skip
        exfalso; omega
    | succ n ih =>
      intro k Sn' u' d' hk
      have hwb := wfl_bd hw Gn Ld k
      have hg := hr3 k
      have hl : 0 ≤ lmt σ Gn Ld k ∧ lmt σ Gn Ld k ≤ 60 := hld_bd hw _ _ _ _
      have e1 : wfl σ Gn Ld (k + 1) = if Gn k = 0 then (if (wfl σ Gn Ld k).1 = -1 ∨ lmt σ Gn Ld k < (wfl σ Gn Ld k).2 then ((k : Int), lmt σ Gn Ld k) else wfl σ Gn Ld k) else wfl σ Gn Ld k := rfl
      refine v_iload dX3_oneLeaves_8 rfl ?_
      refine v_aload_n dX3_oneLeaves_10 rfl ?_
      refine v_getf 5 6 fl_X3_40 hn rfl rfl dX3_oneLeaves_11 ?_
      refine v_icmp_ge (tgt := 65) dX3_oneLeaves_14 (by decide) ⟨by omega, by omega⟩ ⟨by omega, by omega⟩ (fun h14 => ?_) (fun h14 => ?_)
      · skip
        exfalso; omega
      · skip
        refine v_aload_n dX3_oneLeaves_17 rfl ?_
        refine v_getf 0 2 fl_X3_18 hn rfl rfl dX3_oneLeaves_18 ?_
        refine v_iload dX3_oneLeaves_21 rfl ?_
        refine v_zald 3 hn rfl (Nat.le_of_ble_eq_true rfl) (by omega) (by omega) dX3_oneLeaves_23 ?_
        refine v_if_eq (tgt := 30) dX3_oneLeaves_24 (by decide) ⟨by omega, by omega⟩ (fun h24 => ?_) (fun h24 => ?_)
        · skip
          rw [if_pos (by omega)] at e1
          refine v_aload_n dX3_oneLeaves_30 rfl ?_
          refine v_aload_n dX3_oneLeaves_31 rfl ?_
          refine v_aload_n dX3_oneLeaves_32 rfl ?_
          refine v_iload dX3_oneLeaves_33 rfl ?_
          refine v_callV (ci := 3) (K3_limitOf hb (oU _ _ _) (oA _ _ _) (oL _ _ _) hw hLd hr3 (seat := (k : Int)) ⟨by omega, by omega⟩) ⟨rfl, rfl⟩ (Nat.le_refl _) (Nat.le_refl _) (sw_ov_at (q := 0) (t := 25) hn rfl) rfl ⟨ml_X3_47, mm_X3_limitOf⟩ ⟨(Nat.le_of_ble_eq_true rfl), (Nat.le_of_ble_eq_true rfl)⟩ mp_X3_limitOf rfl rfl (Nat.le_of_ble_eq_true rfl) dX3_oneLeaves_35 (fun r M' h => ?_)
          obtain ⟨Sn2, u2, d2, rfl, rfl⟩ := h
          refine v_ovp [4, 5] rfl rfl hn ?_
          refine v_istore dX3_oneLeaves_38 (Nat.le_of_ble_eq_true rfl) ?_
          refine v_iload_n dX3_oneLeaves_40 rfl ?_
          refine v_iconst dX3_oneLeaves_41 ?_
          refine v_icmp_eq (tgt := 52) dX3_oneLeaves_42 (by decide) ⟨by omega, by omega⟩ ⟨by omega, by omega⟩ (fun h42 => ?_) (fun h42 => ?_)
          · skip
            rw [if_pos (Or.inl (by omega))] at e1
            refine v_iload dX3_oneLeaves_52 rfl ?_
            refine v_istore_n dX3_oneLeaves_54 (Nat.le_of_ble_eq_true rfl) ?_
            refine v_iload dX3_oneLeaves_55 rfl ?_
            refine v_istore dX3_oneLeaves_57 (Nat.le_of_ble_eq_true rfl) ?_
            refine v_iinc dX3_oneLeaves_59 rfl (Nat.le_of_ble_eq_true rfl) ?_
            refine v_goto (tgt := 8) dX3_oneLeaves_62 (by decide) ?_
            exact v_to (ih (k + 1) Sn2 u2 d2 (by omega)) rfl (sw_h1 rfl (sw_h1 rfl (sw_h1 rfl (sw_h1 (by rw [e1]; rfl) (sw_h1 (by rw [e1]; rfl) (sw_h1 rfl sw_h0))))))
          · skip
            refine v_iload dX3_oneLeaves_45 rfl ?_
            refine v_iload dX3_oneLeaves_47 rfl ?_
            refine v_icmp_ge (tgt := 59) dX3_oneLeaves_49 (by decide) ⟨by omega, by omega⟩ ⟨by omega, by omega⟩ (fun h49 => ?_) (fun h49 => ?_)
            · skip
              rw [if_neg (by omega)] at e1
              refine v_iinc dX3_oneLeaves_59 rfl (Nat.le_of_ble_eq_true rfl) ?_
              refine v_goto (tgt := 8) dX3_oneLeaves_62 (by decide) ?_
              exact v_to (ih (k + 1) Sn2 u2 d2 (by omega)) rfl (sw_h1 rfl (sw_h1 rfl (sw_h1 rfl (sw_h1 (by rw [e1]; rfl) (sw_h1 (by rw [e1]; rfl) (sw_h1 rfl sw_h0))))))
            · skip
              rw [if_pos (Or.inr (by omega))] at e1
              refine v_iload dX3_oneLeaves_52 rfl ?_
              refine v_istore_n dX3_oneLeaves_54 (Nat.le_of_ble_eq_true rfl) ?_
              refine v_iload dX3_oneLeaves_55 rfl ?_
              refine v_istore dX3_oneLeaves_57 (Nat.le_of_ble_eq_true rfl) ?_
              refine v_iinc dX3_oneLeaves_59 rfl (Nat.le_of_ble_eq_true rfl) ?_
              refine v_goto (tgt := 8) dX3_oneLeaves_62 (by decide) ?_
              exact v_to (ih (k + 1) Sn2 u2 d2 (by omega)) rfl (sw_h1 rfl (sw_h1 rfl (sw_h1 rfl (sw_h1 (by rw [e1]; rfl) (sw_h1 (by rw [e1]; rfl) (sw_h1 rfl sw_h0))))))
        · skip
          rw [if_neg (by omega)] at e1
          refine v_goto (tgt := 59) dX3_oneLeaves_27 (by decide) ?_
          refine v_iinc dX3_oneLeaves_59 rfl (Nat.le_of_ble_eq_true rfl) ?_
          refine v_goto (tgt := 8) dX3_oneLeaves_62 (by decide) ?_
          exact v_to (ih (k + 1) Sn' u' d' (by omega)) rfl (sw_h1 rfl (sw_h1 rfl (sw_h1 rfl (sw_h1 (by rw [e1]; rfl) (sw_h1 (by rw [e1]; rfl) (sw_h1 rfl sw_h0))))))
  refine v_iconst dX3_oneLeaves_0 ?_
  refine v_istore_n dX3_oneLeaves_1 (Nat.le_of_ble_eq_true rfl) ?_
  refine v_iconst dX3_oneLeaves_2 ?_
  refine v_istore dX3_oneLeaves_3 (Nat.le_of_ble_eq_true rfl) ?_
  refine v_iconst dX3_oneLeaves_5 ?_
  refine v_istore dX3_oneLeaves_6 (Nat.le_of_ble_eq_true rfl) ?_
  exact v_to (loop (sNb σ).toNat 0 Sn u d (by omega)) rfl (sw_h1 rfl (sw_h1 rfl (sw_h1 rfl (sw_h1 rfl (sw_h1 rfl (sw_h1 rfl sw_h0))))))
theorem K3_rise {b : Nat} (hb : 50 ≤ b) {σ : SaleT} {u d lf wn pr : Int} {Lv La Gn Sn Ld : Int → Int} (hM : sw_hold M (cUs G lf wn pr Lv La Gn Sn)) (h5 : sw_hold M (cS G b σ u d)) (hL : M 5 = some (sw_ia 4 Ld)) (hw : wfS σ) (hLd : ∀ i, 0 ≤ i → i < 4 → 0 ≤ Ld i ∧ Ld i ≤ 4) :
    Kt l G μX3_rise [.ref (sw_al G 25), .ref (sw_al G b), .ref (sw_al G 5)] M (fun r M' => ∃ Sn' u' d', r = none ∧ M' = sw_ov M (cUs G (olN σ Ld (0, sLe σ, fl Gn 0 4, Lv, La) (sNb σ - 1).toNat).1 (wnR (olN σ Ld (0, sLe σ, fl Gn 0 4, Lv, La) (sNb σ - 1).toNat).2.2.1 (sNb σ).toNat) (olN σ Ld (0, sLe σ, fl Gn 0 4, Lv, La) (sNb σ - 1).toNat).2.1 (olN σ Ld (0, sLe σ, fl Gn 0 4, Lv, La) (sNb σ - 1).toNat).2.2.2.1 (olN σ Ld (0, sLe σ, fl Gn 0 4, Lv, La) (sNb σ - 1).toNat).2.2.2.2 (olN σ Ld (0, sLe σ, fl Gn 0 4, Lv, La) (sNb σ - 1).toNat).2.2.1 Sn' ++ [cO G b σ u' d'])) := by
  refine KtA.of (by decide +kernel) (Nat.le_of_ble_eq_true rfl) ?_
  have hn : sw_nd [25, 26, 27, 28, 29, b] := sw_nd_of (by simp; omega)
  refine v_mem (sw_ov_self (cs := cUs G lf wn pr Lv La Gn Sn ++ [cO G b σ u d]) (sw_hold.app hM (sw_hold1 h5.hd sw_hold0))).symm ?_
  have hnb := hw.2.2.1
  have hle := hw.2.2.2.1
  have ok0 : riOK (0, sLe σ, fl Gn 0 4, Lv, La) := ⟨by dsimp only; omega, by dsimp only; omega, fun i => by
    dsimp only
    rw [fl_at]
    by_cases c : 0 ≤ i ∧ i < (4 : Nat)
    · rw [if_pos c]; exact Or.inl rfl
    · omega⟩
  have okN : ∀ n, riOK (olN σ Ld (0, sLe σ, fl Gn 0 4, Lv, La) n) := by
    intro n
    induction n with
    | zero => exact ok0
    | succ n ih => exact ol_ok hw Ld ih
  obtain ⟨ρ, hρ⟩ : ∃ ρ : Nat → riT, ρ = olN σ Ld (0, sLe σ, fl Gn 0 4, Lv, La) := ⟨_, rfl⟩
  have hρ0 : ρ 0 = (0, sLe σ, fl Gn 0 4, Lv, La) := by rw [hρ]; rfl
  have hρs : ∀ n, ρ (n + 1) = ol σ Ld (ρ n) := by intro n; rw [hρ]; rfl
  rw [← hρ] at okN ⊢
  have oU : ∀ (q : riT) (wn : Int) (Sn' : Int → Int) (u' d' : Int), sw_hold (sw_ov M (cUs G q.1 wn q.2.1 q.2.2.2.1 q.2.2.2.2 q.2.2.1 Sn' ++ [cO G b σ u' d'])) (cUs G q.1 wn q.2.1 q.2.2.2.1 q.2.2.2.2 q.2.2.1 Sn') := fun q wn Sn' u' d' => sw_pick (cs := cUs G q.1 wn q.2.1 q.2.2.2.1 q.2.2.2.2 q.2.2.1 Sn' ++ [cO G b σ u' d']) hn [0, 1, 2, 3, 4] rfl
  have oA : ∀ (q : riT) (wn : Int) (Sn' : Int → Int) (u' d' : Int), sw_hold (sw_ov M (cUs G q.1 wn q.2.1 q.2.2.2.1 q.2.2.2.2 q.2.2.1 Sn' ++ [cO G b σ u' d'])) (cS G b σ u' d') := fun q wn Sn' u' d' => sw_hold1 (sw_ov_at (cs := cUs G q.1 wn q.2.1 q.2.2.2.1 q.2.2.2.2 q.2.2.1 Sn' ++ [cO G b σ u' d']) (q := 5) (t := b) hn rfl) (h5.tl.out (by simp; omega))
  have oL : ∀ (q : riT) (wn : Int) (Sn' : Int → Int) (u' d' : Int), (sw_ov M (cUs G q.1 wn q.2.1 q.2.2.2.1 q.2.2.2.2 q.2.2.1 Sn' ++ [cO G b σ u' d'])) 5 = some (sw_ia 4 Ld) := fun q wn Sn' u' d' => by rw [sw_ov_out (by simp; omega)]; exact hL
  -- who is left
  have last : ∀ (Sn' : Int → Int) (u' d' : Int) (n k : Nat), k + n = (sNb σ).toNat → V l G μX3_rise sw_E0 (sw_Zq G μX3_rise (sw_q0 G (fun r M' => ∃ Sn' u' d', r = none ∧ M' = sw_ov M (cUs G (ρ (sNb σ - 1).toNat).1 (wnR (ρ (sNb σ - 1).toNat).2.2.1 (sNb σ).toNat) (ρ (sNb σ - 1).toNat).2.1 (ρ (sNb σ - 1).toNat).2.2.2.1 (ρ (sNb σ - 1).toNat).2.2.2.2 (ρ (sNb σ - 1).toNat).2.2.1 Sn' ++ [cO G b σ u' d'])))) 62 [(0, .ref (sw_al G 25)), (1, .ref (sw_al G b)), (3, sw_i (k : Int))] [] (sw_ov M (cUs G (ρ (sNb σ - 1).toNat).1 (wnR (ρ (sNb σ - 1).toNat).2.2.1 k) (ρ (sNb σ - 1).toNat).2.1 (ρ (sNb σ - 1).toNat).2.2.2.1 (ρ (sNb σ - 1).toNat).2.2.2.2 (ρ (sNb σ - 1).toNat).2.2.1 Sn' ++ [cO G b σ u' d'])) 0 0 := by
    intro Sn' u' d' n
    have hok := (okN (sNb σ - 1).toNat).2.2
    generalize ρ (sNb σ - 1).toNat = q at hok ⊢
    induction n with
    | zero =>
      intro k hk
      have e : k = (sNb σ).toNat := by omega
      subst e
      refine v_iload_n dX3_rise_62 rfl ?_
      refine v_aload_n dX3_rise_63 rfl ?_
      refine v_getf 5 6 fl_X3_40 hn rfl rfl dX3_rise_64 ?_
      refine v_icmp_ge (tgt := 90) dX3_rise_67 (by decide) ⟨by omega, by omega⟩ ⟨by omega, by omega⟩ (fun h67 => ?_) (fun h67 => ?_)
      · skip
        exact v_vret dX3_rise_90 rfl (Nat.le_refl _) (Nat.le_refl _) (⟨Sn', u', d', rfl, rfl⟩)
      · skip
        exfalso; omega
    | succ n ih =>
      intro k hk
      have hg := hok k
      have e1 : wnR q.2.2.1 (k + 1) = if q.2.2.1 k = 0 then (k : Int) else wnR q.2.2.1 k := rfl
      refine v_iload_n dX3_rise_62 rfl ?_
      refine v_aload_n dX3_rise_63 rfl ?_
      refine v_getf 5 6 fl_X3_40 hn rfl rfl dX3_rise_64 ?_
      refine v_icmp_ge (tgt := 90) dX3_rise_67 (by decide) ⟨by omega, by omega⟩ ⟨by omega, by omega⟩ (fun h67 => ?_) (fun h67 => ?_)
      · skip
        exfalso; omega
      · skip
        refine v_aload_n dX3_rise_70 rfl ?_
        refine v_getf 0 2 fl_X3_18 hn rfl rfl dX3_rise_71 ?_
        refine v_iload_n dX3_rise_74 rfl ?_
        refine v_zald 3 hn rfl (Nat.le_of_ble_eq_true rfl) (by omega) (by omega) dX3_rise_75 ?_
        refine v_if_ne (tgt := 84) dX3_rise_76 (by decide) ⟨by omega, by omega⟩ (fun h76 => ?_) (fun h76 => ?_)
        · skip
          rw [if_neg (by omega)] at e1
          refine v_iinc dX3_rise_84 rfl (Nat.le_of_ble_eq_true rfl) ?_
          refine v_goto (tgt := 62) dX3_rise_87 (by decide) ?_
          exact v_to (ih (k + 1) (by omega)) (by rw [e1]) (sw_h1 rfl (sw_h1 rfl (sw_h1 rfl sw_h0)))
        · skip
          rw [if_pos (by omega)] at e1
          refine v_aload_n dX3_rise_79 rfl ?_
          refine v_iload_n dX3_rise_80 rfl ?_
          refine v_putf 0 5 fp_X3_29 hn rfl rfl rfl (Nat.le_of_ble_eq_true rfl) dX3_rise_81 ?_
          refine v_iinc dX3_rise_84 rfl (Nat.le_of_ble_eq_true rfl) ?_
          refine v_goto (tgt := 62) dX3_rise_87 (by decide) ?_
          exact v_to (ih (k + 1) (by omega)) (by rw [e1]; rfl) (sw_h1 rfl (sw_h1 rfl (sw_h1 rfl sw_h0)))
  have mid : ∀ (n k : Nat) (Sn' : Int → Int) (u' d' wn : Int), k + n = (sNb σ - 1).toNat → V l G μX3_rise sw_E0 (sw_Zq G μX3_rise (sw_q0 G (fun r M' => ∃ Sn' u' d', r = none ∧ M' = sw_ov M (cUs G (ρ (sNb σ - 1).toNat).1 (wnR (ρ (sNb σ - 1).toNat).2.2.1 (sNb σ).toNat) (ρ (sNb σ - 1).toNat).2.1 (ρ (sNb σ - 1).toNat).2.2.2.1 (ρ (sNb σ - 1).toNat).2.2.2.2 (ρ (sNb σ - 1).toNat).2.2.1 Sn' ++ [cO G b σ u' d'])))) 35 [(0, .ref (sw_al G 25)), (1, .ref (sw_al G b)), (2, .ref (sw_al G 5)), (3, sw_i ((k : Int) + 1))] [] (sw_ov M (cUs G (ρ k).1 wn (ρ k).2.1 (ρ k).2.2.2.1 (ρ k).2.2.2.2 (ρ k).2.2.1 Sn' ++ [cO G b σ u' d'])) 0 0 := by
    intro n
    induction n with
    | zero =>
      intro k Sn' u' d' wn hk
      have e : k = (sNb σ - 1).toNat := by omega
      subst e
      refine v_iload_n dX3_rise_35 rfl ?_
      refine v_aload_n dX3_rise_36 rfl ?_
      refine v_getf 5 6 fl_X3_40 hn rfl rfl dX3_rise_37 ?_
      refine v_icmp_ge (tgt := 55) dX3_rise_40 (by decide) ⟨by omega, by omega⟩ ⟨by omega, by omega⟩ (fun h40 => ?_) (fun h40 => ?_)
      · skip
        refine v_aload_n dX3_rise_55 rfl ?_
        refine v_iconst dX3_rise_56 ?_
        refine v_putf 0 5 fp_X3_29 hn rfl rfl rfl (Nat.le_of_ble_eq_true rfl) dX3_rise_57 ?_
        refine v_iconst dX3_rise_60 ?_
        refine v_istore_n dX3_rise_61 (Nat.le_of_ble_eq_true rfl) ?_
        exact v_to (last Sn' u' d' (sNb σ).toNat 0 (by omega)) rfl (sw_h1 rfl (sw_h1 rfl (sw_h1 rfl sw_h0)))
      · skip
        exfalso; omega
    | succ n ih =>
      intro k Sn' u' d' wn hk
      have hok := okN k
      have e1 := hρs k
      have ih := fun Sn' u' d' => ih (k + 1) Sn' u' d' wn (by omega)
      rw [e1] at ih
      generalize ρ k = q at hok ih ⊢
      refine v_iload_n dX3_rise_35 rfl ?_
      refine v_aload_n dX3_rise_36 rfl ?_
      refine v_getf 5 6 fl_X3_40 hn rfl rfl dX3_rise_37 ?_
      refine v_icmp_ge (tgt := 55) dX3_rise_40 (by decide) ⟨by omega, by omega⟩ ⟨by omega, by omega⟩ (fun h40 => ?_) (fun h40 => ?_)
      · skip
        exfalso; omega
      · skip
        refine v_aload_n dX3_rise_43 rfl ?_
        refine v_aload_n dX3_rise_44 rfl ?_
        refine v_aload_n dX3_rise_45 rfl ?_
        refine v_callV (ci := 3) (K3_oneLeaves hb (oU _ _ _ _ _) (oA _ _ _ _ _) (oL _ _ _ _ _) hw hLd hok) ⟨rfl, rfl⟩ (Nat.le_refl _) (Nat.le_refl _) (sw_ov_at (q := 0) (t := 25) hn rfl) rfl ⟨ml_X3_43, mm_X3_oneLeaves⟩ ⟨(Nat.le_of_ble_eq_true rfl), (Nat.le_of_ble_eq_true rfl)⟩ mp_X3_oneLeaves rfl rfl (Nat.le_of_ble_eq_true rfl) dX3_rise_46 (fun r M' h => ?_)
        obtain ⟨Sn2, u2, d2, rfl, rfl⟩ := h
        refine v_ovp [0, 1, 2, 3, 4, 5] rfl rfl hn ?_
        refine v_iinc dX3_rise_49 rfl (Nat.le_of_ble_eq_true rfl) ?_
        refine v_goto (tgt := 35) dX3_rise_52 (by decide) ?_
        exact v_to (ih Sn2 u2 d2) rfl (sw_h1 rfl (sw_h1 rfl (sw_h1 rfl (sw_h1 rfl sw_h0))))
  have zero : ∀ (n : Nat) (k : Int), 0 ≤ k → k + n = 4 → V l G μX3_rise sw_E0 (sw_Zq G μX3_rise (sw_q0 G (fun r M' => ∃ Sn' u' d', r = none ∧ M' = sw_ov M (cUs G (ρ (sNb σ - 1).toNat).1 (wnR (ρ (sNb σ - 1).toNat).2.2.1 (sNb σ).toNat) (ρ (sNb σ - 1).toNat).2.1 (ρ (sNb σ - 1).toNat).2.2.2.1 (ρ (sNb σ - 1).toNat).2.2.2.2 (ρ (sNb σ - 1).toNat).2.2.1 Sn' ++ [cO G b σ u' d'])))) 15 [(0, .ref (sw_al G 25)), (1, .ref (sw_al G b)), (2, .ref (sw_al G 5)), (3, sw_i k)] [] (sw_ov M (cUs G 0 wn (sLe σ) Lv La (fl Gn 0 k.toNat) Sn ++ [cO G b σ u d])) 0 0 := by
    intro n
    induction n with
    | zero =>
      intro k h0 hk
      have e : k = 4 := by omega
      subst e
      refine v_iload_n dX3_rise_15 rfl ?_
      refine v_iconst dX3_rise_16 ?_
      refine v_icmp_ge (tgt := 33) dX3_rise_17 (by decide) ⟨by omega, by omega⟩ ⟨by omega, by omega⟩ (fun h17 => ?_) (fun h17 => ?_)
      · skip
        refine v_iconst dX3_rise_33 ?_
        refine v_istore_n dX3_rise_34 (Nat.le_of_ble_eq_true rfl) ?_
        exact v_to (mid (sNb σ - 1).toNat 0 Sn u d wn (by omega)) (by rw [hρ0]; rfl) (sw_h1 rfl (sw_h1 rfl (sw_h1 rfl (sw_h1 rfl sw_h0))))
      · skip
        exfalso; omega
    | succ n ih =>
      intro k h0 hk
      have e1 := fl_s Gn 0 h0
      refine v_iload_n dX3_rise_15 rfl ?_
      refine v_iconst dX3_rise_16 ?_
      refine v_icmp_ge (tgt := 33) dX3_rise_17 (by decide) ⟨by omega, by omega⟩ ⟨by omega, by omega⟩ (fun h17 => ?_) (fun h17 => ?_)
      · skip
        exfalso; omega
      · skip
        refine v_aload_n dX3_rise_20 rfl ?_
        refine v_getf 0 2 fl_X3_18 hn rfl rfl dX3_rise_21 ?_
        refine v_iload_n dX3_rise_24 rfl ?_
        refine v_iconst dX3_rise_25 ?_
        refine v_zast 3 (by decide +kernel) hn rfl (Nat.le_of_ble_eq_true rfl) (by omega) (by omega) dX3_rise_26 ?_
        refine v_iinc dX3_rise_27 rfl (Nat.le_of_ble_eq_true rfl) ?_
        refine v_goto (tgt := 15) dX3_rise_30 (by decide) ?_
        exact v_to (ih (k + 1) (by omega) (by omega)) (by rw [e1]; rfl) (sw_h1 rfl (sw_h1 rfl (sw_h1 rfl (sw_h1 rfl sw_h0))))
  refine v_aload_n dX3_rise_0 rfl ?_
  refine v_iconst dX3_rise_1 ?_
  refine v_putf 0 4 fp_X3_25 hn rfl rfl rfl (Nat.le_of_ble_eq_true rfl) dX3_rise_2 ?_
  refine v_aload_n dX3_rise_5 rfl ?_
  refine v_aload_n dX3_rise_6 rfl ?_
  refine v_getf 5 7 fl_X3_35 hn rfl rfl dX3_rise_7 ?_
  refine v_putf 0 6 fp_X3_32 hn rfl rfl rfl (Nat.le_of_ble_eq_true rfl) dX3_rise_10 ?_
  refine v_iconst dX3_rise_13 ?_
  refine v_istore_n dX3_rise_14 (Nat.le_of_ble_eq_true rfl) ?_
  exact v_to (zero 4 0 (by omega) (by omega)) rfl (sw_h1 rfl (sw_h1 rfl (sw_h1 rfl (sw_h1 rfl sw_h0))))
end

