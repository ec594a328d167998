/-! the latest LEARN: a round -/
def mvA (Rw Sg : Int → Int) : Nat → (Int → Int)
  | 0 => Rw
  | k + 1 => mvR (mvA Rw Sg k) Sg k 1
def mvO (Rw Sg : Int → Int) (w : Int) : Nat → (Int → Int)
  | 0 => Rw
  | k + 1 => if (k : Int) = w then mvO Rw Sg w k else mvR (mvO Rw Sg w k) Sg k 1
theorem mvA_ok {σ : SaleT} {Rw Sg : Int → Int} {m : Nat} (h : lOK σ Rw Sg m) : ∀ k, lOK σ (mvA Rw Sg k) Sg m
  | 0 => h
  | k + 1 => mvR_ok (mvA_ok h k) _ _
theorem mvO_ok {σ : SaleT} {Rw Sg : Int → Int} {m : Nat} (h : lOK σ Rw Sg m) (w : Int) : ∀ k, lOK σ (mvO Rw Sg w k) Sg m
  | 0 => h
  | k + 1 => by
    unfold mvO
    split
    · exact mvO_ok h w k
    · exact mvR_ok (mvO_ok h w k) _ _
def prL (σ : SaleT) (Rw Sg : Int → Int) (m : Nat) (w : Int) : Int := if sWy σ = 1 then (if hg Rw Sg (sLe σ) w m = -1 then sLe σ else hg Rw Sg (sLe σ) w m) else bdN Rw Sg w
def pyL (σ : SaleT) (Rw Sg : Int → Int) (w pr i : Int) : Int := if i = w then pr else if sWy σ = 2 ∧ sLe σ ≤ bdN Rw Sg i then bdN Rw Sg i else 0
def gdL (σ : SaleT) (Rw Sg Gd : Int → Int) (v w pr : Int) : Nat → (Int → Int)
  | 0 => up Gd w (Gd w + v)
  | k + 1 => up (gdL σ Rw Sg Gd v w pr k) k (gdL σ Rw Sg Gd v w pr k k - pyL σ Rw Sg w pr k)
def tkL (σ : SaleT) (Rw Sg : Int → Int) (w pr tk : Int) : Nat → Int
  | 0 => tk
  | k + 1 => tkL σ Rw Sg w pr tk k + pyL σ Rw Sg w pr k
def rwL (Rw Sg : Int → Int) (m : Nat) (v w pr : Int) : Int → Int := if v < pr then mvR Rw Sg w (-1) else if pr < v then mvO Rw Sg w m else Rw
theorem sumW_bd {σ : SaleT} (hw : wfS σ) : 1 ≤ sm (sW σ) (sTr σ).toNat ∧ sm (sW σ) (sTr σ).toNat ≤ 72 := by
  have h := sm_bd (f := sW σ) (A := 1) (B := 9) (sTr σ).toNat (fun i h0 h1 => (hw.2.2.2.2.2.1 i h0 (by omega)).2)
  have := hw.2.1
  omega
section
variable {l : Launch} {G : sw_G} {M : sw_M}
theorem K2_drawTruth {b : Nat} (hb : 50 ≤ b) {σ : SaleT} {u d x m tk so : Int} (h1 : M 30 = some (cL G b x m tk so).2) (h5 : sw_hold M (cS G b σ u d)) (hw : wfS σ) : Kt l G μX2_drawTruth [.ref (sw_al G 30)] M (fun r M' => r = some (sw_i (fd (sW σ) (sTr σ - 1).toNat 0 (drw (nxX x) (sm (sW σ) (sTr σ).toNat)))) ∧ M' = sw_ov M [cL G b (nxX x) m tk so]) := by
  refine KtA.of (by decide +kernel) (Nat.le_of_ble_eq_true rfl) ?_
  refine v_mem (sw_ov_self (cs := cL G b x m tk so :: cS G b σ u d) (sw_hold1 h1 h5)).symm ?_
  have hn : sw_nd [30, b, b + 1, b + 2, b + 3, b + 4] := sw_nd_of (by simp; omega)
  have hback : ∀ x, sw_ov M (cL G b x m tk so :: cS G b σ u d) = sw_ov M [cL G b x m tk so] := fun x => sw_ov_dr h5 [cL G b x m tk so]
  have hsw := sumW_bd hw
  have htr := hw.2.1
  obtain ⟨dv, hdv⟩ : ∃ dv, drw (nxX x) (sm (sW σ) (sTr σ).toNat) = dv := ⟨_, rfl⟩
  have hd := drw_bd (nxX x) (k := sm (sW σ) (sTr σ).toNat) (by omega)
  rw [hdv] at hd ⊢
  have loop : ∀ (n : Nat) (t left : Int), 0 ≤ t → t + n = sTr σ - 1 → 0 ≤ left ∧ left ≤ 72 → fd (sW σ) n t left = fd (sW σ) (sTr σ - 1).toNat 0 dv → V l G μX2_drawTruth sw_E0 (sw_Zq G μX2_drawTruth (sw_q0 G (fun r M' => r = some (sw_i (fd (sW σ) (sTr σ - 1).toNat 0 dv)) ∧ M' = sw_ov M [cL G b (nxX x) m tk so]))) 14 [(0, .ref (sw_al G 30)), (1, sw_i left), (2, sw_i t)] [] (sw_ov M (cL G b (nxX x) m tk so :: cS G b σ u d)) 0 0 := by
    intro n
    induction n with
    | zero =>
      intro t left h0 ht hl he
      have he : t = fd (sW σ) (sTr σ - 1).toNat 0 dv := he
      refine v_iload_n dX2_drawTruth_14 rfl ?_
      refine v_aload_n dX2_drawTruth_15 rfl ?_
      refine v_getf 0 3 fl_X2_24 hn rfl rfl dX2_drawTruth_16 ?_
      refine v_getf 1 5 fl_X2_78 hn rfl rfl dX2_drawTruth_19 ?_
      refine v_iconst dX2_drawTruth_22 ?_
      refine v_isub dX2_drawTruth_23 ?_
      refine v_icmp_ge (tgt := 51) dX2_drawTruth_24 (by decide) ⟨by omega, by omega⟩ ⟨by omega, by omega⟩ (fun h24 => ?_) (fun h24 => ?_)
      · skip
        refine v_aload_n dX2_drawTruth_51 rfl ?_
        refine v_getf 0 3 fl_X2_24 hn rfl rfl dX2_drawTruth_52 ?_
        refine v_getf 1 5 fl_X2_78 hn rfl rfl dX2_drawTruth_55 ?_
        refine v_if_le (tgt := 73) dX2_drawTruth_58 (by decide) ⟨by omega, by omega⟩ (fun h58 => ?_) (fun h58 => ?_)
        · skip
          exfalso; omega
        · skip
          refine v_aload_n dX2_drawTruth_61 rfl ?_
          refine v_getf 0 3 fl_X2_24 hn rfl rfl dX2_drawTruth_62 ?_
          refine v_getf 1 5 fl_X2_78 hn rfl rfl dX2_drawTruth_65 ?_
          refine v_iconst dX2_drawTruth_68 ?_
          refine v_isub dX2_drawTruth_69 ?_
          refine v_goto (tgt := 74) dX2_drawTruth_70 (by decide) ?_
          exact v_iret dX2_drawTruth_74 rfl (Nat.le_refl _) (Nat.le_refl _) (⟨by rw [← he, show t = sTr σ - 1 by omega], hback _⟩)
      · skip
        exfalso; omega
    | succ n ih =>
      intro t left h0 ht hl he
      have q := hw.2.2.2.2.2.1 t h0 (by omega)
      have e1 : fd (sW σ) (n + 1) t left = if left - sW σ t < 0 then t else fd (sW σ) n (t + 1) (left - sW σ t) := rfl
      refine v_iload_n dX2_drawTruth_14 rfl ?_
      refine v_aload_n dX2_drawTruth_15 rfl ?_
      refine v_getf 0 3 fl_X2_24 hn rfl rfl dX2_drawTruth_16 ?_
      refine v_getf 1 5 fl_X2_78 hn rfl rfl dX2_drawTruth_19 ?_
      refine v_iconst dX2_drawTruth_22 ?_
      refine v_isub dX2_drawTruth_23 ?_
      refine v_icmp_ge (tgt := 51) dX2_drawTruth_24 (by decide) ⟨by omega, by omega⟩ ⟨by omega, by omega⟩ (fun h24 => ?_) (fun h24 => ?_)
      · skip
        exfalso; omega
      · skip
        refine v_iload_n dX2_drawTruth_27 rfl ?_
        refine v_aload_n dX2_drawTruth_28 rfl ?_
        refine v_getf 0 3 fl_X2_24 hn rfl rfl dX2_drawTruth_29 ?_
        refine v_getf 1 1 fl_X2_81 hn rfl rfl dX2_drawTruth_32 ?_
        refine v_iload_n dX2_drawTruth_35 rfl ?_
        refine v_iald 3 hn rfl (Nat.le_of_ble_eq_true rfl) (by omega) (by omega) dX2_drawTruth_36 ?_
        refine v_isub dX2_drawTruth_37 ?_
        refine v_istore_n dX2_drawTruth_38 (Nat.le_of_ble_eq_true rfl) ?_
        refine v_iload_n dX2_drawTruth_39 rfl ?_
        refine v_if_ge (tgt := 45) dX2_drawTruth_40 (by decide) ⟨by omega, by omega⟩ (fun h40 => ?_) (fun h40 => ?_)
        · skip
          rw [e1, if_neg (by omega)] at he
          refine v_iinc dX2_drawTruth_45 rfl (Nat.le_of_ble_eq_true rfl) ?_
          refine v_goto (tgt := 14) dX2_drawTruth_48 (by decide) ?_
          exact v_to (ih (t + 1) _ (by omega) (by omega) (by omega) he) rfl (sw_h1 rfl (sw_h1 rfl (sw_h1 rfl sw_h0)))
        · skip
          rw [e1, if_pos (by omega)] at he
          refine v_iload_n dX2_drawTruth_43 rfl ?_
          exact v_iret dX2_drawTruth_44 rfl (Nat.le_refl _) (Nat.le_refl _) (⟨by rw [← he], hback _⟩)
  refine v_aload_n dX2_drawTruth_0 rfl ?_
  refine v_aload_n dX2_drawTruth_1 rfl ?_
  refine v_getf 0 3 fl_X2_24 hn rfl rfl dX2_drawTruth_2 ?_
  refine v_callV (ci := 5) (K5_allWeights (u := u) (d := d) (σ := σ) (sw_hold_all (cs := cL G b x m tk so :: cS G b σ u d) hn).tl hw) ⟨rfl, rfl⟩ (Nat.le_refl _) (Nat.le_refl _) ((sw_hold_all (cs := cL G b x m tk so :: cS G b σ u d) hn).tl.hd) rfl ⟨ml_X2_72, mm_X5_allWeights⟩ ⟨(Nat.le_of_ble_eq_true rfl), (Nat.le_of_ble_eq_true rfl)⟩ mp_X5_allWeights rfl rfl (Nat.le_of_ble_eq_true rfl) dX2_drawTruth_5 (fun r M' h => ?_)
  obtain ⟨rfl, rfl⟩ := h
  refine v_callV (ci := 2) (K2_draw (b := b) (x := x) (m := m) (tk := tk) (so := so) (k := sm (sW σ) (sTr σ).toNat) (sw_hold_all (cs := cL G b x m tk so :: cS G b σ u d) hn).hd ⟨by omega, by omega⟩) ⟨rfl, rfl⟩ (Nat.le_refl _) (Nat.le_refl _) ((sw_hold_all (cs := cL G b x m tk so :: cS G b σ u d) hn).hd) rfl ⟨ml_X2_75, mm_X2_draw⟩ ⟨(Nat.le_of_ble_eq_true rfl), (Nat.le_of_ble_eq_true rfl)⟩ mp_X2_draw rfl rfl (Nat.le_of_ble_eq_true rfl) dX2_drawTruth_8 (fun r M' h => ?_)
  obtain ⟨rfl, rfl⟩ := h
  refine v_ovp [0] rfl rfl hn ?_
  rw [hdv]
  refine v_istore_n dX2_drawTruth_11 (Nat.le_of_ble_eq_true rfl) ?_
  refine v_iconst dX2_drawTruth_12 ?_
  refine v_istore_n dX2_drawTruth_13 (Nat.le_of_ble_eq_true rfl) ?_
  exact v_to (loop (sTr σ - 1).toNat 0 dv (by omega) (by omega) (by omega) rfl) rfl (sw_h1 rfl (sw_h1 rfl (sw_h1 rfl sw_h0)))
theorem K2_drawSign {b : Nat} (hb : 50 ≤ b) {σ : SaleT} {u d x m tk so : Int} (h1 : M 30 = some (cL G b x m tk so).2) (h5 : sw_hold M (cS G b σ u d)) (hw : wfS σ) {tr : Int} (htr : 0 ≤ tr ∧ tr < sTr σ) : Kt l G μX2_drawSign [.ref (sw_al G 30), sw_i tr] M (fun r M' => r = some (sw_i (fd (see σ tr) (sSg σ - 1).toNat 0 (drw (nxX x) 10))) ∧ M' = sw_ov M [cL G b (nxX x) m tk so]) := by
  refine KtA.of (by decide +kernel) (Nat.le_of_ble_eq_true rfl) ?_
  refine v_mem (sw_ov_self (cs := cL G b x m tk so :: cS G b σ u d) (sw_hold1 h1 h5)).symm ?_
  have hn : sw_nd [30, b, b + 1, b + 2, b + 3, b + 4] := sw_nd_of (by simp; omega)
  have hback : ∀ x, sw_ov M (cL G b x m tk so :: cS G b σ u d) = sw_ov M [cL G b x m tk so] := fun x => sw_ov_dr h5 [cL G b x m tk so]
  have hsg := hw.1
  have htr8 := hw.2.1
  obtain ⟨dv, hdv⟩ : ∃ dv, drw (nxX x) 10 = dv := ⟨_, rfl⟩
  have hd := drw_bd (nxX x) (k := 10) (by omega)
  rw [hdv] at hd ⊢
  have loop : ∀ (n : Nat) (t left : Int), 0 ≤ t → t + n = sSg σ - 1 → 0 ≤ left ∧ left ≤ 72 → fd (see σ tr) n t left = fd (see σ tr) (sSg σ - 1).toNat 0 dv → V l G μX2_drawSign sw_E0 (sw_Zq G μX2_drawSign (sw_q0 G (fun r M' => r = some (sw_i (fd (see σ tr) (sSg σ - 1).toNat 0 dv)) ∧ M' = sw_ov M [cL G b (nxX x) m tk so]))) 9 [(0, .ref (sw_al G 30)), (1, sw_i tr), (2, sw_i left), (3, sw_i t)] [] (sw_ov M (cL G b (nxX x) m tk so :: cS G b σ u d)) 0 0 := by
    intro n
    induction n with
    | zero =>
      intro t left h0 ht hl he
      have he : t = fd (see σ tr) (sSg σ - 1).toNat 0 dv := he
      refine v_iload_n dX2_drawSign_9 rfl ?_
      refine v_aload_n dX2_drawSign_10 rfl ?_
      refine v_getf 0 3 fl_X2_24 hn rfl rfl dX2_drawSign_11 ?_
      refine v_getf 1 4 fl_X2_84 hn rfl rfl dX2_drawSign_14 ?_
      refine v_iconst dX2_drawSign_17 ?_
      refine v_isub dX2_drawSign_18 ?_
      refine v_icmp_ge (tgt := 46) dX2_drawSign_19 (by decide) ⟨by omega, by omega⟩ ⟨by omega, by omega⟩ (fun h19 => ?_) (fun h19 => ?_)
      · skip
        refine v_aload_n dX2_drawSign_46 rfl ?_
        refine v_getf 0 3 fl_X2_24 hn rfl rfl dX2_drawSign_47 ?_
        refine v_getf 1 4 fl_X2_84 hn rfl rfl dX2_drawSign_50 ?_
        refine v_if_le (tgt := 68) dX2_drawSign_53 (by decide) ⟨by omega, by omega⟩ (fun h53 => ?_) (fun h53 => ?_)
        · skip
          exfalso; omega
        · skip
          refine v_aload_n dX2_drawSign_56 rfl ?_
          refine v_getf 0 3 fl_X2_24 hn rfl rfl dX2_drawSign_57 ?_
          refine v_getf 1 4 fl_X2_84 hn rfl rfl dX2_drawSign_60 ?_
          refine v_iconst dX2_drawSign_63 ?_
          refine v_isub dX2_drawSign_64 ?_
          refine v_goto (tgt := 69) dX2_drawSign_65 (by decide) ?_
          exact v_iret dX2_drawSign_69 rfl (Nat.le_refl _) (Nat.le_refl _) (⟨by rw [← he, show t = sSg σ - 1 by omega], hback _⟩)
      · skip
        exfalso; omega
    | succ n ih =>
      intro t left h0 ht hl he
      have q := see_bd hw htr.1 htr.2 t
      have e1 : fd (see σ tr) (n + 1) t left = if left - see σ tr t < 0 then t else fd (see σ tr) n (t + 1) (left - see σ tr t) := rfl
      refine v_iload_n dX2_drawSign_9 rfl ?_
      refine v_aload_n dX2_drawSign_10 rfl ?_
      refine v_getf 0 3 fl_X2_24 hn rfl rfl dX2_drawSign_11 ?_
      refine v_getf 1 4 fl_X2_84 hn rfl rfl dX2_drawSign_14 ?_
      refine v_iconst dX2_drawSign_17 ?_
      refine v_isub dX2_drawSign_18 ?_
      refine v_icmp_ge (tgt := 46) dX2_drawSign_19 (by decide) ⟨by omega, by omega⟩ ⟨by omega, by omega⟩ (fun h19 => ?_) (fun h19 => ?_)
      · skip
        exfalso; omega
      · skip
        refine v_iload_n dX2_drawSign_22 rfl ?_
        refine v_aload_n dX2_drawSign_23 rfl ?_
        refine v_getf 0 3 fl_X2_24 hn rfl rfl dX2_drawSign_24 ?_
        refine v_iload_n dX2_drawSign_27 rfl ?_
        refine v_iload_n dX2_drawSign_28 rfl ?_
        refine v_callV (ci := 5) (K5_seeing (u := u) (d := d) (σ := σ) (sw_hold_all (cs := cL G b (nxX x) m tk so :: cS G b σ u d) hn).tl (t := tr) (k := t) ⟨by omega, by omega⟩ ⟨by omega, by omega⟩ ⟨by omega, by omega⟩) ⟨rfl, rfl⟩ (Nat.le_refl _) (Nat.le_refl _) ((sw_hold_all (cs := cL G b (nxX x) m tk so :: cS G b σ u d) hn).tl.hd) rfl ⟨ml_X2_87, mm_X5_seeing⟩ ⟨(Nat.le_of_ble_eq_true rfl), (Nat.le_of_ble_eq_true rfl)⟩ mp_X5_seeing rfl rfl (Nat.le_of_ble_eq_true rfl) dX2_drawSign_29 (fun r M' h => ?_)
        obtain ⟨rfl, rfl⟩ := h
        refine v_isub dX2_drawSign_32 ?_
        refine v_istore_n dX2_drawSign_33 (Nat.le_of_ble_eq_true rfl) ?_
        refine v_iload_n dX2_drawSign_34 rfl ?_
        refine v_if_ge (tgt := 40) dX2_drawSign_35 (by decide) ⟨by omega, by omega⟩ (fun h35 => ?_) (fun h35 => ?_)
        · skip
          rw [e1, if_neg (by omega)] at he
          refine v_iinc dX2_drawSign_40 rfl (Nat.le_of_ble_eq_true rfl) ?_
          refine v_goto (tgt := 9) dX2_drawSign_43 (by decide) ?_
          exact v_to (ih (t + 1) _ (by omega) (by omega) (by omega) he) rfl (sw_h1 rfl (sw_h1 rfl (sw_h1 rfl (sw_h1 rfl sw_h0))))
        · skip
          rw [e1, if_pos (by omega)] at he
          refine v_iload_n dX2_drawSign_38 rfl ?_
          exact v_iret dX2_drawSign_39 rfl (Nat.le_refl _) (Nat.le_refl _) (⟨by rw [← he], hback _⟩)
  refine v_aload_n dX2_drawSign_0 rfl ?_
  refine v_bipush dX2_drawSign_1 (by decide +kernel) ?_
  refine v_callV (ci := 2) (K2_draw (b := b) (x := x) (m := m) (tk := tk) (so := so) (k := 10) (sw_hold_all (cs := cL G b x m tk so :: cS G b σ u d) hn).hd ⟨by omega, by omega⟩) ⟨rfl, rfl⟩ (Nat.le_refl _) (Nat.le_refl _) ((sw_hold_all (cs := cL G b x m tk so :: cS G b σ u d) hn).hd) rfl ⟨ml_X2_75, mm_X2_draw⟩ ⟨(Nat.le_of_ble_eq_true rfl), (Nat.le_of_ble_eq_true rfl)⟩ mp_X2_draw rfl rfl (Nat.le_of_ble_eq_true rfl) dX2_drawSign_3 (fun r M' h => ?_)
  obtain ⟨rfl, rfl⟩ := h
  refine v_ovp [0] rfl rfl hn ?_
  rw [hdv]
  refine v_istore_n dX2_drawSign_6 (Nat.le_of_ble_eq_true rfl) ?_
  refine v_iconst dX2_drawSign_7 ?_
  refine v_istore_n dX2_drawSign_8 (Nat.le_of_ble_eq_true rfl) ?_
  exact v_to (loop (sSg σ - 1).toNat 0 dv (by omega) (by omega) (by omega) rfl) rfl (sw_h1 rfl (sw_h1 rfl (sw_h1 rfl (sw_h1 rfl sw_h0))))
theorem K2_drawWinner {b : Nat} {σ : SaleT} {m : Nat} {x tk so hi : Int} {Rw Gd Sg : Int → Int} (hM : sw_hold M (cLs G b x m tk so Rw Gd Sg)) (hm : m ≤ 4) (ho : lOK σ Rw Sg m) (hhi : 0 ≤ hi ∧ hi ≤ 60) (hal : 0 < ctH Rw Sg hi m) : Kt l G μX2_drawWinner [.ref (sw_al G 30), sw_i hi] M (fun r M' => r = some (sw_i (pkW Rw Sg hi m 0 (drw (nxX x) (ctH Rw Sg hi m)))) ∧ M' = sw_ov M [cL G b (nxX x) m tk so]) := by
  refine KtA.of (by decide +kernel) (Nat.le_of_ble_eq_true rfl) ?_
  refine v_mem (sw_ov_self hM).symm ?_
  have hn := cLs_nd
  have hback : ∀ x, sw_ov M (cLs G b x m tk so Rw Gd Sg) = sw_ov M [cL G b x m tk so] := fun x => sw_ov_dr hM.tl [cL G b x m tk so]
  have hcb := ctH_bd Rw Sg hi m
  obtain ⟨dv, hdv⟩ : ∃ dv, drw (nxX x) (ctH Rw Sg hi m) = dv := ⟨_, rfl⟩
  have hd := drw_bd (nxX x) (k := ctH Rw Sg hi m) hal
  rw [hdv] at hd ⊢
  have loop2 : ∀ (n k : Nat) (left : Int), k + n = m → -10 ≤ left - n ∧ left ≤ 10 → pkW Rw Sg hi n k left = pkW Rw Sg hi m 0 dv → V l G μX2_drawWinner sw_E0 (sw_Zq G μX2_drawWinner (sw_q0 G (fun r M' => r = some (sw_i (pkW Rw Sg hi m 0 dv)) ∧ M' = sw_ov M [cL G b (nxX x) m tk so]))) 39 [(0, .ref (sw_al G 30)), (1, sw_i hi), (3, sw_i left), (4, sw_i (k : Int))] [] (sw_ov M (cLs G b (nxX x) m tk so Rw Gd Sg)) 0 0 := by
    intro n
    induction n with
    | zero =>
      intro k left hk hl he
      have he : 0 = pkW Rw Sg hi m 0 dv := he
      refine v_iload dX2_drawWinner_39 rfl ?_
      refine v_aload_n dX2_drawWinner_41 rfl ?_
      refine v_getf 0 5 fl_X2_32 hn rfl rfl dX2_drawWinner_42 ?_
      refine v_icmp_ge (tgt := 74) dX2_drawWinner_45 (by decide) ⟨by omega, by omega⟩ ⟨by omega, by omega⟩ (fun h45 => ?_) (fun h45 => ?_)
      · skip
        refine v_iconst dX2_drawWinner_74 ?_
        exact v_iret dX2_drawWinner_75 rfl (Nat.le_refl _) (Nat.le_refl _) (⟨by rw [← he], hback _⟩)
      · skip
        exfalso; omega
    | succ n ih =>
      intro k left hk hl he
      have hq := ho.b hm (i := (k : Int)) (by omega) (by omega)
      have e1 : pkW Rw Sg hi (n + 1) k left = if bdN Rw Sg k = hi then (if left = 0 then (k : Int) else pkW Rw Sg hi n ((k : Int) + 1) (left - 1)) else pkW Rw Sg hi n ((k : Int) + 1) left := rfl
      rw [e1] at he
      refine v_iload dX2_drawWinner_39 rfl ?_
      refine v_aload_n dX2_drawWinner_41 rfl ?_
      refine v_getf 0 5 fl_X2_32 hn rfl rfl dX2_drawWinner_42 ?_
      refine v_icmp_ge (tgt := 74) dX2_drawWinner_45 (by decide) ⟨by omega, by omega⟩ ⟨by omega, by omega⟩ (fun h45 => ?_) (fun h45 => ?_)
      · skip
        exfalso; omega
      · skip
        refine v_aload_n dX2_drawWinner_48 rfl ?_
        refine v_iload dX2_drawWinner_49 rfl ?_
        refine v_callV (ci := 2) (K2_bidNow (b := b) (x := nxX x) (m := m) (tk := tk) (so := so) (Rw := Rw) (Gd := Gd) (Sg := Sg) (sw_hold_all (cs := cLs G b (nxX x) m tk so Rw Gd Sg) hn) (i := (k : Int)) ⟨by omega, by omega⟩ hq.1) ⟨rfl, rfl⟩ (Nat.le_refl _) (Nat.le_refl _) ((sw_hold_all (cs := cLs G b (nxX x) m tk so Rw Gd Sg) hn).hd) rfl ⟨ml_X2_91, mm_X2_bidNow⟩ ⟨(Nat.le_of_ble_eq_true rfl), (Nat.le_of_ble_eq_true rfl)⟩ mp_X2_bidNow rfl rfl (Nat.le_of_ble_eq_true rfl) dX2_drawWinner_51 (fun r M' h => ?_)
        obtain ⟨rfl, rfl⟩ := h
        refine v_iload_n dX2_drawWinner_54 rfl ?_
        refine v_icmp_ne (tgt := 68) dX2_drawWinner_55 (by decide) ⟨by omega, by omega⟩ ⟨by omega, by omega⟩ (fun h55 => ?_) (fun h55 => ?_)
        · skip
          rw [if_neg (by omega)] at he
          refine v_iinc dX2_drawWinner_68 rfl (Nat.le_of_ble_eq_true rfl) ?_
          refine v_goto (tgt := 39) dX2_drawWinner_71 (by decide) ?_
          exact v_to (ih (k + 1) left (by omega) (by omega) he) rfl (sw_h1 rfl (sw_h1 rfl (sw_h1 rfl (sw_h1 rfl sw_h0))))
        · skip
          rw [if_pos (by omega)] at he
          refine v_iload_n dX2_drawWinner_58 rfl ?_
          refine v_if_ne (tgt := 65) dX2_drawWinner_59 (by decide) ⟨by omega, by omega⟩ (fun h59 => ?_) (fun h59 => ?_)
          · skip
            rw [if_neg (by omega)] at he
            refine v_iinc dX2_drawWinner_65 rfl (Nat.le_of_ble_eq_true rfl) ?_
            refine v_iinc dX2_drawWinner_68 rfl (Nat.le_of_ble_eq_true rfl) ?_
            refine v_goto (tgt := 39) dX2_drawWinner_71 (by decide) ?_
            exact v_to (ih (k + 1) (left - 1) (by omega) (by omega) he) rfl (sw_h1 rfl (sw_h1 rfl (sw_h1 rfl (sw_h1 rfl sw_h0))))
          · skip
            rw [if_pos (by omega)] at he
            refine v_iload dX2_drawWinner_62 rfl ?_
            exact v_iret dX2_drawWinner_64 rfl (Nat.le_refl _) (Nat.le_refl _) (⟨by rw [← he], hback _⟩)
  have loop1 : ∀ (n k : Nat), k + n = m → V l G μX2_drawWinner sw_E0 (sw_Zq G μX2_drawWinner (sw_q0 G (fun r M' => r = some (sw_i (pkW Rw Sg hi m 0 dv)) ∧ M' = sw_ov M [cL G b (nxX x) m tk so]))) 4 [(0, .ref (sw_al G 30)), (1, sw_i hi), (2, sw_i (ctH Rw Sg hi k)), (3, sw_i (k : Int))] [] (sw_ov M (cLs G b x m tk so Rw Gd Sg)) 0 0 := by
    intro n
    induction n with
    | zero =>
      intro k hk
      have e : k = m := by omega
      subst e
      refine v_iload_n dX2_drawWinner_4 rfl ?_
      refine v_aload_n dX2_drawWinner_5 rfl ?_
      refine v_getf 0 5 fl_X2_32 hn rfl rfl dX2_drawWinner_6 ?_
      refine v_icmp_ge (tgt := 30) dX2_drawWinner_9 (by decide) ⟨by omega, by omega⟩ ⟨by omega, by omega⟩ (fun h9 => ?_) (fun h9 => ?_)
      · skip
        refine v_aload_n dX2_drawWinner_30 rfl ?_
        refine v_iload_n dX2_drawWinner_31 rfl ?_
        refine v_callV (ci := 2) (K2_draw (b := b) (x := x) (m := k) (tk := tk) (so := so) (k := ctH Rw Sg hi k) (sw_hold_all (cs := cLs G b x k tk so Rw Gd Sg) hn).hd ⟨by omega, by omega⟩) ⟨rfl, rfl⟩ (Nat.le_refl _) (Nat.le_refl _) ((sw_hold_all (cs := cLs G b x k tk so Rw Gd Sg) hn).hd) rfl ⟨ml_X2_75, mm_X2_draw⟩ ⟨(Nat.le_of_ble_eq_true rfl), (Nat.le_of_ble_eq_true rfl)⟩ mp_X2_draw rfl rfl (Nat.le_of_ble_eq_true rfl) dX2_drawWinner_32 (fun r M' h => ?_)
        obtain ⟨rfl, rfl⟩ := h
        refine v_ovp [0] rfl rfl hn ?_
        rw [hdv]
        refine v_istore_n dX2_drawWinner_35 (Nat.le_of_ble_eq_true rfl) ?_
        refine v_iconst dX2_drawWinner_36 ?_
        refine v_istore dX2_drawWinner_37 (Nat.le_of_ble_eq_true rfl) ?_
        exact v_to (loop2 k 0 dv (by omega) (by omega) rfl) rfl (sw_h1 rfl (sw_h1 rfl (sw_h1 rfl (sw_h1 rfl sw_h0))))
      · skip
        exfalso; omega
    | succ n ih =>
      intro k hk
      have hq := ho.b hm (i := (k : Int)) (by omega) (by omega)
      have e1 : ctH Rw Sg hi (k + 1) = if bdN Rw Sg k = hi then ctH Rw Sg hi k + 1 else ctH Rw Sg hi k := rfl
      refine v_iload_n dX2_drawWinner_4 rfl ?_
      refine v_aload_n dX2_drawWinner_5 rfl ?_
      refine v_getf 0 5 fl_X2_32 hn rfl rfl dX2_drawWinner_6 ?_
      refine v_icmp_ge (tgt := 30) dX2_drawWinner_9 (by decide) ⟨by omega, by omega⟩ ⟨by omega, by omega⟩ (fun h9 => ?_) (fun h9 => ?_)
      · skip
        exfalso; omega
      · skip
        refine v_aload_n dX2_drawWinner_12 rfl ?_
        refine v_iload_n dX2_drawWinner_13 rfl ?_
        refine v_callV (ci := 2) (K2_bidNow (b := b) (x := x) (m := m) (tk := tk) (so := so) (Rw := Rw) (Gd := Gd) (Sg := Sg) (sw_hold_all (cs := cLs G b x m tk so Rw Gd Sg) hn) (i := (k : Int)) ⟨by omega, by omega⟩ hq.1) ⟨rfl, rfl⟩ (Nat.le_refl _) (Nat.le_refl _) ((sw_hold_all (cs := cLs G b x m tk so Rw Gd Sg) hn).hd) rfl ⟨ml_X2_91, mm_X2_bidNow⟩ ⟨(Nat.le_of_ble_eq_true rfl), (Nat.le_of_ble_eq_true rfl)⟩ mp_X2_bidNow rfl rfl (Nat.le_of_ble_eq_true rfl) dX2_drawWinner_14 (fun r M' h => ?_)
        obtain ⟨rfl, rfl⟩ := h
        refine v_iload_n dX2_drawWinner_17 rfl ?_
        refine v_icmp_ne (tgt := 24) dX2_drawWinner_18 (by decide) ⟨by omega, by omega⟩ ⟨by omega, by omega⟩ (fun h18 => ?_) (fun h18 => ?_)
        · skip
          rw [if_neg (by omega)] at e1
          refine v_iinc dX2_drawWinner_24 rfl (Nat.le_of_ble_eq_true rfl) ?_
          refine v_goto (tgt := 4) dX2_drawWinner_27 (by decide) ?_
          exact v_to (ih (k + 1) (by omega)) rfl (sw_h1 rfl (sw_h1 rfl (sw_h1 (by rw [e1]; rfl) (sw_h1 rfl sw_h0))))
        · skip
          rw [if_pos (by omega)] at e1
          refine v_iinc dX2_drawWinner_21 rfl (Nat.le_of_ble_eq_true rfl) ?_
          refine v_iinc dX2_drawWinner_24 rfl (Nat.le_of_ble_eq_true rfl) ?_
          refine v_goto (tgt := 4) dX2_drawWinner_27 (by decide) ?_
          exact v_to (ih (k + 1) (by omega)) rfl (sw_h1 rfl (sw_h1 rfl (sw_h1 (by rw [e1]; rfl) (sw_h1 rfl sw_h0))))
  refine v_iconst dX2_drawWinner_0 ?_
  refine v_istore_n dX2_drawWinner_1 (Nat.le_of_ble_eq_true rfl) ?_
  refine v_iconst dX2_drawWinner_2 ?_
  refine v_istore_n dX2_drawWinner_3 (Nat.le_of_ble_eq_true rfl) ?_
  exact v_to (loop1 m 0 (by omega)) rfl (sw_h1 rfl (sw_h1 rfl (sw_h1 rfl (sw_h1 rfl sw_h0))))
theorem K2_noneBids {b : Nat} (hb : 50 ≤ b) {σ : SaleT} {u d : Int} {m : Nat} {x tk so v : Int} {Rw Gd Sg : Int → Int} (hM : sw_hold M (cLs G b x m tk so Rw Gd Sg)) (h5 : M b = some (cO G b σ u d).2) (hw : wfS σ) (hm : m ≤ 4) (ho : lOK σ Rw Sg m) (hv : 0 ≤ v ∧ v ≤ 60) : Kt l G μX2_noneBids [.ref (sw_al G 30), sw_i v] M (fun r M' => r = none ∧ M' = sw_ov M (cLs G b x m tk so (if sLe σ ≤ v then mvA Rw Sg m else Rw) Gd Sg)) := by
  refine KtA.of (by decide +kernel) (Nat.le_of_ble_eq_true rfl) ?_
  refine v_mem (sw_ov_self (cs := cLs G b x m tk so Rw Gd Sg ++ [cO G b σ u d]) (sw_hold.app hM (sw_hold1 h5 sw_hold0))).symm ?_
  have hn : sw_nd [30, 31, 32, 33, b] := sw_nd_of (by simp; omega)
  have hback : ∀ Rw, sw_ov M (cLs G b x m tk so Rw Gd Sg ++ [cO G b σ u d]) = sw_ov M (cLs G b x m tk so Rw Gd Sg) := fun Rw => sw_ov_dr (sw_hold1 h5 sw_hold0) _
  have hle := hw.2.2.2.1
  by_cases c : sLe σ ≤ v
  · rw [if_pos c]
    have loop : ∀ (n k : Nat), k + n = m → V l G μX2_noneBids sw_E0 (sw_Zq G μX2_noneBids (sw_q0 G (fun r M' => r = none ∧ M' = sw_ov M (cLs G b x m tk so (mvA Rw Sg m) Gd Sg)))) 2 [(0, .ref (sw_al G 30)), (1, sw_i v), (2, sw_i (k : Int))] [] (sw_ov M (cLs G b x m tk so (mvA Rw Sg k) Gd Sg ++ [cO G b σ u d])) 0 0 := by
      intro n
      induction n with
      | zero =>
        intro k hk
        have e : k = m := by omega
        subst e
        refine v_iload_n dX2_noneBids_2 rfl ?_
        refine v_aload_n dX2_noneBids_3 rfl ?_
        refine v_getf 0 5 fl_X2_32 hn rfl rfl dX2_noneBids_4 ?_
        refine v_icmp_ge (tgt := 33) dX2_noneBids_7 (by decide) ⟨by omega, by omega⟩ ⟨by omega, by omega⟩ (fun h7 => ?_) (fun h7 => ?_)
        · skip
          exact v_vret dX2_noneBids_33 rfl (Nat.le_refl _) (Nat.le_refl _) (⟨rfl, hback _⟩)
        · skip
          exfalso; omega
      | succ n ih =>
        intro k hk
        have hok := mvA_ok ho k
        have hq := hok.b hm (i := (k : Int)) (by omega) (by omega)
        refine v_iload_n dX2_noneBids_2 rfl ?_
        refine v_aload_n dX2_noneBids_3 rfl ?_
        refine v_getf 0 5 fl_X2_32 hn rfl rfl dX2_noneBids_4 ?_
        refine v_icmp_ge (tgt := 33) dX2_noneBids_7 (by decide) ⟨by omega, by omega⟩ ⟨by omega, by omega⟩ (fun h7 => ?_) (fun h7 => ?_)
        · skip
          exfalso; omega
        · skip
          refine v_iload_n dX2_noneBids_10 rfl ?_
          refine v_aload_n dX2_noneBids_11 rfl ?_
          refine v_getf 0 3 fl_X2_24 hn rfl rfl dX2_noneBids_12 ?_
          refine v_getf 4 7 fl_X2_94 hn rfl rfl dX2_noneBids_15 ?_
          refine v_icmp_lt (tgt := 33) dX2_noneBids_18 (by decide) ⟨by omega, by omega⟩ ⟨by omega, by omega⟩ (fun h18 => ?_) (fun h18 => ?_)
          · skip
            exfalso; omega
          · skip
            refine v_aload_n dX2_noneBids_21 rfl ?_
            refine v_iload_n dX2_noneBids_22 rfl ?_
            refine v_iconst dX2_noneBids_23 ?_
            refine v_callV (ci := 2) (K2_move (b := b) (x := x) (m := m) (tk := tk) (so := so) (Rw := mvA Rw Sg k) (Gd := Gd) (Sg := Sg) (sw_pick (cs := cLs G b x m tk so (mvA Rw Sg k) Gd Sg ++ [cO G b σ u d]) hn [0, 1, 2, 3] rfl) (i := (k : Int)) (v := 1) ⟨by omega, by omega⟩ hq.1 hq.2 ⟨by omega, by omega⟩) ⟨rfl, rfl⟩ (Nat.le_refl _) (Nat.le_refl _) (sw_ov_at (q := 0) (t := 30) hn rfl) rfl ⟨ml_X2_97, mm_X2_move⟩ ⟨(Nat.le_of_ble_eq_true rfl), (Nat.le_of_ble_eq_true rfl)⟩ mp_X2_move rfl rfl (Nat.le_of_ble_eq_true rfl) dX2_noneBids_24 (fun r M' h => ?_)
            obtain ⟨rfl, rfl⟩ := h
            refine v_ovp [1] rfl rfl hn ?_
            refine v_iinc dX2_noneBids_27 rfl (Nat.le_of_ble_eq_true rfl) ?_
            refine v_goto (tgt := 2) dX2_noneBids_30 (by decide) ?_
            exact v_to (ih (k + 1) (by omega)) rfl (sw_h1 rfl (sw_h1 rfl (sw_h1 rfl sw_h0)))
    refine v_iconst dX2_noneBids_0 ?_
    refine v_istore_n dX2_noneBids_1 (Nat.le_of_ble_eq_true rfl) ?_
    exact v_to (loop m 0 (by omega)) rfl (sw_h1 rfl (sw_h1 rfl (sw_h1 rfl sw_h0)))
  · rw [if_neg c]
    refine v_iconst dX2_noneBids_0 ?_
    refine v_istore_n dX2_noneBids_1 (Nat.le_of_ble_eq_true rfl) ?_
    refine v_iload_n dX2_noneBids_2 rfl ?_
    refine v_aload_n dX2_noneBids_3 rfl ?_
    refine v_getf 0 5 fl_X2_32 hn rfl rfl dX2_noneBids_4 ?_
    refine v_icmp_ge (tgt := 33) dX2_noneBids_7 (by decide) ⟨by omega, by omega⟩ ⟨by omega, by omega⟩ (fun h7 => ?_) (fun h7 => ?_)
    · skip
      exact v_vret dX2_noneBids_33 rfl (Nat.le_refl _) (Nat.le_refl _) (⟨rfl, hback _⟩)
    · skip
      refine v_iload_n dX2_noneBids_10 rfl ?_
      refine v_aload_n dX2_noneBids_11 rfl ?_
      refine v_getf 0 3 fl_X2_24 hn rfl rfl dX2_noneBids_12 ?_
      refine v_getf 4 7 fl_X2_94 hn rfl rfl dX2_noneBids_15 ?_
      refine v_icmp_lt (tgt := 33) dX2_noneBids_18 (by decide) ⟨by omega, by omega⟩ ⟨by omega, by omega⟩ (fun h18 => ?_) (fun h18 => ?_)
      · skip
        exact v_vret dX2_noneBids_33 rfl (Nat.le_refl _) (Nat.le_refl _) (⟨rfl, hback _⟩)
      · skip
        exfalso; omega
theorem K2_oneWins {b : Nat} (hb : 50 ≤ b) {σ : SaleT} {u d : Int} {m : Nat} {x tk so v w : Int} {Rw Gd Sg : Int → Int} (hM : sw_hold M (cLs G b x m tk so Rw Gd Sg)) (h5 : M b = some (cO G b σ u d).2) (hw : wfS σ) (hm : m ≤ 4) (ho : lOK σ Rw Sg m) (hv : 0 ≤ v ∧ v ≤ 60) (hwn : 0 ≤ w ∧ w < m) : Kt l G μX2_oneWins [.ref (sw_al G 30), sw_i v, sw_i w] M (fun r M' => r = none ∧ M' = sw_ov M (cLs G b x m (tkL σ Rw Sg w (prL σ Rw Sg m w) tk m) (so + (if v < prL σ Rw Sg m w then 1 else 0)) (rwL Rw Sg m v w (prL σ Rw Sg m w)) (gdL σ Rw Sg Gd v w (prL σ Rw Sg m w) m) Sg)) := by
  refine KtA.of (by decide +kernel) (Nat.le_of_ble_eq_true rfl) ?_
  refine v_mem (sw_ov_self (cs := cLs G b x m tk so Rw Gd Sg ++ [cO G b σ u d]) (sw_hold.app hM (sw_hold1 h5 sw_hold0))).symm ?_
  have hn : sw_nd [30, 31, 32, 33, b] := sw_nd_of (by simp; omega)
  have hback : ∀ tk so Rw Gd, sw_ov M (cLs G b x m tk so Rw Gd Sg ++ [cO G b σ u d]) = sw_ov M (cLs G b x m tk so Rw Gd Sg) := fun tk so Rw Gd => sw_ov_dr (sw_hold1 h5 sw_hold0) _
  have oL : ∀ tk so Rw Gd, sw_hold (sw_ov M (cLs G b x m tk so Rw Gd Sg ++ [cO G b σ u d])) (cLs G b x m tk so Rw Gd Sg) := fun tk so Rw Gd => sw_pick (cs := cLs G b x m tk so Rw Gd Sg ++ [cO G b σ u d]) hn [0, 1, 2, 3] rfl
  have oA : ∀ tk so Rw Gd, (sw_ov M (cLs G b x m tk so Rw Gd Sg ++ [cO G b σ u d])) b = some (cO G b σ u d).2 := fun tk so Rw Gd => sw_ov_at (cs := cLs G b x m tk so Rw Gd Sg ++ [cO G b σ u d]) (q := 4) (t := b) hn rfl
  have hle := hw.2.2.2.1
  have hwy := hw.2.2.2.2.1
  have hqw := ho.b hm hwn.1 hwn.2
  have hgb := hg_bd hm ho (sLe σ) w m (Nat.le_refl _)
  obtain ⟨pr, hpr⟩ : ∃ pr, prL σ Rw Sg m w = pr := ⟨_, rfl⟩
  have hprb : 0 ≤ pr ∧ pr ≤ 60 := by
    rw [← hpr]; unfold prL
    split
    · split <;> omega
    · exact hqw.2
  rw [hpr]
  obtain ⟨Zq, hZ⟩ : ∃ Zq : Option Value → sw_M → Prop, Zq = (fun r M' => r = none ∧ M' = sw_ov M (cLs G b x m (tkL σ Rw Sg w pr tk m) (so + (if v < pr then 1 else 0)) (rwL Rw Sg m v w pr) (gdL σ Rw Sg Gd v w pr m) Sg)) := ⟨_, rfl⟩
  rw [← hZ]
  -- the last loop
  have loop3 : pr < v → ∀ (n k : Nat), k + n = m → V l G μX2_oneWins sw_E0 (sw_Zq G μX2_oneWins (sw_q0 G Zq)) 167 [(0, .ref (sw_al G 30)), (1, sw_i v), (2, sw_i w), (3, sw_i pr), (4, sw_i (k : Int))] [] (sw_ov M (cLs G b x m (tkL σ Rw Sg w pr tk m) so (mvO Rw Sg w k) (gdL σ Rw Sg Gd v w pr m) Sg ++ [cO G b σ u d])) 0 0 := by
    intro hpv n
    induction n with
    | zero =>
      intro k hk
      have e : k = m := by omega
      subst e
      refine v_iload dX2_oneWins_167 rfl ?_
      refine v_aload_n dX2_oneWins_169 rfl ?_
      refine v_getf 0 5 fl_X2_32 hn rfl rfl dX2_oneWins_170 ?_
      refine v_icmp_ge (tgt := 200) dX2_oneWins_173 (by decide) ⟨by omega, by omega⟩ ⟨by omega, by omega⟩ (fun h173 => ?_) (fun h173 => ?_)
      · skip
        exact v_vret dX2_oneWins_200 rfl (Nat.le_refl _) (Nat.le_refl _) (by rw [hZ]; exact ⟨rfl, by rw [if_neg (by omega), Int.add_zero]; unfold rwL; rw [if_neg (by omega), if_pos hpv]; exact hback _ _ _ _⟩)
      · skip
        exfalso; omega
    | succ n ih =>
      intro k hk
      have hok := mvO_ok ho w k
      have hq := hok.b hm (i := (k : Int)) (by omega) (by omega)
      have e1 : mvO Rw Sg w (k + 1) = if (k : Int) = w then mvO Rw Sg w k else mvR (mvO Rw Sg w k) Sg k 1 := rfl
      refine v_iload dX2_oneWins_167 rfl ?_
      refine v_aload_n dX2_oneWins_169 rfl ?_
      refine v_getf 0 5 fl_X2_32 hn rfl rfl dX2_oneWins_170 ?_
      refine v_icmp_ge (tgt := 200) dX2_oneWins_173 (by decide) ⟨by omega, by omega⟩ ⟨by omega, by omega⟩ (fun h173 => ?_) (fun h173 => ?_)
      · skip
        exfalso; omega
      · skip
        refine v_iload_n dX2_oneWins_176 rfl ?_
        refine v_iload_n dX2_oneWins_177 rfl ?_
        refine v_icmp_le (tgt := 200) dX2_oneWins_178 (by decide) ⟨by omega, by omega⟩ ⟨by omega, by omega⟩ (fun h178 => ?_) (fun h178 => ?_)
        · skip
          exfalso; omega
        · skip
          refine v_iload dX2_oneWins_181 rfl ?_
          refine v_iload_n dX2_oneWins_183 rfl ?_
          refine v_icmp_eq (tgt := 194) dX2_oneWins_184 (by decide) ⟨by omega, by omega⟩ ⟨by omega, by omega⟩ (fun h184 => ?_) (fun h184 => ?_)
          · skip
            rw [if_pos (by omega)] at e1
            refine v_iinc dX2_oneWins_194 rfl (Nat.le_of_ble_eq_true rfl) ?_
            refine v_goto (tgt := 167) dX2_oneWins_197 (by decide) ?_
            exact v_to (ih (k + 1) (by omega)) (by rw [e1]) (sw_h1 rfl (sw_h1 rfl (sw_h1 rfl (sw_h1 rfl (sw_h1 rfl sw_h0)))))
          · skip
            rw [if_neg (by omega)] at e1
            refine v_aload_n dX2_oneWins_187 rfl ?_
            refine v_iload dX2_oneWins_188 rfl ?_
            refine v_iconst dX2_oneWins_190 ?_
            refine v_callV (ci := 2) (K2_move (b := b) (x := x) (m := m) (Rw := mvO Rw Sg w k) (Gd := gdL σ Rw Sg Gd v w pr m) (Sg := Sg) (oL _ _ _ _) (i := (k : Int)) (v := 1) ⟨by omega, by omega⟩ hq.1 hq.2 ⟨by omega, by omega⟩) ⟨rfl, rfl⟩ (Nat.le_refl _) (Nat.le_refl _) (oL _ _ _ _).hd rfl ⟨ml_X2_97, mm_X2_move⟩ ⟨(Nat.le_of_ble_eq_true rfl), (Nat.le_of_ble_eq_true rfl)⟩ mp_X2_move rfl rfl (Nat.le_of_ble_eq_true rfl) dX2_oneWins_191 (fun r M' h => ?_)
            obtain ⟨rfl, rfl⟩ := h
            refine v_ovp [1] rfl rfl hn ?_
            refine v_iinc dX2_oneWins_194 rfl (Nat.le_of_ble_eq_true rfl) ?_
            refine v_goto (tgt := 167) dX2_oneWins_197 (by decide) ?_
            exact v_to (ih (k + 1) (by omega)) (by rw [e1]; rfl) (sw_h1 rfl (sw_h1 rfl (sw_h1 rfl (sw_h1 rfl (sw_h1 rfl sw_h0)))))
  have end3 : ¬ pr < v → ¬ v < pr → ∀ k : Nat, k = m → V l G μX2_oneWins sw_E0 (sw_Zq G μX2_oneWins (sw_q0 G Zq)) 167 [(0, .ref (sw_al G 30)), (1, sw_i v), (2, sw_i w), (3, sw_i pr), (4, sw_i 0)] [] (sw_ov M (cLs G b x m (tkL σ Rw Sg w pr tk m) so Rw (gdL σ Rw Sg Gd v w pr m) Sg ++ [cO G b σ u d])) 0 0 := by
    intro c1 c2 k hk
    refine v_iload dX2_oneWins_167 rfl ?_
    refine v_aload_n dX2_oneWins_169 rfl ?_
    refine v_getf 0 5 fl_X2_32 hn rfl rfl dX2_oneWins_170 ?_
    refine v_icmp_ge (tgt := 200) dX2_oneWins_173 (by decide) ⟨by omega, by omega⟩ ⟨by omega, by omega⟩ (fun h173 => ?_) (fun h173 => ?_)
    · skip
      exact v_vret dX2_oneWins_200 rfl (Nat.le_refl _) (Nat.le_refl _) (by rw [hZ]; exact ⟨rfl, by rw [if_neg c2, Int.add_zero]; unfold rwL; rw [if_neg c2, if_neg c1]; exact hback _ _ _ _⟩)
    · skip
      refine v_iload_n dX2_oneWins_176 rfl ?_
      refine v_iload_n dX2_oneWins_177 rfl ?_
      refine v_icmp_le (tgt := 200) dX2_oneWins_178 (by decide) ⟨by omega, by omega⟩ ⟨by omega, by omega⟩ (fun h178 => ?_) (fun h178 => ?_)
      · skip
        exact v_vret dX2_oneWins_200 rfl (Nat.le_refl _) (Nat.le_refl _) (by rw [hZ]; exact ⟨rfl, by rw [if_neg c2, Int.add_zero]; unfold rwL; rw [if_neg c2, if_neg c1]; exact hback _ _ _ _⟩)
      · skip
        exfalso; omega
  have loop2 : ∀ (n k : Nat), k + n = m → V l G μX2_oneWins sw_E0 (sw_Zq G μX2_oneWins (sw_q0 G Zq)) 56 [(0, .ref (sw_al G 30)), (1, sw_i v), (2, sw_i w), (3, sw_i pr), (4, sw_i (k : Int))] [] (sw_ov M (cLs G b x m (tkL σ Rw Sg w pr tk k) so Rw (gdL σ Rw Sg Gd v w pr k) Sg ++ [cO G b σ u d])) 0 0 := by
    intro n
    induction n with
    | zero =>
      intro k hk
      have e : k = m := by omega
      subst e
      refine v_iload dX2_oneWins_56 rfl ?_
      refine v_aload_n dX2_oneWins_58 rfl ?_
      refine v_getf 0 5 fl_X2_32 hn rfl rfl dX2_oneWins_59 ?_
      refine v_icmp_ge (tgt := 143) dX2_oneWins_62 (by decide) ⟨by omega, by omega⟩ ⟨by omega, by omega⟩ (fun h62 => ?_) (fun h62 => ?_)
      · skip
        refine v_iload_n dX2_oneWins_143 rfl ?_
        refine v_iload_n dX2_oneWins_144 rfl ?_
        refine v_icmp_le (tgt := 164) dX2_oneWins_145 (by decide) ⟨by omega, by omega⟩ ⟨by omega, by omega⟩ (fun h145 => ?_) (fun h145 => ?_)
        · skip
          refine v_iconst dX2_oneWins_164 ?_
          refine v_istore dX2_oneWins_165 (Nat.le_of_ble_eq_true rfl) ?_
          by_cases hpv : pr < v
          · exact v_to (loop3 hpv k 0 (by omega)) rfl (sw_h1 rfl (sw_h1 rfl (sw_h1 rfl (sw_h1 rfl (sw_h1 rfl sw_h0)))))
          · exact v_to (end3 (by omega) (by omega) k rfl) rfl (sw_h1 rfl (sw_h1 rfl (sw_h1 rfl (sw_h1 rfl (sw_h1 rfl sw_h0)))))
        · skip
          refine v_aload_n dX2_oneWins_148 rfl ?_
          refine v_dup dX2_oneWins_149 rfl ?_
          refine v_getf 0 7 fl_X2_39 hn rfl rfl dX2_oneWins_150 ?_
          refine v_iconst dX2_oneWins_153 ?_
          refine v_iadd dX2_oneWins_154 ?_
          refine v_putf 0 7 fp_X2_39 hn rfl rfl rfl (Nat.le_of_ble_eq_true rfl) dX2_oneWins_155 ?_
          refine v_aload_n dX2_oneWins_158 rfl ?_
          refine v_iload_n dX2_oneWins_159 rfl ?_
          refine v_iconst dX2_oneWins_160 ?_
          refine v_callV (ci := 2) (K2_move (b := b) (x := x) (m := k) (Rw := Rw) (Gd := gdL σ Rw Sg Gd v w pr k) (Sg := Sg) (oL _ _ _ _) (i := w) (v := -1) ⟨by omega, by omega⟩ hqw.1 hqw.2 ⟨by omega, by omega⟩) ⟨rfl, rfl⟩ (Nat.le_refl _) (Nat.le_refl _) (oL _ _ _ _).hd rfl ⟨ml_X2_97, mm_X2_move⟩ ⟨(Nat.le_of_ble_eq_true rfl), (Nat.le_of_ble_eq_true rfl)⟩ mp_X2_move rfl rfl (Nat.le_of_ble_eq_true rfl) dX2_oneWins_161 (fun r M' h => ?_)
          obtain ⟨rfl, rfl⟩ := h
          refine v_ovp [1] rfl rfl hn ?_
          refine v_iconst dX2_oneWins_164 ?_
          refine v_istore dX2_oneWins_165 (Nat.le_of_ble_eq_true rfl) ?_
          refine v_iload dX2_oneWins_167 rfl ?_
          refine v_aload_n dX2_oneWins_169 rfl ?_
          refine v_getf 0 5 fl_X2_32 hn rfl rfl dX2_oneWins_170 ?_
          refine v_icmp_ge (tgt := 200) dX2_oneWins_173 (by decide) ⟨by omega, by omega⟩ ⟨by omega, by omega⟩ (fun h173 => ?_) (fun h173 => ?_)
          · skip
            exact v_vret dX2_oneWins_200 rfl (Nat.le_refl _) (Nat.le_refl _) (by rw [hZ]; exact ⟨rfl, by rw [if_pos (by omega)]; unfold rwL; rw [if_pos (by omega)]; exact hback _ _ _ _⟩)
          · skip
            refine v_iload_n dX2_oneWins_176 rfl ?_
            refine v_iload_n dX2_oneWins_177 rfl ?_
            refine v_icmp_le (tgt := 200) dX2_oneWins_178 (by decide) ⟨by omega, by omega⟩ ⟨by omega, by omega⟩ (fun h178 => ?_) (fun h178 => ?_)
            · skip
              exact v_vret dX2_oneWins_200 rfl (Nat.le_refl _) (Nat.le_refl _) (by rw [hZ]; exact ⟨rfl, by rw [if_pos (by omega)]; unfold rwL; rw [if_pos (by omega)]; exact hback _ _ _ _⟩)
            · skip
              exfalso; omega
      · skip
        exfalso; omega
    | succ n ih =>
      intro k hk
      have hq := ho.b hm (i := (k : Int)) (by omega) (by omega)
      have e1 : tkL σ Rw Sg w pr tk (k + 1) = tkL σ Rw Sg w pr tk k + pyL σ Rw Sg w pr k := rfl
      have e2 : gdL σ Rw Sg Gd v w pr (k + 1) = up (gdL σ Rw Sg Gd v w pr k) k (gdL σ Rw Sg Gd v w pr k k - pyL σ Rw Sg w pr k) := rfl
      have e3 : pyL σ Rw Sg w pr k = if (k : Int) = w then pr else if sWy σ = 2 ∧ sLe σ ≤ bdN Rw Sg k then bdN Rw Sg k else 0 := rfl
      refine v_iload dX2_oneWins_56 rfl ?_
      refine v_aload_n dX2_oneWins_58 rfl ?_
      refine v_getf 0 5 fl_X2_32 hn rfl rfl dX2_oneWins_59 ?_
      refine v_icmp_ge (tgt := 143) dX2_oneWins_62 (by decide) ⟨by omega, by omega⟩ ⟨by omega, by omega⟩ (fun h62 => ?_) (fun h62 => ?_)
      · skip
        exfalso; omega
      · skip
        refine v_aload_n dX2_oneWins_65 rfl ?_
        refine v_iload dX2_oneWins_66 rfl ?_
        refine v_callV (ci := 2) (K2_bidNow (b := b) (x := x) (m := m) (Rw := Rw) (Gd := gdL σ Rw Sg Gd v w pr k) (Sg := Sg) (oL _ _ _ _) (i := (k : Int)) ⟨by omega, by omega⟩ hq.1) ⟨rfl, rfl⟩ (Nat.le_refl _) (Nat.le_refl _) (oL _ _ _ _).hd rfl ⟨ml_X2_91, mm_X2_bidNow⟩ ⟨(Nat.le_of_ble_eq_true rfl), (Nat.le_of_ble_eq_true rfl)⟩ mp_X2_bidNow rfl rfl (Nat.le_of_ble_eq_true rfl) dX2_oneWins_68 (fun r M' h => ?_)
        obtain ⟨rfl, rfl⟩ := h
        refine v_istore dX2_oneWins_71 (Nat.le_of_ble_eq_true rfl) ?_
        refine v_iload dX2_oneWins_73 rfl ?_
        refine v_iload_n dX2_oneWins_75 rfl ?_
        refine v_icmp_ne (tgt := 83) dX2_oneWins_76 (by decide) ⟨by omega, by omega⟩ ⟨by omega, by omega⟩ (fun h76 => ?_) (fun h76 => ?_)
        · skip
          refine v_aload_n dX2_oneWins_83 rfl ?_
          refine v_getf 0 3 fl_X2_24 hn rfl rfl dX2_oneWins_84 ?_
          refine v_getf 4 8 fl_X2_100 hn rfl rfl dX2_oneWins_87 ?_
          refine v_iconst dX2_oneWins_90 ?_
          refine v_icmp_ne (tgt := 111) dX2_oneWins_91 (by decide) ⟨by omega, by omega⟩ ⟨by omega, by omega⟩ (fun h91 => ?_) (fun h91 => ?_)
          · skip
            rw [if_neg (by omega), if_neg (by omega)] at e3
            rw [e3] at e1 e2
            refine v_iconst dX2_oneWins_111 ?_
            refine v_istore dX2_oneWins_112 (Nat.le_of_ble_eq_true rfl) ?_
            refine v_aload_n dX2_oneWins_114 rfl ?_
            refine v_getf 0 1 fl_X2_15 hn rfl rfl dX2_oneWins_115 ?_
            refine v_iload dX2_oneWins_118 rfl ?_
            refine v_dup2 dX2_oneWins_120 rfl rfl ?_
            refine v_iald 2 hn rfl (Nat.le_of_ble_eq_true rfl) (by omega) (by omega) dX2_oneWins_121 ?_
            refine v_iload dX2_oneWins_122 rfl ?_
            refine v_isub dX2_oneWins_124 ?_
            refine v_iast 2 hn rfl (Nat.le_of_ble_eq_true rfl) (by omega) (by omega) dX2_oneWins_125 ?_
            refine v_aload_n dX2_oneWins_126 rfl ?_
            refine v_dup dX2_oneWins_127 rfl ?_
            refine v_getf 0 6 fl_X2_36 hn rfl rfl dX2_oneWins_128 ?_
            refine v_iload dX2_oneWins_131 rfl ?_
            refine v_iadd dX2_oneWins_133 ?_
            refine v_putf 0 6 fp_X2_36 hn rfl rfl rfl (Nat.le_of_ble_eq_true rfl) dX2_oneWins_134 ?_
            refine v_iinc dX2_oneWins_137 rfl (Nat.le_of_ble_eq_true rfl) ?_
            refine v_goto (tgt := 56) dX2_oneWins_140 (by decide) ?_
            exact v_to (ih (k + 1) (by omega)) (by rw [e1, e2]; rfl) (sw_h1 rfl (sw_h1 rfl (sw_h1 rfl (sw_h1 rfl (sw_h1 rfl sw_h0)))))
          · skip
            refine v_iload dX2_oneWins_94 rfl ?_
            refine v_aload_n dX2_oneWins_96 rfl ?_
            refine v_getf 0 3 fl_X2_24 hn rfl rfl dX2_oneWins_97 ?_
            refine v_getf 4 7 fl_X2_94 hn rfl rfl dX2_oneWins_100 ?_
            refine v_icmp_lt (tgt := 111) dX2_oneWins_103 (by decide) ⟨by omega, by omega⟩ ⟨by omega, by omega⟩ (fun h103 => ?_) (fun h103 => ?_)
            · skip
              rw [if_neg (by omega), if_neg (by omega)] at e3
              rw [e3] at e1 e2
              refine v_iconst dX2_oneWins_111 ?_
              refine v_istore dX2_oneWins_112 (Nat.le_of_ble_eq_true rfl) ?_
              refine v_aload_n dX2_oneWins_114 rfl ?_
              refine v_getf 0 1 fl_X2_15 hn rfl rfl dX2_oneWins_115 ?_
              refine v_iload dX2_oneWins_118 rfl ?_
              refine v_dup2 dX2_oneWins_120 rfl rfl ?_
              refine v_iald 2 hn rfl (Nat.le_of_ble_eq_true rfl) (by omega) (by omega) dX2_oneWins_121 ?_
              refine v_iload dX2_oneWins_122 rfl ?_
              refine v_isub dX2_oneWins_124 ?_
              refine v_iast 2 hn rfl (Nat.le_of_ble_eq_true rfl) (by omega) (by omega) dX2_oneWins_125 ?_
              refine v_aload_n dX2_oneWins_126 rfl ?_
              refine v_dup dX2_oneWins_127 rfl ?_
              refine v_getf 0 6 fl_X2_36 hn rfl rfl dX2_oneWins_128 ?_
              refine v_iload dX2_oneWins_131 rfl ?_
              refine v_iadd dX2_oneWins_133 ?_
              refine v_putf 0 6 fp_X2_36 hn rfl rfl rfl (Nat.le_of_ble_eq_true rfl) dX2_oneWins_134 ?_
              refine v_iinc dX2_oneWins_137 rfl (Nat.le_of_ble_eq_true rfl) ?_
              refine v_goto (tgt := 56) dX2_oneWins_140 (by decide) ?_
              exact v_to (ih (k + 1) (by omega)) (by rw [e1, e2]; rfl) (sw_h1 rfl (sw_h1 rfl (sw_h1 rfl (sw_h1 rfl (sw_h1 rfl sw_h0)))))
            · skip
              rw [if_neg (by omega), if_pos ⟨by omega, by omega⟩] at e3
              rw [e3] at e1 e2
              refine v_iload dX2_oneWins_106 rfl ?_
              refine v_goto (tgt := 112) dX2_oneWins_108 (by decide) ?_
              refine v_istore dX2_oneWins_112 (Nat.le_of_ble_eq_true rfl) ?_
              refine v_aload_n dX2_oneWins_114 rfl ?_
              refine v_getf 0 1 fl_X2_15 hn rfl rfl dX2_oneWins_115 ?_
              refine v_iload dX2_oneWins_118 rfl ?_
              refine v_dup2 dX2_oneWins_120 rfl rfl ?_
              refine v_iald 2 hn rfl (Nat.le_of_ble_eq_true rfl) (by omega) (by omega) dX2_oneWins_121 ?_
              refine v_iload dX2_oneWins_122 rfl ?_
              refine v_isub dX2_oneWins_124 ?_
              refine v_iast 2 hn rfl (Nat.le_of_ble_eq_true rfl) (by omega) (by omega) dX2_oneWins_125 ?_
              refine v_aload_n dX2_oneWins_126 rfl ?_
              refine v_dup dX2_oneWins_127 rfl ?_
              refine v_getf 0 6 fl_X2_36 hn rfl rfl dX2_oneWins_128 ?_
              refine v_iload dX2_oneWins_131 rfl ?_
              refine v_iadd dX2_oneWins_133 ?_
              refine v_putf 0 6 fp_X2_36 hn rfl rfl rfl (Nat.le_of_ble_eq_true rfl) dX2_oneWins_134 ?_
              refine v_iinc dX2_oneWins_137 rfl (Nat.le_of_ble_eq_true rfl) ?_
              refine v_goto (tgt := 56) dX2_oneWins_140 (by decide) ?_
              exact v_to (ih (k + 1) (by omega)) (by rw [e1, e2]; rfl) (sw_h1 rfl (sw_h1 rfl (sw_h1 rfl (sw_h1 rfl (sw_h1 rfl sw_h0)))))
        · skip
          rw [if_pos (by omega)] at e3
          rw [e3] at e1 e2
          refine v_iload_n dX2_oneWins_79 rfl ?_
          refine v_goto (tgt := 112) dX2_oneWins_80 (by decide) ?_
          refine v_istore dX2_oneWins_112 (Nat.le_of_ble_eq_true rfl) ?_
          refine v_aload_n dX2_oneWins_114 rfl ?_
          refine v_getf 0 1 fl_X2_15 hn rfl rfl dX2_oneWins_115 ?_
          refine v_iload dX2_oneWins_118 rfl ?_
          refine v_dup2 dX2_oneWins_120 rfl rfl ?_
          refine v_iald 2 hn rfl (Nat.le_of_ble_eq_true rfl) (by omega) (by omega) dX2_oneWins_121 ?_
          refine v_iload dX2_oneWins_122 rfl ?_
          refine v_isub dX2_oneWins_124 ?_
          refine v_iast 2 hn rfl (Nat.le_of_ble_eq_true rfl) (by omega) (by omega) dX2_oneWins_125 ?_
          refine v_aload_n dX2_oneWins_126 rfl ?_
          refine v_dup dX2_oneWins_127 rfl ?_
          refine v_getf 0 6 fl_X2_36 hn rfl rfl dX2_oneWins_128 ?_
          refine v_iload dX2_oneWins_131 rfl ?_
          refine v_iadd dX2_oneWins_133 ?_
          refine v_putf 0 6 fp_X2_36 hn rfl rfl rfl (Nat.le_of_ble_eq_true rfl) dX2_oneWins_134 ?_
          refine v_iinc dX2_oneWins_137 rfl (Nat.le_of_ble_eq_true rfl) ?_
          refine v_goto (tgt := 56) dX2_oneWins_140 (by decide) ?_
          exact v_to (ih (k + 1) (by omega)) (by rw [e1, e2]; rfl) (sw_h1 rfl (sw_h1 rfl (sw_h1 rfl (sw_h1 rfl (sw_h1 rfl sw_h0)))))
  have hp1 : prL σ Rw Sg m w = if sWy σ = 1 then (if hg Rw Sg (sLe σ) w m = -1 then sLe σ else hg Rw Sg (sLe σ) w m) else bdN Rw Sg w := rfl
  rw [hpr] at hp1
  refine v_aload_n dX2_oneWins_0 rfl ?_
  refine v_iload_n dX2_oneWins_1 rfl ?_
  refine v_callV (ci := 2) (K2_bidNow (b := b) (x := x) (m := m) (tk := tk) (so := so) (Rw := Rw) (Gd := Gd) (Sg := Sg) (oL _ _ _ _) (i := w) ⟨by omega, by omega⟩ hqw.1) ⟨rfl, rfl⟩ (Nat.le_refl _) (Nat.le_refl _) (oL _ _ _ _).hd rfl ⟨ml_X2_91, mm_X2_bidNow⟩ ⟨(Nat.le_of_ble_eq_true rfl), (Nat.le_of_ble_eq_true rfl)⟩ mp_X2_bidNow rfl rfl (Nat.le_of_ble_eq_true rfl) dX2_oneWins_2 (fun r M' h => ?_)
  obtain ⟨rfl, rfl⟩ := h
  refine v_istore_n dX2_oneWins_5 (Nat.le_of_ble_eq_true rfl) ?_
  refine v_aload_n dX2_oneWins_6 rfl ?_
  refine v_getf 0 3 fl_X2_24 hn rfl rfl dX2_oneWins_7 ?_
  refine v_getf 4 8 fl_X2_100 hn rfl rfl dX2_oneWins_10 ?_
  refine v_iconst dX2_oneWins_13 ?_
  refine v_icmp_ne (tgt := 43) dX2_oneWins_14 (by decide) ⟨by omega, by omega⟩ ⟨by omega, by omega⟩ (fun h14 => ?_) (fun h14 => ?_)
  · skip
    rw [if_neg (by omega)] at hp1
    refine v_aload_n dX2_oneWins_43 rfl ?_
    refine v_getf 0 1 fl_X2_15 hn rfl rfl dX2_oneWins_44 ?_
    refine v_iload_n dX2_oneWins_47 rfl ?_
    refine v_dup2 dX2_oneWins_48 rfl rfl ?_
    refine v_iald 2 hn rfl (Nat.le_of_ble_eq_true rfl) (by omega) (by omega) dX2_oneWins_49 ?_
    refine v_iload_n dX2_oneWins_50 rfl ?_
    refine v_iadd dX2_oneWins_51 ?_
    refine v_iast 2 hn rfl (Nat.le_of_ble_eq_true rfl) (by omega) (by omega) dX2_oneWins_52 ?_
    refine v_iconst dX2_oneWins_53 ?_
    refine v_istore dX2_oneWins_54 (Nat.le_of_ble_eq_true rfl) ?_
    exact v_to (loop2 m 0 (by omega)) rfl (sw_h1 rfl (sw_h1 rfl (sw_h1 rfl (sw_h1 (by rw [hp1]; rfl) (sw_h1 rfl sw_h0)))))
  · skip
    rw [if_pos (by omega)] at hp1
    refine v_aload_n dX2_oneWins_17 rfl ?_
    refine v_iload_n dX2_oneWins_18 rfl ?_
    refine v_callV (ci := 2) (K2_highest hb (σ := σ) (u := u) (d := d) (b := b) (x := x) (m := m) (tk := tk) (so := so) (Rw := Rw) (Gd := Gd) (Sg := Sg) (oL _ _ _ _) (oA _ _ _ _) hw hm ho (but := w) ⟨by omega, by omega⟩) ⟨rfl, rfl⟩ (Nat.le_refl _) (Nat.le_refl _) (oL _ _ _ _).hd rfl ⟨ml_X2_51, mm_X2_highest⟩ ⟨(Nat.le_of_ble_eq_true rfl), (Nat.le_of_ble_eq_true rfl)⟩ mp_X2_highest rfl rfl (Nat.le_of_ble_eq_true rfl) dX2_oneWins_19 (fun r M' h => ?_)
    obtain ⟨rfl, rfl⟩ := h
    refine v_istore dX2_oneWins_22 (Nat.le_of_ble_eq_true rfl) ?_
    refine v_iload dX2_oneWins_24 rfl ?_
    refine v_iconst dX2_oneWins_26 ?_
    refine v_icmp_ne (tgt := 40) dX2_oneWins_27 (by decide) ⟨by omega, by omega⟩ ⟨by omega, by omega⟩ (fun h27 => ?_) (fun h27 => ?_)
    · skip
      rw [if_neg (by omega)] at hp1
      refine v_iload dX2_oneWins_40 rfl ?_
      refine v_istore_n dX2_oneWins_42 (Nat.le_of_ble_eq_true rfl) ?_
      refine v_aload_n dX2_oneWins_43 rfl ?_
      refine v_getf 0 1 fl_X2_15 hn rfl rfl dX2_oneWins_44 ?_
      refine v_iload_n dX2_oneWins_47 rfl ?_
      refine v_dup2 dX2_oneWins_48 rfl rfl ?_
      refine v_iald 2 hn rfl (Nat.le_of_ble_eq_true rfl) (by omega) (by omega) dX2_oneWins_49 ?_
      refine v_iload_n dX2_oneWins_50 rfl ?_
      refine v_iadd dX2_oneWins_51 ?_
      refine v_iast 2 hn rfl (Nat.le_of_ble_eq_true rfl) (by omega) (by omega) dX2_oneWins_52 ?_
      refine v_iconst dX2_oneWins_53 ?_
      refine v_istore dX2_oneWins_54 (Nat.le_of_ble_eq_true rfl) ?_
      exact v_to (loop2 m 0 (by omega)) rfl (sw_h1 rfl (sw_h1 rfl (sw_h1 rfl (sw_h1 (by rw [hp1]; rfl) (sw_h1 rfl sw_h0)))))
    · skip
      rw [if_pos (by omega)] at hp1
      refine v_aload_n dX2_oneWins_30 rfl ?_
      refine v_getf 0 3 fl_X2_24 hn rfl rfl dX2_oneWins_31 ?_
      refine v_getf 4 7 fl_X2_94 hn rfl rfl dX2_oneWins_34 ?_
      refine v_goto (tgt := 42) dX2_oneWins_37 (by decide) ?_
      refine v_istore_n dX2_oneWins_42 (Nat.le_of_ble_eq_true rfl) ?_
      refine v_aload_n dX2_oneWins_43 rfl ?_
      refine v_getf 0 1 fl_X2_15 hn rfl rfl dX2_oneWins_44 ?_
      refine v_iload_n dX2_oneWins_47 rfl ?_
      refine v_dup2 dX2_oneWins_48 rfl rfl ?_
      refine v_iald 2 hn rfl (Nat.le_of_ble_eq_true rfl) (by omega) (by omega) dX2_oneWins_49 ?_
      refine v_iload_n dX2_oneWins_50 rfl ?_
      refine v_iadd dX2_oneWins_51 ?_
      refine v_iast 2 hn rfl (Nat.le_of_ble_eq_true rfl) (by omega) (by omega) dX2_oneWins_52 ?_
      refine v_iconst dX2_oneWins_53 ?_
      refine v_istore dX2_oneWins_54 (Nat.le_of_ble_eq_true rfl) ?_
      exact v_to (loop2 m 0 (by omega)) rfl (sw_h1 rfl (sw_h1 rfl (sw_h1 rfl (sw_h1 (by rw [hp1]; rfl) (sw_h1 rfl sw_h0)))))
end

