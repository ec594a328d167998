/-! the reference: drawing, moving; truth, learned, thrown -/
section
variable {l : Launch} {G : sw_G} {M : sw_M} {s : CSt} {k : Int} {x : Nat → Int} {a : Nat → Int → Int}
theorem K10_draw {X k : Int} (hM : RS G M x a) (h53 : x 53 = X) (hk : 0 < k ∧ k ≤ 1000) : Kt l G μX10_draw [.ref (sw_al G 70), sw_i k] M (fun r M' => r = some (sw_i (drw (nxX X) k)) ∧ RS G M' (upn x 53 (nxX X)) a ∧ frR M M') := by
  refine KtA.of (by decide +kernel) (Nat.le_of_ble_eq_true rfl) ?_
  have hF : frR M M := frR.rf
  have hd := dsh_bd (nxX X)
  have hdr := drw_bd (nxX X) hk.1
  refine v_aload_n dX10_draw_0 rfl ?_
  refine v_aload_n dX10_draw_1 rfl ?_
  refine v_rgj 53 hM h53 fl_X10_336 rfl dX10_draw_2 ?_
  refine v_ldc2 (z := 6364136223846793005) kl_X10_339 (by decide +kernel) dX10_draw_5 ?_
  refine v_lmul dX10_draw_8 ?_
  refine v_ldc2 (z := 1442695040888963407) kl_X10_341 (by decide +kernel) dX10_draw_9 ?_
  refine v_ladd dX10_draw_12 ?_
  refine v_rp 53 hM hF (flS_53 G _ _) fp_X10_336 rfl rfl (Nat.le_of_ble_eq_true rfl) dX10_draw_13 (fun M hM hF => ?_)
  refine v_aload_n dX10_draw_16 rfl ?_
  refine v_rgj 53 hM upn_s fl_X10_336 rfl dX10_draw_17 ?_
  refine v_bipush dX10_draw_20 (by decide +kernel) ?_
  refine v_lushr (z := dsh (nxX X)) dX10_draw_22 (sw_ofJ _) ?_
  refine v_iload_n dX10_draw_23 rfl ?_
  refine v_i2l dX10_draw_24 ⟨by omega, by omega⟩ ?_
  refine v_lrem dX10_draw_25 ⟨by omega, by omega⟩ ⟨by omega, by omega⟩ (by omega) ?_
  refine v_l2i dX10_draw_26 ?_
  exact v_iret dX10_draw_27 rfl (Nat.le_refl _) (Nat.le_refl _) (⟨rfl, hM, hF⟩)
theorem K10_drawTruth {X : Int} {σ : SaleT} (hM : RS G M x a) (h53 : x 53 = X) (hr : rowR a k σ) (hk : 0 ≤ k ∧ k < 8) (hw : wfS σ) : Kt l G μX10_drawTruth [.ref (sw_al G 70), sw_i k] M (fun r M' => r = some (sw_i (rdT σ X)) ∧ RS G M' (upn x 53 (nxX X)) a ∧ frR M M') := by
  refine KtA.of (by decide +kernel) (Nat.le_of_ble_eq_true rfl) ?_
  have hF : frR M M := frR.rf
  have hsw := sumW_bd hw
  have htr := hw.2.1
  obtain ⟨q5, q6, q10, q11, q12, qr⟩ := id hr
  obtain ⟨dv, hdv⟩ : ∃ dv, drw (nxX X) (sm (sW σ) (sTr σ).toNat) = dv := ⟨_, rfl⟩
  have hd := drw_bd (nxX X) (k := sm (sW σ) (sTr σ).toNat) (by omega)
  have hrd : rdT σ X = fd (sW σ) (sTr σ - 1).toNat 0 dv := by unfold rdT; rw [hdv]
  rw [hdv] at hd
  obtain ⟨Zq, hZ⟩ : ∃ Zq : Option Value → sw_M → Prop, Zq = (fun r M' => r = some (sw_i (rdT σ X)) ∧ RS G M' (upn x 53 (nxX X)) a ∧ frR M M') := ⟨_, rfl⟩
  rw [← hZ]
  have loop : ∀ (n : Nat) (t left : Int) (M1 : sw_M), 0 ≤ t → t + n = sTr σ - 1 → 0 ≤ left → left + sm (sW σ) t.toNat = dv → fd (sW σ) n t left = fd (sW σ) (sTr σ - 1).toNat 0 dv → RS G M1 (upn x 53 (nxX X)) a → frR M M1 → V l G μX10_drawTruth sw_E0 (sw_Zq G μX10_drawTruth (sw_q0 G Zq)) 12 [(0, .ref (sw_al G 70)), (1, sw_i k), (2, sw_i left), (3, sw_i t)] [] M1 0 0 := by
    intro n
    induction n with
    | zero =>
      intro t left M1 h0 ht hl hs he hM hF
      have he : t = fd (sW σ) (sTr σ - 1).toNat 0 dv := he
      have hst := sm_step (sW σ) h0
      rw [show t + 1 = sTr σ by omega] at hst
      have hwt := hw.2.2.2.2.2.1 t h0 (by omega)
      refine v_iload_n dX10_drawTruth_12 rfl ?_
      refine v_aload_n dX10_drawTruth_13 rfl ?_
      refine v_getfH 8 hM.1 fl_X10_22 rfl dX10_drawTruth_14 ?_
      refine v_bipush dX10_drawTruth_17 (by decide +kernel) ?_
      refine v_iload_n dX10_drawTruth_19 rfl ?_
      refine v_imul dX10_drawTruth_20 ?_
      refine v_iload_n dX10_drawTruth_21 rfl ?_
      refine v_iadd dX10_drawTruth_22 ?_
      refine v_ria hM ar_8 (by omega) (by omega) (qr t h0 (by omega)).2.1 dX10_drawTruth_23 ?_
      refine v_icmp_lt (tgt := 47) dX10_drawTruth_24 (by decide) ⟨by omega, by omega⟩ ⟨by omega, by omega⟩ (fun h24 => ?_) (fun h24 => ?_)
      · skip
        refine v_iload_n dX10_drawTruth_47 rfl ?_
        exact v_iret dX10_drawTruth_48 rfl (Nat.le_refl _) (Nat.le_refl _) (by rw [hZ, hrd, ← he]; exact ⟨rfl, hM, hF⟩)
      · skip
        exfalso; omega
    | succ n ih =>
      intro t left M1 h0 ht hl hs he hM hF
      have hst := sm_step (sW σ) h0
      have hwt := hw.2.2.2.2.2.1 t h0 (by omega)
      have e1 : fd (sW σ) (n + 1) t left = if left - sW σ t < 0 then t else fd (sW σ) n (t + 1) (left - sW σ t) := rfl
      have hsn : 0 ≤ sm (sW σ) t.toNat := by have := sm_bd (f := sW σ) (A := 0) (B := 9) t.toNat (fun i i0 i1 => by have := hw.2.2.2.2.2.1 i i0 (by omega); omega); omega
      refine v_iload_n dX10_drawTruth_12 rfl ?_
      refine v_aload_n dX10_drawTruth_13 rfl ?_
      refine v_getfH 8 hM.1 fl_X10_22 rfl dX10_drawTruth_14 ?_
      refine v_bipush dX10_drawTruth_17 (by decide +kernel) ?_
      refine v_iload_n dX10_drawTruth_19 rfl ?_
      refine v_imul dX10_drawTruth_20 ?_
      refine v_iload_n dX10_drawTruth_21 rfl ?_
      refine v_iadd dX10_drawTruth_22 ?_
      refine v_ria hM ar_8 (by omega) (by omega) (qr t h0 (by omega)).2.1 dX10_drawTruth_23 ?_
      refine v_icmp_lt (tgt := 47) dX10_drawTruth_24 (by decide) ⟨by omega, by omega⟩ ⟨by omega, by omega⟩ (fun h24 => ?_) (fun h24 => ?_)
      · skip
        rw [e1, if_pos (by omega)] at he
        refine v_iload_n dX10_drawTruth_47 rfl ?_
        exact v_iret dX10_drawTruth_48 rfl (Nat.le_refl _) (Nat.le_refl _) (by rw [hZ, hrd, ← he]; exact ⟨rfl, hM, hF⟩)
      · skip
        rw [e1, if_neg (by omega)] at he
        refine v_iload_n dX10_drawTruth_27 rfl ?_
        refine v_aload_n dX10_drawTruth_28 rfl ?_
        refine v_getfH 8 hM.1 fl_X10_22 rfl dX10_drawTruth_29 ?_
        refine v_bipush dX10_drawTruth_32 (by decide +kernel) ?_
        refine v_iload_n dX10_drawTruth_34 rfl ?_
        refine v_imul dX10_drawTruth_35 ?_
        refine v_iload_n dX10_drawTruth_36 rfl ?_
        refine v_iadd dX10_drawTruth_37 ?_
        refine v_ria hM ar_8 (by omega) (by omega) (qr t h0 (by omega)).2.1 dX10_drawTruth_38 ?_
        refine v_isub dX10_drawTruth_39 ?_
        refine v_istore_n dX10_drawTruth_40 (Nat.le_of_ble_eq_true rfl) ?_
        refine v_iinc dX10_drawTruth_41 rfl (Nat.le_of_ble_eq_true rfl) ?_
        refine v_goto (tgt := 12) dX10_drawTruth_44 (by decide) ?_
        exact v_to (ih (t + 1) _ _ (by omega) (by omega) (by omega) (by omega) he hM hF) rfl (sw_h1 rfl (sw_h1 rfl (sw_h1 rfl (sw_h1 rfl sw_h0))))
  refine v_aload_n dX10_drawTruth_0 rfl ?_
  refine v_aload_n dX10_drawTruth_1 rfl ?_
  refine v_iload_n dX10_drawTruth_2 rfl ?_
  refine v_callV (ci := 10) (K10_allWeights hM hr ⟨by omega, by omega⟩ ⟨by omega, by omega⟩) ⟨rfl, rfl⟩ (Nat.le_refl _) (Nat.le_refl _) hM.1 rfl ⟨ml_X10_132, mm_X10_allWeights⟩ ⟨(Nat.le_of_ble_eq_true rfl), (Nat.le_of_ble_eq_true rfl)⟩ mp_X10_allWeights rfl rfl (Nat.le_of_ble_eq_true rfl) dX10_drawTruth_3 (fun r M' h => ?_)
  obtain ⟨rfl, rfl⟩ := h
  refine v_callV (ci := 10) (K10_draw hM h53 (k := sm (sW σ) (sTr σ).toNat) ⟨by omega, by omega⟩) ⟨rfl, rfl⟩ (Nat.le_refl _) (Nat.le_refl _) hM.1 rfl ⟨ml_X10_343, mm_X10_draw⟩ ⟨(Nat.le_of_ble_eq_true rfl), (Nat.le_of_ble_eq_true rfl)⟩ mp_X10_draw rfl rfl (Nat.le_of_ble_eq_true rfl) dX10_drawTruth_6 (fun r M' h => ?_)
  obtain ⟨rfl, hM1, hF1⟩ := h
  replace hM := hM1
  replace hF := hF.tr hF1
  rw [hdv]
  refine v_istore_n dX10_drawTruth_9 (Nat.le_of_ble_eq_true rfl) ?_
  refine v_iconst dX10_drawTruth_10 ?_
  refine v_istore_n dX10_drawTruth_11 (Nat.le_of_ble_eq_true rfl) ?_
  exact v_to (loop (sTr σ - 1).toNat 0 dv _ (by omega) (by omega) (by omega) (by show dv + 0 = dv; omega) rfl hM hF) rfl (sw_h1 rfl (sw_h1 rfl (sw_h1 rfl (sw_h1 rfl sw_h0))))
theorem K10_drawSign {X tr : Int} {σ : SaleT} (hM : RS G M x a) (h53 : x 53 = X) (hr : rowR a k σ) (hk : 0 ≤ k ∧ k < 8) (hw : wfS σ) (htr : 0 ≤ tr ∧ tr < sTr σ) : Kt l G μX10_drawSign [.ref (sw_al G 70), sw_i k, sw_i tr] M (fun r M' => r = some (sw_i (fd (see σ tr) (sSg σ - 1).toNat 0 (drw (nxX X) 10))) ∧ RS G M' (upn x 53 (nxX X)) a ∧ frR M M') := by
  refine KtA.of (by decide +kernel) (Nat.le_of_ble_eq_true rfl) ?_
  have hF : frR M M := frR.rf
  have hsg := hw.1
  have htr8 := hw.2.1
  obtain ⟨q5, q6, q10, q11, q12, qr⟩ := id hr
  have qo := (qr tr htr.1 htr.2).2.2
  obtain ⟨dv, hdv⟩ : ∃ dv, drw (nxX X) 10 = dv := ⟨_, rfl⟩
  have hd := drw_bd (nxX X) (k := 10) (by omega)
  rw [hdv] at hd ⊢
  have hob : ∀ i, 0 ≤ i → i < sSg σ → 0 ≤ sO σ (tr * 5 + i) ∧ sO σ (tr * 5 + i) ≤ 10 := fun i i0 i1 => by have := hw.2.2.2.2.2.2.1 tr i htr.1 htr.2 i0 i1; omega
  have h10 : sm (fun d => sO σ (tr * 5 + d)) (sSg σ).toNat = 10 := hw.2.2.2.2.2.2.2.1 tr htr.1 htr.2
  have hse : ∀ i, 0 ≤ i → i < sSg σ → see σ tr i = sO σ (tr * 5 + i) := fun i i0 i1 => if_pos ⟨i0, i1⟩
  obtain ⟨Zq, hZ⟩ : ∃ Zq : Option Value → sw_M → Prop, Zq = (fun r M' => r = some (sw_i (fd (see σ tr) (sSg σ - 1).toNat 0 dv)) ∧ RS G M' (upn x 53 (nxX X)) a ∧ frR M M') := ⟨_, rfl⟩
  rw [← hZ]
  have loop : ∀ (n : Nat) (t left : Int) (M1 : sw_M), 0 ≤ t → t + n = sSg σ - 1 → 0 ≤ left → left + sm (fun d => sO σ (tr * 5 + d)) t.toNat = dv → fd (see σ tr) n t left = fd (see σ tr) (sSg σ - 1).toNat 0 dv → RS G M1 (upn x 53 (nxX X)) a → frR M M1 → V l G μX10_drawSign sw_E0 (sw_Zq G μX10_drawSign (sw_q0 G Zq)) 10 [(0, .ref (sw_al G 70)), (1, sw_i k), (2, sw_i tr), (3, sw_i left), (4, sw_i t)] [] M1 0 0 := by
    intro n
    induction n with
    | zero =>
      intro t left M1 h0 ht hl hs he hM hF
      have he : t = fd (see σ tr) (sSg σ - 1).toNat 0 dv := he
      have hst : sm (fun d => sO σ (tr * 5 + d)) (t + 1).toNat = sm (fun d => sO σ (tr * 5 + d)) t.toNat + sO σ (tr * 5 + t) := sm_step _ h0
      rw [show t + 1 = sSg σ by omega] at hst
      have hwt := hob t h0 (by omega)
      refine v_iload_n dX10_drawSign_10 rfl ?_
      refine v_aload_n dX10_drawSign_11 rfl ?_
      refine v_getfH 9 hM.1 fl_X10_25 rfl dX10_drawSign_12 ?_
      refine v_iconst dX10_drawSign_15 ?_
      refine v_bipush dX10_drawSign_16 (by decide +kernel) ?_
      refine v_iload_n dX10_drawSign_18 rfl ?_
      refine v_imul dX10_drawSign_19 ?_
      refine v_iload_n dX10_drawSign_20 rfl ?_
      refine v_iadd dX10_drawSign_21 ?_
      refine v_imul dX10_drawSign_22 ?_
      refine v_iload dX10_drawSign_23 rfl ?_
      refine v_iadd dX10_drawSign_25 ?_
      refine v_ria hM ar_9 (by omega) (by omega) (qo t h0 (by omega)) dX10_drawSign_26 ?_
      refine v_icmp_lt (tgt := 55) dX10_drawSign_27 (by decide) ⟨by omega, by omega⟩ ⟨by omega, by omega⟩ (fun h27 => ?_) (fun h27 => ?_)
      · skip
        refine v_iload dX10_drawSign_55 rfl ?_
        exact v_iret dX10_drawSign_57 rfl (Nat.le_refl _) (Nat.le_refl _) (by rw [hZ, ← he]; exact ⟨rfl, hM, hF⟩)
      · skip
        exfalso; omega
    | succ n ih =>
      intro t left M1 h0 ht hl hs he hM hF
      have hst : sm (fun d => sO σ (tr * 5 + d)) (t + 1).toNat = sm (fun d => sO σ (tr * 5 + d)) t.toNat + sO σ (tr * 5 + t) := sm_step _ h0
      have hwt := hob t h0 (by omega)
      have e1 : fd (see σ tr) (n + 1) t left = if left - see σ tr t < 0 then t else fd (see σ tr) n (t + 1) (left - see σ tr t) := rfl
      rw [hse t h0 (by omega)] at e1
      have hsn : 0 ≤ sm (fun d => sO σ (tr * 5 + d)) t.toNat := by have := sm_bd (f := fun d => sO σ (tr * 5 + d)) (A := 0) (B := 10) t.toNat (fun i i0 i1 => hob i i0 (by omega)); omega
      refine v_iload_n dX10_drawSign_10 rfl ?_
      refine v_aload_n dX10_drawSign_11 rfl ?_
      refine v_getfH 9 hM.1 fl_X10_25 rfl dX10_drawSign_12 ?_
      refine v_iconst dX10_drawSign_15 ?_
      refine v_bipush dX10_drawSign_16 (by decide +kernel) ?_
      refine v_iload_n dX10_drawSign_18 rfl ?_
      refine v_imul dX10_drawSign_19 ?_
      refine v_iload_n dX10_drawSign_20 rfl ?_
      refine v_iadd dX10_drawSign_21 ?_
      refine v_imul dX10_drawSign_22 ?_
      refine v_iload dX10_drawSign_23 rfl ?_
      refine v_iadd dX10_drawSign_25 ?_
      refine v_ria hM ar_9 (by omega) (by omega) (qo t h0 (by omega)) dX10_drawSign_26 ?_
      refine v_icmp_lt (tgt := 55) dX10_drawSign_27 (by decide) ⟨by omega, by omega⟩ ⟨by omega, by omega⟩ (fun h27 => ?_) (fun h27 => ?_)
      · skip
        rw [e1, if_pos (by omega)] at he
        refine v_iload dX10_drawSign_55 rfl ?_
        exact v_iret dX10_drawSign_57 rfl (Nat.le_refl _) (Nat.le_refl _) (by rw [hZ, ← he]; exact ⟨rfl, hM, hF⟩)
      · skip
        rw [e1, if_neg (by omega)] at he
        refine v_iload_n dX10_drawSign_30 rfl ?_
        refine v_aload_n dX10_drawSign_31 rfl ?_
        refine v_getfH 9 hM.1 fl_X10_25 rfl dX10_drawSign_32 ?_
        refine v_iconst dX10_drawSign_35 ?_
        refine v_bipush dX10_drawSign_36 (by decide +kernel) ?_
        refine v_iload_n dX10_drawSign_38 rfl ?_
        refine v_imul dX10_drawSign_39 ?_
        refine v_iload_n dX10_drawSign_40 rfl ?_
        refine v_iadd dX10_drawSign_41 ?_
        refine v_imul dX10_drawSign_42 ?_
        refine v_iload dX10_drawSign_43 rfl ?_
        refine v_iadd dX10_drawSign_45 ?_
        refine v_ria hM ar_9 (by omega) (by omega) (qo t h0 (by omega)) dX10_drawSign_46 ?_
        refine v_isub dX10_drawSign_47 ?_
        refine v_istore_n dX10_drawSign_48 (Nat.le_of_ble_eq_true rfl) ?_
        refine v_iinc dX10_drawSign_49 rfl (Nat.le_of_ble_eq_true rfl) ?_
        refine v_goto (tgt := 10) dX10_drawSign_52 (by decide) ?_
        exact v_to (ih (t + 1) _ _ (by omega) (by omega) (by omega) (by omega) he hM hF) rfl (sw_h1 rfl (sw_h1 rfl (sw_h1 rfl (sw_h1 rfl (sw_h1 rfl sw_h0)))))
  refine v_aload_n dX10_drawSign_0 rfl ?_
  refine v_bipush dX10_drawSign_1 (by decide +kernel) ?_
  refine v_callV (ci := 10) (K10_draw hM h53 (k := 10) ⟨by omega, by omega⟩) ⟨rfl, rfl⟩ (Nat.le_refl _) (Nat.le_refl _) hM.1 rfl ⟨ml_X10_343, mm_X10_draw⟩ ⟨(Nat.le_of_ble_eq_true rfl), (Nat.le_of_ble_eq_true rfl)⟩ mp_X10_draw rfl rfl (Nat.le_of_ble_eq_true rfl) dX10_drawSign_3 (fun r M' h => ?_)
  obtain ⟨rfl, hM1, hF1⟩ := h
  replace hM := hM1
  replace hF := hF.tr hF1
  rw [hdv]
  refine v_istore_n dX10_drawSign_6 (Nat.le_of_ble_eq_true rfl) ?_
  refine v_iconst dX10_drawSign_7 ?_
  refine v_istore dX10_drawSign_8 (Nat.le_of_ble_eq_true rfl) ?_
  exact v_to (loop (sSg σ - 1).toNat 0 dv _ (by omega) (by omega) (by omega) (by show dv + 0 = dv; omega) rfl hM hF) rfl (sw_h1 rfl (sw_h1 rfl (sw_h1 rfl (sw_h1 rfl (sw_h1 rfl sw_h0)))))
theorem K10_change {i b sg old : Int} (hM : RS G M x a) (hi : 0 ≤ i ∧ i < 4) (h25 : a 25 i = sg) (hsg : 0 ≤ sg ∧ sg < 5) (h48 : a 48 (5 * i + sg) = old) (ho : 0 ≤ old ∧ old ≤ 60) (hb : -1 ≤ b ∧ b ≤ 1) : Kt l G μX10_change_ [.ref (sw_al G 70), sw_i i, sw_i b] M (fun r M' => r = none ∧ RS G M' x (upa a 48 (up (a 48) (5 * i + sg) (clp (old + b)))) ∧ frR M M') := by
  refine KtA.of (by decide +kernel) (Nat.le_of_ble_eq_true rfl) ?_
  have hF : frR M M := frR.rf
  refine v_iconst dX10_change__0 ?_
  refine v_iload_n dX10_change__1 rfl ?_
  refine v_imul dX10_change__2 ?_
  refine v_aload_n dX10_change__3 rfl ?_
  refine v_getfH 25 hM.1 fl_X10_52 rfl dX10_change__4 ?_
  refine v_iload_n dX10_change__7 rfl ?_
  refine v_ria hM ar_25 (by omega) (by omega) h25 dX10_change__8 ?_
  refine v_iadd dX10_change__9 ?_
  refine v_istore_n dX10_change__10 (Nat.le_of_ble_eq_true rfl) ?_
  refine v_aload_n dX10_change__11 rfl ?_
  refine v_getfH 48 hM.1 fl_X10_70 rfl dX10_change__12 ?_
  refine v_iload_n dX10_change__15 rfl ?_
  refine v_iconst dX10_change__16 ?_
  refine v_bipush dX10_change__17 (by decide +kernel) ?_
  refine v_aload_n dX10_change__19 rfl ?_
  refine v_getfH 48 hM.1 fl_X10_70 rfl dX10_change__20 ?_
  refine v_iload_n dX10_change__23 rfl ?_
  refine v_ria hM ar_48 (by omega) (by omega) h48 dX10_change__24 ?_
  refine v_iload_n dX10_change__25 rfl ?_
  refine v_iadd dX10_change__26 ?_
  refine v_min ⟨by omega, by omega⟩ ⟨by omega, by omega⟩ ql_X10_367 ⟨Nat.le_of_ble_eq_true rfl, Nat.le_of_ble_eq_true rfl⟩ (Nat.le_refl _) (Nat.le_refl _) dX10_change__27 ?_
  refine v_max ⟨by omega, by omega⟩ ⟨by split <;> omega, by split <;> omega⟩ ql_X10_208 ⟨Nat.le_of_ble_eq_true rfl, Nat.le_of_ble_eq_true rfl⟩ (Nat.le_refl _) (Nat.le_refl _) dX10_change__30 ?_
  refine v_ris hM hF ar_48 (by omega) (by omega) dX10_change__33 (fun M hM hF => ?_)
  exact v_vret dX10_change__34 rfl (Nat.le_refl _) (Nat.le_refl _) (⟨rfl, hM, hF⟩)
theorem R9_thrown {z : Int} (hM : RS G M x a) (h0 : x 0 = z) : Kt l G μX10_thrown [.ref (sw_al G 70)] M (fun r M' => r = some (sw_i z) ∧ M' = M) := by
  refine KtA.of (by decide +kernel) (Nat.le_of_ble_eq_true rfl) ?_
  refine v_aload_n dX10_thrown_0 rfl ?_
  refine v_rgi 0 hM h0 fl_X10_76 rfl dX10_thrown_1 ?_
  exact v_iret dX10_thrown_4 rfl (Nat.le_refl _) (Nat.le_refl _) (⟨rfl, rfl⟩)
/-- what a truth tells; whether it throws -/
def trP (σ : SaleT) (t what : Int) : Prop := (0 ≤ t ∧ t < sTr σ) ∧ (0 ≤ what ∧ what < sSg σ ∨ what = 5 ∨ what = 6)
def trV (σ : SaleT) (t what : Int) : Int := if what = 5 then sV σ t else if what = 6 then sW σ t else sO σ (t * 5 + what)
theorem R9_truth {t what : Int} (hM : RS G M x a) (hRI : RI s x a) (hs : stOK s) (hk : isS s k) (ht : trP (sl s k) t what) : Kt l G μX10_truth [.ref (sw_al G 70), sw_i k, sw_i t, sw_i what] M (fun r M' => ∃ x', r = some (sw_i (trV (sl s k) t what)) ∧ RS G M' x' a ∧ RI s x' a ∧ frR M M' ∧ x' 0 = 0) := by
  refine KtA.of (by decide +kernel) (Nat.le_of_ble_eq_true rfl) ?_
  have hF : frR M M := frR.rf
  have hw := hs.sale hk
  have hsg := hw.1
  have htr := hw.2.1
  have hns : qN s ≤ 8 := hs.2.1
  obtain ⟨hk0, hk1⟩ := id hk
  obtain ⟨q5, q6, q10, q11, q12, qr⟩ := hRI.row hk
  obtain ⟨t1, t2⟩ := ht
  obtain ⟨v1, v2, v3⟩ := qr t t1.1 t1.2
  have hR0 : RI s (upn x 0 0) a := hRI.fr (xfr.rf.up (k := 0) (by decide)) (afr.rf)
  refine v_aload_n dX10_truth_0 rfl ?_
  refine v_aload_n dX10_truth_1 rfl ?_
  refine v_iload_n dX10_truth_2 rfl ?_
  refine v_callV (ci := 10) (K10_isSale hM hRI.2.2.1 ⟨by omega, by omega⟩ ⟨by omega, by omega⟩) ⟨rfl, rfl⟩ (Nat.le_refl _) (Nat.le_refl _) hM.1 rfl ⟨ml_X10_129, mm_X10_isSale⟩ ⟨(Nat.le_of_ble_eq_true rfl), (Nat.le_of_ble_eq_true rfl)⟩ mp_X10_isSale rfl rfl (Nat.le_of_ble_eq_true rfl) dX10_truth_3 (fun r M' h => ?_)
  obtain ⟨rfl, rfl⟩ := h
  refine v_ifb_eq (tgt := 55) dX10_truth_6 (by decide) (fun h6 => ?_) (fun h6 => ?_)
  · skip
    exact absurd hk (by assumption)
  · skip
    refine v_iload_n dX10_truth_9 rfl ?_
    refine v_iconst dX10_truth_10 ?_
    refine v_aload_n dX10_truth_11 rfl ?_
    refine v_getfH 6 hM.1 fl_X10_16 rfl dX10_truth_12 ?_
    refine v_iload_n dX10_truth_15 rfl ?_
    refine v_ria hM ar_6 (by omega) (by omega) q6 dX10_truth_16 ?_
    refine v_iconst dX10_truth_17 ?_
    refine v_isub dX10_truth_18 ?_
    refine v_callS (K10_in (v := t) (lo := 0) (hi := sTr (sl s k) - 1) ⟨by omega, by omega⟩ ⟨by omega, by omega⟩ ⟨by omega, by omega⟩) ⟨rfl, rfl⟩ (Nat.le_refl _) (Nat.le_refl _) ⟨ml_X10_107, mm_X10_in⟩ ⟨(Nat.le_of_ble_eq_true rfl), (Nat.le_of_ble_eq_true rfl)⟩ mp_X10_in rfl rfl (Nat.le_of_ble_eq_true rfl) dX10_truth_19 (fun r M' h => ?_)
    obtain ⟨rfl, rfl⟩ := h
    refine v_ifb_eq (tgt := 55) dX10_truth_22 (by decide) (fun h22 => ?_) (fun h22 => ?_)
    · skip
      exfalso; omega
    · skip
      refine v_iload_n dX10_truth_25 rfl ?_
      refine v_iconst dX10_truth_26 ?_
      refine v_aload_n dX10_truth_27 rfl ?_
      refine v_getfH 5 hM.1 fl_X10_13 rfl dX10_truth_28 ?_
      refine v_iload_n dX10_truth_31 rfl ?_
      refine v_ria hM ar_5 (by omega) (by omega) q5 dX10_truth_32 ?_
      refine v_iconst dX10_truth_33 ?_
      refine v_isub dX10_truth_34 ?_
      refine v_callS (K10_in (v := what) (lo := 0) (hi := sSg (sl s k) - 1) ⟨by omega, by omega⟩ ⟨by omega, by omega⟩ ⟨by omega, by omega⟩) ⟨rfl, rfl⟩ (Nat.le_refl _) (Nat.le_refl _) ⟨ml_X10_107, mm_X10_in⟩ ⟨(Nat.le_of_ble_eq_true rfl), (Nat.le_of_ble_eq_true rfl)⟩ mp_X10_in rfl rfl (Nat.le_of_ble_eq_true rfl) dX10_truth_35 (fun r M' h => ?_)
      obtain ⟨rfl, rfl⟩ := h
      refine v_ifb_ne (tgt := 51) dX10_truth_38 (by decide) (fun h38 => ?_) (fun h38 => ?_)
      · skip
        refine v_iconst dX10_truth_51 ?_
        refine v_goto (tgt := 56) dX10_truth_52 (by decide) ?_
        refine v_rp 0 hM hF (flS_0 G _ _) fp_X10_76 rfl rfl (Nat.le_of_ble_eq_true rfl) dX10_truth_56 (fun M hM hF => ?_)
        refine v_aload_n dX10_truth_59 rfl ?_
        refine v_rgi 0 hM upn_s fl_X10_76 rfl dX10_truth_60 ?_
        refine v_iconst dX10_truth_63 ?_
        refine v_icmp_ne (tgt := 69) dX10_truth_64 (by decide) ⟨by omega, by omega⟩ ⟨by omega, by omega⟩ (fun h64 => ?_) (fun h64 => ?_)
        · skip
          refine v_bipush dX10_truth_69 (by decide +kernel) ?_
          refine v_iload_n dX10_truth_71 rfl ?_
          refine v_imul dX10_truth_72 ?_
          refine v_iload_n dX10_truth_73 rfl ?_
          refine v_iadd dX10_truth_74 ?_
          refine v_istore dX10_truth_75 (Nat.le_of_ble_eq_true rfl) ?_
          refine v_iload_n dX10_truth_77 rfl ?_
          refine v_iconst dX10_truth_78 ?_
          refine v_icmp_ne (tgt := 92) dX10_truth_79 (by decide) ⟨by omega, by omega⟩ ⟨by omega, by omega⟩ (fun h79 => ?_) (fun h79 => ?_)
          · skip
            refine v_iload_n dX10_truth_92 rfl ?_
            refine v_bipush dX10_truth_93 (by decide +kernel) ?_
            refine v_icmp_ne (tgt := 108) dX10_truth_95 (by decide) ⟨by omega, by omega⟩ ⟨by omega, by omega⟩ (fun h95 => ?_) (fun h95 => ?_)
            · skip
              refine v_aload_n dX10_truth_108 rfl ?_
              refine v_getfH 9 hM.1 fl_X10_25 rfl dX10_truth_109 ?_
              refine v_iconst dX10_truth_112 ?_
              refine v_iload dX10_truth_113 rfl ?_
              refine v_imul dX10_truth_115 ?_
              refine v_iload_n dX10_truth_116 rfl ?_
              refine v_iadd dX10_truth_117 ?_
              refine v_ria hM ar_9 (by omega) (by omega) (v3 what (by omega) (by omega)) dX10_truth_118 ?_
              exact v_iret dX10_truth_119 rfl (Nat.le_refl _) (Nat.le_refl _) (⟨_, by unfold trV; rw [if_neg (by omega), if_neg (by omega)], hM, hR0, hF, upn_s⟩)
            · skip
              refine v_aload_n dX10_truth_98 rfl ?_
              refine v_getfH 8 hM.1 fl_X10_22 rfl dX10_truth_99 ?_
              refine v_iload dX10_truth_102 rfl ?_
              refine v_ria hM ar_8 (by omega) (by omega) v2 dX10_truth_104 ?_
              refine v_goto (tgt := 119) dX10_truth_105 (by decide) ?_
              exact v_iret dX10_truth_119 rfl (Nat.le_refl _) (Nat.le_refl _) (⟨_, by unfold trV; rw [if_neg (by omega), if_pos (by omega)], hM, hR0, hF, upn_s⟩)
          · skip
            refine v_aload_n dX10_truth_82 rfl ?_
            refine v_getfH 7 hM.1 fl_X10_19 rfl dX10_truth_83 ?_
            refine v_iload dX10_truth_86 rfl ?_
            refine v_ria hM ar_7 (by omega) (by omega) v1 dX10_truth_88 ?_
            refine v_goto (tgt := 119) dX10_truth_89 (by decide) ?_
            exact v_iret dX10_truth_119 rfl (Nat.le_refl _) (Nat.le_refl _) (⟨_, by unfold trV; rw [if_pos (by omega)], hM, hR0, hF, upn_s⟩)
        · skip
          exfalso; omega
      · skip
        refine v_iload_n dX10_truth_41 rfl ?_
        refine v_iconst dX10_truth_42 ?_
        refine v_bipush dX10_truth_43 (by decide +kernel) ?_
        refine v_callS (K10_in (v := what) (lo := 5) (hi := 6) ⟨by omega, by omega⟩ ⟨by omega, by omega⟩ ⟨by omega, by omega⟩) ⟨rfl, rfl⟩ (Nat.le_refl _) (Nat.le_refl _) ⟨ml_X10_107, mm_X10_in⟩ ⟨(Nat.le_of_ble_eq_true rfl), (Nat.le_of_ble_eq_true rfl)⟩ mp_X10_in rfl rfl (Nat.le_of_ble_eq_true rfl) dX10_truth_45 (fun r M' h => ?_)
        obtain ⟨rfl, rfl⟩ := h
        refine v_ifb_eq (tgt := 55) dX10_truth_48 (by decide) (fun h48 => ?_) (fun h48 => ?_)
        · skip
          exfalso; omega
        · skip
          refine v_iconst dX10_truth_51 ?_
          refine v_goto (tgt := 56) dX10_truth_52 (by decide) ?_
          refine v_rp 0 hM hF (flS_0 G _ _) fp_X10_76 rfl rfl (Nat.le_of_ble_eq_true rfl) dX10_truth_56 (fun M hM hF => ?_)
          refine v_aload_n dX10_truth_59 rfl ?_
          refine v_rgi 0 hM upn_s fl_X10_76 rfl dX10_truth_60 ?_
          refine v_iconst dX10_truth_63 ?_
          refine v_icmp_ne (tgt := 69) dX10_truth_64 (by decide) ⟨by omega, by omega⟩ ⟨by omega, by omega⟩ (fun h64 => ?_) (fun h64 => ?_)
          · skip
            refine v_bipush dX10_truth_69 (by decide +kernel) ?_
            refine v_iload_n dX10_truth_71 rfl ?_
            refine v_imul dX10_truth_72 ?_
            refine v_iload_n dX10_truth_73 rfl ?_
            refine v_iadd dX10_truth_74 ?_
            refine v_istore dX10_truth_75 (Nat.le_of_ble_eq_true rfl) ?_
            refine v_iload_n dX10_truth_77 rfl ?_
            refine v_iconst dX10_truth_78 ?_
            refine v_icmp_ne (tgt := 92) dX10_truth_79 (by decide) ⟨by omega, by omega⟩ ⟨by omega, by omega⟩ (fun h79 => ?_) (fun h79 => ?_)
            · skip
              refine v_iload_n dX10_truth_92 rfl ?_
              refine v_bipush dX10_truth_93 (by decide +kernel) ?_
              refine v_icmp_ne (tgt := 108) dX10_truth_95 (by decide) ⟨by omega, by omega⟩ ⟨by omega, by omega⟩ (fun h95 => ?_) (fun h95 => ?_)
              · skip
                refine v_aload_n dX10_truth_108 rfl ?_
                refine v_getfH 9 hM.1 fl_X10_25 rfl dX10_truth_109 ?_
                refine v_iconst dX10_truth_112 ?_
                refine v_iload dX10_truth_113 rfl ?_
                refine v_imul dX10_truth_115 ?_
                refine v_iload_n dX10_truth_116 rfl ?_
                refine v_iadd dX10_truth_117 ?_
                refine v_ria hM ar_9 (by omega) (by omega) (v3 what (by omega) (by omega)) dX10_truth_118 ?_
                exact v_iret dX10_truth_119 rfl (Nat.le_refl _) (Nat.le_refl _) (⟨_, by unfold trV; rw [if_neg (by omega), if_neg (by omega)], hM, hR0, hF, upn_s⟩)
              · skip
                refine v_aload_n dX10_truth_98 rfl ?_
                refine v_getfH 8 hM.1 fl_X10_22 rfl dX10_truth_99 ?_
                refine v_iload dX10_truth_102 rfl ?_
                refine v_ria hM ar_8 (by omega) (by omega) v2 dX10_truth_104 ?_
                refine v_goto (tgt := 119) dX10_truth_105 (by decide) ?_
                exact v_iret dX10_truth_119 rfl (Nat.le_refl _) (Nat.le_refl _) (⟨_, by unfold trV; rw [if_neg (by omega), if_pos (by omega)], hM, hR0, hF, upn_s⟩)
            · skip
              refine v_aload_n dX10_truth_82 rfl ?_
              refine v_getfH 7 hM.1 fl_X10_19 rfl dX10_truth_83 ?_
              refine v_iload dX10_truth_86 rfl ?_
              refine v_ria hM ar_7 (by omega) (by omega) v1 dX10_truth_88 ?_
              refine v_goto (tgt := 119) dX10_truth_89 (by decide) ?_
              exact v_iret dX10_truth_119 rfl (Nat.le_refl _) (Nat.le_refl _) (⟨_, by unfold trV; rw [if_pos (by omega)], hM, hR0, hF, upn_s⟩)
          · skip
            exfalso; omega
theorem R9_truthX {t what : Int} (hM : RS G M x a) (hRI : RI s x a) (hs : stOK s) (g0 : sw_rg k) (g1 : sw_rg t) (g2 : sw_rg what) (ht : ¬ (isS s k ∧ trP (sl s k) t what)) : Kt l G μX10_truth [.ref (sw_al G 70), sw_i k, sw_i t, sw_i what] M (fun r M' => ∃ x', r = some (sw_i 0) ∧ RS G M' x' a ∧ RI s x' a ∧ frR M M' ∧ x' 0 = 1) := by
  refine KtA.of (by decide +kernel) (Nat.le_of_ble_eq_true rfl) ?_
  have hF : frR M M := frR.rf
  have hns : qN s ≤ 8 := hs.2.1
  have hR0 : RI s (upn x 0 1) a := hRI.fr (xfr.rf.up (k := 0) (by decide)) (afr.rf)
  by_cases hk : isS s k
  · have hw := hs.sale hk
    have hsg := hw.1
    have htr := hw.2.1
    obtain ⟨hk0, hk1⟩ := id hk
    obtain ⟨q5, q6, q10, q11, q12, qr⟩ := hRI.row hk
    have ht2 : ¬ trP (sl s k) t what := fun h => ht ⟨hk, h⟩
    unfold trP at ht2
    refine v_aload_n dX10_truth_0 rfl ?_
    refine v_aload_n dX10_truth_1 rfl ?_
    refine v_iload_n dX10_truth_2 rfl ?_
    refine v_callV (ci := 10) (K10_isSale hM hRI.2.2.1 ⟨by omega, by omega⟩ g0) ⟨rfl, rfl⟩ (Nat.le_refl _) (Nat.le_refl _) hM.1 rfl ⟨ml_X10_129, mm_X10_isSale⟩ ⟨(Nat.le_of_ble_eq_true rfl), (Nat.le_of_ble_eq_true rfl)⟩ mp_X10_isSale rfl rfl (Nat.le_of_ble_eq_true rfl) dX10_truth_3 (fun r M' h => ?_)
    obtain ⟨rfl, rfl⟩ := h
    refine v_ifb_eq (tgt := 55) dX10_truth_6 (by decide) (fun h6 => ?_) (fun h6 => ?_)
    · skip
      exact absurd hk (by assumption)
    · skip
      refine v_iload_n dX10_truth_9 rfl ?_
      refine v_iconst dX10_truth_10 ?_
      refine v_aload_n dX10_truth_11 rfl ?_
      refine v_getfH 6 hM.1 fl_X10_16 rfl dX10_truth_12 ?_
      refine v_iload_n dX10_truth_15 rfl ?_
      refine v_ria hM ar_6 (by omega) (by omega) q6 dX10_truth_16 ?_
      refine v_iconst dX10_truth_17 ?_
      refine v_isub dX10_truth_18 ?_
      refine v_callS (K10_in (v := t) (lo := 0) (hi := sTr (sl s k) - 1) g1 ⟨by omega, by omega⟩ ⟨by omega, by omega⟩) ⟨rfl, rfl⟩ (Nat.le_refl _) (Nat.le_refl _) ⟨ml_X10_107, mm_X10_in⟩ ⟨(Nat.le_of_ble_eq_true rfl), (Nat.le_of_ble_eq_true rfl)⟩ mp_X10_in rfl rfl (Nat.le_of_ble_eq_true rfl) dX10_truth_19 (fun r M' h => ?_)
      obtain ⟨rfl, rfl⟩ := h
      refine v_ifb_eq (tgt := 55) dX10_truth_22 (by decide) (fun h22 => ?_) (fun h22 => ?_)
      · skip
        refine v_iconst dX10_truth_55 ?_
        refine v_rp 0 hM hF (flS_0 G _ _) fp_X10_76 rfl rfl (Nat.le_of_ble_eq_true rfl) dX10_truth_56 (fun M hM hF => ?_)
        refine v_aload_n dX10_truth_59 rfl ?_
        refine v_rgi 0 hM upn_s fl_X10_76 rfl dX10_truth_60 ?_
        refine v_iconst dX10_truth_63 ?_
        refine v_icmp_ne (tgt := 69) dX10_truth_64 (by decide) ⟨by omega, by omega⟩ ⟨by omega, by omega⟩ (fun h64 => ?_) (fun h64 => ?_)
        · skip
          exfalso; omega
        · skip
          refine v_iconst dX10_truth_67 ?_
          exact v_iret dX10_truth_68 rfl (Nat.le_refl _) (Nat.le_refl _) (⟨_, rfl, hM, hR0, hF, upn_s⟩)
      · skip
        refine v_iload_n dX10_truth_25 rfl ?_
        refine v_iconst dX10_truth_26 ?_
        refine v_aload_n dX10_truth_27 rfl ?_
        refine v_getfH 5 hM.1 fl_X10_13 rfl dX10_truth_28 ?_
        refine v_iload_n dX10_truth_31 rfl ?_
        refine v_ria hM ar_5 (by omega) (by omega) q5 dX10_truth_32 ?_
        refine v_iconst dX10_truth_33 ?_
        refine v_isub dX10_truth_34 ?_
        refine v_callS (K10_in (v := what) (lo := 0) (hi := sSg (sl s k) - 1) g2 ⟨by omega, by omega⟩ ⟨by omega, by omega⟩) ⟨rfl, rfl⟩ (Nat.le_refl _) (Nat.le_refl _) ⟨ml_X10_107, mm_X10_in⟩ ⟨(Nat.le_of_ble_eq_true rfl), (Nat.le_of_ble_eq_true rfl)⟩ mp_X10_in rfl rfl (Nat.le_of_ble_eq_true rfl) dX10_truth_35 (fun r M' h => ?_)
        obtain ⟨rfl, rfl⟩ := h
        refine v_ifb_ne (tgt := 51) dX10_truth_38 (by decide) (fun h38 => ?_) (fun h38 => ?_)
        · skip
          exfalso; omega
        · skip
          refine v_iload_n dX10_truth_41 rfl ?_
          refine v_iconst dX10_truth_42 ?_
          refine v_bipush dX10_truth_43 (by decide +kernel) ?_
          refine v_callS (K10_in (v := what) (lo := 5) (hi := 6) g2 ⟨by omega, by omega⟩ ⟨by omega, by omega⟩) ⟨rfl, rfl⟩ (Nat.le_refl _) (Nat.le_refl _) ⟨ml_X10_107, mm_X10_in⟩ ⟨(Nat.le_of_ble_eq_true rfl), (Nat.le_of_ble_eq_true rfl)⟩ mp_X10_in rfl rfl (Nat.le_of_ble_eq_true rfl) dX10_truth_45 (fun r M' h => ?_)
          obtain ⟨rfl, rfl⟩ := h
          refine v_ifb_eq (tgt := 55) dX10_truth_48 (by decide) (fun h48 => ?_) (fun h48 => ?_)
          · skip
            refine v_iconst dX10_truth_55 ?_
            refine v_rp 0 hM hF (flS_0 G _ _) fp_X10_76 rfl rfl (Nat.le_of_ble_eq_true rfl) dX10_truth_56 (fun M hM hF => ?_)
            refine v_aload_n dX10_truth_59 rfl ?_
            refine v_rgi 0 hM upn_s fl_X10_76 rfl dX10_truth_60 ?_
            refine v_iconst dX10_truth_63 ?_
            refine v_icmp_ne (tgt := 69) dX10_truth_64 (by decide) ⟨by omega, by omega⟩ ⟨by omega, by omega⟩ (fun h64 => ?_) (fun h64 => ?_)
            · skip
              exfalso; omega
            · skip
              refine v_iconst dX10_truth_67 ?_
              exact v_iret dX10_truth_68 rfl (Nat.le_refl _) (Nat.le_refl _) (⟨_, rfl, hM, hR0, hF, upn_s⟩)
          · skip
            exfalso; omega
  · skip
    refine v_aload_n dX10_truth_0 rfl ?_
    refine v_aload_n dX10_truth_1 rfl ?_
    refine v_iload_n dX10_truth_2 rfl ?_
    refine v_callV (ci := 10) (K10_isSale hM hRI.2.2.1 ⟨by omega, by omega⟩ g0) ⟨rfl, rfl⟩ (Nat.le_refl _) (Nat.le_refl _) hM.1 rfl ⟨ml_X10_129, mm_X10_isSale⟩ ⟨(Nat.le_of_ble_eq_true rfl), (Nat.le_of_ble_eq_true rfl)⟩ mp_X10_isSale rfl rfl (Nat.le_of_ble_eq_true rfl) dX10_truth_3 (fun r M' h => ?_)
    obtain ⟨rfl, rfl⟩ := h
    refine v_ifb_eq (tgt := 55) dX10_truth_6 (by decide) (fun h6 => ?_) (fun h6 => ?_)
    · skip
      refine v_iconst dX10_truth_55 ?_
      refine v_rp 0 hM hF (flS_0 G _ _) fp_X10_76 rfl rfl (Nat.le_of_ble_eq_true rfl) dX10_truth_56 (fun M hM hF => ?_)
      refine v_aload_n dX10_truth_59 rfl ?_
      refine v_rgi 0 hM upn_s fl_X10_76 rfl dX10_truth_60 ?_
      refine v_iconst dX10_truth_63 ?_
      refine v_icmp_ne (tgt := 69) dX10_truth_64 (by decide) ⟨by omega, by omega⟩ ⟨by omega, by omega⟩ (fun h64 => ?_) (fun h64 => ?_)
      · skip
        exfalso; omega
      · skip
        refine v_iconst dX10_truth_67 ?_
        exact v_iret dX10_truth_68 rfl (Nat.le_refl _) (Nat.le_refl _) (⟨_, rfl, hM, hR0, hF, upn_s⟩)
    · skip
      exact absurd (by assumption) hk
theorem R9_learned {i w : Int} (hM : RS G M x a) (hRI : RI s x a) (hs : stOK s) (hi : 0 ≤ i ∧ i < qM s) (hw : 0 ≤ w ∧ w ≤ 5) : Kt l G μX10_learned [.ref (sw_al G 70), sw_i i, sw_i w] M (fun r M' => ∃ x', r = some (sw_i (if w = 5 then qG s i else qR s (i * 5 + w))) ∧ RS G M' x' a ∧ RI s x' a ∧ frR M M' ∧ x' 0 = 0) := by
  refine KtA.of (by decide +kernel) (Nat.le_of_ble_eq_true rfl) ?_
  have hF : frR M M := frR.rf
  have hR0 : RI s (upn x 0 0) a := hRI.fr (xfr.rf.up (k := 0) (by decide)) (afr.rf)
  obtain ⟨g1, g2, g3, g4, g5, g6, g7, g8, h50, g10, g11, g12, h51b⟩ := id hRI
  have hqm : 0 ≤ qM s ∧ qM s ≤ 4 := hs.2.2.2.2.2.1
  obtain ⟨sgl, h51⟩ : ∃ z, x 51 = z := ⟨_, rfl⟩
  rw [h51] at h51b
  have g12' := fun h5 => g12 i w hi.1 hi.2 hw.1 h5
  rw [h51] at g12'
  refine v_aload_n dX10_learned_0 rfl ?_
  refine v_iload_n dX10_learned_1 rfl ?_
  refine v_iconst dX10_learned_2 ?_
  refine v_aload_n dX10_learned_3 rfl ?_
  refine v_rgi 50 hM h50 fl_X10_346 rfl dX10_learned_4 ?_
  refine v_iconst dX10_learned_7 ?_
  refine v_isub dX10_learned_8 ?_
  refine v_callS (K10_in (v := i) (lo := 0) (hi := qM s - 1) ⟨by omega, by omega⟩ ⟨by omega, by omega⟩ ⟨by omega, by omega⟩) ⟨rfl, rfl⟩ (Nat.le_refl _) (Nat.le_refl _) ⟨ml_X10_107, mm_X10_in⟩ ⟨(Nat.le_of_ble_eq_true rfl), (Nat.le_of_ble_eq_true rfl)⟩ mp_X10_in rfl rfl (Nat.le_of_ble_eq_true rfl) dX10_learned_9 (fun r M' h => ?_)
  obtain ⟨rfl, rfl⟩ := h
  refine v_ifb_eq (tgt := 28) dX10_learned_12 (by decide) (fun h12 => ?_) (fun h12 => ?_)
  · skip
    exfalso; omega
  · skip
    refine v_iload_n dX10_learned_15 rfl ?_
    refine v_iconst dX10_learned_16 ?_
    refine v_iconst dX10_learned_17 ?_
    refine v_callS (K10_in (v := w) (lo := 0) (hi := 5) ⟨by omega, by omega⟩ ⟨by omega, by omega⟩ ⟨by omega, by omega⟩) ⟨rfl, rfl⟩ (Nat.le_refl _) (Nat.le_refl _) ⟨ml_X10_107, mm_X10_in⟩ ⟨(Nat.le_of_ble_eq_true rfl), (Nat.le_of_ble_eq_true rfl)⟩ mp_X10_in rfl rfl (Nat.le_of_ble_eq_true rfl) dX10_learned_18 (fun r M' h => ?_)
    obtain ⟨rfl, rfl⟩ := h
    refine v_ifb_eq (tgt := 28) dX10_learned_21 (by decide) (fun h21 => ?_) (fun h21 => ?_)
    · skip
      exfalso; omega
    · skip
      refine v_iconst dX10_learned_24 ?_
      refine v_goto (tgt := 29) dX10_learned_25 (by decide) ?_
      refine v_rp 0 hM hF (flS_0 G _ _) fp_X10_76 rfl rfl (Nat.le_of_ble_eq_true rfl) dX10_learned_29 (fun M hM hF => ?_)
      refine v_aload_n dX10_learned_32 rfl ?_
      refine v_rgi 0 hM upn_s fl_X10_76 rfl dX10_learned_33 ?_
      refine v_iconst dX10_learned_36 ?_
      refine v_icmp_ne (tgt := 44) dX10_learned_37 (by decide) ⟨by omega, by omega⟩ ⟨by omega, by omega⟩ (fun h37 => ?_) (fun h37 => ?_)
      · skip
        refine v_iload_n dX10_learned_44 rfl ?_
        refine v_iconst dX10_learned_45 ?_
        refine v_icmp_ne (tgt := 58) dX10_learned_46 (by decide) ⟨by omega, by omega⟩ ⟨by omega, by omega⟩ (fun h46 => ?_) (fun h46 => ?_)
        · skip
          refine v_iload_n dX10_learned_58 rfl ?_
          refine v_aload_n dX10_learned_59 rfl ?_
          refine v_rgi 51 hM ((upn_o (by decide)).trans h51) fl_X10_349 rfl dX10_learned_60 ?_
          refine v_icmp_ge (tgt := 79) dX10_learned_63 (by decide) ⟨by omega, by omega⟩ ⟨by omega, by omega⟩ (fun h63 => ?_) (fun h63 => ?_)
          · skip
            refine v_iconst dX10_learned_79 ?_
            exact v_iret dX10_learned_80 rfl (Nat.le_refl _) (Nat.le_refl _) (⟨_, by rw [if_neg (by omega), ← g12' (by omega), if_neg (by omega)], hM, hR0, hF, upn_s⟩)
          · skip
            refine v_aload_n dX10_learned_66 rfl ?_
            refine v_getfH 48 hM.1 fl_X10_70 rfl dX10_learned_67 ?_
            refine v_iconst dX10_learned_70 ?_
            refine v_iload_n dX10_learned_71 rfl ?_
            refine v_imul dX10_learned_72 ?_
            refine v_iload_n dX10_learned_73 rfl ?_
            refine v_iadd dX10_learned_74 ?_
            refine v_ria hM ar_48 (by omega) (by omega) rfl dX10_learned_75 ?_
            refine v_goto (tgt := 80) dX10_learned_76 (by decide) ?_
            exact v_iret dX10_learned_80 rfl (Nat.le_refl _) (Nat.le_refl _) (⟨_, by rw [if_neg (by omega), ← g12' (by omega), if_pos (by omega)], hM, hR0, hF, upn_s⟩)
        · skip
          refine v_aload_n dX10_learned_49 rfl ?_
          refine v_getfH 49 hM.1 fl_X10_73 rfl dX10_learned_50 ?_
          refine v_iload_n dX10_learned_53 rfl ?_
          refine v_ria hM ar_49 (by omega) (by omega) (g11 i hi.1 hi.2) dX10_learned_54 ?_
          refine v_goto (tgt := 80) dX10_learned_55 (by decide) ?_
          exact v_iret dX10_learned_80 rfl (Nat.le_refl _) (Nat.le_refl _) (⟨_, by rw [if_pos (by omega)], hM, hR0, hF, upn_s⟩)
      · skip
        exfalso; omega
theorem R9_learnedX {i w : Int} (hM : RS G M x a) (hRI : RI s x a) (hs : stOK s) (g1 : sw_rg i) (g2 : sw_rg w) (hc : ¬ ((0 ≤ i ∧ i < qM s) ∧ 0 ≤ w ∧ w ≤ 5)) : Kt l G μX10_learned [.ref (sw_al G 70), sw_i i, sw_i w] M (fun r M' => ∃ x', r = some (sw_i 0) ∧ RS G M' x' a ∧ RI s x' a ∧ frR M M' ∧ x' 0 = 1) := by
  refine KtA.of (by decide +kernel) (Nat.le_of_ble_eq_true rfl) ?_
  have hF : frR M M := frR.rf
  have hR0 : RI s (upn x 0 1) a := hRI.fr (xfr.rf.up (k := 0) (by decide)) (afr.rf)
  have h50 : x 50 = qM s := hRI.2.2.2.2.2.2.2.2.1
  have hqm : 0 ≤ qM s ∧ qM s ≤ 4 := hs.2.2.2.2.2.1
  refine v_aload_n dX10_learned_0 rfl ?_
  refine v_iload_n dX10_learned_1 rfl ?_
  refine v_iconst dX10_learned_2 ?_
  refine v_aload_n dX10_learned_3 rfl ?_
  refine v_rgi 50 hM h50 fl_X10_346 rfl dX10_learned_4 ?_
  refine v_iconst dX10_learned_7 ?_
  refine v_isub dX10_learned_8 ?_
  refine v_callS (K10_in (v := i) (lo := 0) (hi := qM s - 1) g1 ⟨by omega, by omega⟩ ⟨by omega, by omega⟩) ⟨rfl, rfl⟩ (Nat.le_refl _) (Nat.le_refl _) ⟨ml_X10_107, mm_X10_in⟩ ⟨(Nat.le_of_ble_eq_true rfl), (Nat.le_of_ble_eq_true rfl)⟩ mp_X10_in rfl rfl (Nat.le_of_ble_eq_true rfl) dX10_learned_9 (fun r M' h => ?_)
  obtain ⟨rfl, rfl⟩ := h
  refine v_ifb_eq (tgt := 28) dX10_learned_12 (by decide) (fun h12 => ?_) (fun h12 => ?_)
  · skip
    refine v_iconst dX10_learned_28 ?_
    refine v_rp 0 hM hF (flS_0 G _ _) fp_X10_76 rfl rfl (Nat.le_of_ble_eq_true rfl) dX10_learned_29 (fun M hM hF => ?_)
    refine v_aload_n dX10_learned_32 rfl ?_
    refine v_rgi 0 hM upn_s fl_X10_76 rfl dX10_learned_33 ?_
    refine v_iconst dX10_learned_36 ?_
    refine v_icmp_ne (tgt := 44) dX10_learned_37 (by decide) ⟨by omega, by omega⟩ ⟨by omega, by omega⟩ (fun h37 => ?_) (fun h37 => ?_)
    · skip
      exfalso; omega
    · skip
      refine v_iconst dX10_learned_40 ?_
      refine v_goto (tgt := 80) dX10_learned_41 (by decide) ?_
      exact v_iret dX10_learned_80 rfl (Nat.le_refl _) (Nat.le_refl _) (⟨_, rfl, hM, hR0, hF, upn_s⟩)
  · skip
    refine v_iload_n dX10_learned_15 rfl ?_
    refine v_iconst dX10_learned_16 ?_
    refine v_iconst dX10_learned_17 ?_
    refine v_callS (K10_in (v := w) (lo := 0) (hi := 5) g2 ⟨by omega, by omega⟩ ⟨by omega, by omega⟩) ⟨rfl, rfl⟩ (Nat.le_refl _) (Nat.le_refl _) ⟨ml_X10_107, mm_X10_in⟩ ⟨(Nat.le_of_ble_eq_true rfl), (Nat.le_of_ble_eq_true rfl)⟩ mp_X10_in rfl rfl (Nat.le_of_ble_eq_true rfl) dX10_learned_18 (fun r M' h => ?_)
    obtain ⟨rfl, rfl⟩ := h
    refine v_ifb_eq (tgt := 28) dX10_learned_21 (by decide) (fun h21 => ?_) (fun h21 => ?_)
    · skip
      refine v_iconst dX10_learned_28 ?_
      refine v_rp 0 hM hF (flS_0 G _ _) fp_X10_76 rfl rfl (Nat.le_of_ble_eq_true rfl) dX10_learned_29 (fun M hM hF => ?_)
      refine v_aload_n dX10_learned_32 rfl ?_
      refine v_rgi 0 hM upn_s fl_X10_76 rfl dX10_learned_33 ?_
      refine v_iconst dX10_learned_36 ?_
      refine v_icmp_ne (tgt := 44) dX10_learned_37 (by decide) ⟨by omega, by omega⟩ ⟨by omega, by omega⟩ (fun h37 => ?_) (fun h37 => ?_)
      · skip
        exfalso; omega
      · skip
        refine v_iconst dX10_learned_40 ?_
        refine v_goto (tgt := 80) dX10_learned_41 (by decide) ?_
        exact v_iret dX10_learned_80 rfl (Nat.le_refl _) (Nat.le_refl _) (⟨_, rfl, hM, hR0, hF, upn_s⟩)
    · skip
      exfalso; omega
end

