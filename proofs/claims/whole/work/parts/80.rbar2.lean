/-! the reference's face: bar, its walk -/
theorem ms_bd {sg : Nat} (h : 0 < sg) {m : Nat} {F : (Int → Int) → Int} {A B : Int} (hF : ∀ S, (∀ i : Nat, i < m → 0 ≤ S i ∧ S i < (sg : Int)) → A ≤ F S ∧ F S ≤ B) : A * (sg ^ m : Nat) ≤ ms sg m F ∧ ms sg m F ≤ B * (sg ^ m : Nat) := by
  rw [← gd_ms h m F]
  exact sn_bd (F := fun n => F (dgF sg m n)) (sg ^ m) (fun i hi => hF _ (fun j hj => dgF_ok h hi j hj))
theorem go_rl {σ : SaleT} {m : Nat} {f : Int → Int → Int} (hw : wfS σ) (hm : m ≤ 4) (hf : fBd f m (sSg σ)) {b : Int} (hb : 0 ≤ b ∧ b ≤ 60) : sw_rl (ms (sSg σ).toNat m (goT σ b (sWy σ) m f (-1) (-1) (-1) (-1) (-1) (-1) 29)) := by
  have hsg := hw.1
  have hp : (sSg σ).toNat ^ m ≤ 625 := Nat.le_trans (Nat.pow_le_pow_left (show (sSg σ).toNat ≤ 5 by omega) m) (Nat.le_trans (Nat.pow_le_pow_right (show 5 > 0 by omega) hm) (by decide))
  have h := ms_bd (sg := (sSg σ).toNat) (by omega) (m := m) (F := goT σ b (sWy σ) m f (-1) (-1) (-1) (-1) (-1) (-1) 29) (A := 0) (B := 21600000000) (fun S hS' => by
    have hS : sOK σ S m := fun i hi => by have := hS' i hi; omega
    obtain ⟨e1, o1, h1, x1, t0, t1, o0, b0⟩ := go_bar hw hf hb S hS
    have hcw := crW_bd hw (pS_B hw (-1)) hS hm
    have hbk : bOK (rwF f) S m := fun i hi => by
      have hs := hS i hi
      rw [rwF_at f _ _ hs.1 (by omega)]
      exact hf i (S i) (by omega) (by omega) hs.1 hs.2
    have r0 := rk_bd (le := 0) hbk
    rw [e1]
    have ht : 0 ≤ tkB (sWy σ) b (rk (rwF f) S b m) ∧ tkB (sWy σ) b (rk (rwF f) S b m) ≤ 2880 := by
      have hpb := payB_bd (wy := sWy σ) (le := b) hb o1 ⟨by unfold qkO at o1; omega, by split at h1 <;> omega⟩
      have hp0 : (rk (rwF f) S b m).1 ≠ -1 → 0 ≤ payB (sWy σ) b (rk (rwF f) S b m) := fun hne => by
        unfold payB
        unfold qkO at o1
        (repeat' split) <;> omega
      unfold tkB
      (repeat' split) <;> omega
    have := mul_bd ht hcw
    omega)
  have h2 : (21600000000 : Int) * (((sSg σ).toNat ^ m : Nat) : Int) ≤ 21600000000 * 625 := Int.mul_le_mul_of_nonneg_left (by omega) (by omega)
  exact ⟨by omega, by omega⟩
section
variable {l : Launch} {G : sw_G} {M : sw_M} {s : CSt} {k : Int} {x : Nat → Int} {a : Nat → Int → Int}
theorem R9_bar {wise : Prop} [Decidable wise] (hI : InvR G M s) (hs : stOK s) (hk : isS s k) : Kt l G μX10_bar [.ref (sw_al G 70), sw_i k, sw_i (bI wise)] M (fun r M' => r = some (sw_i (barF (sl s k) wise)) ∧ InvR G M' s ∧ frR M M') := by
  refine KtA.of (by decide +kernel) (Nat.le_of_ble_eq_true rfl) ?_
  have hF : frR M M := frR.rf
  obtain ⟨x, a, hM, hRI⟩ := hI
  have hw := hs.sale hk
  have hnb := hw.2.2.1
  have hns : qN s ≤ 8 := hs.2.1
  obtain ⟨hk0, hk1⟩ := id hk
  obtain ⟨w0, w1⟩ := bI_rg (p := wise)
  obtain ⟨n, hn⟩ : ∃ n : Nat, (n : Int) = sNb (sl s k) := ⟨(sNb (sl s k)).toNat, by omega⟩
  have hn14 : 1 ≤ n ∧ n ≤ 4 := by omega
  have hf : fBd (alF (sl s k) n wise) n (sSg (sl s k)) := fun i j _ _ _ _ => alF_bd hw i j
  have hpk := pk_bar hw hn14.2 hf
  have hans : barF (sl s k) wise = pk (fun b => ms (sSg (sl s k)).toNat n (goT (sl s k) b (sWy (sl s k)) n (alF (sl s k) n wise) (-1) (-1) (-1) (-1) (-1) (-1) 29)) 60 := by
    rw [hpk]
    unfold barF
    rw [← hn, Int.toNat_natCast]
  have hgl : ∀ b, 0 ≤ b → b ≤ 60 → sw_rl (ms (sSg (sl s k)).toNat n (goT (sl s k) b (sWy (sl s k)) n (alF (sl s k) n wise) (-1) (-1) (-1) (-1) (-1) (-1) 29)) := fun b b0 b1 => go_rl hw hn14.2 hf ⟨b0, b1⟩
  obtain ⟨g, hg⟩ : ∃ g : Int → Int, (fun b => ms (sSg (sl s k)).toNat n (goT (sl s k) b (sWy (sl s k)) n (alF (sl s k) n wise) (-1) (-1) (-1) (-1) (-1) (-1) 29)) = g := ⟨_, rfl⟩
  have hga : ∀ b, ms (sSg (sl s k)).toNat n (goT (sl s k) b (sWy (sl s k)) n (alF (sl s k) n wise) (-1) (-1) (-1) (-1) (-1) (-1) 29) = g b := fun b => congrFun hg b
  rw [hg] at hans
  have hgb : ∀ b, 0 ≤ b → b ≤ 60 → sw_rl (g b) := fun b b0 b1 => by rw [← hga]; exact hgl b b0 b1
  have hpb := pk_bd g
  obtain ⟨Zq, hZ⟩ : ∃ Zq : Option Value → sw_M → Prop, Zq = (fun r M' => r = some (sw_i (barF (sl s k) wise)) ∧ InvR G M' s ∧ frR M M') := ⟨_, rfl⟩
  rw [← hZ]
  have loop : ∀ (c j : Nat) (best most : Int) (x1 : Nat → Int) (a1 : Nat → Int → Int) (M1 : sw_M), j + c = 61 → (j = 0 ∧ best = -1 ∨ 1 ≤ j ∧ best = pk g (j - 1) ∧ most = g (pk g (j - 1))) → RS G M1 x1 a1 → RI s x1 a1 → frR M M1 → V l G μX10_bar sw_E0 (sw_Zq G μX10_bar (sw_q0 G Zq)) 18 [(0, .ref (sw_al G 70)), (1, sw_i k), (2, sw_i (bI wise)), (3, sw_i best), (4, sw_j most), (6, sw_i (j : Int))] [] M1 0 0 := by
    intro c
    induction c with
    | zero =>
      intro j best most x1 a1 M1 hj hb hM hRI hF
      have e : j = 61 := by omega
      subst e
      refine v_iload dX10_bar_18 rfl ?_
      refine v_bipush dX10_bar_20 (by decide +kernel) ?_
      refine v_icmp_gt (tgt := 78) dX10_bar_22 (by decide) ⟨by omega, by omega⟩ ⟨by omega, by omega⟩ (fun h22 => ?_) (fun h22 => ?_)
      · skip
        refine v_iload_n dX10_bar_78 rfl ?_
        exact v_iret dX10_bar_79 rfl (Nat.le_refl _) (Nat.le_refl _) (by rw [hZ, hans]; exact ⟨by rw [show best = pk g 60 from hb.elim (fun h => absurd h.1 (by omega)) (fun h => h.2.1)], ⟨x1, a1, hM, hRI⟩, hF⟩)
      · skip
        exfalso; omega
    | succ c ih =>
      intro j best most x1 a1 M1 hj hb hM hRI hF
      have g10 : a1 10 k = (n : Int) := by rw [(hRI.row hk).2.2.1, hn]
      have hp := hpb (j - 1)
      have b1 := hgb (pk g (j - 1)) (by omega) (by omega)
      have b2 := hgb (j : Int) (by omega) (by omega)
      have hst : 1 ≤ j → pk g j = if g (pk g (j - 1)) < g (j : Int) then (j : Int) else pk g (j - 1) := fun h => by
        obtain ⟨i, rfl⟩ : ∃ i, j = i + 1 := ⟨j - 1, by omega⟩
        rfl
      have h00 : j = 0 → pk g j = (j : Int) := fun h => by subst h; rfl
      have nxt : ∀ (best' most' : Int) (x2 : Nat → Int) (a2 : Nat → Int → Int) (M2 : sw_M), best' = pk g j → most' = g (pk g j) → RS G M2 x2 a2 → RI s x2 a2 → frR M M2 → V l G μX10_bar sw_E0 (sw_Zq G μX10_bar (sw_q0 G Zq)) 18 [(0, .ref (sw_al G 70)), (1, sw_i k), (2, sw_i (bI wise)), (3, sw_i best'), (4, sw_j most'), (6, sw_i ((j : Int) + 1))] [] M2 0 0 := fun best' most' x2 a2 M2 e1 e2 g1 g2 g3 => v_to (ih (j + 1) best' most' x2 a2 M2 (by omega) (Or.inr ⟨by omega, e1, e2⟩) g1 g2 g3) rfl (sw_h1 rfl (sw_h1 rfl (sw_h1 rfl (sw_h1 rfl (sw_h1 rfl (sw_h1 rfl sw_h0))))))
      refine v_iload dX10_bar_18 rfl ?_
      refine v_bipush dX10_bar_20 (by decide +kernel) ?_
      refine v_icmp_gt (tgt := 78) dX10_bar_22 (by decide) ⟨by omega, by omega⟩ ⟨by omega, by omega⟩ (fun h22 => ?_) (fun h22 => ?_)
      · skip
        exfalso; omega
      · skip
        refine v_aload_n dX10_bar_25 rfl ?_
        refine v_iload_n dX10_bar_26 rfl ?_
        refine v_aload_n dX10_bar_27 rfl ?_
        refine v_getfH 10 hM.1 fl_X10_28 rfl dX10_bar_28 ?_
        refine v_iload_n dX10_bar_31 rfl ?_
        refine v_ria hM ar_10 (by omega) (by omega) g10 dX10_bar_32 ?_
        refine v_iload dX10_bar_33 rfl ?_
        refine v_iload_n dX10_bar_35 rfl ?_
        refine v_if_eq (tgt := 44) dX10_bar_36 (by decide) ⟨by omega, by omega⟩ (fun c36 => ?_) (fun c36 => ?_)
        · skip
          refine v_iconst dX10_bar_44 ?_
          refine v_callV (ci := 10) (K10_sell hM hRI hs hk hn14 (bar := (j : Int)) ⟨by omega, by omega⟩ (wise := wise) (if_neg (bI_0 c36)).symm) ⟨rfl, rfl⟩ (Nat.le_refl _) (Nat.le_refl _) hM.1 rfl ⟨ml_X10_303, mm_X10_sell⟩ ⟨(Nat.le_of_ble_eq_true rfl), (Nat.le_of_ble_eq_true rfl)⟩ mp_X10_sell rfl rfl (Nat.le_of_ble_eq_true rfl) dX10_bar_45 (fun r M' h => ?_)
          obtain ⟨x4, a4, rfl, hM4, hF4, hX, hA, hT⟩ := h
          replace hM := hM4
          replace hF := hF.tr hF4
          have t29 := (hT 29 (by decide) (by decide)).trans (hga _)
          refine v_iload_n dX10_bar_48 rfl ?_
          refine v_iconst dX10_bar_49 ?_
          refine v_icmp_eq (tgt := 63) dX10_bar_50 (by decide) ⟨by omega, by omega⟩ ⟨by omega, by omega⟩ (fun q0 => ?_) (fun q0 => ?_)
          · skip
            refine v_iload dX10_bar_63 rfl ?_
            refine v_istore_n dX10_bar_65 (Nat.le_of_ble_eq_true rfl) ?_
            refine v_aload_n dX10_bar_66 rfl ?_
            refine v_rgj 29 hM t29 fl_X10_234 rfl dX10_bar_67 ?_
            refine v_lstore dX10_bar_70 (Nat.le_of_ble_eq_true rfl) ?_
            refine v_iinc dX10_bar_72 rfl (Nat.le_of_ble_eq_true rfl) ?_
            refine v_goto (tgt := 18) dX10_bar_75 (by decide) ?_
            exact v_to (nxt _ _ _ _ _ (h00 (by omega)).symm (by rw [h00 (by omega)]) hM (hRI.fr hX hA) hF) rfl (sw_h1 rfl (sw_h1 rfl (sw_h1 rfl (sw_h1 rfl (sw_h1 rfl (sw_h1 rfl sw_h0))))))
          · skip
            refine v_aload_n dX10_bar_53 rfl ?_
            refine v_rgj 29 hM t29 fl_X10_234 rfl dX10_bar_54 ?_
            refine v_lload dX10_bar_57 rfl ?_
            refine v_lcmp_le (tgt := 72) dX10_bar_59 dX10_bar_60 (by decide) b2 (by rw [show most = g (pk g (j - 1)) by omega]; exact b1) (fun q => ?_) (fun q => ?_)
            · skip
              refine v_iinc dX10_bar_72 rfl (Nat.le_of_ble_eq_true rfl) ?_
              refine v_goto (tgt := 18) dX10_bar_75 (by decide) ?_
              exact v_to (nxt best most _ _ _ (by rw [hst (by omega), if_neg (by omega)]; omega) (by rw [hst (by omega), if_neg (by omega)]; omega) hM (hRI.fr hX hA) hF) rfl (sw_h1 rfl (sw_h1 rfl (sw_h1 rfl (sw_h1 rfl (sw_h1 rfl (sw_h1 rfl sw_h0))))))
            · skip
              refine v_iload dX10_bar_63 rfl ?_
              refine v_istore_n dX10_bar_65 (Nat.le_of_ble_eq_true rfl) ?_
              refine v_aload_n dX10_bar_66 rfl ?_
              refine v_rgj 29 hM t29 fl_X10_234 rfl dX10_bar_67 ?_
              refine v_lstore dX10_bar_70 (Nat.le_of_ble_eq_true rfl) ?_
              refine v_iinc dX10_bar_72 rfl (Nat.le_of_ble_eq_true rfl) ?_
              refine v_goto (tgt := 18) dX10_bar_75 (by decide) ?_
              exact v_to (nxt _ _ _ _ _ (by rw [hst (by omega), if_pos (by omega)]) (by rw [hst (by omega), if_pos (by omega)]) hM (hRI.fr hX hA) hF) rfl (sw_h1 rfl (sw_h1 rfl (sw_h1 rfl (sw_h1 rfl (sw_h1 rfl (sw_h1 rfl sw_h0))))))
        · skip
          refine v_bipush dX10_bar_39 (by decide +kernel) ?_
          refine v_goto (tgt := 45) dX10_bar_41 (by decide) ?_
          refine v_callV (ci := 10) (K10_sell hM hRI hs hk hn14 (bar := (j : Int)) ⟨by omega, by omega⟩ (wise := wise) (if_pos (bI_1 c36)).symm) ⟨rfl, rfl⟩ (Nat.le_refl _) (Nat.le_refl _) hM.1 rfl ⟨ml_X10_303, mm_X10_sell⟩ ⟨(Nat.le_of_ble_eq_true rfl), (Nat.le_of_ble_eq_true rfl)⟩ mp_X10_sell rfl rfl (Nat.le_of_ble_eq_true rfl) dX10_bar_45 (fun r M' h => ?_)
          obtain ⟨x4, a4, rfl, hM4, hF4, hX, hA, hT⟩ := h
          replace hM := hM4
          replace hF := hF.tr hF4
          have t29 := (hT 29 (by decide) (by decide)).trans (hga _)
          refine v_iload_n dX10_bar_48 rfl ?_
          refine v_iconst dX10_bar_49 ?_
          refine v_icmp_eq (tgt := 63) dX10_bar_50 (by decide) ⟨by omega, by omega⟩ ⟨by omega, by omega⟩ (fun q0 => ?_) (fun q0 => ?_)
          · skip
            refine v_iload dX10_bar_63 rfl ?_
            refine v_istore_n dX10_bar_65 (Nat.le_of_ble_eq_true rfl) ?_
            refine v_aload_n dX10_bar_66 rfl ?_
            refine v_rgj 29 hM t29 fl_X10_234 rfl dX10_bar_67 ?_
            refine v_lstore dX10_bar_70 (Nat.le_of_ble_eq_true rfl) ?_
            refine v_iinc dX10_bar_72 rfl (Nat.le_of_ble_eq_true rfl) ?_
            refine v_goto (tgt := 18) dX10_bar_75 (by decide) ?_
            exact v_to (nxt _ _ _ _ _ (h00 (by omega)).symm (by rw [h00 (by omega)]) hM (hRI.fr hX hA) hF) rfl (sw_h1 rfl (sw_h1 rfl (sw_h1 rfl (sw_h1 rfl (sw_h1 rfl (sw_h1 rfl sw_h0))))))
          · skip
            refine v_aload_n dX10_bar_53 rfl ?_
            refine v_rgj 29 hM t29 fl_X10_234 rfl dX10_bar_54 ?_
            refine v_lload dX10_bar_57 rfl ?_
            refine v_lcmp_le (tgt := 72) dX10_bar_59 dX10_bar_60 (by decide) b2 (by rw [show most = g (pk g (j - 1)) by omega]; exact b1) (fun q => ?_) (fun q => ?_)
            · skip
              refine v_iinc dX10_bar_72 rfl (Nat.le_of_ble_eq_true rfl) ?_
              refine v_goto (tgt := 18) dX10_bar_75 (by decide) ?_
              exact v_to (nxt best most _ _ _ (by rw [hst (by omega), if_neg (by omega)]; omega) (by rw [hst (by omega), if_neg (by omega)]; omega) hM (hRI.fr hX hA) hF) rfl (sw_h1 rfl (sw_h1 rfl (sw_h1 rfl (sw_h1 rfl (sw_h1 rfl (sw_h1 rfl sw_h0))))))
            · skip
              refine v_iload dX10_bar_63 rfl ?_
              refine v_istore_n dX10_bar_65 (Nat.le_of_ble_eq_true rfl) ?_
              refine v_aload_n dX10_bar_66 rfl ?_
              refine v_rgj 29 hM t29 fl_X10_234 rfl dX10_bar_67 ?_
              refine v_lstore dX10_bar_70 (Nat.le_of_ble_eq_true rfl) ?_
              refine v_iinc dX10_bar_72 rfl (Nat.le_of_ble_eq_true rfl) ?_
              refine v_goto (tgt := 18) dX10_bar_75 (by decide) ?_
              exact v_to (nxt _ _ _ _ _ (by rw [hst (by omega), if_pos (by omega)]) (by rw [hst (by omega), if_pos (by omega)]) hM (hRI.fr hX hA) hF) rfl (sw_h1 rfl (sw_h1 rfl (sw_h1 rfl (sw_h1 rfl (sw_h1 rfl (sw_h1 rfl sw_h0))))))
  refine v_aload_n dX10_bar_0 rfl ?_
  refine v_iload_n dX10_bar_1 rfl ?_
  refine v_callV (ci := 10) (K10_isSale hM hRI.2.2.1 ⟨by omega, by omega⟩ ⟨by omega, by omega⟩) ⟨rfl, rfl⟩ (Nat.le_refl _) (Nat.le_refl _) hM.1 rfl ⟨ml_X10_129, mm_X10_isSale⟩ ⟨(Nat.le_of_ble_eq_true rfl), (Nat.le_of_ble_eq_true rfl)⟩ mp_X10_isSale rfl rfl (Nat.le_of_ble_eq_true rfl) dX10_bar_2 (fun r M' h => ?_)
  obtain ⟨rfl, rfl⟩ := h
  refine v_ifb_ne (tgt := 10) dX10_bar_5 (by decide) (fun h5 => ?_) (fun h5 => ?_)
  · skip
    refine v_iconst dX10_bar_10 ?_
    refine v_istore_n dX10_bar_11 (Nat.le_of_ble_eq_true rfl) ?_
    refine v_lconst (z := 0) dX10_bar_12 (by decide +kernel) ?_
    refine v_lstore dX10_bar_13 (Nat.le_of_ble_eq_true rfl) ?_
    refine v_iconst dX10_bar_15 ?_
    refine v_istore dX10_bar_16 (Nat.le_of_ble_eq_true rfl) ?_
    exact v_to (loop 61 0 (-1) 0 x a _ (by omega) (Or.inl ⟨rfl, rfl⟩) hM hRI hF) rfl (sw_h1 rfl (sw_h1 rfl (sw_h1 rfl (sw_h1 rfl (sw_h1 rfl (sw_h1 rfl sw_h0))))))
  · skip
    exact absurd hk (by assumption)
theorem R9_barN {wise : Prop} [Decidable wise] (hI : InvR G M s) (hs : stOK s) (hk : ¬ isS s k) (hg : sw_rg k) : Kt l G μX10_bar [.ref (sw_al G 70), sw_i k, sw_i (bI wise)] M (fun r M' => r = some (sw_i (-1)) ∧ InvR G M' s ∧ frR M M') := by
  refine KtA.of (by decide +kernel) (Nat.le_of_ble_eq_true rfl) ?_
  obtain ⟨x, a, hM, hRI⟩ := hI
  have hns : qN s ≤ 8 := hs.2.1
  refine v_aload_n dX10_bar_0 rfl ?_
  refine v_iload_n dX10_bar_1 rfl ?_
  refine v_callV (ci := 10) (K10_isSale hM hRI.2.2.1 ⟨by omega, by omega⟩ hg) ⟨rfl, rfl⟩ (Nat.le_refl _) (Nat.le_refl _) hM.1 rfl ⟨ml_X10_129, mm_X10_isSale⟩ ⟨(Nat.le_of_ble_eq_true rfl), (Nat.le_of_ble_eq_true rfl)⟩ mp_X10_isSale rfl rfl (Nat.le_of_ble_eq_true rfl) dX10_bar_2 (fun r M' h => ?_)
  obtain ⟨rfl, rfl⟩ := h
  refine v_ifb_ne (tgt := 10) dX10_bar_5 (by decide) (fun h5 => ?_) (fun h5 => ?_)
  · skip
    exact absurd (by assumption) hk
  · skip
    refine v_iconst dX10_bar_8 ?_
    exact v_iret dX10_bar_9 rfl (Nat.le_refl _) (Nat.le_refl _) (⟨rfl, ⟨_, _, hM, hRI⟩, frR.rf⟩)
end

