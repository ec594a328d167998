/-! the reference's face: open, leaves -/
section
variable {l : Launch} {G : sw_G} {M : sw_M} {s : CSt} {k : Int} {x : Nat → Int} {a : Nat → Int → Int}
theorem K10_riseX (hM : RS G M x a) (hRI : RI s x a) (hs : stOK s) (g0 : sw_rg k) (hn : ¬ (isS s k ∧ lfP (sl s k) (qD s))) : Kt l G μX10_rise [.ref (sw_al G 70), sw_i k] M (fun r M' => ∃ x', r = some (sw_i 0) ∧ RS G M' x' a ∧ frR M M' ∧ xfr [21] x x') := by
  refine KtA.of (by decide +kernel) (Nat.le_of_ble_eq_true rfl) ?_
  have hF : frR M M := frR.rf
  have hns : qN s ≤ 8 := hs.2.1
  by_cases hk : isS s k
  · have hw := hs.sale hk
    have hsg := hw.1
    have hnb := hw.2.2.1
    have hr := hRI.row hk
    have h42 := hRI.2.2.2.2.2.1
    obtain ⟨hk0, hk1⟩ := id hk
    obtain ⟨m, hm⟩ : ∃ m : Nat, (m : Int) = sNb (sl s k) := ⟨(sNb (sl s k)).toNat, by omega⟩
    have g10 : a 10 k = (m : Int) := by rw [hr.2.2.1, hm]
    have hD := hs.2.2.2.2.1
    have laid : ∀ (c i : Nat) (M1 : sw_M), i + c = m → (∀ j : Nat, j < i → qD s j < sSg (sl s k)) → RS G M1 (upn x 21 (m : Int)) a → frR M M1 → V l G μX10_rise sw_E0 (sw_Zq G μX10_rise (sw_q0 G (fun r M' => ∃ x', r = some (sw_i 0) ∧ RS G M' x' a ∧ frR M M' ∧ xfr [21] x x'))) 22 [(0, .ref (sw_al G 70)), (1, sw_i k), (2, sw_i (i : Int))] [] M1 0 0 := by
      intro c
      induction c with
      | zero =>
        intro i M1 hi hj hM hF
        exact absurd ⟨hk, fun j hj2 => hj j (by omega)⟩ hn
      | succ c ih =>
        intro i M1 hi hj hM hF
        have hl := hD i (by omega) (by omega)
        refine v_iload_n dX10_rise_22 rfl ?_
        refine v_aload_n dX10_rise_23 rfl ?_
        refine v_rgi 21 hM upn_s fl_X10_176 rfl dX10_rise_24 ?_
        refine v_icmp_ge (tgt := 53) dX10_rise_27 (by decide) ⟨by omega, by omega⟩ ⟨by omega, by omega⟩ (fun h27 => ?_) (fun h27 => ?_)
        · skip
          exfalso; omega
        · skip
          refine v_aload_n dX10_rise_30 rfl ?_
          refine v_getfH 42 hM.1 fl_X10_61 rfl dX10_rise_31 ?_
          refine v_iload_n dX10_rise_34 rfl ?_
          refine v_ria hM ar_42 (by omega) (by omega) (h42 i (by omega) (by omega)) dX10_rise_35 ?_
          refine v_aload_n dX10_rise_36 rfl ?_
          refine v_getfH 5 hM.1 fl_X10_13 rfl dX10_rise_37 ?_
          refine v_iload_n dX10_rise_40 rfl ?_
          refine v_ria hM ar_5 (by omega) (by omega) hr.1 dX10_rise_41 ?_
          refine v_icmp_lt (tgt := 47) dX10_rise_42 (by decide) ⟨by omega, by omega⟩ ⟨by omega, by omega⟩ (fun h42 => ?_) (fun h42 => ?_)
          · skip
            refine v_iinc dX10_rise_47 rfl (Nat.le_of_ble_eq_true rfl) ?_
            refine v_goto (tgt := 22) dX10_rise_50 (by decide) ?_
            exact v_to (ih (i + 1) _ (by omega) (fun j hj2 => by
              by_cases e : j = i
              · subst e; omega
              · exact hj j (by omega)) hM hF) rfl (sw_h1 rfl (sw_h1 rfl (sw_h1 rfl sw_h0)))
          · skip
            refine v_iconst dX10_rise_45 ?_
            exact v_zret rfl dX10_rise_46 rfl (Nat.le_refl _) (Nat.le_refl _) (⟨_, rfl, hM, hF, xfr.rf.up (k := 21) (by decide)⟩)
    refine v_aload_n dX10_rise_0 rfl ?_
    refine v_iload_n dX10_rise_1 rfl ?_
    refine v_callV (ci := 10) (K10_isSale hM hRI.2.2.1 ⟨by omega, by omega⟩ g0) ⟨rfl, rfl⟩ (Nat.le_refl _) (Nat.le_refl _) hM.1 rfl ⟨ml_X10_129, mm_X10_isSale⟩ ⟨(Nat.le_of_ble_eq_true rfl), (Nat.le_of_ble_eq_true rfl)⟩ mp_X10_isSale rfl rfl (Nat.le_of_ble_eq_true rfl) dX10_rise_2 (fun r M' h => ?_)
    obtain ⟨rfl, rfl⟩ := h
    refine v_ifb_ne (tgt := 10) dX10_rise_5 (by decide) (fun h5 => ?_) (fun h5 => ?_)
    · skip
      refine v_aload_n dX10_rise_10 rfl ?_
      refine v_aload_n dX10_rise_11 rfl ?_
      refine v_getfH 10 hM.1 fl_X10_28 rfl dX10_rise_12 ?_
      refine v_iload_n dX10_rise_15 rfl ?_
      refine v_ria hM ar_10 (by omega) (by omega) g10 dX10_rise_16 ?_
      refine v_rp 21 hM hF (flS_21 G _ _) fp_X10_176 rfl rfl (Nat.le_of_ble_eq_true rfl) dX10_rise_17 (fun M hM hF => ?_)
      refine v_iconst dX10_rise_20 ?_
      refine v_istore_n dX10_rise_21 (Nat.le_of_ble_eq_true rfl) ?_
      exact v_to (laid m 0 _ (by omega) (fun j hj => by omega) hM hF) rfl (sw_h1 rfl (sw_h1 rfl (sw_h1 rfl sw_h0)))
    · skip
      exact absurd hk (by assumption)
  · skip
    refine v_aload_n dX10_rise_0 rfl ?_
    refine v_iload_n dX10_rise_1 rfl ?_
    refine v_callV (ci := 10) (K10_isSale hM hRI.2.2.1 ⟨by omega, by omega⟩ g0) ⟨rfl, rfl⟩ (Nat.le_refl _) (Nat.le_refl _) hM.1 rfl ⟨ml_X10_129, mm_X10_isSale⟩ ⟨(Nat.le_of_ble_eq_true rfl), (Nat.le_of_ble_eq_true rfl)⟩ mp_X10_isSale rfl rfl (Nat.le_of_ble_eq_true rfl) dX10_rise_2 (fun r M' h => ?_)
    obtain ⟨rfl, rfl⟩ := h
    refine v_ifb_ne (tgt := 10) dX10_rise_5 (by decide) (fun h5 => ?_) (fun h5 => ?_)
    · skip
      exact absurd (by assumption) hk
    · skip
      refine v_iconst dX10_rise_8 ?_
      exact v_zret rfl dX10_rise_9 rfl (Nat.le_refl _) (Nat.le_refl _) (⟨_, rfl, hM, hF, xfr.rf⟩)
theorem R9_open {what : Int} (hI : InvR G M s) (hs : stOK s) (hk : isS s k) (g2 : sw_rg what) : Kt l G μX10_open [.ref (sw_al G 70), sw_i k, sw_i what] M (fun r M' => r = some (sw_i (if (what = 0 ∨ what = 1) ∧ lfP (sl s k) (qD s) then (if what = 0 then opW (sl s k) (qD s) else opP (sl s k) (qD s)) else -1)) ∧ InvR G M' s ∧ frR M M') := by
  refine KtA.of (by decide +kernel) (Nat.le_of_ble_eq_true rfl) ?_
  have hF : frR M M := frR.rf
  obtain ⟨x, a, hM, hRI⟩ := hI
  have hw := hs.sale hk
  have hnb := hw.2.2.1
  obtain ⟨hk0, hk1⟩ := id hk
  have hns : qN s ≤ 8 := hs.2.1
  by_cases hl : lfP (sl s k) (qD s)
  · skip
    refine v_iload_n dX10_open_0 rfl ?_
    refine v_iconst dX10_open_1 ?_
    refine v_iconst dX10_open_2 ?_
    refine v_callS (K10_in (v := what) (lo := 0) (hi := 1) g2 ⟨by omega, by omega⟩ ⟨by omega, by omega⟩) ⟨rfl, rfl⟩ (Nat.le_refl _) (Nat.le_refl _) ⟨ml_X10_107, mm_X10_in⟩ ⟨(Nat.le_of_ble_eq_true rfl), (Nat.le_of_ble_eq_true rfl)⟩ mp_X10_in rfl rfl (Nat.le_of_ble_eq_true rfl) dX10_open_3 (fun r M' h => ?_)
    obtain ⟨rfl, rfl⟩ := h
    refine v_ifb_eq (tgt := 35) dX10_open_6 (by decide) (fun q => ?_) (fun q => ?_)
    · skip
      refine v_iconst dX10_open_35 ?_
      exact v_iret dX10_open_36 rfl (Nat.le_refl _) (Nat.le_refl _) (⟨by rw [if_neg (fun h => q (by omega))], ⟨_, _, hM, hRI⟩, hF⟩)
    · skip
      refine v_aload_n dX10_open_9 rfl ?_
      refine v_iload_n dX10_open_10 rfl ?_
      refine v_callV (ci := 10) (K10_rise (m := (sNb (sl s k)).toNat) hM hRI.2.2.1 hk hns (hRI.row hk) hw (by omega) hRI.2.2.2.2.2.1 hs.2.2.2.2.1 hl) ⟨rfl, rfl⟩ (Nat.le_refl _) (Nat.le_refl _) hM.1 rfl ⟨ml_X10_333, mm_X10_rise⟩ ⟨(Nat.le_of_ble_eq_true rfl), (Nat.le_of_ble_eq_true rfl)⟩ mp_X10_rise rfl rfl (Nat.le_of_ble_eq_true rfl) dX10_open_11 (fun r M' h => ?_)
      obtain ⟨x2, a2, rfl, hM2, hF2, hx2, ha2, e45, e46, e47, eA⟩ := h
      replace hM := hM2
      have hcc : (what = 0 ∨ what = 1) ∧ lfP (sl s k) (qD s) := ⟨by omega, hl⟩
      rw [if_pos hcc]
      refine v_if_eq (tgt := 35) dX10_open_14 (by decide) ⟨by omega, by omega⟩ (fun h14 => ?_) (fun h14 => ?_)
      · skip
        exfalso; omega
      · skip
        refine v_iload_n dX10_open_17 rfl ?_
        refine v_if_ne (tgt := 28) dX10_open_18 (by decide) ⟨by omega, by omega⟩ (fun c => ?_) (fun c => ?_)
        · skip
          refine v_aload_n dX10_open_28 rfl ?_
          refine v_rgi 47 hM e47 fl_X10_316 rfl dX10_open_29 ?_
          refine v_goto (tgt := 36) dX10_open_32 (by decide) ?_
          exact v_iret dX10_open_36 rfl (Nat.le_refl _) (Nat.le_refl _) (⟨by rw [if_neg c], ⟨_, _, hM, hRI.fr (hx2.tr xfr.rf (by decide) (fun t h => h)) (ha2.tr afr.rf (by decide) (fun t h => h))⟩, hF2⟩)
        · skip
          refine v_aload_n dX10_open_21 rfl ?_
          refine v_rgi 46 hM e46 fl_X10_330 rfl dX10_open_22 ?_
          refine v_goto (tgt := 36) dX10_open_25 (by decide) ?_
          exact v_iret dX10_open_36 rfl (Nat.le_refl _) (Nat.le_refl _) (⟨by rw [if_pos c], ⟨_, _, hM, hRI.fr (hx2.tr xfr.rf (by decide) (fun t h => h)) (ha2.tr afr.rf (by decide) (fun t h => h))⟩, hF2⟩)
  · skip
    refine v_iload_n dX10_open_0 rfl ?_
    refine v_iconst dX10_open_1 ?_
    refine v_iconst dX10_open_2 ?_
    refine v_callS (K10_in (v := what) (lo := 0) (hi := 1) g2 ⟨by omega, by omega⟩ ⟨by omega, by omega⟩) ⟨rfl, rfl⟩ (Nat.le_refl _) (Nat.le_refl _) ⟨ml_X10_107, mm_X10_in⟩ ⟨(Nat.le_of_ble_eq_true rfl), (Nat.le_of_ble_eq_true rfl)⟩ mp_X10_in rfl rfl (Nat.le_of_ble_eq_true rfl) dX10_open_3 (fun r M' h => ?_)
    obtain ⟨rfl, rfl⟩ := h
    refine v_ifb_eq (tgt := 35) dX10_open_6 (by decide) (fun q => ?_) (fun q => ?_)
    · skip
      refine v_iconst dX10_open_35 ?_
      exact v_iret dX10_open_36 rfl (Nat.le_refl _) (Nat.le_refl _) (⟨by rw [if_neg (fun h => q (by omega))], ⟨_, _, hM, hRI⟩, hF⟩)
    · skip
      refine v_aload_n dX10_open_9 rfl ?_
      refine v_iload_n dX10_open_10 rfl ?_
      refine v_callV (ci := 10) (K10_riseX hM hRI hs ⟨by omega, by omega⟩ (fun h => hl h.2)) ⟨rfl, rfl⟩ (Nat.le_refl _) (Nat.le_refl _) hM.1 rfl ⟨ml_X10_333, mm_X10_rise⟩ ⟨(Nat.le_of_ble_eq_true rfl), (Nat.le_of_ble_eq_true rfl)⟩ mp_X10_rise rfl rfl (Nat.le_of_ble_eq_true rfl) dX10_open_11 (fun r M' h => ?_)
      obtain ⟨x2, rfl, hM2, hF2, hx2⟩ := h
      replace hM := hM2
      refine v_if_eq (tgt := 35) dX10_open_14 (by decide) ⟨by omega, by omega⟩ (fun h14 => ?_) (fun h14 => ?_)
      · skip
        refine v_iconst dX10_open_35 ?_
        exact v_iret dX10_open_36 rfl (Nat.le_refl _) (Nat.le_refl _) (⟨by rw [if_neg (fun h => hl h.2)], ⟨_, _, hM, hRI.fr (hx2.tr xfr.rf (by decide) (fun t h => h)) afr.rf⟩, hF2⟩)
      · skip
        exfalso; omega
theorem R9_openN {what : Int} (hI : InvR G M s) (hs : stOK s) (hk : ¬ isS s k) (hg : sw_rg k) (g2 : sw_rg what) : Kt l G μX10_open [.ref (sw_al G 70), sw_i k, sw_i what] M (fun r M' => r = some (sw_i (-1)) ∧ InvR G M' s ∧ frR M M') := by
  refine KtA.of (by decide +kernel) (Nat.le_of_ble_eq_true rfl) ?_
  have hF : frR M M := frR.rf
  obtain ⟨x, a, hM, hRI⟩ := hI
  refine v_iload_n dX10_open_0 rfl ?_
  refine v_iconst dX10_open_1 ?_
  refine v_iconst dX10_open_2 ?_
  refine v_callS (K10_in (v := what) (lo := 0) (hi := 1) g2 ⟨by omega, by omega⟩ ⟨by omega, by omega⟩) ⟨rfl, rfl⟩ (Nat.le_refl _) (Nat.le_refl _) ⟨ml_X10_107, mm_X10_in⟩ ⟨(Nat.le_of_ble_eq_true rfl), (Nat.le_of_ble_eq_true rfl)⟩ mp_X10_in rfl rfl (Nat.le_of_ble_eq_true rfl) dX10_open_3 (fun r M' h => ?_)
  obtain ⟨rfl, rfl⟩ := h
  refine v_ifb_eq (tgt := 35) dX10_open_6 (by decide) (fun q => ?_) (fun q => ?_)
  · skip
    refine v_iconst dX10_open_35 ?_
    exact v_iret dX10_open_36 rfl (Nat.le_refl _) (Nat.le_refl _) (⟨rfl, ⟨_, _, hM, hRI⟩, hF⟩)
  · skip
    refine v_aload_n dX10_open_9 rfl ?_
    refine v_iload_n dX10_open_10 rfl ?_
    refine v_callV (ci := 10) (K10_riseX hM hRI hs hg (fun h => hk h.1)) ⟨rfl, rfl⟩ (Nat.le_refl _) (Nat.le_refl _) hM.1 rfl ⟨ml_X10_333, mm_X10_rise⟩ ⟨(Nat.le_of_ble_eq_true rfl), (Nat.le_of_ble_eq_true rfl)⟩ mp_X10_rise rfl rfl (Nat.le_of_ble_eq_true rfl) dX10_open_11 (fun r M' h => ?_)
    obtain ⟨x2, rfl, hM2, hF2, hx2⟩ := h
    replace hM := hM2
    refine v_if_eq (tgt := 35) dX10_open_14 (by decide) ⟨by omega, by omega⟩ (fun h14 => ?_) (fun h14 => ?_)
    · skip
      refine v_iconst dX10_open_35 ?_
      exact v_iret dX10_open_36 rfl (Nat.le_refl _) (Nat.le_refl _) (⟨rfl, ⟨_, _, hM, hRI.fr (hx2.tr xfr.rf (by decide) (fun t h => h)) afr.rf⟩, hF2⟩)
    · skip
      exfalso; omega
end

