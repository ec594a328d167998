/-! the reference's face: leaves -/
section
variable {l : Launch} {G : sw_G} {M : sw_M} {s : CSt} {k : Int} {x : Nat → Int} {a : Nat → Int → Int}
theorem R9_leaves {i what : Int} (hI : InvR G M s) (hs : stOK s) (hk : isS s k) (g1 : sw_rg i) (g2 : sw_rg what) : Kt l G μX10_leaves [.ref (sw_al G 70), sw_i k, sw_i i, sw_i what] M (fun r M' => r = some (sw_i (if ((what = 0 ∨ what = 1) ∧ 0 ≤ i ∧ i < sNb (sl s k) - 1) ∧ lfP (sl s k) (qD s) then (if what = 0 then opL (sl s k) (qD s) i else opA (sl s k) (qD s) i) else -1)) ∧ InvR G M' s ∧ frR M M') := by
  refine KtA.of (by decide +kernel) (Nat.le_of_ble_eq_true rfl) ?_
  have hF : frR M M := frR.rf
  obtain ⟨x, a, hM, hRI⟩ := hI
  have hw := hs.sale hk
  have hnb := hw.2.2.1
  obtain ⟨hk0, hk1⟩ := id hk
  have hns : qN s ≤ 8 := hs.2.1
  by_cases hl : lfP (sl s k) (qD s)
  · skip
    refine v_iload_n dX10_leaves_0 rfl ?_
    refine v_iconst dX10_leaves_1 ?_
    refine v_iconst dX10_leaves_2 ?_
    refine v_callS (K10_in (v := what) (lo := 0) (hi := 1) g2 ⟨by omega, by omega⟩ ⟨by omega, by omega⟩) ⟨rfl, rfl⟩ (Nat.le_refl _) (Nat.le_refl _) ⟨ml_X10_107, mm_X10_in⟩ ⟨(Nat.le_of_ble_eq_true rfl), (Nat.le_of_ble_eq_true rfl)⟩ mp_X10_in rfl rfl (Nat.le_of_ble_eq_true rfl) dX10_leaves_3 (fun r M' h => ?_)
    obtain ⟨rfl, rfl⟩ := h
    refine v_ifb_eq (tgt := 53) dX10_leaves_6 (by decide) (fun q => ?_) (fun q => ?_)
    · skip
      refine v_iconst dX10_leaves_53 ?_
      exact v_iret dX10_leaves_54 rfl (Nat.le_refl _) (Nat.le_refl _) (⟨by rw [if_neg (fun h => q (by omega))], ⟨_, _, hM, hRI⟩, hF⟩)
    · skip
      refine v_aload_n dX10_leaves_9 rfl ?_
      refine v_iload_n dX10_leaves_10 rfl ?_
      refine v_callV (ci := 10) (K10_rise (m := (sNb (sl s k)).toNat) hM hRI.2.2.1 hk hns (hRI.row hk) hw (by omega) hRI.2.2.2.2.2.1 hs.2.2.2.2.1 hl) ⟨rfl, rfl⟩ (Nat.le_refl _) (Nat.le_refl _) hM.1 rfl ⟨ml_X10_333, mm_X10_rise⟩ ⟨(Nat.le_of_ble_eq_true rfl), (Nat.le_of_ble_eq_true rfl)⟩ mp_X10_rise rfl rfl (Nat.le_of_ble_eq_true rfl) dX10_leaves_11 (fun r M' h => ?_)
      obtain ⟨x2, a2, rfl, hM2, hF2, hx2, ha2, e45, e46, e47, eA⟩ := h
      replace hM := hM2
      have hfin := hRI.fr (hx2.tr xfr.rf (by decide) (fun t h => h)) (ha2.tr afr.rf (by decide) (fun t h => h))
      refine v_if_eq (tgt := 53) dX10_leaves_14 (by decide) ⟨by omega, by omega⟩ (fun h14 => ?_) (fun h14 => ?_)
      · skip
        exfalso; omega
      · skip
        refine v_iload_n dX10_leaves_17 rfl ?_
        refine v_iconst dX10_leaves_18 ?_
        refine v_aload_n dX10_leaves_19 rfl ?_
        refine v_rgi 45 hM e45 fl_X10_313 rfl dX10_leaves_20 ?_
        refine v_iconst dX10_leaves_23 ?_
        refine v_isub dX10_leaves_24 ?_
        refine v_callS (K10_in (v := i) (lo := 0) (hi := ((sNb (sl s k)).toNat : Int) - 1 - 1) g1 ⟨by omega, by omega⟩ ⟨by omega, by omega⟩) ⟨rfl, rfl⟩ (Nat.le_refl _) (Nat.le_refl _) ⟨ml_X10_107, mm_X10_in⟩ ⟨(Nat.le_of_ble_eq_true rfl), (Nat.le_of_ble_eq_true rfl)⟩ mp_X10_in rfl rfl (Nat.le_of_ble_eq_true rfl) dX10_leaves_25 (fun r M' h => ?_)
        obtain ⟨rfl, rfl⟩ := h
        refine v_ifb_eq (tgt := 53) dX10_leaves_28 (by decide) (fun q2 => ?_) (fun q2 => ?_)
        · skip
          refine v_iconst dX10_leaves_53 ?_
          exact v_iret dX10_leaves_54 rfl (Nat.le_refl _) (Nat.le_refl _) (⟨by rw [if_neg (fun h => q2 (by omega))], ⟨_, _, hM, hfin⟩, hF2⟩)
        · skip
          have hcc : ((what = 0 ∨ what = 1) ∧ 0 ≤ i ∧ i < sNb (sl s k) - 1) ∧ lfP (sl s k) (qD s) := ⟨⟨by omega, by omega⟩, hl⟩
          rw [if_pos hcc]
          have eAi := eA i (by omega) (by omega)
          refine v_iload_n dX10_leaves_31 rfl ?_
          refine v_if_ne (tgt := 44) dX10_leaves_32 (by decide) ⟨by omega, by omega⟩ (fun c => ?_) (fun c => ?_)
          · skip
            refine v_aload_n dX10_leaves_44 rfl ?_
            refine v_getfH 44 hM.1 fl_X10_67 rfl dX10_leaves_45 ?_
            refine v_iload_n dX10_leaves_48 rfl ?_
            refine v_ria hM ar_44 (by omega) (by omega) eAi.2 dX10_leaves_49 ?_
            refine v_goto (tgt := 54) dX10_leaves_50 (by decide) ?_
            exact v_iret dX10_leaves_54 rfl (Nat.le_refl _) (Nat.le_refl _) (⟨by rw [if_neg c], ⟨_, _, hM, hfin⟩, hF2⟩)
          · skip
            refine v_aload_n dX10_leaves_35 rfl ?_
            refine v_getfH 43 hM.1 fl_X10_64 rfl dX10_leaves_36 ?_
            refine v_iload_n dX10_leaves_39 rfl ?_
            refine v_ria hM ar_43 (by omega) (by omega) eAi.1 dX10_leaves_40 ?_
            refine v_goto (tgt := 54) dX10_leaves_41 (by decide) ?_
            exact v_iret dX10_leaves_54 rfl (Nat.le_refl _) (Nat.le_refl _) (⟨by rw [if_pos c], ⟨_, _, hM, hfin⟩, hF2⟩)
  · skip
    refine v_iload_n dX10_leaves_0 rfl ?_
    refine v_iconst dX10_leaves_1 ?_
    refine v_iconst dX10_leaves_2 ?_
    refine v_callS (K10_in (v := what) (lo := 0) (hi := 1) g2 ⟨by omega, by omega⟩ ⟨by omega, by omega⟩) ⟨rfl, rfl⟩ (Nat.le_refl _) (Nat.le_refl _) ⟨ml_X10_107, mm_X10_in⟩ ⟨(Nat.le_of_ble_eq_true rfl), (Nat.le_of_ble_eq_true rfl)⟩ mp_X10_in rfl rfl (Nat.le_of_ble_eq_true rfl) dX10_leaves_3 (fun r M' h => ?_)
    obtain ⟨rfl, rfl⟩ := h
    refine v_ifb_eq (tgt := 53) dX10_leaves_6 (by decide) (fun q => ?_) (fun q => ?_)
    · skip
      refine v_iconst dX10_leaves_53 ?_
      exact v_iret dX10_leaves_54 rfl (Nat.le_refl _) (Nat.le_refl _) (⟨by rw [if_neg (fun h => q (by omega))], ⟨_, _, hM, hRI⟩, hF⟩)
    · skip
      refine v_aload_n dX10_leaves_9 rfl ?_
      refine v_iload_n dX10_leaves_10 rfl ?_
      refine v_callV (ci := 10) (K10_riseX hM hRI hs ⟨by omega, by omega⟩ (fun h => hl h.2)) ⟨rfl, rfl⟩ (Nat.le_refl _) (Nat.le_refl _) hM.1 rfl ⟨ml_X10_333, mm_X10_rise⟩ ⟨(Nat.le_of_ble_eq_true rfl), (Nat.le_of_ble_eq_true rfl)⟩ mp_X10_rise rfl rfl (Nat.le_of_ble_eq_true rfl) dX10_leaves_11 (fun r M' h => ?_)
      obtain ⟨x2, rfl, hM2, hF2, hx2⟩ := h
      replace hM := hM2
      have e45 : x2 45 = x2 45 := rfl
      refine v_if_eq (tgt := 53) dX10_leaves_14 (by decide) ⟨by omega, by omega⟩ (fun h14 => ?_) (fun h14 => ?_)
      · skip
        refine v_iconst dX10_leaves_53 ?_
        exact v_iret dX10_leaves_54 rfl (Nat.le_refl _) (Nat.le_refl _) (⟨by rw [if_neg (fun h => hl h.2)], ⟨_, _, hM, hRI.fr (hx2.tr xfr.rf (by decide) (fun t h => h)) afr.rf⟩, hF2⟩)
      · skip
        exfalso; omega
theorem R9_leavesN {i what : Int} (hI : InvR G M s) (hs : stOK s) (hk : ¬ isS s k) (hg : sw_rg k) (g2 : sw_rg what) : Kt l G μX10_leaves [.ref (sw_al G 70), sw_i k, sw_i i, sw_i what] M (fun r M' => r = some (sw_i (-1)) ∧ InvR G M' s ∧ frR M M') := by
  refine KtA.of (by decide +kernel) (Nat.le_of_ble_eq_true rfl) ?_
  have hF : frR M M := frR.rf
  obtain ⟨x, a, hM, hRI⟩ := hI
  refine v_iload_n dX10_leaves_0 rfl ?_
  refine v_iconst dX10_leaves_1 ?_
  refine v_iconst dX10_leaves_2 ?_
  refine v_callS (K10_in (v := what) (lo := 0) (hi := 1) g2 ⟨by omega, by omega⟩ ⟨by omega, by omega⟩) ⟨rfl, rfl⟩ (Nat.le_refl _) (Nat.le_refl _) ⟨ml_X10_107, mm_X10_in⟩ ⟨(Nat.le_of_ble_eq_true rfl), (Nat.le_of_ble_eq_true rfl)⟩ mp_X10_in rfl rfl (Nat.le_of_ble_eq_true rfl) dX10_leaves_3 (fun r M' h => ?_)
  obtain ⟨rfl, rfl⟩ := h
  refine v_ifb_eq (tgt := 53) dX10_leaves_6 (by decide) (fun q => ?_) (fun q => ?_)
  · skip
    refine v_iconst dX10_leaves_53 ?_
    exact v_iret dX10_leaves_54 rfl (Nat.le_refl _) (Nat.le_refl _) (⟨rfl, ⟨_, _, hM, hRI⟩, hF⟩)
  · skip
    refine v_aload_n dX10_leaves_9 rfl ?_
    refine v_iload_n dX10_leaves_10 rfl ?_
    refine v_callV (ci := 10) (K10_riseX hM hRI hs hg (fun h => hk h.1)) ⟨rfl, rfl⟩ (Nat.le_refl _) (Nat.le_refl _) hM.1 rfl ⟨ml_X10_333, mm_X10_rise⟩ ⟨(Nat.le_of_ble_eq_true rfl), (Nat.le_of_ble_eq_true rfl)⟩ mp_X10_rise rfl rfl (Nat.le_of_ble_eq_true rfl) dX10_leaves_11 (fun r M' h => ?_)
    obtain ⟨x2, rfl, hM2, hF2, hx2⟩ := h
    replace hM := hM2
    have e45 : x2 45 = x2 45 := rfl
    refine v_if_eq (tgt := 53) dX10_leaves_14 (by decide) ⟨by omega, by omega⟩ (fun h14 => ?_) (fun h14 => ?_)
    · skip
      refine v_iconst dX10_leaves_53 ?_
      exact v_iret dX10_leaves_54 rfl (Nat.le_refl _) (Nat.le_refl _) (⟨rfl, ⟨_, _, hM, hRI.fr (hx2.tr xfr.rf (by decide) (fun t h => h)) afr.rf⟩, hF2⟩)
    · skip
      exfalso; omega
end

