/-! the reference's face: change, worth, lay, feed -/
section
variable {l : Launch} {G : sw_G} {M : sw_M} {s : CSt} {k : Int}
theorem RI.ch {x : Nat → Int} {a a' : Nat → Int → Int} (h : RI s x a) (wf : ∀ k : Nat, k < qN s → wfS (qS s k)) {n : Nat} (hn : n < qN s) {σ : SaleT} (ha : frA n a a') (hr : rowR a' n σ) (hst : ∀ i, 0 ≤ i → i < 4 → sSt σ i = sSt (qS s n) i) : RI (sS s n σ) x a' := by
  obtain ⟨h1, h2, h3, h4, h5, h6, h7, h8, h9, h10, h11, h12⟩ := h
  refine ⟨h1, ?_, h3, h4, ?_, ?_, fun k hk => ?_, ?_, h9, h10, ?_, ?_⟩
  · rw [ha.1 1 (by omega)]; exact h2
  · rw [ha.1 18 (by omega)]; exact h5
  · rw [ha.1 42 (by omega)]; exact h6
  · rw [ha.1 13 (by omega)]
    by_cases e : k = n
    · subst e
      have e2 : qS (sS s k σ) k = σ := if_pos rfl
      rw [e2]
      exact ⟨hr, fun i i0 i1 => ((h7 k hk).2 i i0 i1).trans (hst i i0 i1).symm⟩
    · have e2 : qS (sS s n σ) k = qS s k := if_neg e
      rw [e2]
      obtain ⟨⟨r5, r6, r10, r11, r12, rr⟩, rs⟩ := h7 k hk
      obtain ⟨f5, f6, f10, f11, f12⟩ := ha.2.1 (k : Int) (by omega)
      refine ⟨⟨f5.trans r5, f6.trans r6, f10.trans r10, f11.trans r11, f12.trans r12, fun t t0 t1 => ?_⟩, rs⟩
      obtain ⟨u1, u2, u3⟩ := rr t t0 t1
      have t8 := (wf k hk).2.1
      have s5 := (wf k hk).1
      obtain ⟨f7, f8⟩ := ha.2.2.1 (8 * (k : Int) + t) (by omega)
      refine ⟨f7.trans u1, f8.trans u2, fun j j0 j1 => ?_⟩
      rw [ha.2.2.2 _ (by omega)]; exact u3 j j0 j1
  · rw [ha.1 13 (by omega)]; exact h8
  · rw [ha.1 49 (by omega)]; exact h11
  · rw [ha.1 48 (by omega)]; exact h12
theorem R9_change {what v : Int} (hI : InvR G M s) (hs : stOK s) (hk : isS s k) (g1 : sw_rg what) (g2 : sw_rg v) (hc : chOK what v) : Kt l G μX10_change [.ref (sw_al G 70), sw_i k, sw_i what, sw_i v] M (fun r M' => r = some (sw_i 1) ∧ InvR G M' (sS s k.toNat (σCh (sl s k) what v)) ∧ frR M M') := by
  refine KtA.of (by decide +kernel) (Nat.le_of_ble_eq_true rfl) ?_
  have hF : frR M M := frR.rf
  obtain ⟨x, a, hM, hRI⟩ := hI
  have hns : qN s ≤ 8 := hs.2.1
  obtain ⟨hk0, hk1⟩ := id hk
  have hr := hRI.row hk
  have ekn : ((k.toNat : Nat) : Int) = k := by omega
  have wf := fun (n : Nat) (hn : n < qN s) => (hs.2.2.1 n hn).1
  have fin : ∀ (q : Nat) (M1 : sw_M), (q = 10 ∧ what = 0 ∨ q = 11 ∧ what = 1 ∨ q = 12 ∧ what = 2) → RS G M1 x (upa a q (up (a q) k v)) → InvR G M1 (sS s k.toNat (σCh (sl s k) what v)) := by
    intro q M1 hq h
    have hh := frA.s1 (s := k) (a := a) (q := q) (by omega) v
    rw [← ekn] at hh
    refine ⟨x, _, h, hRI.ch wf (by omega) (by rw [ekn] at hh ⊢; exact hh) ?_ (fun i i0 i1 => rfl)⟩
    rw [ekn]
    obtain ⟨q5, q6, q10, q11, q12, qr⟩ := hr
    rcases hq with ⟨rfl, e⟩ | ⟨rfl, e⟩ | ⟨rfl, e⟩
    · refine ⟨q5, q6, ?_, ?_, ?_, qr⟩
      · exact up_eq.trans (if_pos e).symm
      · exact q11.trans (if_neg (by omega)).symm
      · exact q12.trans (if_neg (by omega)).symm
    · refine ⟨q5, q6, ?_, ?_, ?_, qr⟩
      · exact q10.trans (if_neg (by omega)).symm
      · exact up_eq.trans (if_pos e).symm
      · exact q12.trans (if_neg (by omega)).symm
    · refine ⟨q5, q6, ?_, ?_, ?_, qr⟩
      · exact q10.trans (if_neg (by omega)).symm
      · exact q11.trans (if_neg (by omega)).symm
      · exact up_eq.trans (if_pos e).symm
  obtain ⟨g3, g4⟩ := id g1
  obtain ⟨g5, g6⟩ := id g2
  unfold chOK at hc
  refine v_aload_n dX10_change_0 rfl ?_
  refine v_iload_n dX10_change_1 rfl ?_
  refine v_callV (ci := 10) (K10_isSale hM hRI.2.2.1 ⟨by omega, by omega⟩ ⟨by omega, by omega⟩) ⟨rfl, rfl⟩ (Nat.le_refl _) (Nat.le_refl _) hM.1 rfl ⟨ml_X10_129, mm_X10_isSale⟩ ⟨(Nat.le_of_ble_eq_true rfl), (Nat.le_of_ble_eq_true rfl)⟩ mp_X10_isSale rfl rfl (Nat.le_of_ble_eq_true rfl) dX10_change_2 (fun r M' h => ?_)
  obtain ⟨rfl, rfl⟩ := h
  refine v_ifb_eq (tgt := 52) dX10_change_5 (by decide) (fun h5 => ?_) (fun h5 => ?_)
  · skip
    exact absurd hk (by assumption)
  · skip
    refine v_iload_n dX10_change_8 rfl ?_
    refine v_iconst dX10_change_9 ?_
    refine v_iconst dX10_change_10 ?_
    refine v_callS (K10_in (v := what) (lo := 0) (hi := 2) g1 ⟨by omega, by omega⟩ ⟨by omega, by omega⟩) ⟨rfl, rfl⟩ (Nat.le_refl _) (Nat.le_refl _) ⟨ml_X10_107, mm_X10_in⟩ ⟨(Nat.le_of_ble_eq_true rfl), (Nat.le_of_ble_eq_true rfl)⟩ mp_X10_in rfl rfl (Nat.le_of_ble_eq_true rfl) dX10_change_11 (fun r M' h => ?_)
    obtain ⟨rfl, rfl⟩ := h
    refine v_ifb_eq (tgt := 52) dX10_change_14 (by decide) (fun h14 => ?_) (fun h14 => ?_)
    · skip
      exfalso; omega
    · skip
      refine v_iload_n dX10_change_17 rfl ?_
      refine v_iload_n dX10_change_18 rfl ?_
      refine v_if_ne (tgt := 26) dX10_change_19 (by decide) ⟨by omega, by omega⟩ (fun q1 => ?_) (fun q1 => ?_)
      · skip
        refine v_iconst dX10_change_26 ?_
        refine v_iload_n dX10_change_27 rfl ?_
        refine v_if_ne (tgt := 35) dX10_change_28 (by decide) ⟨by omega, by omega⟩ (fun q2 => ?_) (fun q2 => ?_)
        · skip
          refine v_iload_n dX10_change_35 rfl ?_
          refine v_iconst dX10_change_36 ?_
          refine v_icmp_ne (tgt := 45) dX10_change_37 (by decide) ⟨by omega, by omega⟩ ⟨by omega, by omega⟩ (fun q3 => ?_) (fun q3 => ?_)
          · skip
            refine v_iconst dX10_change_45 ?_
            refine v_callS (K10_in (v := v) (lo := 0) (hi := 2) g2 ⟨by omega, by omega⟩ ⟨by omega, by omega⟩) ⟨rfl, rfl⟩ (Nat.le_refl _) (Nat.le_refl _) ⟨ml_X10_107, mm_X10_in⟩ ⟨(Nat.le_of_ble_eq_true rfl), (Nat.le_of_ble_eq_true rfl)⟩ mp_X10_in rfl rfl (Nat.le_of_ble_eq_true rfl) dX10_change_46 (fun r M' h => ?_)
            obtain ⟨rfl, rfl⟩ := h
            refine v_ifb_ne (tgt := 54) dX10_change_49 (by decide) (fun h49 => ?_) (fun h49 => ?_)
            · skip
              refine v_iload_n dX10_change_54 rfl ?_
              refine v_if_ne (tgt := 68) dX10_change_55 (by decide) ⟨by omega, by omega⟩ (fun w1 => ?_) (fun w1 => ?_)
              · skip
                refine v_iload_n dX10_change_68 rfl ?_
                refine v_iconst dX10_change_69 ?_
                refine v_icmp_ne (tgt := 83) dX10_change_70 (by decide) ⟨by omega, by omega⟩ ⟨by omega, by omega⟩ (fun w2 => ?_) (fun w2 => ?_)
                · skip
                  refine v_aload_n dX10_change_83 rfl ?_
                  refine v_getfH 12 hM.1 fl_X10_34 rfl dX10_change_84 ?_
                  refine v_iload_n dX10_change_87 rfl ?_
                  refine v_iload_n dX10_change_88 rfl ?_
                  refine v_ris hM hF ar_12 (by omega) (by omega) dX10_change_89 (fun M hM hF => ?_)
                  refine v_iconst dX10_change_90 ?_
                  exact v_zret rfl dX10_change_91 rfl (Nat.le_refl _) (Nat.le_refl _) (⟨rfl, fin 12 _ (by omega) hM, hF⟩)
                · skip
                  refine v_aload_n dX10_change_73 rfl ?_
                  refine v_getfH 11 hM.1 fl_X10_31 rfl dX10_change_74 ?_
                  refine v_iload_n dX10_change_77 rfl ?_
                  refine v_iload_n dX10_change_78 rfl ?_
                  refine v_ris hM hF ar_11 (by omega) (by omega) dX10_change_79 (fun M hM hF => ?_)
                  refine v_goto (tgt := 90) dX10_change_80 (by decide) ?_
                  refine v_iconst dX10_change_90 ?_
                  exact v_zret rfl dX10_change_91 rfl (Nat.le_refl _) (Nat.le_refl _) (⟨rfl, fin 11 _ (by omega) hM, hF⟩)
              · skip
                refine v_aload_n dX10_change_58 rfl ?_
                refine v_getfH 10 hM.1 fl_X10_28 rfl dX10_change_59 ?_
                refine v_iload_n dX10_change_62 rfl ?_
                refine v_iload_n dX10_change_63 rfl ?_
                refine v_ris hM hF ar_10 (by omega) (by omega) dX10_change_64 (fun M hM hF => ?_)
                refine v_goto (tgt := 90) dX10_change_65 (by decide) ?_
                refine v_iconst dX10_change_90 ?_
                exact v_zret rfl dX10_change_91 rfl (Nat.le_refl _) (Nat.le_refl _) (⟨rfl, fin 10 _ (by omega) hM, hF⟩)
            · skip
              exfalso; omega
          · skip
            refine v_bipush dX10_change_40 (by decide +kernel) ?_
            refine v_goto (tgt := 46) dX10_change_42 (by decide) ?_
            refine v_callS (K10_in (v := v) (lo := 0) (hi := 60) g2 ⟨by omega, by omega⟩ ⟨by omega, by omega⟩) ⟨rfl, rfl⟩ (Nat.le_refl _) (Nat.le_refl _) ⟨ml_X10_107, mm_X10_in⟩ ⟨(Nat.le_of_ble_eq_true rfl), (Nat.le_of_ble_eq_true rfl)⟩ mp_X10_in rfl rfl (Nat.le_of_ble_eq_true rfl) dX10_change_46 (fun r M' h => ?_)
            obtain ⟨rfl, rfl⟩ := h
            refine v_ifb_ne (tgt := 54) dX10_change_49 (by decide) (fun h49 => ?_) (fun h49 => ?_)
            · skip
              refine v_iload_n dX10_change_54 rfl ?_
              refine v_if_ne (tgt := 68) dX10_change_55 (by decide) ⟨by omega, by omega⟩ (fun w1 => ?_) (fun w1 => ?_)
              · skip
                refine v_iload_n dX10_change_68 rfl ?_
                refine v_iconst dX10_change_69 ?_
                refine v_icmp_ne (tgt := 83) dX10_change_70 (by decide) ⟨by omega, by omega⟩ ⟨by omega, by omega⟩ (fun w2 => ?_) (fun w2 => ?_)
                · skip
                  refine v_aload_n dX10_change_83 rfl ?_
                  refine v_getfH 12 hM.1 fl_X10_34 rfl dX10_change_84 ?_
                  refine v_iload_n dX10_change_87 rfl ?_
                  refine v_iload_n dX10_change_88 rfl ?_
                  refine v_ris hM hF ar_12 (by omega) (by omega) dX10_change_89 (fun M hM hF => ?_)
                  refine v_iconst dX10_change_90 ?_
                  exact v_zret rfl dX10_change_91 rfl (Nat.le_refl _) (Nat.le_refl _) (⟨rfl, fin 12 _ (by omega) hM, hF⟩)
                · skip
                  refine v_aload_n dX10_change_73 rfl ?_
                  refine v_getfH 11 hM.1 fl_X10_31 rfl dX10_change_74 ?_
                  refine v_iload_n dX10_change_77 rfl ?_
                  refine v_iload_n dX10_change_78 rfl ?_
                  refine v_ris hM hF ar_11 (by omega) (by omega) dX10_change_79 (fun M hM hF => ?_)
                  refine v_goto (tgt := 90) dX10_change_80 (by decide) ?_
                  refine v_iconst dX10_change_90 ?_
                  exact v_zret rfl dX10_change_91 rfl (Nat.le_refl _) (Nat.le_refl _) (⟨rfl, fin 11 _ (by omega) hM, hF⟩)
              · skip
                refine v_aload_n dX10_change_58 rfl ?_
                refine v_getfH 10 hM.1 fl_X10_28 rfl dX10_change_59 ?_
                refine v_iload_n dX10_change_62 rfl ?_
                refine v_iload_n dX10_change_63 rfl ?_
                refine v_ris hM hF ar_10 (by omega) (by omega) dX10_change_64 (fun M hM hF => ?_)
                refine v_goto (tgt := 90) dX10_change_65 (by decide) ?_
                refine v_iconst dX10_change_90 ?_
                exact v_zret rfl dX10_change_91 rfl (Nat.le_refl _) (Nat.le_refl _) (⟨rfl, fin 10 _ (by omega) hM, hF⟩)
            · skip
              exfalso; omega
        · skip
          exfalso; omega
      · skip
        refine v_iconst dX10_change_22 ?_
        refine v_goto (tgt := 27) dX10_change_23 (by decide) ?_
        refine v_iload_n dX10_change_27 rfl ?_
        refine v_if_ne (tgt := 35) dX10_change_28 (by decide) ⟨by omega, by omega⟩ (fun q2 => ?_) (fun q2 => ?_)
        · skip
          exfalso; omega
        · skip
          refine v_iconst dX10_change_31 ?_
          refine v_goto (tgt := 46) dX10_change_32 (by decide) ?_
          refine v_callS (K10_in (v := v) (lo := 1) (hi := 4) g2 ⟨by omega, by omega⟩ ⟨by omega, by omega⟩) ⟨rfl, rfl⟩ (Nat.le_refl _) (Nat.le_refl _) ⟨ml_X10_107, mm_X10_in⟩ ⟨(Nat.le_of_ble_eq_true rfl), (Nat.le_of_ble_eq_true rfl)⟩ mp_X10_in rfl rfl (Nat.le_of_ble_eq_true rfl) dX10_change_46 (fun r M' h => ?_)
          obtain ⟨rfl, rfl⟩ := h
          refine v_ifb_ne (tgt := 54) dX10_change_49 (by decide) (fun h49 => ?_) (fun h49 => ?_)
          · skip
            refine v_iload_n dX10_change_54 rfl ?_
            refine v_if_ne (tgt := 68) dX10_change_55 (by decide) ⟨by omega, by omega⟩ (fun w1 => ?_) (fun w1 => ?_)
            · skip
              refine v_iload_n dX10_change_68 rfl ?_
              refine v_iconst dX10_change_69 ?_
              refine v_icmp_ne (tgt := 83) dX10_change_70 (by decide) ⟨by omega, by omega⟩ ⟨by omega, by omega⟩ (fun w2 => ?_) (fun w2 => ?_)
              · skip
                refine v_aload_n dX10_change_83 rfl ?_
                refine v_getfH 12 hM.1 fl_X10_34 rfl dX10_change_84 ?_
                refine v_iload_n dX10_change_87 rfl ?_
                refine v_iload_n dX10_change_88 rfl ?_
                refine v_ris hM hF ar_12 (by omega) (by omega) dX10_change_89 (fun M hM hF => ?_)
                refine v_iconst dX10_change_90 ?_
                exact v_zret rfl dX10_change_91 rfl (Nat.le_refl _) (Nat.le_refl _) (⟨rfl, fin 12 _ (by omega) hM, hF⟩)
              · skip
                refine v_aload_n dX10_change_73 rfl ?_
                refine v_getfH 11 hM.1 fl_X10_31 rfl dX10_change_74 ?_
                refine v_iload_n dX10_change_77 rfl ?_
                refine v_iload_n dX10_change_78 rfl ?_
                refine v_ris hM hF ar_11 (by omega) (by omega) dX10_change_79 (fun M hM hF => ?_)
                refine v_goto (tgt := 90) dX10_change_80 (by decide) ?_
                refine v_iconst dX10_change_90 ?_
                exact v_zret rfl dX10_change_91 rfl (Nat.le_refl _) (Nat.le_refl _) (⟨rfl, fin 11 _ (by omega) hM, hF⟩)
            · skip
              refine v_aload_n dX10_change_58 rfl ?_
              refine v_getfH 10 hM.1 fl_X10_28 rfl dX10_change_59 ?_
              refine v_iload_n dX10_change_62 rfl ?_
              refine v_iload_n dX10_change_63 rfl ?_
              refine v_ris hM hF ar_10 (by omega) (by omega) dX10_change_64 (fun M hM hF => ?_)
              refine v_goto (tgt := 90) dX10_change_65 (by decide) ?_
              refine v_iconst dX10_change_90 ?_
              exact v_zret rfl dX10_change_91 rfl (Nat.le_refl _) (Nat.le_refl _) (⟨rfl, fin 10 _ (by omega) hM, hF⟩)
          · skip
            exfalso; omega
theorem R9_changeX {what v : Int} (hI : InvR G M s) (hs : stOK s) (hk : isS s k) (g1 : sw_rg what) (g2 : sw_rg v) (hc : ¬ chOK what v) : Kt l G μX10_change [.ref (sw_al G 70), sw_i k, sw_i what, sw_i v] M (fun r M' => r = some (sw_i 0) ∧ InvR G M' s ∧ frR M M') := by
  refine KtA.of (by decide +kernel) (Nat.le_of_ble_eq_true rfl) ?_
  obtain ⟨x, a, hM, hRI⟩ := hI
  have hns : qN s ≤ 8 := hs.2.1
  obtain ⟨hk0, hk1⟩ := id hk
  obtain ⟨g3, g4⟩ := id g1
  unfold chOK at hc
  refine v_aload_n dX10_change_0 rfl ?_
  refine v_iload_n dX10_change_1 rfl ?_
  refine v_callV (ci := 10) (K10_isSale hM hRI.2.2.1 ⟨by omega, by omega⟩ ⟨by omega, by omega⟩) ⟨rfl, rfl⟩ (Nat.le_refl _) (Nat.le_refl _) hM.1 rfl ⟨ml_X10_129, mm_X10_isSale⟩ ⟨(Nat.le_of_ble_eq_true rfl), (Nat.le_of_ble_eq_true rfl)⟩ mp_X10_isSale rfl rfl (Nat.le_of_ble_eq_true rfl) dX10_change_2 (fun r M' h => ?_)
  obtain ⟨rfl, rfl⟩ := h
  refine v_ifb_eq (tgt := 52) dX10_change_5 (by decide) (fun h5 => ?_) (fun h5 => ?_)
  · skip
    exact absurd hk (by assumption)
  · skip
    refine v_iload_n dX10_change_8 rfl ?_
    refine v_iconst dX10_change_9 ?_
    refine v_iconst dX10_change_10 ?_
    refine v_callS (K10_in (v := what) (lo := 0) (hi := 2) g1 ⟨by omega, by omega⟩ ⟨by omega, by omega⟩) ⟨rfl, rfl⟩ (Nat.le_refl _) (Nat.le_refl _) ⟨ml_X10_107, mm_X10_in⟩ ⟨(Nat.le_of_ble_eq_true rfl), (Nat.le_of_ble_eq_true rfl)⟩ mp_X10_in rfl rfl (Nat.le_of_ble_eq_true rfl) dX10_change_11 (fun r M' h => ?_)
    obtain ⟨rfl, rfl⟩ := h
    refine v_ifb_eq (tgt := 52) dX10_change_14 (by decide) (fun h14 => ?_) (fun h14 => ?_)
    · skip
      refine v_iconst dX10_change_52 ?_
      exact v_zret rfl dX10_change_53 rfl (Nat.le_refl _) (Nat.le_refl _) (⟨rfl, ⟨_, _, hM, hRI⟩, frR.rf⟩)
    · skip
      refine v_iload_n dX10_change_17 rfl ?_
      refine v_iload_n dX10_change_18 rfl ?_
      refine v_if_ne (tgt := 26) dX10_change_19 (by decide) ⟨by omega, by omega⟩ (fun q1 => ?_) (fun q1 => ?_)
      · skip
        refine v_iconst dX10_change_26 ?_
        refine v_iload_n dX10_change_27 rfl ?_
        refine v_if_ne (tgt := 35) dX10_change_28 (by decide) ⟨by omega, by omega⟩ (fun q2 => ?_) (fun q2 => ?_)
        · skip
          refine v_iload_n dX10_change_35 rfl ?_
          refine v_iconst dX10_change_36 ?_
          refine v_icmp_ne (tgt := 45) dX10_change_37 (by decide) ⟨by omega, by omega⟩ ⟨by omega, by omega⟩ (fun q3 => ?_) (fun q3 => ?_)
          · skip
            refine v_iconst dX10_change_45 ?_
            refine v_callS (K10_in (v := v) (lo := 0) (hi := 2) g2 ⟨by omega, by omega⟩ ⟨by omega, by omega⟩) ⟨rfl, rfl⟩ (Nat.le_refl _) (Nat.le_refl _) ⟨ml_X10_107, mm_X10_in⟩ ⟨(Nat.le_of_ble_eq_true rfl), (Nat.le_of_ble_eq_true rfl)⟩ mp_X10_in rfl rfl (Nat.le_of_ble_eq_true rfl) dX10_change_46 (fun r M' h => ?_)
            obtain ⟨rfl, rfl⟩ := h
            refine v_ifb_ne (tgt := 54) dX10_change_49 (by decide) (fun h49 => ?_) (fun h49 => ?_)
            · skip
              exfalso; omega
            · skip
              refine v_iconst dX10_change_52 ?_
              exact v_zret rfl dX10_change_53 rfl (Nat.le_refl _) (Nat.le_refl _) (⟨rfl, ⟨_, _, hM, hRI⟩, frR.rf⟩)
          · skip
            refine v_bipush dX10_change_40 (by decide +kernel) ?_
            refine v_goto (tgt := 46) dX10_change_42 (by decide) ?_
            refine v_callS (K10_in (v := v) (lo := 0) (hi := 60) g2 ⟨by omega, by omega⟩ ⟨by omega, by omega⟩) ⟨rfl, rfl⟩ (Nat.le_refl _) (Nat.le_refl _) ⟨ml_X10_107, mm_X10_in⟩ ⟨(Nat.le_of_ble_eq_true rfl), (Nat.le_of_ble_eq_true rfl)⟩ mp_X10_in rfl rfl (Nat.le_of_ble_eq_true rfl) dX10_change_46 (fun r M' h => ?_)
            obtain ⟨rfl, rfl⟩ := h
            refine v_ifb_ne (tgt := 54) dX10_change_49 (by decide) (fun h49 => ?_) (fun h49 => ?_)
            · skip
              exfalso; omega
            · skip
              refine v_iconst dX10_change_52 ?_
              exact v_zret rfl dX10_change_53 rfl (Nat.le_refl _) (Nat.le_refl _) (⟨rfl, ⟨_, _, hM, hRI⟩, frR.rf⟩)
        · skip
          exfalso; omega
      · skip
        refine v_iconst dX10_change_22 ?_
        refine v_goto (tgt := 27) dX10_change_23 (by decide) ?_
        refine v_iload_n dX10_change_27 rfl ?_
        refine v_if_ne (tgt := 35) dX10_change_28 (by decide) ⟨by omega, by omega⟩ (fun q2 => ?_) (fun q2 => ?_)
        · skip
          exfalso; omega
        · skip
          refine v_iconst dX10_change_31 ?_
          refine v_goto (tgt := 46) dX10_change_32 (by decide) ?_
          refine v_callS (K10_in (v := v) (lo := 1) (hi := 4) g2 ⟨by omega, by omega⟩ ⟨by omega, by omega⟩) ⟨rfl, rfl⟩ (Nat.le_refl _) (Nat.le_refl _) ⟨ml_X10_107, mm_X10_in⟩ ⟨(Nat.le_of_ble_eq_true rfl), (Nat.le_of_ble_eq_true rfl)⟩ mp_X10_in rfl rfl (Nat.le_of_ble_eq_true rfl) dX10_change_46 (fun r M' h => ?_)
          obtain ⟨rfl, rfl⟩ := h
          refine v_ifb_ne (tgt := 54) dX10_change_49 (by decide) (fun h49 => ?_) (fun h49 => ?_)
          · skip
            exfalso; omega
          · skip
            refine v_iconst dX10_change_52 ?_
            exact v_zret rfl dX10_change_53 rfl (Nat.le_refl _) (Nat.le_refl _) (⟨rfl, ⟨_, _, hM, hRI⟩, frR.rf⟩)
theorem R9_changeN {what v : Int} (hI : InvR G M s) (hs : stOK s) (hk : ¬ isS s k) (hg : sw_rg k) : Kt l G μX10_change [.ref (sw_al G 70), sw_i k, sw_i what, sw_i v] M (fun r M' => r = some (sw_i 0) ∧ InvR G M' s ∧ frR M M') := by
  refine KtA.of (by decide +kernel) (Nat.le_of_ble_eq_true rfl) ?_
  obtain ⟨x, a, hM, hRI⟩ := hI
  have hns : qN s ≤ 8 := hs.2.1
  refine v_aload_n dX10_change_0 rfl ?_
  refine v_iload_n dX10_change_1 rfl ?_
  refine v_callV (ci := 10) (K10_isSale hM hRI.2.2.1 ⟨by omega, by omega⟩ hg) ⟨rfl, rfl⟩ (Nat.le_refl _) (Nat.le_refl _) hM.1 rfl ⟨ml_X10_129, mm_X10_isSale⟩ ⟨(Nat.le_of_ble_eq_true rfl), (Nat.le_of_ble_eq_true rfl)⟩ mp_X10_isSale rfl rfl (Nat.le_of_ble_eq_true rfl) dX10_change_2 (fun r M' h => ?_)
  obtain ⟨rfl, rfl⟩ := h
  refine v_ifb_eq (tgt := 52) dX10_change_5 (by decide) (fun h5 => ?_) (fun h5 => ?_)
  · skip
    refine v_iconst dX10_change_52 ?_
    exact v_zret rfl dX10_change_53 rfl (Nat.le_refl _) (Nat.le_refl _) (⟨rfl, ⟨_, _, hM, hRI⟩, frR.rf⟩)
  · skip
    exact absurd (by assumption) hk
theorem R9_worth {p q r' t' what : Int} (hI : InvR G M s) (hs : stOK s) (hk : isS s k) (g1 : sw_rg p) (g2 : sw_rg q) (g3 : sw_rg r') (g4 : sw_rg t') (g5 : sw_rg what) (hp : woP (sl s k) p q r' t' what) : Kt l G μX10_worth [.ref (sw_al G 70), sw_i k, sw_i p, sw_i q, sw_i r', sw_i t', sw_i what] M (fun r M' => r = some (sw_i (if 0 < dnS (sl s k) p q r' t' (sTr (sl s k)).toNat then woF (sl s k) p q r' t' what else -1)) ∧ InvR G M' s ∧ frR M M') := by
  refine KtA.of (by decide +kernel) (Nat.le_of_ble_eq_true rfl) ?_
  have hF : frR M M := frR.rf
  obtain ⟨x, a, hM, hRI⟩ := hI
  have hns : qN s ≤ 8 := hs.2.1
  obtain ⟨hk0, hk1⟩ := id hk
  have hr := hRI.row hk
  have hw := hs.sale hk
  have hsg := hw.1
  have htr := hw.2.1
  obtain ⟨⟨p1, p2⟩, p3, p4, p5⟩ := hp
  have b1 := up_bd hw p q r' t' (n := (sTr (sl s k)).toNat) (by omega)
  have b2 := dn_bd hw p q r' t' (n := (sTr (sl s k)).toNat) (by omega)
  have sgb : 0 ≤ sSg (sl s k) ∧ sSg (sl s k) ≤ 5 := ⟨by omega, by omega⟩
  refine v_aload_n dX10_worth_0 rfl ?_
  refine v_iload_n dX10_worth_1 rfl ?_
  refine v_callV (ci := 10) (K10_isSale hM hRI.2.2.1 ⟨by omega, by omega⟩ ⟨by omega, by omega⟩) ⟨rfl, rfl⟩ (Nat.le_refl _) (Nat.le_refl _) hM.1 rfl ⟨ml_X10_129, mm_X10_isSale⟩ ⟨(Nat.le_of_ble_eq_true rfl), (Nat.le_of_ble_eq_true rfl)⟩ mp_X10_isSale rfl rfl (Nat.le_of_ble_eq_true rfl) dX10_worth_2 (fun r M' h => ?_)
  obtain ⟨rfl, rfl⟩ := h
  refine v_ifb_eq (tgt := 56) dX10_worth_5 (by decide) (fun h5 => ?_) (fun h5 => ?_)
  · skip
    exact absurd hk (by assumption)
  · skip
    refine v_aload_n dX10_worth_8 rfl ?_
    refine v_iload_n dX10_worth_9 rfl ?_
    refine v_iload_n dX10_worth_10 rfl ?_
    refine v_callV (ci := 10) (K10_isSign hM hr.1 sgb ⟨by omega, by omega⟩ g1) ⟨rfl, rfl⟩ (Nat.le_refl _) (Nat.le_refl _) hM.1 rfl ⟨ml_X10_162, mm_X10_isSign⟩ ⟨(Nat.le_of_ble_eq_true rfl), (Nat.le_of_ble_eq_true rfl)⟩ mp_X10_isSign rfl rfl (Nat.le_of_ble_eq_true rfl) dX10_worth_11 (fun r M' h => ?_)
    obtain ⟨rfl, rfl⟩ := h
    refine v_ifb_eq (tgt := 56) dX10_worth_14 (by decide) (fun h14 => ?_) (fun h14 => ?_)
    · skip
      exact absurd p1 (by assumption)
    · skip
      refine v_aload_n dX10_worth_17 rfl ?_
      refine v_iload_n dX10_worth_18 rfl ?_
      refine v_iload_n dX10_worth_19 rfl ?_
      refine v_callV (ci := 10) (K10_isSignOrNone hM hr.1 sgb ⟨by omega, by omega⟩ g2) ⟨rfl, rfl⟩ (Nat.le_refl _) (Nat.le_refl _) hM.1 rfl ⟨ml_X10_166, mm_X10_isSignOrNone⟩ ⟨(Nat.le_of_ble_eq_true rfl), (Nat.le_of_ble_eq_true rfl)⟩ mp_X10_isSignOrNone rfl rfl (Nat.le_of_ble_eq_true rfl) dX10_worth_20 (fun r M' h => ?_)
      obtain ⟨rfl, rfl⟩ := h
      refine v_ifb_eq (tgt := 56) dX10_worth_23 (by decide) (fun h23 => ?_) (fun h23 => ?_)
      · skip
        exact absurd p3 (by assumption)
      · skip
        refine v_aload_n dX10_worth_26 rfl ?_
        refine v_iload_n dX10_worth_27 rfl ?_
        refine v_iload dX10_worth_28 rfl ?_
        refine v_callV (ci := 10) (K10_isSignOrNone hM hr.1 sgb ⟨by omega, by omega⟩ g3) ⟨rfl, rfl⟩ (Nat.le_refl _) (Nat.le_refl _) hM.1 rfl ⟨ml_X10_166, mm_X10_isSignOrNone⟩ ⟨(Nat.le_of_ble_eq_true rfl), (Nat.le_of_ble_eq_true rfl)⟩ mp_X10_isSignOrNone rfl rfl (Nat.le_of_ble_eq_true rfl) dX10_worth_30 (fun r M' h => ?_)
        obtain ⟨rfl, rfl⟩ := h
        refine v_ifb_eq (tgt := 56) dX10_worth_33 (by decide) (fun h33 => ?_) (fun h33 => ?_)
        · skip
          exact absurd p4 (by assumption)
        · skip
          refine v_aload_n dX10_worth_36 rfl ?_
          refine v_iload_n dX10_worth_37 rfl ?_
          refine v_iload dX10_worth_38 rfl ?_
          refine v_callV (ci := 10) (K10_isSignOrNone hM hr.1 sgb ⟨by omega, by omega⟩ g4) ⟨rfl, rfl⟩ (Nat.le_refl _) (Nat.le_refl _) hM.1 rfl ⟨ml_X10_166, mm_X10_isSignOrNone⟩ ⟨(Nat.le_of_ble_eq_true rfl), (Nat.le_of_ble_eq_true rfl)⟩ mp_X10_isSignOrNone rfl rfl (Nat.le_of_ble_eq_true rfl) dX10_worth_40 (fun r M' h => ?_)
          obtain ⟨rfl, rfl⟩ := h
          refine v_ifb_eq (tgt := 56) dX10_worth_43 (by decide) (fun h43 => ?_) (fun h43 => ?_)
          · skip
            exact absurd p5 (by assumption)
          · skip
            refine v_iload dX10_worth_46 rfl ?_
            refine v_iconst dX10_worth_48 ?_
            refine v_iconst dX10_worth_49 ?_
            refine v_callS (K10_in (v := what) (lo := 0) (hi := 1) g5 ⟨by omega, by omega⟩ ⟨by omega, by omega⟩) ⟨rfl, rfl⟩ (Nat.le_refl _) (Nat.le_refl _) ⟨ml_X10_107, mm_X10_in⟩ ⟨(Nat.le_of_ble_eq_true rfl), (Nat.le_of_ble_eq_true rfl)⟩ mp_X10_in rfl rfl (Nat.le_of_ble_eq_true rfl) dX10_worth_50 (fun r M' h => ?_)
            obtain ⟨rfl, rfl⟩ := h
            refine v_ifb_ne (tgt := 58) dX10_worth_53 (by decide) (fun h53 => ?_) (fun h53 => ?_)
            · skip
              refine v_aload_n dX10_worth_58 rfl ?_
              refine v_iload_n dX10_worth_59 rfl ?_
              refine v_iload_n dX10_worth_60 rfl ?_
              refine v_iload dX10_worth_61 rfl ?_
              refine v_iload dX10_worth_63 rfl ?_
              refine v_callV (ci := 10) (K10_see hM g1 g2 g3 g4) ⟨rfl, rfl⟩ (Nat.le_refl _) (Nat.le_refl _) hM.1 rfl ⟨ml_X10_145, mm_X10_see⟩ ⟨(Nat.le_of_ble_eq_true rfl), (Nat.le_of_ble_eq_true rfl)⟩ mp_X10_see rfl rfl (Nat.le_of_ble_eq_true rfl) dX10_worth_65 (fun r M' h => ?_)
              obtain ⟨S, rfl, hM1, hF1, hS⟩ := h
              replace hM := hM1
              replace hF := hF.tr hF1
              refine v_aload_n dX10_worth_68 rfl ?_
              refine v_iload_n dX10_worth_69 rfl ?_
              refine v_callV (ci := 10) (K10_weigh hM (hr.fr (K := [15]) (afr.rf.up (by simp)) (by decide)) ⟨by omega, by omega⟩ hw (p := p) (q := q) (r' := r') (s' := t') (fun k k0 k1 => by rw [upa_s]; exact hS k k0 k1) (Or.inr p1) p3 p4 p5) ⟨rfl, rfl⟩ (Nat.le_refl _) (Nat.le_refl _) hM.1 rfl ⟨ml_X10_142, mm_X10_weigh⟩ ⟨(Nat.le_of_ble_eq_true rfl), (Nat.le_of_ble_eq_true rfl)⟩ mp_X10_weigh rfl rfl (Nat.le_of_ble_eq_true rfl) dX10_worth_70 (fun r M' h => ?_)
              obtain ⟨rfl, hM1, hF1⟩ := h
              replace hM := hM1
              replace hF := hF.tr hF1
              have f16 : upn (upn x 16 (upS (sl s k) p q r' t' (sTr (sl s k)).toNat)) 17 (dnS (sl s k) p q r' t' (sTr (sl s k)).toNat) 16 = upS (sl s k) p q r' t' (sTr (sl s k)).toNat := (upn_o (by decide)).trans upn_s
              have hfin := (show InvR G _ s from ⟨_, _, hM, hRI.fr ((xfr.rf.up (k := 16) (by decide)).up (k := 17) (by decide)) (afr.rf.up (k := 15) (by decide))⟩)
              refine v_aload_n dX10_worth_73 rfl ?_
              refine v_rgj 17 hM upn_s fl_X10_139 rfl dX10_worth_74 ?_
              refine v_lconst (z := 0) dX10_worth_77 (by decide +kernel) ?_
              refine v_lcmp_ne (tgt := 86) dX10_worth_78 dX10_worth_79 (by decide) ⟨by omega, by omega⟩ ⟨by omega, by omega⟩ (fun q1 => ?_) (fun q1 => ?_)
              · skip
                refine v_aload_n dX10_worth_86 rfl ?_
                refine v_rgj 16 hM f16 fl_X10_135 rfl dX10_worth_87 ?_
                refine v_aload_n dX10_worth_90 rfl ?_
                refine v_rgj 17 hM upn_s fl_X10_139 rfl dX10_worth_91 ?_
                refine v_iload dX10_worth_94 rfl ?_
                refine v_callS (K10_part (p := upS (sl s k) p q r' t' (sTr (sl s k)).toNat) (q := dnS (sl s k) p q r' t' (sTr (sl s k)).toNat) (what := what) ⟨by omega, by omega⟩ ⟨by omega, by omega⟩ g5) ⟨rfl, rfl⟩ (Nat.le_refl _) (Nat.le_refl _) ⟨ml_X10_169, mm_X10_part⟩ ⟨(Nat.le_of_ble_eq_true rfl), (Nat.le_of_ble_eq_true rfl)⟩ mp_X10_part rfl rfl (Nat.le_of_ble_eq_true rfl) dX10_worth_96 (fun r M' h => ?_)
                obtain ⟨rfl, rfl⟩ := h
                refine v_l2i dX10_worth_99 ?_
                exact v_iret dX10_worth_100 rfl (Nat.le_refl _) (Nat.le_refl _) (⟨by rw [if_pos (show 0 < dnS (sl s k) p q r' t' (sTr (sl s k)).toNat by omega)]; rfl, hfin, hF⟩)
              · skip
                refine v_iconst dX10_worth_82 ?_
                refine v_goto (tgt := 100) dX10_worth_83 (by decide) ?_
                exact v_iret dX10_worth_100 rfl (Nat.le_refl _) (Nat.le_refl _) (⟨by rw [if_neg (by omega)], hfin, hF⟩)
            · skip
              exfalso; omega
theorem R9_worthX {p q r' t' what : Int} (hI : InvR G M s) (hs : stOK s) (hk : isS s k) (g1 : sw_rg p) (g2 : sw_rg q) (g3 : sw_rg r') (g4 : sw_rg t') (g5 : sw_rg what) (hp : ¬ woP (sl s k) p q r' t' what) : Kt l G μX10_worth [.ref (sw_al G 70), sw_i k, sw_i p, sw_i q, sw_i r', sw_i t', sw_i what] M (fun r M' => r = some (sw_i (-1)) ∧ InvR G M' s ∧ frR M M') := by
  refine KtA.of (by decide +kernel) (Nat.le_of_ble_eq_true rfl) ?_
  obtain ⟨x, a, hM, hRI⟩ := hI
  have hns : qN s ≤ 8 := hs.2.1
  obtain ⟨hk0, hk1⟩ := id hk
  have hr := hRI.row hk
  have hw := hs.sale hk
  have hsg := hw.1
  have sgb : 0 ≤ sSg (sl s k) ∧ sSg (sl s k) ≤ 5 := ⟨by omega, by omega⟩
  refine v_aload_n dX10_worth_0 rfl ?_
  refine v_iload_n dX10_worth_1 rfl ?_
  refine v_callV (ci := 10) (K10_isSale hM hRI.2.2.1 ⟨by omega, by omega⟩ ⟨by omega, by omega⟩) ⟨rfl, rfl⟩ (Nat.le_refl _) (Nat.le_refl _) hM.1 rfl ⟨ml_X10_129, mm_X10_isSale⟩ ⟨(Nat.le_of_ble_eq_true rfl), (Nat.le_of_ble_eq_true rfl)⟩ mp_X10_isSale rfl rfl (Nat.le_of_ble_eq_true rfl) dX10_worth_2 (fun r M' h => ?_)
  obtain ⟨rfl, rfl⟩ := h
  refine v_ifb_eq (tgt := 56) dX10_worth_5 (by decide) (fun h5 => ?_) (fun h5 => ?_)
  · skip
    exact absurd hk (by assumption)
  · skip
    refine v_aload_n dX10_worth_8 rfl ?_
    refine v_iload_n dX10_worth_9 rfl ?_
    refine v_iload_n dX10_worth_10 rfl ?_
    refine v_callV (ci := 10) (K10_isSign hM hr.1 sgb ⟨by omega, by omega⟩ g1) ⟨rfl, rfl⟩ (Nat.le_refl _) (Nat.le_refl _) hM.1 rfl ⟨ml_X10_162, mm_X10_isSign⟩ ⟨(Nat.le_of_ble_eq_true rfl), (Nat.le_of_ble_eq_true rfl)⟩ mp_X10_isSign rfl rfl (Nat.le_of_ble_eq_true rfl) dX10_worth_11 (fun r M' h => ?_)
    obtain ⟨rfl, rfl⟩ := h
    refine v_ifb_eq (tgt := 56) dX10_worth_14 (by decide) (fun q1 => ?_) (fun q1 => ?_)
    · skip
      refine v_iconst dX10_worth_56 ?_
      exact v_iret dX10_worth_57 rfl (Nat.le_refl _) (Nat.le_refl _) (⟨rfl, ⟨_, _, hM, hRI⟩, frR.rf⟩)
    · skip
      refine v_aload_n dX10_worth_17 rfl ?_
      refine v_iload_n dX10_worth_18 rfl ?_
      refine v_iload_n dX10_worth_19 rfl ?_
      refine v_callV (ci := 10) (K10_isSignOrNone hM hr.1 sgb ⟨by omega, by omega⟩ g2) ⟨rfl, rfl⟩ (Nat.le_refl _) (Nat.le_refl _) hM.1 rfl ⟨ml_X10_166, mm_X10_isSignOrNone⟩ ⟨(Nat.le_of_ble_eq_true rfl), (Nat.le_of_ble_eq_true rfl)⟩ mp_X10_isSignOrNone rfl rfl (Nat.le_of_ble_eq_true rfl) dX10_worth_20 (fun r M' h => ?_)
      obtain ⟨rfl, rfl⟩ := h
      refine v_ifb_eq (tgt := 56) dX10_worth_23 (by decide) (fun q2 => ?_) (fun q2 => ?_)
      · skip
        refine v_iconst dX10_worth_56 ?_
        exact v_iret dX10_worth_57 rfl (Nat.le_refl _) (Nat.le_refl _) (⟨rfl, ⟨_, _, hM, hRI⟩, frR.rf⟩)
      · skip
        refine v_aload_n dX10_worth_26 rfl ?_
        refine v_iload_n dX10_worth_27 rfl ?_
        refine v_iload dX10_worth_28 rfl ?_
        refine v_callV (ci := 10) (K10_isSignOrNone hM hr.1 sgb ⟨by omega, by omega⟩ g3) ⟨rfl, rfl⟩ (Nat.le_refl _) (Nat.le_refl _) hM.1 rfl ⟨ml_X10_166, mm_X10_isSignOrNone⟩ ⟨(Nat.le_of_ble_eq_true rfl), (Nat.le_of_ble_eq_true rfl)⟩ mp_X10_isSignOrNone rfl rfl (Nat.le_of_ble_eq_true rfl) dX10_worth_30 (fun r M' h => ?_)
        obtain ⟨rfl, rfl⟩ := h
        refine v_ifb_eq (tgt := 56) dX10_worth_33 (by decide) (fun q3 => ?_) (fun q3 => ?_)
        · skip
          refine v_iconst dX10_worth_56 ?_
          exact v_iret dX10_worth_57 rfl (Nat.le_refl _) (Nat.le_refl _) (⟨rfl, ⟨_, _, hM, hRI⟩, frR.rf⟩)
        · skip
          refine v_aload_n dX10_worth_36 rfl ?_
          refine v_iload_n dX10_worth_37 rfl ?_
          refine v_iload dX10_worth_38 rfl ?_
          refine v_callV (ci := 10) (K10_isSignOrNone hM hr.1 sgb ⟨by omega, by omega⟩ g4) ⟨rfl, rfl⟩ (Nat.le_refl _) (Nat.le_refl _) hM.1 rfl ⟨ml_X10_166, mm_X10_isSignOrNone⟩ ⟨(Nat.le_of_ble_eq_true rfl), (Nat.le_of_ble_eq_true rfl)⟩ mp_X10_isSignOrNone rfl rfl (Nat.le_of_ble_eq_true rfl) dX10_worth_40 (fun r M' h => ?_)
          obtain ⟨rfl, rfl⟩ := h
          refine v_ifb_eq (tgt := 56) dX10_worth_43 (by decide) (fun q4 => ?_) (fun q4 => ?_)
          · skip
            refine v_iconst dX10_worth_56 ?_
            exact v_iret dX10_worth_57 rfl (Nat.le_refl _) (Nat.le_refl _) (⟨rfl, ⟨_, _, hM, hRI⟩, frR.rf⟩)
          · skip
            refine v_iload dX10_worth_46 rfl ?_
            refine v_iconst dX10_worth_48 ?_
            refine v_iconst dX10_worth_49 ?_
            refine v_callS (K10_in (v := what) (lo := 0) (hi := 1) g5 ⟨by omega, by omega⟩ ⟨by omega, by omega⟩) ⟨rfl, rfl⟩ (Nat.le_refl _) (Nat.le_refl _) ⟨ml_X10_107, mm_X10_in⟩ ⟨(Nat.le_of_ble_eq_true rfl), (Nat.le_of_ble_eq_true rfl)⟩ mp_X10_in rfl rfl (Nat.le_of_ble_eq_true rfl) dX10_worth_50 (fun r M' h => ?_)
            obtain ⟨rfl, rfl⟩ := h
            refine v_ifb_ne (tgt := 58) dX10_worth_53 (by decide) (fun q5 => ?_) (fun q5 => ?_)
            · skip
              exact absurd ⟨⟨q1, by omega⟩, q2, q3, q4⟩ hp
            · skip
              refine v_iconst dX10_worth_56 ?_
              exact v_iret dX10_worth_57 rfl (Nat.le_refl _) (Nat.le_refl _) (⟨rfl, ⟨_, _, hM, hRI⟩, frR.rf⟩)
theorem R9_worthN {p q r' t' what : Int} (hI : InvR G M s) (hs : stOK s) (hk : ¬ isS s k) (hg : sw_rg k) : Kt l G μX10_worth [.ref (sw_al G 70), sw_i k, sw_i p, sw_i q, sw_i r', sw_i t', sw_i what] M (fun r M' => r = some (sw_i (-1)) ∧ InvR G M' s ∧ frR M M') := by
  refine KtA.of (by decide +kernel) (Nat.le_of_ble_eq_true rfl) ?_
  obtain ⟨x, a, hM, hRI⟩ := hI
  have hns : qN s ≤ 8 := hs.2.1
  refine v_aload_n dX10_worth_0 rfl ?_
  refine v_iload_n dX10_worth_1 rfl ?_
  refine v_callV (ci := 10) (K10_isSale hM hRI.2.2.1 ⟨by omega, by omega⟩ hg) ⟨rfl, rfl⟩ (Nat.le_refl _) (Nat.le_refl _) hM.1 rfl ⟨ml_X10_129, mm_X10_isSale⟩ ⟨(Nat.le_of_ble_eq_true rfl), (Nat.le_of_ble_eq_true rfl)⟩ mp_X10_isSale rfl rfl (Nat.le_of_ble_eq_true rfl) dX10_worth_2 (fun r M' h => ?_)
  obtain ⟨rfl, rfl⟩ := h
  refine v_ifb_eq (tgt := 56) dX10_worth_5 (by decide) (fun h5 => ?_) (fun h5 => ?_)
  · skip
    refine v_iconst dX10_worth_56 ?_
    exact v_iret dX10_worth_57 rfl (Nat.le_refl _) (Nat.le_refl _) (⟨rfl, ⟨_, _, hM, hRI⟩, frR.rf⟩)
  · skip
    exact absurd (by assumption) hk
theorem R9_lay {seat sign : Int} (hI : InvR G M s) (hc : (0 ≤ seat ∧ seat < 4) ∧ 0 ≤ sign ∧ sign < 5) : Kt l G μX10_lay_ [.ref (sw_al G 70), sw_i seat, sw_i sign] M (fun r M' => r = some (sw_i 1) ∧ InvR G M' (sD s (up (qD s) seat sign)) ∧ frR M M') := by
  refine KtA.of (by decide +kernel) (Nat.le_of_ble_eq_true rfl) ?_
  have hF : frR M M := frR.rf
  obtain ⟨x, a, hM, hRI⟩ := hI
  obtain ⟨g1, g2, g3, h19, g5, g6, g7, g8, g9, g10, g11, g12⟩ := id hRI
  obtain ⟨c1, c2⟩ := hc
  have e42 : ∀ i, 0 ≤ i → i < 4 → up (a 42) seat sign i = up (qD s) seat sign i := fun i i0 i1 => by
    by_cases c : i = seat
    · rw [c, up_eq, up_eq]
    · rw [up_ne c, up_ne c]; exact g6 i i0 i1
  refine v_iload_n dX10_lay__0 rfl ?_
  refine v_iconst dX10_lay__1 ?_
  refine v_iconst dX10_lay__2 ?_
  refine v_callS (K10_in (v := seat) (lo := 0) (hi := 3) ⟨by omega, by omega⟩ ⟨by omega, by omega⟩ ⟨by omega, by omega⟩) ⟨rfl, rfl⟩ (Nat.le_refl _) (Nat.le_refl _) ⟨ml_X10_107, mm_X10_in⟩ ⟨(Nat.le_of_ble_eq_true rfl), (Nat.le_of_ble_eq_true rfl)⟩ mp_X10_in rfl rfl (Nat.le_of_ble_eq_true rfl) dX10_lay__3 (fun r M' h => ?_)
  obtain ⟨rfl, rfl⟩ := h
  refine v_ifb_eq (tgt := 18) dX10_lay__6 (by decide) (fun h6 => ?_) (fun h6 => ?_)
  · skip
    exfalso; omega
  · skip
    refine v_iload_n dX10_lay__9 rfl ?_
    refine v_iconst dX10_lay__10 ?_
    refine v_iconst dX10_lay__11 ?_
    refine v_callS (K10_in (v := sign) (lo := 0) (hi := 4) ⟨by omega, by omega⟩ ⟨by omega, by omega⟩ ⟨by omega, by omega⟩) ⟨rfl, rfl⟩ (Nat.le_refl _) (Nat.le_refl _) ⟨ml_X10_107, mm_X10_in⟩ ⟨(Nat.le_of_ble_eq_true rfl), (Nat.le_of_ble_eq_true rfl)⟩ mp_X10_in rfl rfl (Nat.le_of_ble_eq_true rfl) dX10_lay__12 (fun r M' h => ?_)
    obtain ⟨rfl, rfl⟩ := h
    refine v_ifb_ne (tgt := 20) dX10_lay__15 (by decide) (fun h15 => ?_) (fun h15 => ?_)
    · skip
      refine v_aload_n dX10_lay__20 rfl ?_
      refine v_getfH 42 hM.1 fl_X10_61 rfl dX10_lay__21 ?_
      refine v_iload_n dX10_lay__24 rfl ?_
      refine v_iload_n dX10_lay__25 rfl ?_
      refine v_ris hM hF ar_42 (by omega) (by omega) dX10_lay__26 (fun M hM hF => ?_)
      refine v_iconst dX10_lay__27 ?_
      exact v_zret rfl dX10_lay__28 rfl (Nat.le_refl _) (Nat.le_refl _) (⟨rfl, ⟨_, _, hM, g1, g2, g3, h19, g5, e42, g7, g8, g9, g10, g11, g12⟩, hF⟩)
    · skip
      exfalso; omega
theorem R9_layX {seat sign : Int} (hI : InvR G M s) (hc : ¬ ((0 ≤ seat ∧ seat < 4) ∧ 0 ≤ sign ∧ sign < 5)) (g1 : sw_rg seat) (g2 : sw_rg sign) : Kt l G μX10_lay_ [.ref (sw_al G 70), sw_i seat, sw_i sign] M (fun r M' => r = some (sw_i 0) ∧ InvR G M' s ∧ frR M M') := by
  refine KtA.of (by decide +kernel) (Nat.le_of_ble_eq_true rfl) ?_
  refine v_iload_n dX10_lay__0 rfl ?_
  refine v_iconst dX10_lay__1 ?_
  refine v_iconst dX10_lay__2 ?_
  refine v_callS (K10_in (v := seat) (lo := 0) (hi := 3) g1 ⟨by omega, by omega⟩ ⟨by omega, by omega⟩) ⟨rfl, rfl⟩ (Nat.le_refl _) (Nat.le_refl _) ⟨ml_X10_107, mm_X10_in⟩ ⟨(Nat.le_of_ble_eq_true rfl), (Nat.le_of_ble_eq_true rfl)⟩ mp_X10_in rfl rfl (Nat.le_of_ble_eq_true rfl) dX10_lay__3 (fun r M' h => ?_)
  obtain ⟨rfl, rfl⟩ := h
  refine v_ifb_eq (tgt := 18) dX10_lay__6 (by decide) (fun h6 => ?_) (fun h6 => ?_)
  · skip
    refine v_iconst dX10_lay__18 ?_
    exact v_zret rfl dX10_lay__19 rfl (Nat.le_refl _) (Nat.le_refl _) (⟨rfl, hI, frR.rf⟩)
  · skip
    refine v_iload_n dX10_lay__9 rfl ?_
    refine v_iconst dX10_lay__10 ?_
    refine v_iconst dX10_lay__11 ?_
    refine v_callS (K10_in (v := sign) (lo := 0) (hi := 4) g2 ⟨by omega, by omega⟩ ⟨by omega, by omega⟩) ⟨rfl, rfl⟩ (Nat.le_refl _) (Nat.le_refl _) ⟨ml_X10_107, mm_X10_in⟩ ⟨(Nat.le_of_ble_eq_true rfl), (Nat.le_of_ble_eq_true rfl)⟩ mp_X10_in rfl rfl (Nat.le_of_ble_eq_true rfl) dX10_lay__12 (fun r M' h => ?_)
    obtain ⟨rfl, rfl⟩ := h
    refine v_ifb_ne (tgt := 20) dX10_lay__15 (by decide) (fun h15 => ?_) (fun h15 => ?_)
    · skip
      exfalso; omega
    · skip
      refine v_iconst dX10_lay__18 ?_
      exact v_zret rfl dX10_lay__19 rfl (Nat.le_refl _) (Nat.le_refl _) (⟨rfl, hI, frR.rf⟩)
end
/-- the bytes of five words, one by one -/
def bk5 (a b c d e : Int) (k : Nat) : Int := byt (if k < 4 then a else if k < 8 then b else if k < 12 then c else if k < 16 then d else e) (24 - 8 * ((k % 4 : Nat) : Int))
def apk (f : Nat → Int) (s : (Int → Int) × Int) : Nat → (Int → Int) × Int
  | 0 => s
  | k + 1 => ap (apk f s k) (f k)
def ctk (f : Nat → Int) : Nat → Int
  | 0 => 0
  | k + 1 => ctk f k + (if f k = 0 then 0 else 1)
theorem ctk_bd (f : Nat → Int) : ∀ k, 0 ≤ ctk f k ∧ ctk f k ≤ k
  | 0 => by show 0 ≤ (0 : Int) ∧ (0 : Int) ≤ 0; omega
  | k + 1 => by
    have ih := ctk_bd f k
    show 0 ≤ ctk f k + (if f k = 0 then 0 else 1) ∧ ctk f k + (if f k = 0 then 0 else 1) ≤ ((k + 1 : Nat) : Int)
    split <;> omega
theorem ctk_mono (f : Nat → Int) {n m : Nat} (h : n ≤ m) : ctk f n ≤ ctk f m := by
  induction h with
  | refl => exact Int.le_refl _
  | step _ ih =>
    refine Int.le_trans ih ?_
    show _ ≤ ctk f _ + (if f _ = 0 then 0 else 1)
    split <;> omega
theorem apk_len (f : Nat → Int) (s : (Int → Int) × Int) : ∀ k, (apk f s k).2 = s.2 + ctk f k
  | 0 => by show s.2 = s.2 + 0; omega
  | k + 1 => by
    have ih := apk_len f s k
    show (ap (apk f s k) (f k)).2 = s.2 + (ctk f k + (if f k = 0 then 0 else 1))
    unfold ap
    by_cases c : f k = 0
    · rw [if_pos c, if_pos c]; omega
    · rw [if_neg c, if_neg c]; dsimp only; omega
theorem apk_fd5 (s : CSt) (a b c d e : Int) : apk (bk5 a b c d e) (qF s, qL s) 20 = fd5 s a b c d e := rfl
theorem ctk_cnt (a b c d e : Int) : ctk (bk5 a b c d e) 20 = cnt4 a 4 + cnt4 b 4 + cnt4 c 4 + cnt4 d 4 + cnt4 e 4 := by
  have e0 : ctk (bk5 a b c d e) 4 = cnt4 a 4 := rfl
  have h : ∀ (w : Int) (j : Nat), (∀ i : Nat, i < 4 → bk5 a b c d e (j + i) = byt w (24 - 8 * i)) → ctk (bk5 a b c d e) (j + 4) = ctk (bk5 a b c d e) j + cnt4 w 4 := by
    intro w j hw
    show ctk (bk5 a b c d e) j + (if bk5 a b c d e j = 0 then 0 else 1) + (if bk5 a b c d e (j + 1) = 0 then 0 else 1) + (if bk5 a b c d e (j + 2) = 0 then 0 else 1) + (if bk5 a b c d e (j + 3) = 0 then 0 else 1) = ctk (bk5 a b c d e) j + (0 + (if byt w (24 - 8 * (0 : Nat)) = 0 then 0 else 1) + (if byt w (24 - 8 * (1 : Nat)) = 0 then 0 else 1) + (if byt w (24 - 8 * (2 : Nat)) = 0 then 0 else 1) + (if byt w (24 - 8 * (3 : Nat)) = 0 then 0 else 1))
    rw [← hw 0 (by omega), ← hw 1 (by omega), ← hw 2 (by omega), ← hw 3 (by omega)]
    show _ = ctk (bk5 a b c d e) j + (0 + (if bk5 a b c d e j = 0 then 0 else 1) + (if bk5 a b c d e (j + 1) = 0 then 0 else 1) + (if bk5 a b c d e (j + 2) = 0 then 0 else 1) + (if bk5 a b c d e (j + 3) = 0 then 0 else 1))
    omega
  have h4 : ∀ i : Nat, i < 4 → i = 0 ∨ i = 1 ∨ i = 2 ∨ i = 3 := fun i hi => by omega
  have e1 : ctk (bk5 a b c d e) 8 = ctk (bk5 a b c d e) 4 + cnt4 b 4 := h b 4 (fun i hi => by rcases h4 i hi with rfl | rfl | rfl | rfl <;> rfl)
  have e2 : ctk (bk5 a b c d e) 12 = ctk (bk5 a b c d e) 8 + cnt4 c 4 := h c 8 (fun i hi => by rcases h4 i hi with rfl | rfl | rfl | rfl <;> rfl)
  have e3 : ctk (bk5 a b c d e) 16 = ctk (bk5 a b c d e) 12 + cnt4 d 4 := h d 12 (fun i hi => by rcases h4 i hi with rfl | rfl | rfl | rfl <;> rfl)
  have e4 : ctk (bk5 a b c d e) 20 = ctk (bk5 a b c d e) 16 + cnt4 e 4 := h e 16 (fun i hi => by rcases h4 i hi with rfl | rfl | rfl | rfl <;> rfl)
  omega
/-- the same bytes behind tapes that are alike -/
theorem apk_congr {f : Nat → Int} {g g' : Int → Int} {len : Int} (h0 : 0 ≤ len) (h : ∀ i, 0 ≤ i → i < len → g i = g' i) : ∀ k, ∀ i, 0 ≤ i → i < (apk f (g, len) k).2 → (apk f (g, len) k).1 i = (apk f (g', len) k).1 i
  | 0 => h
  | k + 1 => by
    have ih := apk_congr (f := f) h0 h k
    have e1 := apk_len f (g, len) k
    have e2 := apk_len f (g', len) k
    show ∀ i, 0 ≤ i → i < (ap (apk f (g, len) k) (f k)).2 → (ap (apk f (g, len) k) (f k)).1 i = (ap (apk f (g', len) k) (f k)).1 i
    unfold ap
    by_cases c : f k = 0
    · rw [if_pos c, if_pos c]; exact ih
    · rw [if_neg c, if_neg c]
      intro i i0 i1
      show up (apk f (g, len) k).1 (apk f (g, len) k).2 (f k) i = up (apk f (g', len) k).1 (apk f (g', len) k).2 (f k) i
      have i1 : i < (apk f (g, len) k).2 + 1 := i1
      rw [e1, e2]
      by_cases ci : i = len + ctk f k
      · rw [ci, up_eq, up_eq]
      · rw [up_ne ci, up_ne ci]; exact ih i i0 (by omega)
section
variable {l : Launch} {G : sw_G} {M : sw_M} {s : CSt}
theorem K10_byteOf {a b c d e : Int} {k : Nat} (hk : k < 20) : Kt l G μX10_byteOf [sw_i a, sw_i b, sw_i c, sw_i d, sw_i e, sw_i (k : Int)] M (fun r M' => r = some (sw_i (bk5 a b c d e k)) ∧ M' = M) := by
  refine KtA.of (by decide +kernel) (Nat.le_of_ble_eq_true rfl) ?_
  have tail : ∀ (w : Int), w = (if k < 4 then a else if k < 8 then b else if k < 12 then c else if k < 16 then d else e) → V l G μX10_byteOf sw_E0 (sw_Zq G μX10_byteOf (sw_q0 G (fun r M' => r = some (sw_i (bk5 a b c d e k)) ∧ M' = M))) 45 [(0, sw_i a), (1, sw_i b), (2, sw_i c), (3, sw_i d), (4, sw_i e), (5, sw_i (k : Int))] [sw_i w] M 0 0 := by
    intro w hw
    have e4 : (k : Int) % 4 = ((k % 4 : Nat) : Int) := rfl
    have hb : (24 - 8 * ((k % 4 : Nat) : Int)) = ((24 - 8 * (k % 4) : Nat) : Int) := by omega
    refine v_istore dX10_byteOf_45 (Nat.le_of_ble_eq_true rfl) ?_
    refine v_iload dX10_byteOf_47 rfl ?_
    refine v_bipush dX10_byteOf_49 (by decide +kernel) ?_
    refine v_bipush dX10_byteOf_51 (by decide +kernel) ?_
    refine v_iload dX10_byteOf_53 rfl ?_
    refine v_iconst dX10_byteOf_55 ?_
    refine v_irem dX10_byteOf_56 ⟨by omega, by omega⟩ (by omega) ⟨by omega, by omega⟩ (by omega) ?_
    refine v_imul dX10_byteOf_57 ?_
    refine v_isub dX10_byteOf_58 ?_
    rw [show (k : Int) % 4 = ((k % 4 : Nat) : Int) from rfl]
    refine v_ishr (z := shs w (24 - 8 * ((k % 4 : Nat) : Int))) dX10_byteOf_59 (sw_ofI _) ?_
    refine v_sipush dX10_byteOf_60 (by decide +kernel) ?_
    refine v_iand (z := bys w (24 - 8 * ((k % 4 : Nat) : Int))) dX10_byteOf_63 (sw_ofI _) ?_
    exact v_iret dX10_byteOf_64 rfl (Nat.le_refl _) (Nat.le_refl _) (⟨by rw [hb, bys_eq w _ (by omega), ← hb, hw]; rfl, rfl⟩)
  refine v_iload dX10_byteOf_0 rfl ?_
  refine v_iconst dX10_byteOf_2 ?_
  refine v_icmp_ge (tgt := 10) dX10_byteOf_3 (by decide) ⟨by omega, by omega⟩ ⟨by omega, by omega⟩ (fun h3 => ?_) (fun h3 => ?_)
  · skip
    refine v_iload dX10_byteOf_10 rfl ?_
    refine v_bipush dX10_byteOf_12 (by decide +kernel) ?_
    refine v_icmp_ge (tgt := 21) dX10_byteOf_14 (by decide) ⟨by omega, by omega⟩ ⟨by omega, by omega⟩ (fun h14 => ?_) (fun h14 => ?_)
    · skip
      refine v_iload dX10_byteOf_21 rfl ?_
      refine v_bipush dX10_byteOf_23 (by decide +kernel) ?_
      refine v_icmp_ge (tgt := 32) dX10_byteOf_25 (by decide) ⟨by omega, by omega⟩ ⟨by omega, by omega⟩ (fun h25 => ?_) (fun h25 => ?_)
      · skip
        refine v_iload dX10_byteOf_32 rfl ?_
        refine v_bipush dX10_byteOf_34 (by decide +kernel) ?_
        refine v_icmp_ge (tgt := 43) dX10_byteOf_36 (by decide) ⟨by omega, by omega⟩ ⟨by omega, by omega⟩ (fun h36 => ?_) (fun h36 => ?_)
        · skip
          refine v_iload dX10_byteOf_43 rfl ?_
          exact tail e (by rw [if_neg (by omega), if_neg (by omega), if_neg (by omega), if_neg (by omega)])
        · skip
          refine v_iload_n dX10_byteOf_39 rfl ?_
          refine v_goto (tgt := 45) dX10_byteOf_40 (by decide) ?_
          exact tail d (by rw [if_neg (by omega), if_neg (by omega), if_neg (by omega), if_pos (by omega)])
      · skip
        refine v_iload_n dX10_byteOf_28 rfl ?_
        refine v_goto (tgt := 45) dX10_byteOf_29 (by decide) ?_
        exact tail c (by rw [if_neg (by omega), if_neg (by omega), if_pos (by omega)])
    · skip
      refine v_iload_n dX10_byteOf_17 rfl ?_
      refine v_goto (tgt := 45) dX10_byteOf_18 (by decide) ?_
      exact tail b (by rw [if_neg (by omega), if_pos (by omega)])
  · skip
    refine v_iload_n dX10_byteOf_6 rfl ?_
    refine v_goto (tgt := 45) dX10_byteOf_7 (by decide) ?_
    exact tail a (by rw [if_pos (by omega)])
end

