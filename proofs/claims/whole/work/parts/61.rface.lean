/-! the reference between calls; its face: end, told, table, bid, seat, change, count, got -/
/-- the reference's slots and rows tell the same state -/
def RI (s : CSt) (x : Nat → Int) (a : Nat → Int → Int) : Prop :=
  x 2 = qL s ∧ (∀ i, 0 ≤ i → i < qL s → a 1 i = qF s i) ∧ x 14 = (qN s : Int) ∧ x 19 = qT s ∧ (∀ i, 0 ≤ i → i < 50 → a 18 i = qB s i) ∧ (∀ i, 0 ≤ i → i < 4 → a 42 i = qD s i) ∧ (∀ k : Nat, k < qN s → rowR a k (qS s k) ∧ ∀ i, 0 ≤ i → i < 4 → a 13 (4 * k + i) = sSt (qS s k) i) ∧ (∀ i, 4 * (qN s : Int) ≤ i → i < 32 → a 13 i = -1) ∧
  x 50 = qM s ∧ x 52 = qK s ∧ (∀ i, 0 ≤ i → i < qM s → a 49 i = qG s i) ∧ (∀ p j, 0 ≤ p → p < qM s → 0 ≤ j → j < 5 → (if j < x 51 then a 48 (5 * p + j) else 0) = qR s (p * 5 + j)) ∧ 0 ≤ x 51 ∧ x 51 ≤ 5
def InvR (G : sw_G) (M : sw_M) (s : CSt) : Prop := ∃ x a, RS G M x a ∧ RI s x a
/-- the reference's scratch -/
abbrev XL : List Nat := [0, 3, 4, 16, 17, 21, 22, 23, 26, 27, 28, 29, 30, 31, 32, 33, 34, 35, 36, 37, 38, 39, 45, 46, 47, 53]
abbrev AL : List Nat := [15, 20, 24, 25, 40, 41, 43, 44]
theorem RI.fr {s : CSt} {x x' : Nat → Int} {a a' : Nat → Int → Int} (h : RI s x a) (hx : xfr XL x x') (ha : afr AL a a') : RI s x' a' := by
  obtain ⟨h1, h2, h3, h4, h5, h6, h7, h8, h9, h10, h11, h12⟩ := h
  refine ⟨(hx 2 (by decide)).trans h1, ?_, (hx 14 (by decide)).trans h3, (hx 19 (by decide)).trans h4, ?_, ?_, fun k hk => ⟨(h7 k hk).1.fr ha (by decide), ?_⟩, ?_, (hx 50 (by decide)).trans h9, (hx 52 (by decide)).trans h10, ?_, ?_⟩
  · rw [ha 1 (by decide)]; exact h2
  · rw [ha 18 (by decide)]; exact h5
  · rw [ha 42 (by decide)]; exact h6
  · rw [ha 13 (by decide)]; exact (h7 k hk).2
  · rw [ha 13 (by decide)]; exact h8
  · rw [ha 49 (by decide)]; exact h11
  · rw [ha 48 (by decide), hx 51 (by decide)]; exact h12
theorem RI.row {s : CSt} {x : Nat → Int} {a : Nat → Int → Int} (h : RI s x a) {k : Int} (hk : isS s k) : rowR a k (sl s k) := by
  obtain ⟨k0, k1⟩ := hk
  have := (h.2.2.2.2.2.2.1 k.toNat (by omega)).1
  rwa [show ((k.toNat : Nat) : Int) = k by omega] at this
theorem RI.seat {s : CSt} {x : Nat → Int} {a : Nat → Int → Int} (h : RI s x a) {k : Int} (hk : isS s k) {i : Int} (i0 : 0 ≤ i) (i1 : i < 4) : a 13 (4 * k + i) = sSt (sl s k) i := by
  obtain ⟨k0, k1⟩ := hk
  have := (h.2.2.2.2.2.2.1 k.toNat (by omega)).2 i i0 i1
  rwa [show ((k.toNat : Nat) : Int) = k by omega] at this
section
variable {l : Launch} {G : sw_G} {M : sw_M} {s : CSt} {k : Int}
theorem R9_end {n : Int} (hI : InvR G M s) (hs : stOK s) (hn : 0 ≤ n ∧ n ≤ qL s) : Kt l G μX10_end [.ref (sw_al G 70), sw_i n] M (fun r M' => r = some (sw_i 1) ∧ InvR G M' (sF s (qF s) n) ∧ frR M M') := by
  refine KtA.of (by decide +kernel) (Nat.le_of_ble_eq_true rfl) ?_
  have hF : frR M M := frR.rf
  obtain ⟨x, a, hM, hRI⟩ := hI
  obtain ⟨h2, g2, g3, g4, g5, g6, g7, g8, g9, g10, g11, g12⟩ := id hRI
  obtain ⟨l0, l1, -⟩ := hs.1
  refine v_iload_n dX10_end_0 rfl ?_
  refine v_if_lt (tgt := 12) dX10_end_1 (by decide) ⟨by omega, by omega⟩ (fun h1 => ?_) (fun h1 => ?_)
  · skip
    exfalso; omega
  · skip
    refine v_iload_n dX10_end_4 rfl ?_
    refine v_aload_n dX10_end_5 rfl ?_
    refine v_rgi 2 hM h2 fl_X10_84 rfl dX10_end_6 ?_
    refine v_icmp_le (tgt := 14) dX10_end_9 (by decide) ⟨by omega, by omega⟩ ⟨by omega, by omega⟩ (fun h9 => ?_) (fun h9 => ?_)
    · skip
      refine v_aload_n dX10_end_14 rfl ?_
      refine v_iload_n dX10_end_15 rfl ?_
      refine v_rp 2 hM hF (flS_2 G _ _) fp_X10_84 rfl rfl (Nat.le_of_ble_eq_true rfl) dX10_end_16 (fun M hM hF => ?_)
      refine v_iconst dX10_end_19 ?_
      exact v_zret rfl dX10_end_20 rfl (Nat.le_refl _) (Nat.le_refl _) (⟨rfl, ⟨_, _, hM, upn_s, fun i i0 i1 => g2 i i0 (by have i1 : i < n := i1; omega), g3, g4, g5, g6, g7, g8, g9, g10, g11, g12⟩, hF⟩)
    · skip
      exfalso; omega
theorem R9_endX {n : Int} (hI : InvR G M s) (hs : stOK s) (hn : ¬ (0 ≤ n ∧ n ≤ qL s)) (hg : sw_rg n) : Kt l G μX10_end [.ref (sw_al G 70), sw_i n] M (fun r M' => r = some (sw_i 0) ∧ InvR G M' s ∧ frR M M') := by
  refine KtA.of (by decide +kernel) (Nat.le_of_ble_eq_true rfl) ?_
  have hF : frR M M := frR.rf
  obtain ⟨x, a, hM, hRI⟩ := hI
  have h2 := hRI.1
  obtain ⟨l0, l1, -⟩ := hs.1
  obtain ⟨g1, g2⟩ := hg
  refine v_iload_n dX10_end_0 rfl ?_
  refine v_if_lt (tgt := 12) dX10_end_1 (by decide) ⟨by omega, by omega⟩ (fun h1 => ?_) (fun h1 => ?_)
  · skip
    refine v_iconst dX10_end_12 ?_
    exact v_zret rfl dX10_end_13 rfl (Nat.le_refl _) (Nat.le_refl _) (⟨rfl, ⟨_, _, hM, hRI⟩, hF⟩)
  · skip
    refine v_iload_n dX10_end_4 rfl ?_
    refine v_aload_n dX10_end_5 rfl ?_
    refine v_rgi 2 hM h2 fl_X10_84 rfl dX10_end_6 ?_
    refine v_icmp_le (tgt := 14) dX10_end_9 (by decide) ⟨by omega, by omega⟩ ⟨by omega, by omega⟩ (fun h9 => ?_) (fun h9 => ?_)
    · skip
      exfalso; omega
    · skip
      refine v_iconst dX10_end_12 ?_
      exact v_zret rfl dX10_end_13 rfl (Nat.le_refl _) (Nat.le_refl _) (⟨rfl, ⟨_, _, hM, hRI⟩, hF⟩)
theorem R9_told {w : Int} (hI : InvR G M s) (hs : stOK s) (hk : isS s k) (hg : sw_rg w) : Kt l G μX10_told [.ref (sw_al G 70), sw_i k, sw_i w] M (fun r M' => r = some (sw_i (toldF (sl s k) w)) ∧ InvR G M' s ∧ frR M M') := by
  refine KtA.of (by decide +kernel) (Nat.le_of_ble_eq_true rfl) ?_
  have hF : frR M M := frR.rf
  obtain ⟨x, a, hM, hRI⟩ := hI
  have hr := hRI.row hk
  obtain ⟨q5, q6, q10, q11, q12, qr⟩ := id hr
  have hw := hs.sale hk
  have htr := hw.2.1
  have hns : qN s ≤ 8 := hs.2.1
  obtain ⟨hk0, hk1⟩ := id hk
  obtain ⟨g1, g2⟩ := id hg
  refine v_aload_n dX10_told_0 rfl ?_
  refine v_iload_n dX10_told_1 rfl ?_
  refine v_callV (ci := 10) (K10_isSale hM hRI.2.2.1 ⟨by omega, by omega⟩ ⟨by omega, by omega⟩) ⟨rfl, rfl⟩ (Nat.le_refl _) (Nat.le_refl _) hM.1 rfl ⟨ml_X10_129, mm_X10_isSale⟩ ⟨(Nat.le_of_ble_eq_true rfl), (Nat.le_of_ble_eq_true rfl)⟩ mp_X10_isSale rfl rfl (Nat.le_of_ble_eq_true rfl) dX10_told_2 (fun r M' h => ?_)
  obtain ⟨rfl, rfl⟩ := h
  refine v_ifb_eq (tgt := 17) dX10_told_5 (by decide) (fun h5 => ?_) (fun h5 => ?_)
  · skip
    exact absurd hk (by assumption)
  · skip
    refine v_iload_n dX10_told_8 rfl ?_
    refine v_iconst dX10_told_9 ?_
    refine v_iconst dX10_told_10 ?_
    refine v_callS (K10_in (v := w) (lo := 0) (hi := 5) hg ⟨by omega, by omega⟩ ⟨by omega, by omega⟩) ⟨rfl, rfl⟩ (Nat.le_refl _) (Nat.le_refl _) ⟨ml_X10_107, mm_X10_in⟩ ⟨(Nat.le_of_ble_eq_true rfl), (Nat.le_of_ble_eq_true rfl)⟩ mp_X10_in rfl rfl (Nat.le_of_ble_eq_true rfl) dX10_told_11 (fun r M' h => ?_)
    obtain ⟨rfl, rfl⟩ := h
    refine v_ifb_ne (tgt := 19) dX10_told_14 (by decide) (fun q1 => ?_) (fun q1 => ?_)
    · skip
      refine v_iload_n dX10_told_19 rfl ?_
      refine v_if_ne (tgt := 32) dX10_told_20 (by decide) ⟨by omega, by omega⟩ (fun c0 => ?_) (fun c0 => ?_)
      · skip
        refine v_iload_n dX10_told_32 rfl ?_
        refine v_iconst dX10_told_33 ?_
        refine v_icmp_ne (tgt := 46) dX10_told_34 (by decide) ⟨by omega, by omega⟩ ⟨by omega, by omega⟩ (fun c1 => ?_) (fun c1 => ?_)
        · skip
          refine v_iload_n dX10_told_46 rfl ?_
          refine v_iconst dX10_told_47 ?_
          refine v_icmp_ne (tgt := 60) dX10_told_48 (by decide) ⟨by omega, by omega⟩ ⟨by omega, by omega⟩ (fun c2 => ?_) (fun c2 => ?_)
          · skip
            refine v_iload_n dX10_told_60 rfl ?_
            refine v_iconst dX10_told_61 ?_
            refine v_icmp_ne (tgt := 74) dX10_told_62 (by decide) ⟨by omega, by omega⟩ ⟨by omega, by omega⟩ (fun c3 => ?_) (fun c3 => ?_)
            · skip
              refine v_iload_n dX10_told_74 rfl ?_
              refine v_iconst dX10_told_75 ?_
              refine v_icmp_ne (tgt := 88) dX10_told_76 (by decide) ⟨by omega, by omega⟩ ⟨by omega, by omega⟩ (fun c4 => ?_) (fun c4 => ?_)
              · skip
                refine v_aload_n dX10_told_88 rfl ?_
                refine v_iload_n dX10_told_89 rfl ?_
                refine v_callV (ci := 10) (K10_allWeights hM hr ⟨by omega, by omega⟩ ⟨by omega, by omega⟩) ⟨rfl, rfl⟩ (Nat.le_refl _) (Nat.le_refl _) hM.1 rfl ⟨ml_X10_132, mm_X10_allWeights⟩ ⟨(Nat.le_of_ble_eq_true rfl), (Nat.le_of_ble_eq_true rfl)⟩ mp_X10_allWeights rfl rfl (Nat.le_of_ble_eq_true rfl) dX10_told_90 (fun r M' h => ?_)
                obtain ⟨rfl, rfl⟩ := h
                exact v_iret dX10_told_93 rfl (Nat.le_refl _) (Nat.le_refl _) (⟨by unfold toldF; rw [if_neg c0, if_neg c1, if_neg c2, if_neg c3, if_neg c4, if_pos (by omega)], ⟨_, _, hM, hRI⟩, hF⟩)
              · skip
                refine v_aload_n dX10_told_79 rfl ?_
                refine v_getfH 12 hM.1 fl_X10_34 rfl dX10_told_80 ?_
                refine v_iload_n dX10_told_83 rfl ?_
                refine v_ria hM ar_12 (by omega) (by omega) q12 dX10_told_84 ?_
                refine v_goto (tgt := 93) dX10_told_85 (by decide) ?_
                exact v_iret dX10_told_93 rfl (Nat.le_refl _) (Nat.le_refl _) (⟨by unfold toldF; rw [if_neg c0, if_neg c1, if_neg c2, if_neg c3, if_pos c4], ⟨_, _, hM, hRI⟩, hF⟩)
            · skip
              refine v_aload_n dX10_told_65 rfl ?_
              refine v_getfH 11 hM.1 fl_X10_31 rfl dX10_told_66 ?_
              refine v_iload_n dX10_told_69 rfl ?_
              refine v_ria hM ar_11 (by omega) (by omega) q11 dX10_told_70 ?_
              refine v_goto (tgt := 93) dX10_told_71 (by decide) ?_
              exact v_iret dX10_told_93 rfl (Nat.le_refl _) (Nat.le_refl _) (⟨by unfold toldF; rw [if_neg c0, if_neg c1, if_neg c2, if_pos c3], ⟨_, _, hM, hRI⟩, hF⟩)
          · skip
            refine v_aload_n dX10_told_51 rfl ?_
            refine v_getfH 10 hM.1 fl_X10_28 rfl dX10_told_52 ?_
            refine v_iload_n dX10_told_55 rfl ?_
            refine v_ria hM ar_10 (by omega) (by omega) q10 dX10_told_56 ?_
            refine v_goto (tgt := 93) dX10_told_57 (by decide) ?_
            exact v_iret dX10_told_93 rfl (Nat.le_refl _) (Nat.le_refl _) (⟨by unfold toldF; rw [if_neg c0, if_neg c1, if_pos c2], ⟨_, _, hM, hRI⟩, hF⟩)
        · skip
          refine v_aload_n dX10_told_37 rfl ?_
          refine v_getfH 6 hM.1 fl_X10_16 rfl dX10_told_38 ?_
          refine v_iload_n dX10_told_41 rfl ?_
          refine v_ria hM ar_6 (by omega) (by omega) q6 dX10_told_42 ?_
          refine v_goto (tgt := 93) dX10_told_43 (by decide) ?_
          exact v_iret dX10_told_93 rfl (Nat.le_refl _) (Nat.le_refl _) (⟨by unfold toldF; rw [if_neg c0, if_pos c1], ⟨_, _, hM, hRI⟩, hF⟩)
      · skip
        refine v_aload_n dX10_told_23 rfl ?_
        refine v_getfH 5 hM.1 fl_X10_13 rfl dX10_told_24 ?_
        refine v_iload_n dX10_told_27 rfl ?_
        refine v_ria hM ar_5 (by omega) (by omega) q5 dX10_told_28 ?_
        refine v_goto (tgt := 93) dX10_told_29 (by decide) ?_
        exact v_iret dX10_told_93 rfl (Nat.le_refl _) (Nat.le_refl _) (⟨by unfold toldF; rw [if_pos c0], ⟨_, _, hM, hRI⟩, hF⟩)
    · skip
      refine v_iconst dX10_told_17 ?_
      exact v_iret dX10_told_18 rfl (Nat.le_refl _) (Nat.le_refl _) (⟨by unfold toldF; rw [if_neg (by omega), if_neg (by omega), if_neg (by omega), if_neg (by omega), if_neg (by omega), if_neg (by omega)], ⟨_, _, hM, hRI⟩, hF⟩)
theorem R9_toldN {w : Int} (hI : InvR G M s) (hs : stOK s) (hk : ¬ isS s k) (hg : sw_rg k) : Kt l G μX10_told [.ref (sw_al G 70), sw_i k, sw_i w] M (fun r M' => r = some (sw_i (-1)) ∧ InvR G M' s ∧ frR M M') := by
  refine KtA.of (by decide +kernel) (Nat.le_of_ble_eq_true rfl) ?_
  have hF : frR M M := frR.rf
  obtain ⟨x, a, hM, hRI⟩ := hI
  have hns : qN s ≤ 8 := hs.2.1
  refine v_aload_n dX10_told_0 rfl ?_
  refine v_iload_n dX10_told_1 rfl ?_
  refine v_callV (ci := 10) (K10_isSale hM hRI.2.2.1 ⟨by omega, by omega⟩ hg) ⟨rfl, rfl⟩ (Nat.le_refl _) (Nat.le_refl _) hM.1 rfl ⟨ml_X10_129, mm_X10_isSale⟩ ⟨(Nat.le_of_ble_eq_true rfl), (Nat.le_of_ble_eq_true rfl)⟩ mp_X10_isSale rfl rfl (Nat.le_of_ble_eq_true rfl) dX10_told_2 (fun r M' h => ?_)
  obtain ⟨rfl, rfl⟩ := h
  refine v_ifb_eq (tgt := 17) dX10_told_5 (by decide) (fun h5 => ?_) (fun h5 => ?_)
  · skip
    refine v_iconst dX10_told_17 ?_
    exact v_iret dX10_told_18 rfl (Nat.le_refl _) (Nat.le_refl _) (⟨rfl, ⟨_, _, hM, hRI⟩, hF⟩)
  · skip
    exact absurd (by assumption) hk
theorem R9_table (hI : InvR G M s) (hs : stOK s) : Kt l G μX10_table [.ref (sw_al G 70)] M (fun r M' => r = some (sw_i (if qT s < 10 then qT s else -1)) ∧ InvR G M' (if qT s < 10 then sQ s (qT s + 1) else s) ∧ frR M M') := by
  refine KtA.of (by decide +kernel) (Nat.le_of_ble_eq_true rfl) ?_
  have hF : frR M M := frR.rf
  obtain ⟨x, a, hM, hRI⟩ := hI
  obtain ⟨g1, g2, g3, h19, g5, g6, g7, g8, g9, g10, g11, g12⟩ := id hRI
  have hnt := hs.c.1
  refine v_aload_n dX10_table_0 rfl ?_
  refine v_rgi 19 hM h19 fl_X10_173 rfl dX10_table_1 ?_
  refine v_bipush dX10_table_4 (by decide +kernel) ?_
  refine v_icmp_ne (tgt := 11) dX10_table_6 (by decide) ⟨by omega, by omega⟩ ⟨by omega, by omega⟩ (fun h6 => ?_) (fun h6 => ?_)
  · skip
    refine v_aload_n dX10_table_11 rfl ?_
    refine v_dup dX10_table_12 rfl ?_
    refine v_rgi 19 hM h19 fl_X10_173 rfl dX10_table_13 ?_
    refine v_iconst dX10_table_16 ?_
    refine v_iadd dX10_table_17 ?_
    refine v_rp 19 hM hF (flS_19 G _ _) fp_X10_173 rfl rfl (Nat.le_of_ble_eq_true rfl) dX10_table_18 (fun M hM hF => ?_)
    refine v_aload_n dX10_table_21 rfl ?_
    refine v_rgi 19 hM upn_s fl_X10_173 rfl dX10_table_22 ?_
    refine v_iconst dX10_table_25 ?_
    refine v_isub dX10_table_26 ?_
    exact v_iret dX10_table_27 rfl (Nat.le_refl _) (Nat.le_refl _) (⟨by rw [if_pos (by omega), show qT s + 1 - 1 = qT s by omega], by rw [if_pos (by omega)]; exact ⟨_, _, hM, g1, g2, g3, upn_s, g5, g6, g7, g8, g9, g10, g11, g12⟩, hF⟩)
  · skip
    refine v_iconst dX10_table_9 ?_
    exact v_iret dX10_table_10 rfl (Nat.le_refl _) (Nat.le_refl _) (⟨by rw [if_neg (by omega)], by rw [if_neg (by omega)]; exact ⟨_, _, hM, hRI⟩, hF⟩)
theorem R9_bid {table sign v : Int} (hI : InvR G M s) (hs : stOK s) (hc : (0 ≤ table ∧ table < qT s) ∧ (0 ≤ sign ∧ sign < 5) ∧ 0 ≤ v ∧ v ≤ 60) : Kt l G μX10_bid [.ref (sw_al G 70), sw_i table, sw_i sign, sw_i v] M (fun r M' => r = some (sw_i 1) ∧ InvR G M' (sB s (up (qB s) (table * 5 + sign) v)) ∧ frR M M') := by
  refine KtA.of (by decide +kernel) (Nat.le_of_ble_eq_true rfl) ?_
  have hF : frR M M := frR.rf
  obtain ⟨x, a, hM, hRI⟩ := hI
  obtain ⟨g1, g2, g3, h19, g5, g6, g7, g8, g9, g10, g11, g12⟩ := id hRI
  have hnt := hs.c.1
  obtain ⟨c1, c2, c3⟩ := hc
  have e18 : ∀ i, 0 ≤ i → i < 50 → up (a 18) (5 * table + sign) v i = up (qB s) (table * 5 + sign) v i := fun i i0 i1 => by
    by_cases c : i = table * 5 + sign
    · rw [c, up_eq, show table * 5 + sign = 5 * table + sign by omega, up_eq]
    · rw [up_ne c, up_ne (by omega)]; exact g5 i i0 i1
  refine v_iload_n dX10_bid_0 rfl ?_
  refine v_iconst dX10_bid_1 ?_
  refine v_aload_n dX10_bid_2 rfl ?_
  refine v_rgi 19 hM h19 fl_X10_173 rfl dX10_bid_3 ?_
  refine v_iconst dX10_bid_6 ?_
  refine v_isub dX10_bid_7 ?_
  refine v_callS (K10_in (v := table) (lo := 0) (hi := qT s - 1) ⟨by omega, by omega⟩ ⟨by omega, by omega⟩ ⟨by omega, by omega⟩) ⟨rfl, rfl⟩ (Nat.le_refl _) (Nat.le_refl _) ⟨ml_X10_107, mm_X10_in⟩ ⟨(Nat.le_of_ble_eq_true rfl), (Nat.le_of_ble_eq_true rfl)⟩ mp_X10_in rfl rfl (Nat.le_of_ble_eq_true rfl) dX10_bid_8 (fun r M' h => ?_)
  obtain ⟨rfl, rfl⟩ := h
  refine v_ifb_eq (tgt := 33) dX10_bid_11 (by decide) (fun h11 => ?_) (fun h11 => ?_)
  · skip
    exfalso; omega
  · skip
    refine v_iload_n dX10_bid_14 rfl ?_
    refine v_iconst dX10_bid_15 ?_
    refine v_iconst dX10_bid_16 ?_
    refine v_callS (K10_in (v := sign) (lo := 0) (hi := 4) ⟨by omega, by omega⟩ ⟨by omega, by omega⟩ ⟨by omega, by omega⟩) ⟨rfl, rfl⟩ (Nat.le_refl _) (Nat.le_refl _) ⟨ml_X10_107, mm_X10_in⟩ ⟨(Nat.le_of_ble_eq_true rfl), (Nat.le_of_ble_eq_true rfl)⟩ mp_X10_in rfl rfl (Nat.le_of_ble_eq_true rfl) dX10_bid_17 (fun r M' h => ?_)
    obtain ⟨rfl, rfl⟩ := h
    refine v_ifb_eq (tgt := 33) dX10_bid_20 (by decide) (fun h20 => ?_) (fun h20 => ?_)
    · skip
      exfalso; omega
    · skip
      refine v_iload_n dX10_bid_23 rfl ?_
      refine v_iconst dX10_bid_24 ?_
      refine v_bipush dX10_bid_25 (by decide +kernel) ?_
      refine v_callS (K10_in (v := v) (lo := 0) (hi := 60) ⟨by omega, by omega⟩ ⟨by omega, by omega⟩ ⟨by omega, by omega⟩) ⟨rfl, rfl⟩ (Nat.le_refl _) (Nat.le_refl _) ⟨ml_X10_107, mm_X10_in⟩ ⟨(Nat.le_of_ble_eq_true rfl), (Nat.le_of_ble_eq_true rfl)⟩ mp_X10_in rfl rfl (Nat.le_of_ble_eq_true rfl) dX10_bid_27 (fun r M' h => ?_)
      obtain ⟨rfl, rfl⟩ := h
      refine v_ifb_ne (tgt := 35) dX10_bid_30 (by decide) (fun h30 => ?_) (fun h30 => ?_)
      · skip
        refine v_aload_n dX10_bid_35 rfl ?_
        refine v_getfH 18 hM.1 fl_X10_43 rfl dX10_bid_36 ?_
        refine v_iconst dX10_bid_39 ?_
        refine v_iload_n dX10_bid_40 rfl ?_
        refine v_imul dX10_bid_41 ?_
        refine v_iload_n dX10_bid_42 rfl ?_
        refine v_iadd dX10_bid_43 ?_
        refine v_iload_n dX10_bid_44 rfl ?_
        refine v_ris hM hF ar_18 (by omega) (by omega) dX10_bid_45 (fun M hM hF => ?_)
        refine v_iconst dX10_bid_46 ?_
        exact v_zret rfl dX10_bid_47 rfl (Nat.le_refl _) (Nat.le_refl _) (⟨rfl, ⟨_, _, hM, g1, g2, g3, h19, e18, g6, g7, g8, g9, g10, g11, g12⟩, hF⟩)
      · skip
        exfalso; omega
theorem R9_bidX {table sign v : Int} (hI : InvR G M s) (hs : stOK s) (hc : ¬ ((0 ≤ table ∧ table < qT s) ∧ (0 ≤ sign ∧ sign < 5) ∧ 0 ≤ v ∧ v ≤ 60)) (r1 : sw_rg table) (r2 : sw_rg sign) (r3 : sw_rg v) : Kt l G μX10_bid [.ref (sw_al G 70), sw_i table, sw_i sign, sw_i v] M (fun r M' => r = some (sw_i 0) ∧ InvR G M' s ∧ frR M M') := by
  refine KtA.of (by decide +kernel) (Nat.le_of_ble_eq_true rfl) ?_
  have hF : frR M M := frR.rf
  obtain ⟨x, a, hM, hRI⟩ := hI
  have h19 := hRI.2.2.2.1
  have hnt := hs.c.1
  refine v_iload_n dX10_bid_0 rfl ?_
  refine v_iconst dX10_bid_1 ?_
  refine v_aload_n dX10_bid_2 rfl ?_
  refine v_rgi 19 hM h19 fl_X10_173 rfl dX10_bid_3 ?_
  refine v_iconst dX10_bid_6 ?_
  refine v_isub dX10_bid_7 ?_
  refine v_callS (K10_in (v := table) (lo := 0) (hi := qT s - 1) r1 ⟨by omega, by omega⟩ ⟨by omega, by omega⟩) ⟨rfl, rfl⟩ (Nat.le_refl _) (Nat.le_refl _) ⟨ml_X10_107, mm_X10_in⟩ ⟨(Nat.le_of_ble_eq_true rfl), (Nat.le_of_ble_eq_true rfl)⟩ mp_X10_in rfl rfl (Nat.le_of_ble_eq_true rfl) dX10_bid_8 (fun r M' h => ?_)
  obtain ⟨rfl, rfl⟩ := h
  refine v_ifb_eq (tgt := 33) dX10_bid_11 (by decide) (fun h11 => ?_) (fun h11 => ?_)
  · skip
    refine v_iconst dX10_bid_33 ?_
    exact v_zret rfl dX10_bid_34 rfl (Nat.le_refl _) (Nat.le_refl _) (⟨rfl, ⟨_, _, hM, hRI⟩, hF⟩)
  · skip
    refine v_iload_n dX10_bid_14 rfl ?_
    refine v_iconst dX10_bid_15 ?_
    refine v_iconst dX10_bid_16 ?_
    refine v_callS (K10_in (v := sign) (lo := 0) (hi := 4) r2 ⟨by omega, by omega⟩ ⟨by omega, by omega⟩) ⟨rfl, rfl⟩ (Nat.le_refl _) (Nat.le_refl _) ⟨ml_X10_107, mm_X10_in⟩ ⟨(Nat.le_of_ble_eq_true rfl), (Nat.le_of_ble_eq_true rfl)⟩ mp_X10_in rfl rfl (Nat.le_of_ble_eq_true rfl) dX10_bid_17 (fun r M' h => ?_)
    obtain ⟨rfl, rfl⟩ := h
    refine v_ifb_eq (tgt := 33) dX10_bid_20 (by decide) (fun h20 => ?_) (fun h20 => ?_)
    · skip
      refine v_iconst dX10_bid_33 ?_
      exact v_zret rfl dX10_bid_34 rfl (Nat.le_refl _) (Nat.le_refl _) (⟨rfl, ⟨_, _, hM, hRI⟩, hF⟩)
    · skip
      refine v_iload_n dX10_bid_23 rfl ?_
      refine v_iconst dX10_bid_24 ?_
      refine v_bipush dX10_bid_25 (by decide +kernel) ?_
      refine v_callS (K10_in (v := v) (lo := 0) (hi := 60) r3 ⟨by omega, by omega⟩ ⟨by omega, by omega⟩) ⟨rfl, rfl⟩ (Nat.le_refl _) (Nat.le_refl _) ⟨ml_X10_107, mm_X10_in⟩ ⟨(Nat.le_of_ble_eq_true rfl), (Nat.le_of_ble_eq_true rfl)⟩ mp_X10_in rfl rfl (Nat.le_of_ble_eq_true rfl) dX10_bid_27 (fun r M' h => ?_)
      obtain ⟨rfl, rfl⟩ := h
      refine v_ifb_ne (tgt := 35) dX10_bid_30 (by decide) (fun h30 => ?_) (fun h30 => ?_)
      · skip
        exfalso; omega
      · skip
        refine v_iconst dX10_bid_33 ?_
        exact v_zret rfl dX10_bid_34 rfl (Nat.le_refl _) (Nat.le_refl _) (⟨rfl, ⟨_, _, hM, hRI⟩, hF⟩)
theorem R9_seat {seat table : Int} (hI : InvR G M s) (hs : stOK s) (hk : isS s k) (hc : (0 ≤ seat ∧ seat < 4) ∧ -2 ≤ table ∧ table < qT s) : Kt l G μX10_seat [.ref (sw_al G 70), sw_i k, sw_i seat, sw_i table] M (fun r M' => r = some (sw_i 1) ∧ InvR G M' (sS s k.toNat (σSt (sl s k) seat table)) ∧ frR M M') := by
  refine KtA.of (by decide +kernel) (Nat.le_of_ble_eq_true rfl) ?_
  have hF : frR M M := frR.rf
  obtain ⟨x, a, hM, hRI⟩ := hI
  obtain ⟨g1, g2, g3, h19, g5, g6, g7, g8, g9, g10, g11, g12⟩ := id hRI
  have hnt := hs.c.1
  have hns : qN s ≤ 8 := hs.2.1
  obtain ⟨hk0, hk1⟩ := id hk
  obtain ⟨c1, c2⟩ := hc
  have e7 : ∀ n : Nat, n < qN s → rowR (upa a 13 (up (a 13) (4 * k + seat) table)) n (qS (sS s k.toNat (σSt (sl s k) seat table)) n) ∧ ∀ i, 0 ≤ i → i < 4 → up (a 13) (4 * k + seat) table (4 * (n : Int) + i) = sSt (qS (sS s k.toNat (σSt (sl s k) seat table)) n) i := fun n hn => by
    by_cases e : n = k.toNat
    · subst e
      have e2 : qS (sS s k.toNat (σSt (sl s k) seat table)) k.toNat = σSt (sl s k) seat table := if_pos rfl
      rw [e2]
      refine ⟨(g7 k.toNat hn).1, fun i i0 i1 => ?_⟩
      show up (a 13) (4 * k + seat) table (4 * (k.toNat : Int) + i) = up (sSt (sl s k)) seat table i
      by_cases c : i = seat
      · rw [c, up_eq, show 4 * (k.toNat : Int) + seat = 4 * k + seat by omega, up_eq]
      · rw [up_ne c, up_ne (by omega)]; exact (g7 k.toNat hn).2 i i0 i1
    · have e2 : qS (sS s k.toNat (σSt (sl s k) seat table)) n = qS s n := if_neg e
      rw [e2]
      refine ⟨(g7 n hn).1, fun i i0 i1 => ?_⟩
      rw [up_ne (by omega)]; exact (g7 n hn).2 i i0 i1
  have e8 : ∀ i, 4 * (qN s : Int) ≤ i → i < 32 → up (a 13) (4 * k + seat) table i = -1 := fun i i0 i1 => (up_ne (by omega)).trans (g8 i i0 i1)
  refine v_aload_n dX10_seat_0 rfl ?_
  refine v_iload_n dX10_seat_1 rfl ?_
  refine v_callV (ci := 10) (K10_isSale hM g3 ⟨by omega, by omega⟩ ⟨by omega, by omega⟩) ⟨rfl, rfl⟩ (Nat.le_refl _) (Nat.le_refl _) hM.1 rfl ⟨ml_X10_129, mm_X10_isSale⟩ ⟨(Nat.le_of_ble_eq_true rfl), (Nat.le_of_ble_eq_true rfl)⟩ mp_X10_isSale rfl rfl (Nat.le_of_ble_eq_true rfl) dX10_seat_2 (fun r M' h => ?_)
  obtain ⟨rfl, rfl⟩ := h
  refine v_ifb_eq (tgt := 32) dX10_seat_5 (by decide) (fun h5 => ?_) (fun h5 => ?_)
  · skip
    exact absurd hk (by assumption)
  · skip
    refine v_iload_n dX10_seat_8 rfl ?_
    refine v_iconst dX10_seat_9 ?_
    refine v_iconst dX10_seat_10 ?_
    refine v_callS (K10_in (v := seat) (lo := 0) (hi := 3) ⟨by omega, by omega⟩ ⟨by omega, by omega⟩ ⟨by omega, by omega⟩) ⟨rfl, rfl⟩ (Nat.le_refl _) (Nat.le_refl _) ⟨ml_X10_107, mm_X10_in⟩ ⟨(Nat.le_of_ble_eq_true rfl), (Nat.le_of_ble_eq_true rfl)⟩ mp_X10_in rfl rfl (Nat.le_of_ble_eq_true rfl) dX10_seat_11 (fun r M' h => ?_)
    obtain ⟨rfl, rfl⟩ := h
    refine v_ifb_eq (tgt := 32) dX10_seat_14 (by decide) (fun h14 => ?_) (fun h14 => ?_)
    · skip
      exfalso; omega
    · skip
      refine v_iload_n dX10_seat_17 rfl ?_
      refine v_bipush dX10_seat_18 (by decide +kernel) ?_
      refine v_aload_n dX10_seat_20 rfl ?_
      refine v_rgi 19 hM h19 fl_X10_173 rfl dX10_seat_21 ?_
      refine v_iconst dX10_seat_24 ?_
      refine v_isub dX10_seat_25 ?_
      refine v_callS (K10_in (v := table) (lo := -2) (hi := qT s - 1) ⟨by omega, by omega⟩ ⟨by omega, by omega⟩ ⟨by omega, by omega⟩) ⟨rfl, rfl⟩ (Nat.le_refl _) (Nat.le_refl _) ⟨ml_X10_107, mm_X10_in⟩ ⟨(Nat.le_of_ble_eq_true rfl), (Nat.le_of_ble_eq_true rfl)⟩ mp_X10_in rfl rfl (Nat.le_of_ble_eq_true rfl) dX10_seat_26 (fun r M' h => ?_)
      obtain ⟨rfl, rfl⟩ := h
      refine v_ifb_ne (tgt := 34) dX10_seat_29 (by decide) (fun h29 => ?_) (fun h29 => ?_)
      · skip
        refine v_aload_n dX10_seat_34 rfl ?_
        refine v_getfH 13 hM.1 fl_X10_37 rfl dX10_seat_35 ?_
        refine v_iconst dX10_seat_38 ?_
        refine v_iload_n dX10_seat_39 rfl ?_
        refine v_imul dX10_seat_40 ?_
        refine v_iload_n dX10_seat_41 rfl ?_
        refine v_iadd dX10_seat_42 ?_
        refine v_iload_n dX10_seat_43 rfl ?_
        refine v_ris hM hF ar_13 (by omega) (by omega) dX10_seat_44 (fun M hM hF => ?_)
        refine v_iconst dX10_seat_45 ?_
        exact v_zret rfl dX10_seat_46 rfl (Nat.le_refl _) (Nat.le_refl _) (⟨rfl, ⟨_, _, hM, g1, g2, g3, h19, g5, g6, e7, e8, g9, g10, g11, g12⟩, hF⟩)
      · skip
        exfalso; omega
theorem R9_seatX {seat table : Int} (hI : InvR G M s) (hs : stOK s) (hk : isS s k) (hc : ¬ ((0 ≤ seat ∧ seat < 4) ∧ -2 ≤ table ∧ table < qT s)) (r1 : sw_rg seat) (r2 : sw_rg table) : Kt l G μX10_seat [.ref (sw_al G 70), sw_i k, sw_i seat, sw_i table] M (fun r M' => r = some (sw_i 0) ∧ InvR G M' s ∧ frR M M') := by
  refine KtA.of (by decide +kernel) (Nat.le_of_ble_eq_true rfl) ?_
  have hF : frR M M := frR.rf
  obtain ⟨x, a, hM, hRI⟩ := hI
  have h19 := hRI.2.2.2.1
  have hnt := hs.c.1
  have hns : qN s ≤ 8 := hs.2.1
  obtain ⟨hk0, hk1⟩ := id hk
  refine v_aload_n dX10_seat_0 rfl ?_
  refine v_iload_n dX10_seat_1 rfl ?_
  refine v_callV (ci := 10) (K10_isSale hM hRI.2.2.1 ⟨by omega, by omega⟩ ⟨by omega, by omega⟩) ⟨rfl, rfl⟩ (Nat.le_refl _) (Nat.le_refl _) hM.1 rfl ⟨ml_X10_129, mm_X10_isSale⟩ ⟨(Nat.le_of_ble_eq_true rfl), (Nat.le_of_ble_eq_true rfl)⟩ mp_X10_isSale rfl rfl (Nat.le_of_ble_eq_true rfl) dX10_seat_2 (fun r M' h => ?_)
  obtain ⟨rfl, rfl⟩ := h
  refine v_ifb_eq (tgt := 32) dX10_seat_5 (by decide) (fun h5 => ?_) (fun h5 => ?_)
  · skip
    refine v_iconst dX10_seat_32 ?_
    exact v_zret rfl dX10_seat_33 rfl (Nat.le_refl _) (Nat.le_refl _) (⟨rfl, ⟨_, _, hM, hRI⟩, hF⟩)
  · skip
    refine v_iload_n dX10_seat_8 rfl ?_
    refine v_iconst dX10_seat_9 ?_
    refine v_iconst dX10_seat_10 ?_
    refine v_callS (K10_in (v := seat) (lo := 0) (hi := 3) r1 ⟨by omega, by omega⟩ ⟨by omega, by omega⟩) ⟨rfl, rfl⟩ (Nat.le_refl _) (Nat.le_refl _) ⟨ml_X10_107, mm_X10_in⟩ ⟨(Nat.le_of_ble_eq_true rfl), (Nat.le_of_ble_eq_true rfl)⟩ mp_X10_in rfl rfl (Nat.le_of_ble_eq_true rfl) dX10_seat_11 (fun r M' h => ?_)
    obtain ⟨rfl, rfl⟩ := h
    refine v_ifb_eq (tgt := 32) dX10_seat_14 (by decide) (fun h14 => ?_) (fun h14 => ?_)
    · skip
      refine v_iconst dX10_seat_32 ?_
      exact v_zret rfl dX10_seat_33 rfl (Nat.le_refl _) (Nat.le_refl _) (⟨rfl, ⟨_, _, hM, hRI⟩, hF⟩)
    · skip
      refine v_iload_n dX10_seat_17 rfl ?_
      refine v_bipush dX10_seat_18 (by decide +kernel) ?_
      refine v_aload_n dX10_seat_20 rfl ?_
      refine v_rgi 19 hM h19 fl_X10_173 rfl dX10_seat_21 ?_
      refine v_iconst dX10_seat_24 ?_
      refine v_isub dX10_seat_25 ?_
      refine v_callS (K10_in (v := table) (lo := -2) (hi := qT s - 1) r2 ⟨by omega, by omega⟩ ⟨by omega, by omega⟩) ⟨rfl, rfl⟩ (Nat.le_refl _) (Nat.le_refl _) ⟨ml_X10_107, mm_X10_in⟩ ⟨(Nat.le_of_ble_eq_true rfl), (Nat.le_of_ble_eq_true rfl)⟩ mp_X10_in rfl rfl (Nat.le_of_ble_eq_true rfl) dX10_seat_26 (fun r M' h => ?_)
      obtain ⟨rfl, rfl⟩ := h
      refine v_ifb_ne (tgt := 34) dX10_seat_29 (by decide) (fun h29 => ?_) (fun h29 => ?_)
      · skip
        exfalso; omega
      · skip
        refine v_iconst dX10_seat_32 ?_
        exact v_zret rfl dX10_seat_33 rfl (Nat.le_refl _) (Nat.le_refl _) (⟨rfl, ⟨_, _, hM, hRI⟩, hF⟩)
theorem R9_seatN {seat table : Int} (hI : InvR G M s) (hs : stOK s) (hk : ¬ isS s k) (hg : sw_rg k) : Kt l G μX10_seat [.ref (sw_al G 70), sw_i k, sw_i seat, sw_i table] M (fun r M' => r = some (sw_i 0) ∧ InvR G M' s ∧ frR M M') := by
  refine KtA.of (by decide +kernel) (Nat.le_of_ble_eq_true rfl) ?_
  have hF : frR M M := frR.rf
  obtain ⟨x, a, hM, hRI⟩ := hI
  have hns : qN s ≤ 8 := hs.2.1
  refine v_aload_n dX10_seat_0 rfl ?_
  refine v_iload_n dX10_seat_1 rfl ?_
  refine v_callV (ci := 10) (K10_isSale hM hRI.2.2.1 ⟨by omega, by omega⟩ hg) ⟨rfl, rfl⟩ (Nat.le_refl _) (Nat.le_refl _) hM.1 rfl ⟨ml_X10_129, mm_X10_isSale⟩ ⟨(Nat.le_of_ble_eq_true rfl), (Nat.le_of_ble_eq_true rfl)⟩ mp_X10_isSale rfl rfl (Nat.le_of_ble_eq_true rfl) dX10_seat_2 (fun r M' h => ?_)
  obtain ⟨rfl, rfl⟩ := h
  refine v_ifb_eq (tgt := 32) dX10_seat_5 (by decide) (fun h5 => ?_) (fun h5 => ?_)
  · skip
    refine v_iconst dX10_seat_32 ?_
    exact v_zret rfl dX10_seat_33 rfl (Nat.le_refl _) (Nat.le_refl _) (⟨rfl, ⟨_, _, hM, hRI⟩, hF⟩)
  · skip
    exact absurd (by assumption) hk
theorem R9_got (hI : InvR G M s) : Kt l G μX10_got [.ref (sw_al G 70)] M (fun r M' => r = some (sw_i (qK s)) ∧ InvR G M' s ∧ frR M M') := by
  refine KtA.of (by decide +kernel) (Nat.le_of_ble_eq_true rfl) ?_
  obtain ⟨x, a, hM, hRI⟩ := hI
  have h52 := hRI.2.2.2.2.2.2.2.2.2.1
  refine v_aload_n dX10_got_0 rfl ?_
  refine v_rgi 52 hM h52 fl_X10_352 rfl dX10_got_1 ?_
  exact v_iret dX10_got_4 rfl (Nat.le_refl _) (Nat.le_refl _) (⟨rfl, ⟨_, _, hM, hRI⟩, frR.rf⟩)
theorem R9_count {w : Int} (hI : InvR G M s) (hz : sw_rg w) : Kt l G μX10_count_ [.ref (sw_al G 70), sw_i w] M (fun r M' => r = some (sw_i (if w = 0 then (qN s : Int) else if w = 1 then qT s else if w = 2 then qL s else -1)) ∧ InvR G M' s ∧ frR M M') := by
  refine KtA.of (by decide +kernel) (Nat.le_of_ble_eq_true rfl) ?_
  obtain ⟨x, a, hM, hRI⟩ := hI
  obtain ⟨h2, g2, h14, h19, -⟩ := id hRI
  obtain ⟨g3, g4⟩ := hz
  have fin : InvR G M s ∧ frR M M := ⟨⟨_, _, hM, hRI⟩, frR.rf⟩
  by_cases e0 : w = 0
  · rw [if_pos e0]
    refine v_iload_n dX10_count__0 rfl ?_
    refine v_if_ne (tgt := 11) dX10_count__1 (by decide) ⟨by omega, by omega⟩ (fun h1 => ?_) (fun h1 => ?_)
    · skip
      exfalso; omega
    · skip
      refine v_aload_n dX10_count__4 rfl ?_
      refine v_rgi 14 hM h14 fl_X10_126 rfl dX10_count__5 ?_
      refine v_goto (tgt := 36) dX10_count__8 (by decide) ?_
      exact v_iret dX10_count__36 rfl (Nat.le_refl _) (Nat.le_refl _) (⟨rfl, fin⟩)
  · rw [if_neg e0]
    by_cases e1 : w = 1
    · rw [if_pos e1]
      refine v_iload_n dX10_count__0 rfl ?_
      refine v_if_ne (tgt := 11) dX10_count__1 (by decide) ⟨by omega, by omega⟩ (fun h1 => ?_) (fun h1 => ?_)
      · skip
        refine v_iload_n dX10_count__11 rfl ?_
        refine v_iconst dX10_count__12 ?_
        refine v_icmp_ne (tgt := 23) dX10_count__13 (by decide) ⟨by omega, by omega⟩ ⟨by omega, by omega⟩ (fun h13 => ?_) (fun h13 => ?_)
        · skip
          exfalso; omega
        · skip
          refine v_aload_n dX10_count__16 rfl ?_
          refine v_rgi 19 hM h19 fl_X10_173 rfl dX10_count__17 ?_
          refine v_goto (tgt := 36) dX10_count__20 (by decide) ?_
          exact v_iret dX10_count__36 rfl (Nat.le_refl _) (Nat.le_refl _) (⟨rfl, fin⟩)
      · skip
        exfalso; omega
    · rw [if_neg e1]
      by_cases e2 : w = 2
      · rw [if_pos e2]
        refine v_iload_n dX10_count__0 rfl ?_
        refine v_if_ne (tgt := 11) dX10_count__1 (by decide) ⟨by omega, by omega⟩ (fun h1 => ?_) (fun h1 => ?_)
        · skip
          refine v_iload_n dX10_count__11 rfl ?_
          refine v_iconst dX10_count__12 ?_
          refine v_icmp_ne (tgt := 23) dX10_count__13 (by decide) ⟨by omega, by omega⟩ ⟨by omega, by omega⟩ (fun h13 => ?_) (fun h13 => ?_)
          · skip
            refine v_iload_n dX10_count__23 rfl ?_
            refine v_iconst dX10_count__24 ?_
            refine v_icmp_ne (tgt := 35) dX10_count__25 (by decide) ⟨by omega, by omega⟩ ⟨by omega, by omega⟩ (fun h25 => ?_) (fun h25 => ?_)
            · skip
              exfalso; omega
            · skip
              refine v_aload_n dX10_count__28 rfl ?_
              refine v_rgi 2 hM h2 fl_X10_84 rfl dX10_count__29 ?_
              refine v_goto (tgt := 36) dX10_count__32 (by decide) ?_
              exact v_iret dX10_count__36 rfl (Nat.le_refl _) (Nat.le_refl _) (⟨rfl, fin⟩)
          · skip
            exfalso; omega
        · skip
          exfalso; omega
      · rw [if_neg e2]
        refine v_iload_n dX10_count__0 rfl ?_
        refine v_if_ne (tgt := 11) dX10_count__1 (by decide) ⟨by omega, by omega⟩ (fun h1 => ?_) (fun h1 => ?_)
        · skip
          refine v_iload_n dX10_count__11 rfl ?_
          refine v_iconst dX10_count__12 ?_
          refine v_icmp_ne (tgt := 23) dX10_count__13 (by decide) ⟨by omega, by omega⟩ ⟨by omega, by omega⟩ (fun h13 => ?_) (fun h13 => ?_)
          · skip
            refine v_iload_n dX10_count__23 rfl ?_
            refine v_iconst dX10_count__24 ?_
            refine v_icmp_ne (tgt := 35) dX10_count__25 (by decide) ⟨by omega, by omega⟩ ⟨by omega, by omega⟩ (fun h25 => ?_) (fun h25 => ?_)
            · skip
              refine v_iconst dX10_count__35 ?_
              exact v_iret dX10_count__36 rfl (Nat.le_refl _) (Nat.le_refl _) (⟨rfl, fin⟩)
            · skip
              exfalso; omega
          · skip
            exfalso; omega
        · skip
          exfalso; omega
end

