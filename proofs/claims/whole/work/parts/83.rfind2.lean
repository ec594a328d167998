/-! the reference's face: find, its walk -/
section
variable {l : Launch} {G : sw_G} {M : sw_M} {s : CSt} {k : Int} {x : Nat → Int} {a : Nat → Int → Int}
theorem R9_find {table : Int} (hI : InvR G M s) (hs : stOK s) (hk : isS s k) (ht : 0 ≤ table ∧ table < qT s) : Kt l G μX10_find [.ref (sw_al G 70), sw_i k, sw_i table] M (fun r M' => r = some (sw_i (fnd (sl s k) 20 0).1) ∧ InvR G M' (sB s (fdB (sl s k) (qB s) table (sSg (sl s k)))) ∧ frR M M') := by
  refine KtA.of (by decide +kernel) (Nat.le_of_ble_eq_true rfl) ?_
  have hF : frR M M := frR.rf
  obtain ⟨x, a, hM, hRI⟩ := hI
  have hw := hs.sale hk
  have hnb := hw.2.2.1
  have hsg := hw.1
  have hnt := hs.c.1
  have hns : qN s ≤ 8 := hs.2.1
  have h19 : x 19 = qT s := hRI.2.2.2.1
  obtain ⟨hk0, hk1⟩ := id hk
  have hX : xfr XL x x := xfr.rf
  have hA : afr AL a a := afr.rf
  obtain ⟨σ, hσ⟩ : ∃ σ, sl s k = σ := ⟨_, rfl⟩
  obtain ⟨n, hn⟩ : ∃ n : Nat, (sNb σ - 1).toNat = n := ⟨_, rfl⟩
  have hn1 : (sNb σ).toNat = n + 1 := by rw [hσ] at hnb; omega
  obtain ⟨N, hN⟩ : ∃ N, rhF σ (fnd σ 20 0).2 = N := ⟨_, rfl⟩
  obtain ⟨got, hgot⟩ : ∃ got, (fnd σ 20 0).1 = got := ⟨_, rfl⟩
  obtain ⟨Zq, hZ⟩ : ∃ Zq : Option Value → sw_M → Prop, Zq = (fun r M' => r = some (sw_i (fnd (sl s k) 20 0).1) ∧ InvR G M' (sB s (fdB (sl s k) (qB s) table (sSg (sl s k)))) ∧ frR M M') := ⟨_, rfl⟩
  rw [← hZ]
  have hw0 := hw
  rw [hσ] at hw hnb hsg hZ
  rw [hgot] at hZ
  have loop : ∀ (c : Nat) (j : Int) (x3 : Nat → Int) (a3 a1 : Nat → Int → Int) (M1 : sw_M), 0 ≤ j → j + c = sSg σ → RS G M1 x3 a1 → RI s x3 a3 → frR M M1 → afr [18] a3 a1 → (∀ z, a1 18 z = if table * 5 ≤ z ∧ z < table * 5 + j then N (z - table * 5) else a3 18 z) → (∀ j, 0 ≤ j → j < sSg σ → a3 20 j = N j) → V l G μX10_find sw_E0 (sw_Zq G μX10_find (sw_q0 G Zq)) 50 [(0, .ref (sw_al G 70)), (1, sw_i k), (2, sw_i table), (3, sw_i got), (4, sw_i j)] [] M1 0 0 := by
    intro c
    induction c with
    | zero =>
      intro j x3 a3 a1 M1 j0 jc hM hR hF ha h18 h20
      have e : j = sSg σ := by omega
      subst e
      have g5 : a1 5 k = sSg σ := by rw [ha 5 (by decide), (hR.row hk).1, hσ]
      refine v_iload dX10_find_50 rfl ?_
      refine v_aload_n dX10_find_52 rfl ?_
      refine v_getfH 5 hM.1 fl_X10_13 rfl dX10_find_53 ?_
      refine v_iload_n dX10_find_56 rfl ?_
      refine v_ria hM ar_5 (by omega) (by omega) g5 dX10_find_57 ?_
      refine v_icmp_ge (tgt := 85) dX10_find_58 (by decide) ⟨by omega, by omega⟩ ⟨by omega, by omega⟩ (fun h58 => ?_) (fun h58 => ?_)
      · skip
        refine v_iload_n dX10_find_85 rfl ?_
        refine v_iret dX10_find_86 rfl (Nat.le_refl _) (Nat.le_refl _) ?_
        skip
        rw [hZ]
        obtain ⟨g1, g2, g3, g4, g5', g6, g7, g8, g9, g10, g11, g12⟩ := hR
        refine ⟨rfl, ⟨x3, a1, hM, g1, ?_, g3, g4, fun z z0 z1 => ?_, ?_, fun i hi => ⟨(g7 i hi).1.fr ha (by decide), ?_⟩, ?_, g9, g10, ?_, ?_⟩, hF⟩
        · rw [ha 1 (by decide)]; exact g2
        · rw [h18 z]
          show _ = if table * 5 ≤ z ∧ z < table * 5 + sSg σ then rhF σ (fnd σ 20 0).2 (z - table * 5) else qB s z
          rw [hN, g5' z z0 z1]
        · rw [ha 42 (by decide)]; exact g6
        · rw [ha 13 (by decide)]; exact (g7 i hi).2
        · rw [ha 13 (by decide)]; exact g8
        · rw [ha 49 (by decide)]; exact g11
        · rw [ha 48 (by decide)]; exact g12
      · skip
        exfalso; omega
    | succ c ih =>
      intro j x3 a3 a1 M1 j0 jc hM hR hF ha h18 h20
      have g5 : a1 5 k = sSg σ := by rw [ha 5 (by decide), (hR.row hk).1, hσ]
      have g20 : a1 20 j = N j := by rw [ha 20 (by decide)]; exact h20 j j0 (by omega)
      refine v_iload dX10_find_50 rfl ?_
      refine v_aload_n dX10_find_52 rfl ?_
      refine v_getfH 5 hM.1 fl_X10_13 rfl dX10_find_53 ?_
      refine v_iload_n dX10_find_56 rfl ?_
      refine v_ria hM ar_5 (by omega) (by omega) g5 dX10_find_57 ?_
      refine v_icmp_ge (tgt := 85) dX10_find_58 (by decide) ⟨by omega, by omega⟩ ⟨by omega, by omega⟩ (fun h58 => ?_) (fun h58 => ?_)
      · skip
        exfalso; omega
      · skip
        refine v_aload_n dX10_find_61 rfl ?_
        refine v_getfH 18 hM.1 fl_X10_43 rfl dX10_find_62 ?_
        refine v_iconst dX10_find_65 ?_
        refine v_iload_n dX10_find_66 rfl ?_
        refine v_imul dX10_find_67 ?_
        refine v_iload dX10_find_68 rfl ?_
        refine v_iadd dX10_find_70 ?_
        refine v_aload_n dX10_find_71 rfl ?_
        refine v_getfH 20 hM.1 fl_X10_46 rfl dX10_find_72 ?_
        refine v_iload dX10_find_75 rfl ?_
        refine v_ria hM ar_20 (by omega) (by omega) g20 dX10_find_77 ?_
        refine v_ris hM hF ar_18 (by omega) (by omega) dX10_find_78 (fun M hM hF => ?_)
        refine v_iinc dX10_find_79 rfl (Nat.le_of_ble_eq_true rfl) ?_
        refine v_goto (tgt := 50) dX10_find_82 (by decide) ?_
        refine v_to (ih (j + 1) x3 a3 _ _ (by omega) (by omega) hM hR hF (ha.up (k := 18) (by decide)) (fun z => ?_) h20) rfl (sw_h1 rfl (sw_h1 rfl (sw_h1 rfl (sw_h1 rfl (sw_h1 rfl sw_h0)))))
        show up (a1 18) (5 * table + j) _ z = _
        by_cases e : z = 5 * table + j
        · rw [e, up_eq, if_pos (by omega), show 5 * table + j - table * 5 = j by omega]
        · rw [up_ne e, h18 z]
          by_cases e2 : table * 5 ≤ z ∧ z < table * 5 + j
          · rw [if_pos e2, if_pos (by omega)]
          · rw [if_neg e2, if_neg (by omega)]
  refine v_aload_n dX10_find_0 rfl ?_
  refine v_iload_n dX10_find_1 rfl ?_
  refine v_callV (ci := 10) (K10_isSale hM hRI.2.2.1 ⟨by omega, by omega⟩ ⟨by omega, by omega⟩) ⟨rfl, rfl⟩ (Nat.le_refl _) (Nat.le_refl _) hM.1 rfl ⟨ml_X10_129, mm_X10_isSale⟩ ⟨(Nat.le_of_ble_eq_true rfl), (Nat.le_of_ble_eq_true rfl)⟩ mp_X10_isSale rfl rfl (Nat.le_of_ble_eq_true rfl) dX10_find_2 (fun r M' h => ?_)
  obtain ⟨rfl, rfl⟩ := h
  refine v_ifb_eq (tgt := 22) dX10_find_5 (by decide) (fun h5 => ?_) (fun h5 => ?_)
  · skip
    exact absurd hk (by assumption)
  · skip
    refine v_iload_n dX10_find_8 rfl ?_
    refine v_iconst dX10_find_9 ?_
    refine v_aload_n dX10_find_10 rfl ?_
    refine v_rgi 19 hM h19 fl_X10_173 rfl dX10_find_11 ?_
    refine v_iconst dX10_find_14 ?_
    refine v_isub dX10_find_15 ?_
    refine v_callS (K10_in (v := table) (lo := 0) (hi := qT s - 1) ⟨by omega, by omega⟩ ⟨by omega, by omega⟩ ⟨by omega, by omega⟩) ⟨rfl, rfl⟩ (Nat.le_refl _) (Nat.le_refl _) ⟨ml_X10_107, mm_X10_in⟩ ⟨(Nat.le_of_ble_eq_true rfl), (Nat.le_of_ble_eq_true rfl)⟩ mp_X10_in rfl rfl (Nat.le_of_ble_eq_true rfl) dX10_find_16 (fun r M' h => ?_)
    obtain ⟨rfl, rfl⟩ := h
    refine v_ifb_ne (tgt := 24) dX10_find_19 (by decide) (fun h19 => ?_) (fun h19 => ?_)
    · skip
      refine v_aload_n dX10_find_24 rfl ?_
      refine v_iload_n dX10_find_25 rfl ?_
      refine v_callV (ci := 10) (K10_bg hM (hRI.fr hX hA) hs hk) ⟨rfl, rfl⟩ (Nat.le_refl _) (Nat.le_refl _) hM.1 rfl ⟨ml_X10_199, mm_X10_begin⟩ ⟨(Nat.le_of_ble_eq_true rfl), (Nat.le_of_ble_eq_true rfl)⟩ mp_X10_begin rfl rfl (Nat.le_of_ble_eq_true rfl) dX10_find_26 (fun r M' h => ?_)
      obtain ⟨x2, a2, rfl, hM2, hF2, hx2, ha2, hBG⟩ := h
      replace hM := hM2
      replace hF := hF.tr hF2
      replace hX := hX.tr hx2 (fun t h => h) (by decide)
      replace hA := hA.tr ha2 (fun t h => h) (by decide)
      rw [hσ, hn1] at hBG
      refine v_aload_n dX10_find_29 rfl ?_
      refine v_iload_n dX10_find_30 rfl ?_
      refine v_iconst dX10_find_31 ?_
      refine v_callV (ci := 10) (K10_fillAll hM hBG.1 ⟨by omega, by omega⟩ hw (many := n + 1) hBG.2.1 (by omega) (sort := -1) ⟨by omega, by omega⟩) ⟨rfl, rfl⟩ (Nat.le_refl _) (Nat.le_refl _) hM.1 rfl ⟨ml_X10_297, mm_X10_fillAll⟩ ⟨(Nat.le_of_ble_eq_true rfl), (Nat.le_of_ble_eq_true rfl)⟩ mp_X10_fillAll rfl rfl (Nat.le_of_ble_eq_true rfl) dX10_find_32 (fun r M' h => ?_)
      obtain ⟨x5, a5, rfl, hM5, hF5, hx5, ha5, hR5⟩ := h
      replace hM := hM5
      replace hF := hF.tr hF5
      replace hX := hX.tr hx5 (fun t h => h) (by decide)
      replace hA := hA.tr ha5 (fun t h => h) (by decide)
      have hrow : ∀ i j, 0 ≤ i → i < ((n + 1 : Nat) : Int) → 0 ≤ j → j < sSg σ → a5 20 (5 * i + j) = rhF σ 0 j := fun i j i0 i1 j0 j1 => by
        rw [hR5 i j i0 i1 j0 j1]
        show (if (0 : Int) ≤ -1 then _ else hld σ j (if (-1 : Int) = -2 ∧ _ then j else -1) (-1) (-1)) = hld σ j (-1) (-1) (-1)
        rw [if_neg (by omega), if_neg (fun h => by have := h.1; omega)]
      replace hBG : BG σ k x5 a5 (fun _ j => rhF σ 0 j) (n + 1) (sLe σ) (sWy σ) := ⟨hBG.1.fr ha5 (by decide), (hx5 21 (by decide)).trans hBG.2.1, (hx5 22 (by decide)).trans hBG.2.2.1, (hx5 23 (by decide)).trans hBG.2.2.2.1, hrow⟩
      have g20 : ∀ j, 0 ≤ j → j < sSg σ → a5 20 j = rhF σ 0 j := fun j j0 j1 => by
        have := hrow 0 j (by omega) (by omega) j0 j1
        rw [show (5 * 0 + j : Int) = j by omega] at this
        exact this
      refine v_aload_n dX10_find_35 rfl ?_
      refine v_iload_n dX10_find_36 rfl ?_
      refine v_iconst dX10_find_37 ?_
      refine v_callV (ci := 10) (K10_keep (turn := 0) hM ⟨hk0, by omega⟩ hBG.1.1 ⟨by omega, by omega⟩ (by omega) g20) ⟨rfl, rfl⟩ (Nat.le_refl _) (Nat.le_refl _) hM.1 rfl ⟨ml_X10_294, mm_X10_keep⟩ ⟨(Nat.le_of_ble_eq_true rfl), (Nat.le_of_ble_eq_true rfl)⟩ mp_X10_keep rfl rfl (Nat.le_of_ble_eq_true rfl) dX10_find_38 (fun r M' h => ?_)
      obtain ⟨a6, rfl, hM6, hF6, ha6, hk1', hk2'⟩ := h
      replace hM := hM6
      replace hF := hF.tr hF6
      replace hA := hA.tr ha6 (fun t h => h) (by decide)
      replace hBG := hBG.fr (xfr.rf (L := [])) ha6 (by decide) (by decide)
      refine v_aload_n dX10_find_41 rfl ?_
      refine v_iload_n dX10_find_42 rfl ?_
      refine v_callV (ci := 10) (K10_turns hM ⟨hk0, by omega⟩ hw hn (by omega) hBG (fun j j0 j1 => by have := hk1' j j0 j1; rw [show (5 * ((0 : Nat) : Int) + j) = j by omega] at this; exact this)) ⟨rfl, rfl⟩ (Nat.le_refl _) (Nat.le_refl _) hM.1 rfl ⟨ml_X10_300, mm_X10_turns⟩ ⟨(Nat.le_of_ble_eq_true rfl), (Nat.le_of_ble_eq_true rfl)⟩ mp_X10_turns rfl rfl (Nat.le_of_ble_eq_true rfl) dX10_find_43 (fun r M' h => ?_)
      obtain ⟨x7, a7, rfl, hM7, hF7, hx7, ha7, hBG7⟩ := h
      replace hM := hM7
      replace hF := hF.tr hF7
      replace hX := hX.tr hx7 (fun t h => h) (by decide)
      replace hA := hA.tr ha7 (fun t h => h) (by decide)
      rw [hgot]
      have g20' : ∀ j, 0 ≤ j → j < sSg σ → a7 20 j = N j := fun j j0 j1 => by
        have := hBG7.2.2.2.2 0 j (by omega) (by omega) j0 j1
        rw [show (5 * 0 + j : Int) = j by omega, hN] at this
        exact this
      refine v_istore_n dX10_find_46 (Nat.le_of_ble_eq_true rfl) ?_
      refine v_iconst dX10_find_47 ?_
      refine v_istore dX10_find_48 (Nat.le_of_ble_eq_true rfl) ?_
      exact v_to (loop (sSg σ).toNat 0 x7 a7 a7 _ (by omega) (by omega) hM (hRI.fr hX hA) hF afr.rf (fun z => by rw [if_neg (by omega)]) g20') rfl (sw_h1 rfl (sw_h1 rfl (sw_h1 rfl (sw_h1 rfl (sw_h1 rfl sw_h0)))))
    · skip
      exfalso; omega
theorem R9_findX {table : Int} (hI : InvR G M s) (hs : stOK s) (hk : isS s k) (ht : ¬ (0 ≤ table ∧ table < qT s)) (hg : sw_rg table) : Kt l G μX10_find [.ref (sw_al G 70), sw_i k, sw_i table] M (fun r M' => r = some (sw_i (-1)) ∧ InvR G M' s ∧ frR M M') := by
  refine KtA.of (by decide +kernel) (Nat.le_of_ble_eq_true rfl) ?_
  obtain ⟨x, a, hM, hRI⟩ := hI
  have hns : qN s ≤ 8 := hs.2.1
  have hnt := hs.c.1
  have h19 : x 19 = qT s := hRI.2.2.2.1
  obtain ⟨hk0, hk1⟩ := id hk
  refine v_aload_n dX10_find_0 rfl ?_
  refine v_iload_n dX10_find_1 rfl ?_
  refine v_callV (ci := 10) (K10_isSale hM hRI.2.2.1 ⟨by omega, by omega⟩ ⟨by omega, by omega⟩) ⟨rfl, rfl⟩ (Nat.le_refl _) (Nat.le_refl _) hM.1 rfl ⟨ml_X10_129, mm_X10_isSale⟩ ⟨(Nat.le_of_ble_eq_true rfl), (Nat.le_of_ble_eq_true rfl)⟩ mp_X10_isSale rfl rfl (Nat.le_of_ble_eq_true rfl) dX10_find_2 (fun r M' h => ?_)
  obtain ⟨rfl, rfl⟩ := h
  refine v_ifb_eq (tgt := 22) dX10_find_5 (by decide) (fun h5 => ?_) (fun h5 => ?_)
  · skip
    exact absurd hk (by assumption)
  · skip
    refine v_iload_n dX10_find_8 rfl ?_
    refine v_iconst dX10_find_9 ?_
    refine v_aload_n dX10_find_10 rfl ?_
    refine v_rgi 19 hM h19 fl_X10_173 rfl dX10_find_11 ?_
    refine v_iconst dX10_find_14 ?_
    refine v_isub dX10_find_15 ?_
    refine v_callS (K10_in (v := table) (lo := 0) (hi := qT s - 1) hg ⟨by omega, by omega⟩ ⟨by omega, by omega⟩) ⟨rfl, rfl⟩ (Nat.le_refl _) (Nat.le_refl _) ⟨ml_X10_107, mm_X10_in⟩ ⟨(Nat.le_of_ble_eq_true rfl), (Nat.le_of_ble_eq_true rfl)⟩ mp_X10_in rfl rfl (Nat.le_of_ble_eq_true rfl) dX10_find_16 (fun r M' h => ?_)
    obtain ⟨rfl, rfl⟩ := h
    refine v_ifb_ne (tgt := 24) dX10_find_19 (by decide) (fun h19 => ?_) (fun h19 => ?_)
    · skip
      exfalso; omega
    · skip
      refine v_iconst dX10_find_22 ?_
      exact v_iret dX10_find_23 rfl (Nat.le_refl _) (Nat.le_refl _) (⟨rfl, ⟨_, _, hM, hRI⟩, frR.rf⟩)
theorem R9_findN {table : Int} (hI : InvR G M s) (hs : stOK s) (hk : ¬ isS s k) (hg : sw_rg k) : Kt l G μX10_find [.ref (sw_al G 70), sw_i k, sw_i table] M (fun r M' => r = some (sw_i (-1)) ∧ InvR G M' s ∧ frR M M') := by
  refine KtA.of (by decide +kernel) (Nat.le_of_ble_eq_true rfl) ?_
  obtain ⟨x, a, hM, hRI⟩ := hI
  have hns : qN s ≤ 8 := hs.2.1
  refine v_aload_n dX10_find_0 rfl ?_
  refine v_iload_n dX10_find_1 rfl ?_
  refine v_callV (ci := 10) (K10_isSale hM hRI.2.2.1 ⟨by omega, by omega⟩ hg) ⟨rfl, rfl⟩ (Nat.le_refl _) (Nat.le_refl _) hM.1 rfl ⟨ml_X10_129, mm_X10_isSale⟩ ⟨(Nat.le_of_ble_eq_true rfl), (Nat.le_of_ble_eq_true rfl)⟩ mp_X10_isSale rfl rfl (Nat.le_of_ble_eq_true rfl) dX10_find_2 (fun r M' h => ?_)
  obtain ⟨rfl, rfl⟩ := h
  refine v_ifb_eq (tgt := 22) dX10_find_5 (by decide) (fun h5 => ?_) (fun h5 => ?_)
  · skip
    refine v_iconst dX10_find_22 ?_
    exact v_iret dX10_find_23 rfl (Nat.le_refl _) (Nat.le_refl _) (⟨rfl, ⟨_, _, hM, hRI⟩, frR.rf⟩)
  · skip
    exact absurd (by assumption) hk
end

