/-! the face: telling, asOne -/
section
variable {l : Launch} {G : sw_G} {M : sw_M} {s : CSt} {k : Int}
def tlF (σ : SaleT) (nt : Int) (T : Int → Int) (h : Int) : Int := TT σ (rwF (bF σ nt T h)) (pS σ h) (sNb σ).toNat
def tlT (G : sw_G) (M : sw_M) (tk : Int) : Prop := ∃ a, tlIs G M a tk
theorem tlT.fr {L : List Nat} {M M' : sw_M} {tk : Int} (h : tlT G M tk) (f : frK L M M') (h1 : 10 ∉ L) : tlT G M' tk := by
  obtain ⟨a, e⟩ := h
  exact ⟨a, e.fr f h1⟩
theorem F9_telling (hI : InvC G M s) (hs : stOK s) (hk : isS s k) : Kt l G μX9_telling [.ref (sw_al G 0), sw_i k] M (fun r M' => r = some (sw_j (sm (tlF (sl s k) (qT s) (qB s)) (sSg (sl s k)).toNat)) ∧ InvC G M' s ∧ frC M M') := by
  refine KtA.of (by decide +kernel) (Nat.le_of_ble_eq_true rfl) ?_
  have i0 := hI.1
  obtain ⟨hk0, hk1⟩ := id hk
  have hw := hs.sale hk
  have hsg := hw.1
  have hnb := hw.2.2.1
  have hns : qN s ≤ 8 := hs.2.1
  obtain ⟨m, hm⟩ : ∃ m : Nat, (m : Int) = sNb (sl s k) := ⟨(sNb (sl s k)).toNat, by omega⟩
  obtain ⟨F, hF⟩ : ∃ F, tlF (sl s k) (qT s) (qB s) = F := ⟨_, rfl⟩
  have eF : ∀ h, F h = TT (sl s k) (rwF (bF (sl s k) (qT s) (qB s) h)) (pS (sl s k) h) m := fun h => by
    rw [← hF]; unfold tlF; rw [← hm, Int.toNat_natCast]
  rw [hF]
  obtain ⟨Zq, hZ⟩ : ∃ Zq : Option Value → sw_M → Prop, Zq = (fun r M' => r = some (sw_j (sm F (sSg (sl s k)).toNat)) ∧ InvC G M' s ∧ frC M M') := ⟨_, rfl⟩
  rw [← hZ]
  have loop : ∀ (n : Nat) (h : Int) (M1 : sw_M), 0 ≤ h → h + n = sSg (sl s k) → InvC G M1 s → frC M M1 → tlT G M1 (sm F h.toNat) → V l G μX9_telling sw_E0 (sw_Zq G μX9_telling (sw_q0 G Zq)) 23 [(0, .ref (sw_al G 0)), (1, sw_i k), (2, .ref (sw_al G (100 + 5 * k.toNat))), (3, sw_i h)] [] M1 0 0 := by
    intro n
    induction n with
    | zero =>
      intro h M1 h0 h1 hI1 f1 t1
      have e : h = sSg (sl s k) := by omega
      subst e
      obtain ⟨u1, d1, h51⟩ := hI1.sale hk
      obtain ⟨a, so, un, hy⟩ := t1
      refine v_iload_n dX9_telling_23 rfl ?_
      refine v_aload_n dX9_telling_24 rfl ?_
      refine v_getfH 4 h51.hd fl_X9_108 rfl dX9_telling_25 ?_
      refine v_icmp_ge (tgt := 90) dX9_telling_28 (by decide) ⟨by omega, by omega⟩ ⟨by omega, by omega⟩ (fun h28 => ?_) (fun h28 => ?_)
      · skip
        refine v_aload_n dX9_telling_90 rfl ?_
        refine v_getfH 7 hI1.1 fl_X9_46 rfl dX9_telling_91 ?_
        refine v_getfH 1 hy fl_X9_193 rfl dX9_telling_94 ?_
        refine v_lret dX9_telling_97 rfl (Nat.le_refl _) (Nat.le_refl _) ?_
        skip
        rw [hZ]
        exact ⟨rfl, hI1, f1⟩
      · skip
        exfalso; omega
    | succ n ih =>
      intro h M1 h0 h1 hI1 f1 t1
      have inner : ∀ (n2 p : Nat) (M2 : sw_M) (R : Int → Int), p + n2 = m → InvC G M2 s → frC M M2 → tlT G M2 (sm F h.toNat) → M2 7 = some (cR R).2 → (∀ q j, 0 ≤ q → q < (p : Int) → 0 ≤ j → j < sSg (sl s k) → R (q * 5 + j) = bF (sl s k) (qT s) (qB s) h q j) → V l G μX9_telling sw_E0 (sw_Zq G μX9_telling (sw_q0 G Zq)) 34 [(0, .ref (sw_al G 0)), (1, sw_i k), (2, .ref (sw_al G (100 + 5 * k.toNat))), (3, sw_i h), (4, sw_i (p : Int))] [] M2 0 0 := by
        intro n2
        induction n2 with
        | zero =>
          intro p M2 R hp hI2 f2 t2 h7 hR
          have e : p = m := by omega
          subst e
          obtain ⟨u1, d1, h51⟩ := hI2.sale hk
          obtain ⟨a2, t2⟩ := t2
          refine v_iload dX9_telling_34 rfl ?_
          refine v_aload_n dX9_telling_36 rfl ?_
          refine v_getfH 6 h51.hd fl_X9_114 rfl dX9_telling_37 ?_
          refine v_icmp_ge (tgt := 59) dX9_telling_40 (by decide) ⟨by omega, by omega⟩ ⟨by omega, by omega⟩ (fun h40 => ?_) (fun h40 => ?_)
          · skip
            refine v_aload_n dX9_telling_59 rfl ?_
            refine v_getfH 6 hI2.1 fl_X9_39 rfl dX9_telling_60 ?_
            refine v_aload_n dX9_telling_63 rfl ?_
            refine v_iload_n dX9_telling_64 rfl ?_
            obtain ⟨fs6, g6⟩ := hI2.g6
            refine v_callV (ci := 1) (W_withSign hI2 hs hk (his := h) ⟨by omega, by omega⟩) ⟨rfl, rfl⟩ (Nat.le_refl _) (Nat.le_refl _) g6 rfl ⟨ml_X9_254, mm_X1_withSign⟩ ⟨(Nat.le_of_ble_eq_true rfl), (Nat.le_of_ble_eq_true rfl)⟩ mp_X1_withSign rfl rfl (Nat.le_of_ble_eq_true rfl) dX9_telling_65 (fun r M3 hh => ?_)
            obtain ⟨rfl, hI3, f3, p3⟩ := hh
            obtain ⟨u3, d3, h53⟩ := hI3.sale hk
            refine v_aload_n dX9_telling_68 rfl ?_
            refine v_getfH 7 hI3.1 fl_X9_46 rfl dX9_telling_69 ?_
            refine v_aload_n dX9_telling_72 rfl ?_
            refine v_getfH 6 hI3.1 fl_X9_39 rfl dX9_telling_73 ?_
            refine v_aload_n dX9_telling_76 rfl ?_
            refine v_aload_n dX9_telling_77 rfl ?_
            refine v_getfH 6 h53.hd fl_X9_114 rfl dX9_telling_78 ?_
            rw [← hm]
            obtain ⟨fs10, g10⟩ := hI3.g10
            refine v_callV (ci := 6) (W_addT (m := p) (f := bF (sl s k) (qT s) (qB s) h) hI3 hs hk (by omega) (fun q i _ _ i0 i1 => bdF_bd hw hs.c h ⟨i0, by omega⟩) (rowIs.fr ⟨R, h7, hR⟩ f3 (by decide)) p3 (t2.fr f3 (by decide))) ⟨rfl, rfl⟩ (Nat.le_refl _) (Nat.le_refl _) g10 rfl ⟨ml_X9_260, mm_X6_add⟩ ⟨(Nat.le_of_ble_eq_true rfl), (Nat.le_of_ble_eq_true rfl)⟩ mp_X6_add rfl rfl (Nat.le_of_ble_eq_true rfl) dX9_telling_81 (fun r M4 hh => ?_)
            obtain ⟨rfl, hI4, f4, t4⟩ := hh
            refine v_iinc dX9_telling_84 rfl (Nat.le_of_ble_eq_true rfl) ?_
            refine v_goto (tgt := 23) dX9_telling_87 (by decide) ?_
            refine v_to (ih (h + 1) M4 (by omega) (by omega) hI4 ((f2.trk f3 (by decide)).trk f4 (by decide)) ?_) rfl (sw_h1 rfl (sw_h1 rfl (sw_h1 rfl (sw_h1 rfl sw_h0))))
            rw [sm_step _ h0, eF h]
            exact ⟨_, t4⟩
          · skip
            exfalso; omega
        | succ n2 ih2 =>
          intro p M2 R hp hI2 f2 t2 h7 hR
          obtain ⟨u1, d1, h51⟩ := hI2.sale hk
          refine v_iload dX9_telling_34 rfl ?_
          refine v_aload_n dX9_telling_36 rfl ?_
          refine v_getfH 6 h51.hd fl_X9_114 rfl dX9_telling_37 ?_
          refine v_icmp_ge (tgt := 59) dX9_telling_40 (by decide) ⟨by omega, by omega⟩ ⟨by omega, by omega⟩ (fun h40 => ?_) (fun h40 => ?_)
          · skip
            exfalso; omega
          · skip
            refine v_aload_n dX9_telling_43 rfl ?_
            refine v_aload_n dX9_telling_44 rfl ?_
            refine v_iload dX9_telling_45 rfl ?_
            refine v_iload dX9_telling_47 rfl ?_
            refine v_iload_n dX9_telling_49 rfl ?_
            refine v_callV (ci := 9) (W_rowOf hI2 hs hk (seat := (p : Int)) (place := (p : Int)) (his := h) (R := R) ⟨by omega, by omega⟩ ⟨by omega, by omega⟩ ⟨by omega, by omega⟩ h7) ⟨rfl, rfl⟩ (Nat.le_refl _) (Nat.le_refl _) hI2.1 rfl ⟨ml_X9_269, mm_X9_rowOf⟩ ⟨(Nat.le_of_ble_eq_true rfl), (Nat.le_of_ble_eq_true rfl)⟩ mp_X9_rowOf rfl rfl (Nat.le_of_ble_eq_true rfl) dX9_telling_50 (fun r M3 hh => ?_)
            obtain ⟨rfl, hI3, f3, R3, h73, e1, e2⟩ := hh
            refine v_iinc dX9_telling_53 rfl (Nat.le_of_ble_eq_true rfl) ?_
            refine v_goto (tgt := 34) dX9_telling_56 (by decide) ?_
            refine v_to (ih2 (p + 1) M3 R3 (by omega) hI3 (f2.trk f3 (by decide)) (t2.fr f3 (by decide)) h73 ?_) rfl (sw_h1 rfl (sw_h1 rfl (sw_h1 rfl (sw_h1 rfl (sw_h1 rfl sw_h0)))))
            intro q j q0 q1 j0 j1
            by_cases e : q = (p : Int)
            · subst e; exact e1 j j0 j1
            · rw [e2 _ (by omega)]; exact hR q j q0 (by omega) j0 j1
      obtain ⟨u1, d1, h51⟩ := hI1.sale hk
      obtain ⟨R0, x7⟩ := hI1.x7
      refine v_iload_n dX9_telling_23 rfl ?_
      refine v_aload_n dX9_telling_24 rfl ?_
      refine v_getfH 4 h51.hd fl_X9_108 rfl dX9_telling_25 ?_
      refine v_icmp_ge (tgt := 90) dX9_telling_28 (by decide) ⟨by omega, by omega⟩ ⟨by omega, by omega⟩ (fun h28 => ?_) (fun h28 => ?_)
      · skip
        exfalso; omega
      · skip
        refine v_iconst dX9_telling_31 ?_
        refine v_istore dX9_telling_32 (Nat.le_of_ble_eq_true rfl) ?_
        exact v_to (inner m 0 M1 R0 (by omega) hI1 f1 t1 x7 (fun q j q0 q1 => by omega)) rfl (sw_h1 rfl (sw_h1 rfl (sw_h1 rfl (sw_h1 rfl (sw_h1 rfl sw_h0)))))
  refine v_aload_n dX9_telling_0 rfl ?_
  refine v_iload_n dX9_telling_1 rfl ?_
  refine v_callV (ci := 9) (K9_saleAt (ns := qN s) (nt := qT s) (k := k) i0 hI.2.1 hns hk) ⟨rfl, rfl⟩ (Nat.le_refl _) (Nat.le_refl _) i0 rfl ⟨ml_X9_104, mm_X9_saleAt⟩ ⟨(Nat.le_of_ble_eq_true rfl), (Nat.le_of_ble_eq_true rfl)⟩ mp_X9_saleAt rfl rfl (Nat.le_of_ble_eq_true rfl) dX9_telling_2 (fun r M' h => ?_)
  obtain ⟨rfl, rfl⟩ := h
  refine v_astore_n dX9_telling_5 (Nat.le_of_ble_eq_true rfl) ?_
  refine v_aload_n dX9_telling_6 rfl ?_
  refine v_ifnonnull (tgt := 14) dX9_telling_7 (by decide) ?_
  refine v_aload_n dX9_telling_14 rfl ?_
  refine v_getfH 7 i0 fl_X9_46 rfl dX9_telling_15 ?_
  obtain ⟨fs10, g10⟩ := hI.g10
  refine v_callV (ci := 6) (W_clear hI) ⟨rfl, rfl⟩ (Nat.le_refl _) (Nat.le_refl _) g10 rfl ⟨ml_X9_257, mm_X6_clear⟩ ⟨(Nat.le_of_ble_eq_true rfl), (Nat.le_of_ble_eq_true rfl)⟩ mp_X6_clear rfl rfl (Nat.le_of_ble_eq_true rfl) dX9_telling_18 (fun r M1 h => ?_)
  obtain ⟨rfl, hI1, f1, t1⟩ := h
  refine v_iconst dX9_telling_21 ?_
  refine v_istore_n dX9_telling_22 (Nat.le_of_ble_eq_true rfl) ?_
  exact v_to (loop (sSg (sl s k)).toNat 0 M1 (by omega) (by omega) hI1 (f1.c (by decide)) ⟨0, t1⟩) rfl (sw_h1 rfl (sw_h1 rfl (sw_h1 rfl (sw_h1 rfl sw_h0))))
theorem F9_tellingN (hI : InvC G M s) (hs : stOK s) (hk : ¬ isS s k) (hg : sw_rg k) : Kt l G μX9_telling [.ref (sw_al G 0), sw_i k] M (fun r M' => r = some (sw_j (-1)) ∧ InvC G M' s ∧ frC M M') := by
  refine KtA.of (by decide +kernel) (Nat.le_of_ble_eq_true rfl) ?_
  have i0 := hI.1
  have hns : qN s ≤ 8 := hs.2.1
  refine v_aload_n dX9_telling_0 rfl ?_
  refine v_iload_n dX9_telling_1 rfl ?_
  refine v_callV (ci := 9) (K9_saleAtN (ns := qN s) (nt := qT s) (k := k) i0 hns hk hg) ⟨rfl, rfl⟩ (Nat.le_refl _) (Nat.le_refl _) i0 rfl ⟨ml_X9_104, mm_X9_saleAt⟩ ⟨(Nat.le_of_ble_eq_true rfl), (Nat.le_of_ble_eq_true rfl)⟩ mp_X9_saleAt rfl rfl (Nat.le_of_ble_eq_true rfl) dX9_telling_2 (fun r M' h => ?_)
  obtain ⟨rfl, rfl⟩ := h
  refine v_astore_nN dX9_telling_5 (Nat.le_of_ble_eq_true rfl) ?_
  refine v_aload_nN dX9_telling_6 rfl ?_
  refine v_ifnonnullN dX9_telling_7 ?_
  refine v_ldc2 (z := -1) kl_X9_184 (by decide +kernel) dX9_telling_10 ?_
  exact v_lret dX9_telling_13 rfl (Nat.le_refl _) (Nat.le_refl _) (⟨rfl, hI, frC.rf⟩)
/-- two who bid as one: the first place knows both signs -/
def aoF (σ : SaleT) (nt : Int) (T : Int → Int) (o : Int) : Int → Int → Int := fun p i => if p = 0 then hld σ i o (-1) (-1) else bdF σ nt T (p + 1) i (-1)
theorem aoF_bd {σ : SaleT} (hw : wfS σ) {nt : Int} {T : Int → Int} (hc : wfC nt T) {o p i : Int} (hi : 0 ≤ i ∧ i < 5) : 0 ≤ aoF σ nt T o p i ∧ aoF σ nt T o p i ≤ 60 := by
  unfold aoF
  split
  · exact hld_bd hw _ _ _ _
  · exact bdF_bd hw hc (-1) hi
def aoT (σ : SaleT) (nt : Int) (T : Int → Int) (o : Int) : Int := TT σ (rwF (aoF σ nt T o)) (pS σ o) (sNb σ - 1).toNat
theorem F9_asOne (hI : InvC G M s) (hs : stOK s) (hk : isS s k) : Kt l G μX9_asOne [.ref (sw_al G 0), sw_i k] M (fun r M' => r = some (sw_j (if sNb (sl s k) < 2 then -1 else sm (aoT (sl s k) (qT s) (qB s)) (sSg (sl s k)).toNat)) ∧ InvC G M' s ∧ frC M M') := by
  refine KtA.of (by decide +kernel) (Nat.le_of_ble_eq_true rfl) ?_
  have i0 := hI.1
  obtain ⟨hk0, hk1⟩ := id hk
  have hw := hs.sale hk
  have hsg := hw.1
  have hnb := hw.2.2.1
  have hns : qN s ≤ 8 := hs.2.1
  obtain ⟨u, d, h5⟩ := hI.sale hk
  obtain ⟨m, hm⟩ : ∃ m : Nat, (m : Int) = sNb (sl s k) - 1 := ⟨(sNb (sl s k) - 1).toNat, by omega⟩
  obtain ⟨F, hF⟩ : ∃ F, aoT (sl s k) (qT s) (qB s) = F := ⟨_, rfl⟩
  have eF : ∀ h, F h = TT (sl s k) (rwF (aoF (sl s k) (qT s) (qB s) h)) (pS (sl s k) h) m := fun h => by
    rw [← hF]; unfold aoT; rw [← hm, Int.toNat_natCast]
  rw [hF]
  by_cases c2 : sNb (sl s k) < 2
  · skip
    refine v_aload_n dX9_asOne_0 rfl ?_
    refine v_iload_n dX9_asOne_1 rfl ?_
    refine v_callV (ci := 9) (K9_saleAt (ns := qN s) (nt := qT s) (k := k) i0 hI.2.1 hns hk) ⟨rfl, rfl⟩ (Nat.le_refl _) (Nat.le_refl _) i0 rfl ⟨ml_X9_104, mm_X9_saleAt⟩ ⟨(Nat.le_of_ble_eq_true rfl), (Nat.le_of_ble_eq_true rfl)⟩ mp_X9_saleAt rfl rfl (Nat.le_of_ble_eq_true rfl) dX9_asOne_2 (fun r M' h => ?_)
    obtain ⟨rfl, rfl⟩ := h
    refine v_astore_n dX9_asOne_5 (Nat.le_of_ble_eq_true rfl) ?_
    refine v_aload_n dX9_asOne_6 rfl ?_
    refine v_ifnull dX9_asOne_7 ?_
    refine v_aload_n dX9_asOne_10 rfl ?_
    refine v_getfH 6 h5.hd fl_X9_114 rfl dX9_asOne_11 ?_
    refine v_iconst dX9_asOne_14 ?_
    refine v_icmp_ge (tgt := 22) dX9_asOne_15 (by decide) ⟨by omega, by omega⟩ ⟨by omega, by omega⟩ (fun h15 => ?_) (fun h15 => ?_)
    · skip
      exfalso; omega
    · skip
      refine v_ldc2 (z := -1) kl_X9_184 (by decide +kernel) dX9_asOne_18 ?_
      exact v_lret dX9_asOne_21 rfl (Nat.le_refl _) (Nat.le_refl _) (⟨by rw [if_pos c2], hI, frC.rf⟩)
  rw [if_neg c2]
  obtain ⟨Zq, hZ⟩ : ∃ Zq : Option Value → sw_M → Prop, Zq = (fun r M' => r = some (sw_j (sm F (sSg (sl s k)).toNat)) ∧ InvC G M' s ∧ frC M M') := ⟨_, rfl⟩
  rw [← hZ]
  obtain ⟨rst, hrst⟩ : ∃ rst : (Int → Int) → Int → Prop, rst = fun R p => ∀ q j, 1 ≤ q → q < p → 0 ≤ j → j < sSg (sl s k) → R (q * 5 + j) = bdF (sl s k) (qT s) (qB s) (q + 1) j (-1) := ⟨_, rfl⟩
  have loop : ∀ (n : Nat) (h : Int) (M1 : sw_M) (R : Int → Int), 0 ≤ h → h + n = sSg (sl s k) → InvC G M1 s → frC M M1 → tlT G M1 (sm F h.toNat) → M1 7 = some (cR R).2 → rst R m → V l G μX9_asOne sw_E0 (sw_Zq G μX9_asOne (sw_q0 G Zq)) 57 [(0, .ref (sw_al G 0)), (1, sw_i k), (2, .ref (sw_al G (100 + 5 * k.toNat))), (3, sw_i h)] [] M1 0 0 := by
    intro n
    induction n with
    | zero =>
      intro h M1 R h0 h1 hI1 f1 t1 h7 hR
      have e : h = sSg (sl s k) := by omega
      subst e
      obtain ⟨u1, d1, h51⟩ := hI1.sale hk
      obtain ⟨a, so, un, hy⟩ := t1
      refine v_iload_n dX9_asOne_57 rfl ?_
      refine v_aload_n dX9_asOne_58 rfl ?_
      refine v_getfH 4 h51.hd fl_X9_108 rfl dX9_asOne_59 ?_
      refine v_icmp_ge (tgt := 135) dX9_asOne_62 (by decide) ⟨by omega, by omega⟩ ⟨by omega, by omega⟩ (fun h62 => ?_) (fun h62 => ?_)
      · skip
        refine v_aload_n dX9_asOne_135 rfl ?_
        refine v_getfH 7 hI1.1 fl_X9_46 rfl dX9_asOne_136 ?_
        refine v_getfH 1 hy fl_X9_193 rfl dX9_asOne_139 ?_
        refine v_lret dX9_asOne_142 rfl (Nat.le_refl _) (Nat.le_refl _) ?_
        skip
        rw [hZ]
        exact ⟨rfl, hI1, f1⟩
      · skip
        exfalso; omega
    | succ n ih =>
      intro h M1 R h0 h1 hI1 f1 t1 h7 hR
      have inner : ∀ (n2 : Nat) (i : Int) (M2 : sw_M) (R : Int → Int), 0 ≤ i → i + n2 = sSg (sl s k) → InvC G M2 s → frC M M2 → tlT G M2 (sm F h.toNat) → M2 7 = some (cR R).2 → rst R m → (∀ j, 0 ≤ j → j < i → R j = hld (sl s k) j h (-1) (-1)) → V l G μX9_asOne sw_E0 (sw_Zq G μX9_asOne (sw_q0 G Zq)) 68 [(0, .ref (sw_al G 0)), (1, sw_i k), (2, .ref (sw_al G (100 + 5 * k.toNat))), (3, sw_i h), (4, sw_i i)] [] M2 0 0 := by
        intro n2
        induction n2 with
        | zero =>
          intro i M2 R i0 i1 hI2 f2 t2 h7 hR hL
          have e : i = sSg (sl s k) := by omega
          subst e
          obtain ⟨u1, d1, h51⟩ := hI2.sale hk
          obtain ⟨a2, t2⟩ := t2
          have hrow : rowIs M2 (aoF (sl s k) (qT s) (qB s) h) m (sSg (sl s k)) := ⟨R, h7, fun q j q0 q1 j0 j1 => by
            unfold aoF
            by_cases c : q = 0
            · subst c
              rw [if_pos rfl, show (0 : Int) * 5 + j = j by omega]
              exact hL j j0 j1
            · rw [if_neg c]
              rw [hrst] at hR
              exact hR q j (by omega) q1 j0 j1⟩
          refine v_iload dX9_asOne_68 rfl ?_
          refine v_aload_n dX9_asOne_70 rfl ?_
          refine v_getfH 4 h51.hd fl_X9_108 rfl dX9_asOne_71 ?_
          refine v_icmp_ge (tgt := 102) dX9_asOne_74 (by decide) ⟨by omega, by omega⟩ ⟨by omega, by omega⟩ (fun h74 => ?_) (fun h74 => ?_)
          · skip
            refine v_aload_n dX9_asOne_102 rfl ?_
            refine v_getfH 6 hI2.1 fl_X9_39 rfl dX9_asOne_103 ?_
            refine v_aload_n dX9_asOne_106 rfl ?_
            refine v_iload_n dX9_asOne_107 rfl ?_
            obtain ⟨fs6, g6⟩ := hI2.g6
            refine v_callV (ci := 1) (W_withSign hI2 hs hk (his := h) ⟨by omega, by omega⟩) ⟨rfl, rfl⟩ (Nat.le_refl _) (Nat.le_refl _) g6 rfl ⟨ml_X9_254, mm_X1_withSign⟩ ⟨(Nat.le_of_ble_eq_true rfl), (Nat.le_of_ble_eq_true rfl)⟩ mp_X1_withSign rfl rfl (Nat.le_of_ble_eq_true rfl) dX9_asOne_108 (fun r M3 hh => ?_)
            obtain ⟨rfl, hI3, f3, p3⟩ := hh
            obtain ⟨u3, d3, h53⟩ := hI3.sale hk
            refine v_aload_n dX9_asOne_111 rfl ?_
            refine v_getfH 7 hI3.1 fl_X9_46 rfl dX9_asOne_112 ?_
            refine v_aload_n dX9_asOne_115 rfl ?_
            refine v_getfH 6 hI3.1 fl_X9_39 rfl dX9_asOne_116 ?_
            refine v_aload_n dX9_asOne_119 rfl ?_
            refine v_aload_n dX9_asOne_120 rfl ?_
            refine v_getfH 6 h53.hd fl_X9_114 rfl dX9_asOne_121 ?_
            refine v_iconst dX9_asOne_124 ?_
            refine v_isub dX9_asOne_125 ?_
            rw [← hm]
            obtain ⟨fs10, g10⟩ := hI3.g10
            refine v_callV (ci := 6) (W_addT (m := m) (f := aoF (sl s k) (qT s) (qB s) h) hI3 hs hk (by omega) (fun q i _ _ i0 i1 => aoF_bd hw hs.c ⟨i0, by omega⟩) (hrow.fr f3 (by decide)) p3 (t2.fr f3 (by decide))) ⟨rfl, rfl⟩ (Nat.le_refl _) (Nat.le_refl _) g10 rfl ⟨ml_X9_260, mm_X6_add⟩ ⟨(Nat.le_of_ble_eq_true rfl), (Nat.le_of_ble_eq_true rfl)⟩ mp_X6_add rfl rfl (Nat.le_of_ble_eq_true rfl) dX9_asOne_126 (fun r M4 hh => ?_)
            obtain ⟨rfl, hI4, f4, t4⟩ := hh
            refine v_iinc dX9_asOne_129 rfl (Nat.le_of_ble_eq_true rfl) ?_
            refine v_goto (tgt := 57) dX9_asOne_132 (by decide) ?_
            refine v_to (ih (h + 1) M4 R (by omega) (by omega) hI4 ((f2.trk f3 (by decide)).trk f4 (by decide)) ?_ (((f4 7 (by omega) (by decide)).trans (f3 7 (by omega) (by decide))).trans h7) hR) rfl (sw_h1 rfl (sw_h1 rfl (sw_h1 rfl (sw_h1 rfl sw_h0))))
            rw [sm_step _ h0, eF h]
            exact ⟨_, t4⟩
          · skip
            exfalso; omega
        | succ n2 ih2 =>
          intro i M2 R i0 i1 hI2 f2 t2 h7 hR hL
          obtain ⟨u1, d1, h51⟩ := hI2.sale hk
          refine v_iload dX9_asOne_68 rfl ?_
          refine v_aload_n dX9_asOne_70 rfl ?_
          refine v_getfH 4 h51.hd fl_X9_108 rfl dX9_asOne_71 ?_
          refine v_icmp_ge (tgt := 102) dX9_asOne_74 (by decide) ⟨by omega, by omega⟩ ⟨by omega, by omega⟩ (fun h74 => ?_) (fun h74 => ?_)
          · skip
            exfalso; omega
          · skip
            refine v_aload_n dX9_asOne_77 rfl ?_
            refine v_getfH 6 hI2.1 fl_X9_39 rfl dX9_asOne_78 ?_
            refine v_iconst dX9_asOne_81 ?_
            refine v_iload dX9_asOne_82 rfl ?_
            refine v_aload_n dX9_asOne_84 rfl ?_
            refine v_iload dX9_asOne_85 rfl ?_
            refine v_iload_n dX9_asOne_87 rfl ?_
            refine v_iconst dX9_asOne_88 ?_
            refine v_iconst dX9_asOne_89 ?_
            refine v_callV (ci := 5) (W_held hI2 hs hk (a := i) (e := h) (c := -1) (d := -1) ⟨by omega, by omega⟩ ⟨by omega, by omega⟩ ⟨by omega, by omega⟩ ⟨by omega, by omega⟩) ⟨rfl, rfl⟩ (Nat.le_refl _) (Nat.le_refl _) h51.hd rfl ⟨ml_X9_230, mm_X5_held⟩ ⟨(Nat.le_of_ble_eq_true rfl), (Nat.le_of_ble_eq_true rfl)⟩ mp_X5_held rfl rfl (Nat.le_of_ble_eq_true rfl) dX9_asOne_90 (fun r M3 hh => ?_)
            obtain ⟨rfl, hI3, f3⟩ := hh
            obtain ⟨fs6, g6⟩ := hI3.g6
            refine v_callV (ci := 1) (W_bidBy hI3 (i := 0) (j := i) ((f3 7 (by omega) (by decide)).trans h7) ⟨by omega, by omega⟩ ⟨by omega, by omega⟩) ⟨rfl, rfl⟩ (Nat.le_refl _) (Nat.le_refl _) g6 rfl ⟨ml_X9_280, mm_X1_bidBy⟩ ⟨(Nat.le_of_ble_eq_true rfl), (Nat.le_of_ble_eq_true rfl)⟩ mp_X1_bidBy rfl rfl (Nat.le_of_ble_eq_true rfl) dX9_asOne_93 (fun r M4 hh => ?_)
            obtain ⟨rfl, hI4, f4, h74⟩ := hh
            refine v_iinc dX9_asOne_96 rfl (Nat.le_of_ble_eq_true rfl) ?_
            refine v_goto (tgt := 68) dX9_asOne_99 (by decide) ?_
            refine v_to (ih2 (i + 1) M4 _ (by omega) (by omega) hI4 ((f2.trk f3 (by decide)).trk f4 (by decide)) ((t2.fr f3 (by decide)).fr f4 (by decide)) h74 ?_ ?_) rfl (sw_h1 rfl (sw_h1 rfl (sw_h1 rfl (sw_h1 rfl (sw_h1 rfl sw_h0)))))
            · rw [hrst] at hR ⊢
              intro q j q0 q1 j0 j1
              show (if q * 5 + j = 0 * 5 + i then _ else R (q * 5 + j)) = _
              rw [if_neg (by omega)]
              exact hR q j q0 q1 j0 j1
            · intro j j0 j1
              show (if j = 0 * 5 + i then _ else R j) = _
              by_cases c : j = i
              · subst c; rw [if_pos (by omega)]
              · rw [if_neg (by omega)]; exact hL j j0 (by omega)
      obtain ⟨u1, d1, h51⟩ := hI1.sale hk
      refine v_iload_n dX9_asOne_57 rfl ?_
      refine v_aload_n dX9_asOne_58 rfl ?_
      refine v_getfH 4 h51.hd fl_X9_108 rfl dX9_asOne_59 ?_
      refine v_icmp_ge (tgt := 135) dX9_asOne_62 (by decide) ⟨by omega, by omega⟩ ⟨by omega, by omega⟩ (fun h62 => ?_) (fun h62 => ?_)
      · skip
        exfalso; omega
      · skip
        refine v_iconst dX9_asOne_65 ?_
        refine v_istore dX9_asOne_66 (Nat.le_of_ble_eq_true rfl) ?_
        exact v_to (inner (sSg (sl s k)).toNat 0 M1 R (by omega) (by omega) hI1 f1 t1 h7 hR (fun j j0 j1 => by omega)) rfl (sw_h1 rfl (sw_h1 rfl (sw_h1 rfl (sw_h1 rfl (sw_h1 rfl sw_h0)))))
  have first : ∀ (n : Nat) (p : Int) (M1 : sw_M) (R : Int → Int), 1 ≤ p → p + n = m → InvC G M1 s → frC M M1 → tlT G M1 0 → M1 7 = some (cR R).2 → rst R p → V l G μX9_asOne sw_E0 (sw_Zq G μX9_asOne (sw_q0 G Zq)) 31 [(0, .ref (sw_al G 0)), (1, sw_i k), (2, .ref (sw_al G (100 + 5 * k.toNat))), (3, sw_i (p + 1))] [] M1 0 0 := by
    intro n
    induction n with
    | zero =>
      intro p M1 R p0 p1 hI1 f1 t1 h7 hR
      obtain ⟨u1, d1, h51⟩ := hI1.sale hk
      have e : p = m := by omega
      rw [e] at hR
      refine v_iload_n dX9_asOne_31 rfl ?_
      refine v_aload_n dX9_asOne_32 rfl ?_
      refine v_getfH 6 h51.hd fl_X9_114 rfl dX9_asOne_33 ?_
      refine v_icmp_ge (tgt := 55) dX9_asOne_36 (by decide) ⟨by omega, by omega⟩ ⟨by omega, by omega⟩ (fun h36 => ?_) (fun h36 => ?_)
      · skip
        refine v_iconst dX9_asOne_55 ?_
        refine v_istore_n dX9_asOne_56 (Nat.le_of_ble_eq_true rfl) ?_
        exact v_to (loop (sSg (sl s k)).toNat 0 M1 R (by omega) (by omega) hI1 f1 t1 h7 hR) rfl (sw_h1 rfl (sw_h1 rfl (sw_h1 rfl (sw_h1 rfl sw_h0))))
      · skip
        exfalso; omega
    | succ n ih =>
      intro p M1 R p0 p1 hI1 f1 t1 h7 hR
      obtain ⟨u1, d1, h51⟩ := hI1.sale hk
      refine v_iload_n dX9_asOne_31 rfl ?_
      refine v_aload_n dX9_asOne_32 rfl ?_
      refine v_getfH 6 h51.hd fl_X9_114 rfl dX9_asOne_33 ?_
      refine v_icmp_ge (tgt := 55) dX9_asOne_36 (by decide) ⟨by omega, by omega⟩ ⟨by omega, by omega⟩ (fun h36 => ?_) (fun h36 => ?_)
      · skip
        exfalso; omega
      · skip
        refine v_aload_n dX9_asOne_39 rfl ?_
        refine v_aload_n dX9_asOne_40 rfl ?_
        refine v_iload_n dX9_asOne_41 rfl ?_
        refine v_iload_n dX9_asOne_42 rfl ?_
        refine v_iconst dX9_asOne_43 ?_
        refine v_isub dX9_asOne_44 ?_
        refine v_iconst dX9_asOne_45 ?_
        rw [show p + 1 - 1 = p by omega]
        refine v_callV (ci := 9) (W_rowOf hI1 hs hk (seat := p + 1) (place := p) (his := -1) (R := R) ⟨by omega, by omega⟩ ⟨by omega, by omega⟩ ⟨by omega, by omega⟩ h7) ⟨rfl, rfl⟩ (Nat.le_refl _) (Nat.le_refl _) hI1.1 rfl ⟨ml_X9_269, mm_X9_rowOf⟩ ⟨(Nat.le_of_ble_eq_true rfl), (Nat.le_of_ble_eq_true rfl)⟩ mp_X9_rowOf rfl rfl (Nat.le_of_ble_eq_true rfl) dX9_asOne_46 (fun r M3 hh => ?_)
        obtain ⟨rfl, hI3, f3, R3, h73, e1, e2⟩ := hh
        refine v_iinc dX9_asOne_49 rfl (Nat.le_of_ble_eq_true rfl) ?_
        refine v_goto (tgt := 31) dX9_asOne_52 (by decide) ?_
        refine v_to (ih (p + 1) M3 R3 (by omega) (by omega) hI3 (f1.trk f3 (by decide)) (t1.fr f3 (by decide)) h73 ?_) rfl (sw_h1 rfl (sw_h1 rfl (sw_h1 rfl (sw_h1 rfl sw_h0))))
        rw [hrst] at hR ⊢
        intro q j q0 q1 j0 j1
        by_cases e : q = p
        · subst e; exact e1 j j0 j1
        · rw [e2 _ (by omega)]; exact hR q j q0 (by omega) j0 j1
  refine v_aload_n dX9_asOne_0 rfl ?_
  refine v_iload_n dX9_asOne_1 rfl ?_
  refine v_callV (ci := 9) (K9_saleAt (ns := qN s) (nt := qT s) (k := k) i0 hI.2.1 hns hk) ⟨rfl, rfl⟩ (Nat.le_refl _) (Nat.le_refl _) i0 rfl ⟨ml_X9_104, mm_X9_saleAt⟩ ⟨(Nat.le_of_ble_eq_true rfl), (Nat.le_of_ble_eq_true rfl)⟩ mp_X9_saleAt rfl rfl (Nat.le_of_ble_eq_true rfl) dX9_asOne_2 (fun r M' h => ?_)
  obtain ⟨rfl, rfl⟩ := h
  refine v_astore_n dX9_asOne_5 (Nat.le_of_ble_eq_true rfl) ?_
  refine v_aload_n dX9_asOne_6 rfl ?_
  refine v_ifnull dX9_asOne_7 ?_
  refine v_aload_n dX9_asOne_10 rfl ?_
  refine v_getfH 6 h5.hd fl_X9_114 rfl dX9_asOne_11 ?_
  refine v_iconst dX9_asOne_14 ?_
  refine v_icmp_ge (tgt := 22) dX9_asOne_15 (by decide) ⟨by omega, by omega⟩ ⟨by omega, by omega⟩ (fun h15 => ?_) (fun h15 => ?_)
  · skip
    refine v_aload_n dX9_asOne_22 rfl ?_
    refine v_getfH 7 i0 fl_X9_46 rfl dX9_asOne_23 ?_
    obtain ⟨fs10, g10⟩ := hI.g10
    refine v_callV (ci := 6) (W_clear hI) ⟨rfl, rfl⟩ (Nat.le_refl _) (Nat.le_refl _) g10 rfl ⟨ml_X9_257, mm_X6_clear⟩ ⟨(Nat.le_of_ble_eq_true rfl), (Nat.le_of_ble_eq_true rfl)⟩ mp_X6_clear rfl rfl (Nat.le_of_ble_eq_true rfl) dX9_asOne_26 (fun r M1 h => ?_)
    obtain ⟨rfl, hI1, f1, t1⟩ := h
    refine v_iconst dX9_asOne_29 ?_
    refine v_istore_n dX9_asOne_30 (Nat.le_of_ble_eq_true rfl) ?_
    obtain ⟨R0, x7⟩ := hI1.x7
    exact v_to (first (m - 1) 1 M1 R0 (by omega) (by omega) hI1 (f1.c (by decide)) ⟨0, t1⟩ x7 (by rw [hrst]; intro q j q0 q1; omega)) rfl (sw_h1 rfl (sw_h1 rfl (sw_h1 rfl (sw_h1 rfl sw_h0))))
  · skip
    exfalso; omega
theorem F9_asOneN (hI : InvC G M s) (hs : stOK s) (hk : ¬ isS s k) (hg : sw_rg k) : Kt l G μX9_asOne [.ref (sw_al G 0), sw_i k] M (fun r M' => r = some (sw_j (-1)) ∧ InvC G M' s ∧ frC M M') := by
  refine KtA.of (by decide +kernel) (Nat.le_of_ble_eq_true rfl) ?_
  have i0 := hI.1
  have hns : qN s ≤ 8 := hs.2.1
  refine v_aload_n dX9_asOne_0 rfl ?_
  refine v_iload_n dX9_asOne_1 rfl ?_
  refine v_callV (ci := 9) (K9_saleAtN (ns := qN s) (nt := qT s) (k := k) i0 hns hk hg) ⟨rfl, rfl⟩ (Nat.le_refl _) (Nat.le_refl _) i0 rfl ⟨ml_X9_104, mm_X9_saleAt⟩ ⟨(Nat.le_of_ble_eq_true rfl), (Nat.le_of_ble_eq_true rfl)⟩ mp_X9_saleAt rfl rfl (Nat.le_of_ble_eq_true rfl) dX9_asOne_2 (fun r M' h => ?_)
  obtain ⟨rfl, rfl⟩ := h
  refine v_astore_nN dX9_asOne_5 (Nat.le_of_ble_eq_true rfl) ?_
  refine v_aload_nN dX9_asOne_6 rfl ?_
  refine v_ifnullN (tgt := 18) dX9_asOne_7 (by decide) ?_
  refine v_ldc2 (z := -1) kl_X9_184 (by decide +kernel) dX9_asOne_18 ?_
  exact v_lret dX9_asOne_21 rfl (Nat.le_refl _) (Nat.le_refl _) (⟨rfl, hI, frC.rf⟩)
end

