/-! the face: near, nearGain, judge -/
/-- what one who knows the truth gains by his best bid -/
def ngF (σ : SaleT) (nt : Int) (T : Int → Int) (t : Int) : Int := RG σ (oF σ nt T 0) (pT σ t) (sNb σ - 1).toNat (pk (RG σ (oF σ nt T 0) (pT σ t) (sNb σ - 1).toNat) 60)
/-- the first of a seat's signs that isn't judged well; of all seats -/
def jdN (b : Int → Int → Bool) (seat : Int) : Nat → Int → Int
  | 0, _ => -1
  | n + 1, i => if b seat i = true then jdN b seat n (i + 1) else 10 * seat + i
def jdO (b : Int → Int → Bool) (sg : Nat) : Nat → Int → Int
  | 0, _ => -1
  | n + 1, p => if jdN b p sg 0 = -1 then jdO b sg n (p + 1) else jdN b p sg 0
theorem jdN_nn {b : Int → Int → Bool} {seat : Int} (h : 0 ≤ seat) : ∀ (n : Nat) (i : Int), 0 ≤ i → jdN b seat n i = -1 ∨ 0 ≤ jdN b seat n i
  | 0, _, _ => Or.inl rfl
  | n + 1, i, hi => by
    show (if b seat i = true then jdN b seat n (i + 1) else 10 * seat + i) = -1 ∨ 0 ≤ (if b seat i = true then jdN b seat n (i + 1) else 10 * seat + i)
    by_cases c : b seat i = true
    · rw [if_pos c]; exact jdN_nn h n (i + 1) (by omega)
    · rw [if_neg c]; right; omega
def jdB (σ : SaleT) (nt : Int) (T : Int → Int) (p i : Int) : Bool := decide (RG σ (oF σ nt T p) (pS σ i) (sNb σ - 1).toNat (bdF σ nt T p i (-1)) = RG σ (oF σ nt T p) (pS σ i) (sNb σ - 1).toNat (pk (RG σ (oF σ nt T p) (pS σ i) (sNb σ - 1).toNat) 60))
section
variable {l : Launch} {G : sw_G} {M : sw_M} {s : CSt}
theorem oF_bd {σ : SaleT} (hw : wfS σ) {nt : Int} {T : Int → Int} (hc : wfC nt T) (seat : Int) : ∀ p i, 0 ≤ p → p < sNb σ - 1 → 0 ≤ i → i < sSg σ → 0 ≤ oF σ nt T seat p i ∧ oF σ nt T seat p i ≤ 60 := fun p i _ _ i0 i1 => bdF_bd hw hc (-1) ⟨i0, by have := hw.1; omega⟩
theorem frC.trk {L : List Nat} {M M1 M2 : sw_M} (h : frC M M1) (k : frK L M1 M2) (hL : ∀ t ∈ L, t < 70) : frC M M2 := h.tr (k.c hL)
theorem gnIs.fr {L : List Nat} {M M' : sw_M} {g : Int → Int} (h : gnIs G M g) (k : frK L M M') (h1 : 14 ∉ L) (h2 : 17 ∉ L) : gnIs G M' g := by
  obtain ⟨fw, fo, g', e1, e2, e3⟩ := h
  exact ⟨fw, fo, g', (k 14 (by omega) h1).trans e1, (k 17 (by omega) h2).trans e2, e3⟩
theorem gnIs.hd {M : sw_M} {g : Int → Int} (h : gnIs G M g) : ∃ fw fo, M 14 = some (cV G fw fo).2 := by
  obtain ⟨fw, fo, g', e1, e2, e3⟩ := h
  exact ⟨fw, fo, e1⟩
theorem rowIs.fr {L : List Nat} {M M' : sw_M} {f : Int → Int → Int} {m sg : Int} (h : rowIs M f m sg) (k : frK L M M') (h1 : 7 ∉ L) : rowIs M' f m sg := by
  obtain ⟨R, e1, e2⟩ := h
  exact ⟨R, (k 7 (by omega) h1).trans e1, e2⟩
theorem F9_near {k truth : Int} (hI : InvC G M s) (hs : stOK s) (hk : isS s k) (hg : sw_rg truth) : Kt l G μX9_near [.ref (sw_al G 0), sw_i k, sw_i truth] M (fun r M' => r = some (sw_i (if 0 ≤ truth ∧ truth < sTr (sl s k) then pk (RG (sl s k) (oF (sl s k) (qT s) (qB s) 0) (pT (sl s k) truth) (sNb (sl s k) - 1).toNat) 60 else -1)) ∧ InvC G M' s ∧ frC M M') := by
  refine KtA.of (by decide +kernel) (Nat.le_of_ble_eq_true rfl) ?_
  have i0 := hI.1
  obtain ⟨hk0, hk1⟩ := id hk
  have hw := hs.sale hk
  have htr := hw.2.1
  have hnb := hw.2.2.1
  have hns : qN s ≤ 8 := hs.2.1
  obtain ⟨u, d, h5⟩ := hI.sale hk
  obtain ⟨g1, g2⟩ := hg
  refine v_aload_n dX9_near_0 rfl ?_
  refine v_iload_n dX9_near_1 rfl ?_
  refine v_callV (ci := 9) (K9_saleAt (ns := qN s) (nt := qT s) (k := k) i0 hI.2.1 hns hk) ⟨rfl, rfl⟩ (Nat.le_refl _) (Nat.le_refl _) i0 rfl ⟨ml_X9_104, mm_X9_saleAt⟩ ⟨(Nat.le_of_ble_eq_true rfl), (Nat.le_of_ble_eq_true rfl)⟩ mp_X9_saleAt rfl rfl (Nat.le_of_ble_eq_true rfl) dX9_near_2 (fun r M' h => ?_)
  obtain ⟨rfl, rfl⟩ := h
  refine v_astore_n dX9_near_5 (Nat.le_of_ble_eq_true rfl) ?_
  refine v_aload_n dX9_near_6 rfl ?_
  refine v_ifnull dX9_near_7 ?_
  refine v_iload_n dX9_near_10 rfl ?_
  refine v_if_lt (tgt := 22) dX9_near_11 (by decide) ⟨by omega, by omega⟩ (fun h11 => ?_) (fun h11 => ?_)
  · skip
    refine v_iconst dX9_near_22 ?_
    exact v_iret dX9_near_23 rfl (Nat.le_refl _) (Nat.le_refl _) (⟨by rw [if_neg (by have := h11; omega)], hI, frC.rf⟩)
  · skip
    refine v_iload_n dX9_near_14 rfl ?_
    refine v_aload_n dX9_near_15 rfl ?_
    refine v_getfH 5 h5.hd fl_X9_111 rfl dX9_near_16 ?_
    refine v_icmp_lt (tgt := 24) dX9_near_19 (by decide) ⟨by omega, by omega⟩ ⟨by show (-2147483648 : Int) ≤ sTr (sl s k); omega, by show sTr (sl s k) < 2147483648; omega⟩ (fun h19 => ?_) (fun h19 => ?_)
    · skip
      change truth < sTr (sl s k) at h19
      refine v_aload_n dX9_near_24 rfl ?_
      refine v_aload_n dX9_near_25 rfl ?_
      refine v_iconst dX9_near_26 ?_
      refine v_callV (ci := 9) (W_rowsWithout hI hs hk (seat := 0) ⟨by omega, by omega⟩) ⟨rfl, rfl⟩ (Nat.le_refl _) (Nat.le_refl _) i0 rfl ⟨ml_X9_214, mm_X9_rowsWithout⟩ ⟨(Nat.le_of_ble_eq_true rfl), (Nat.le_of_ble_eq_true rfl)⟩ mp_X9_rowsWithout rfl rfl (Nat.le_of_ble_eq_true rfl) dX9_near_27 (fun r M1 h => ?_)
      obtain ⟨rfl, hI1, f1, r1⟩ := h
      refine v_aload_n dX9_near_30 rfl ?_
      refine v_aload_n dX9_near_31 rfl ?_
      refine v_iload_n dX9_near_32 rfl ?_
      refine v_callV (ci := 9) (W_rivalsByTruth hI1 hs hk (j := truth) ⟨by omega, by omega⟩ (oF_bd hw hs.c 0) r1) ⟨rfl, rfl⟩ (Nat.le_refl _) (Nat.le_refl _) hI1.1 rfl ⟨ml_X9_273, mm_X9_rivalsByTruth⟩ ⟨(Nat.le_of_ble_eq_true rfl), (Nat.le_of_ble_eq_true rfl)⟩ mp_X9_rivalsByTruth rfl rfl (Nat.le_of_ble_eq_true rfl) dX9_near_33 (fun r M2 h => ?_)
      obtain ⟨rfl, hI2, f2, r2⟩ := h
      refine v_aload_n dX9_near_36 rfl ?_
      refine v_getfH 8 hI2.1 fl_X9_53 rfl dX9_near_37 ?_
      obtain ⟨fw, fo, i14⟩ := r2.hd
      refine v_callV (ci := 4) (W_pick r2 (RG_gnB hw _ (pT_B hw truth) (by omega))) ⟨rfl, rfl⟩ (Nat.le_refl _) (Nat.le_refl _) i14 rfl ⟨ml_X9_221, mm_X4_pick⟩ ⟨(Nat.le_of_ble_eq_true rfl), (Nat.le_of_ble_eq_true rfl)⟩ mp_X4_pick rfl rfl (Nat.le_of_ble_eq_true rfl) dX9_near_40 (fun r M' h => ?_)
      obtain ⟨rfl, rfl⟩ := h
      exact v_iret dX9_near_43 rfl (Nat.le_refl _) (Nat.le_refl _) (⟨by rw [if_pos ⟨by omega, h19⟩], hI2, ((f1.c (by decide)).trk f2 (by decide))⟩)
    · skip
      refine v_iconst dX9_near_22 ?_
      exact v_iret dX9_near_23 rfl (Nat.le_refl _) (Nat.le_refl _) (⟨by rw [if_neg (by have h := h19; change ¬ truth < sTr (sl s k) at h; omega)], hI, frC.rf⟩)
theorem F9_nearN {k truth : Int} (hI : InvC G M s) (hs : stOK s) (hk : ¬ isS s k) (hg : sw_rg k) : Kt l G μX9_near [.ref (sw_al G 0), sw_i k, sw_i truth] M (fun r M' => r = some (sw_i (-1)) ∧ InvC G M' s ∧ frC M M') := by
  refine KtA.of (by decide +kernel) (Nat.le_of_ble_eq_true rfl) ?_
  have i0 := hI.1
  have hns : qN s ≤ 8 := hs.2.1
  refine v_aload_n dX9_near_0 rfl ?_
  refine v_iload_n dX9_near_1 rfl ?_
  refine v_callV (ci := 9) (K9_saleAtN (ns := qN s) (nt := qT s) (k := k) i0 hns hk hg) ⟨rfl, rfl⟩ (Nat.le_refl _) (Nat.le_refl _) i0 rfl ⟨ml_X9_104, mm_X9_saleAt⟩ ⟨(Nat.le_of_ble_eq_true rfl), (Nat.le_of_ble_eq_true rfl)⟩ mp_X9_saleAt rfl rfl (Nat.le_of_ble_eq_true rfl) dX9_near_2 (fun r M' h => ?_)
  obtain ⟨rfl, rfl⟩ := h
  refine v_astore_nN dX9_near_5 (Nat.le_of_ble_eq_true rfl) ?_
  refine v_aload_nN dX9_near_6 rfl ?_
  refine v_ifnullN (tgt := 22) dX9_near_7 (by decide) ?_
  refine v_iconst dX9_near_22 ?_
  exact v_iret dX9_near_23 rfl (Nat.le_refl _) (Nat.le_refl _) (⟨rfl, hI, frC.rf⟩)
theorem F9_nearGain {k : Int} (hI : InvC G M s) (hs : stOK s) (hk : isS s k) : Kt l G μX9_nearGain [.ref (sw_al G 0), sw_i k] M (fun r M' => r = some (sw_j (sm (ngF (sl s k) (qT s) (qB s)) (sTr (sl s k)).toNat)) ∧ InvC G M' s ∧ frC M M') := by
  refine KtA.of (by decide +kernel) (Nat.le_of_ble_eq_true rfl) ?_
  have i0 := hI.1
  obtain ⟨hk0, hk1⟩ := id hk
  have hw := hs.sale hk
  have htr := hw.2.1
  have hnb := hw.2.2.1
  have hns : qN s ≤ 8 := hs.2.1
  obtain ⟨Zq, hZ⟩ : ∃ Zq : Option Value → sw_M → Prop, Zq = (fun r M' => r = some (sw_j (sm (ngF (sl s k) (qT s) (qB s)) (sTr (sl s k)).toNat)) ∧ InvC G M' s ∧ frC M M') := ⟨_, rfl⟩
  rw [← hZ]
  have loop : ∀ (n : Nat) (t : Int) (M1 : sw_M), 0 ≤ t → t + n = sTr (sl s k) → InvC G M1 s → frC M M1 → rowIs M1 (oF (sl s k) (qT s) (qB s) 0) (sNb (sl s k) - 1) (sSg (sl s k)) → V l G μX9_nearGain sw_E0 (sw_Zq G μX9_nearGain (sw_q0 G Zq)) 25 [(0, .ref (sw_al G 0)), (1, sw_i k), (2, .ref (sw_al G (100 + 5 * k.toNat))), (3, sw_j (sm (ngF (sl s k) (qT s) (qB s)) t.toNat)), (5, sw_i t)] [] M1 0 0 := by
    intro n
    induction n with
    | zero =>
      intro t M1 ht0 ht hI1 f1 r1
      have e : t = sTr (sl s k) := by omega
      subst e
      obtain ⟨u1, d1, h51⟩ := hI1.sale hk
      refine v_iload dX9_nearGain_25 rfl ?_
      refine v_aload_n dX9_nearGain_27 rfl ?_
      refine v_getfH 5 h51.hd fl_X9_111 rfl dX9_nearGain_28 ?_
      refine v_icmp_ge (tgt := 57) dX9_nearGain_31 (by decide) ⟨by omega, by omega⟩ ⟨by omega, by omega⟩ (fun h31 => ?_) (fun h31 => ?_)
      · skip
        refine v_lload_n dX9_nearGain_57 rfl ?_
        refine v_lret dX9_nearGain_58 rfl (Nat.le_refl _) (Nat.le_refl _) ?_
        skip
        rw [hZ]
        exact ⟨rfl, hI1, f1⟩
      · skip
        exfalso; omega
    | succ n ih =>
      intro t M1 ht0 ht hI1 f1 r1
      obtain ⟨u1, d1, h51⟩ := hI1.sale hk
      refine v_iload dX9_nearGain_25 rfl ?_
      refine v_aload_n dX9_nearGain_27 rfl ?_
      refine v_getfH 5 h51.hd fl_X9_111 rfl dX9_nearGain_28 ?_
      refine v_icmp_ge (tgt := 57) dX9_nearGain_31 (by decide) ⟨by omega, by omega⟩ ⟨by omega, by omega⟩ (fun h31 => ?_) (fun h31 => ?_)
      · skip
        exfalso; omega
      · skip
        refine v_aload_n dX9_nearGain_34 rfl ?_
        refine v_aload_n dX9_nearGain_35 rfl ?_
        refine v_iload dX9_nearGain_36 rfl ?_
        refine v_callV (ci := 9) (W_rivalsByTruth hI1 hs hk (j := t) ⟨by omega, by omega⟩ (oF_bd hw hs.c 0) r1) ⟨rfl, rfl⟩ (Nat.le_refl _) (Nat.le_refl _) hI1.1 rfl ⟨ml_X9_273, mm_X9_rivalsByTruth⟩ ⟨(Nat.le_of_ble_eq_true rfl), (Nat.le_of_ble_eq_true rfl)⟩ mp_X9_rivalsByTruth rfl rfl (Nat.le_of_ble_eq_true rfl) dX9_nearGain_38 (fun r M2 h => ?_)
        obtain ⟨rfl, hI2, f2, r2⟩ := h
        refine v_lload_n dX9_nearGain_41 rfl ?_
        refine v_aload_n dX9_nearGain_42 rfl ?_
        refine v_getfH 8 hI2.1 fl_X9_53 rfl dX9_nearGain_43 ?_
        obtain ⟨fw, fo, i14⟩ := r2.hd
        refine v_callV (ci := 4) (W_most r2 (RG_gnB hw _ (pT_B hw t) (by omega))) ⟨rfl, rfl⟩ (Nat.le_refl _) (Nat.le_refl _) i14 rfl ⟨ml_X9_276, mm_X4_most⟩ ⟨(Nat.le_of_ble_eq_true rfl), (Nat.le_of_ble_eq_true rfl)⟩ mp_X4_most rfl rfl (Nat.le_of_ble_eq_true rfl) dX9_nearGain_46 (fun r M' h => ?_)
        obtain ⟨rfl, rfl⟩ := h
        refine v_ladd dX9_nearGain_49 ?_
        refine v_lstore_n dX9_nearGain_50 (Nat.le_of_ble_eq_true rfl) ?_
        refine v_iinc dX9_nearGain_51 rfl (Nat.le_of_ble_eq_true rfl) ?_
        refine v_goto (tgt := 25) dX9_nearGain_54 (by decide) ?_
        refine v_to (ih (t + 1) _ (by omega) (by omega) hI2 (f1.trk f2 (by decide)) (r1.fr f2 (by decide))) rfl ?_
        rw [sm_step _ ht0]
        exact sw_h1 rfl (sw_h1 rfl (sw_h1 rfl (sw_h1 rfl (sw_h1 rfl sw_h0))))
  refine v_aload_n dX9_nearGain_0 rfl ?_
  refine v_iload_n dX9_nearGain_1 rfl ?_
  refine v_callV (ci := 9) (K9_saleAt (ns := qN s) (nt := qT s) (k := k) i0 hI.2.1 hns hk) ⟨rfl, rfl⟩ (Nat.le_refl _) (Nat.le_refl _) i0 rfl ⟨ml_X9_104, mm_X9_saleAt⟩ ⟨(Nat.le_of_ble_eq_true rfl), (Nat.le_of_ble_eq_true rfl)⟩ mp_X9_saleAt rfl rfl (Nat.le_of_ble_eq_true rfl) dX9_nearGain_2 (fun r M' h => ?_)
  obtain ⟨rfl, rfl⟩ := h
  refine v_astore_n dX9_nearGain_5 (Nat.le_of_ble_eq_true rfl) ?_
  refine v_aload_n dX9_nearGain_6 rfl ?_
  refine v_ifnonnull (tgt := 14) dX9_nearGain_7 (by decide) ?_
  refine v_aload_n dX9_nearGain_14 rfl ?_
  refine v_aload_n dX9_nearGain_15 rfl ?_
  refine v_iconst dX9_nearGain_16 ?_
  refine v_callV (ci := 9) (W_rowsWithout hI hs hk (seat := 0) ⟨by omega, by omega⟩) ⟨rfl, rfl⟩ (Nat.le_refl _) (Nat.le_refl _) i0 rfl ⟨ml_X9_214, mm_X9_rowsWithout⟩ ⟨(Nat.le_of_ble_eq_true rfl), (Nat.le_of_ble_eq_true rfl)⟩ mp_X9_rowsWithout rfl rfl (Nat.le_of_ble_eq_true rfl) dX9_nearGain_17 (fun r M1 h => ?_)
  obtain ⟨rfl, hI1, f1, r1⟩ := h
  refine v_lconst (z := 0) dX9_nearGain_20 (by decide +kernel) ?_
  refine v_lstore_n dX9_nearGain_21 (Nat.le_of_ble_eq_true rfl) ?_
  refine v_iconst dX9_nearGain_22 ?_
  refine v_istore dX9_nearGain_23 (Nat.le_of_ble_eq_true rfl) ?_
  exact v_to (loop (sTr (sl s k)).toNat 0 M1 (by omega) (by omega) hI1 (f1.c (by decide)) r1) rfl (sw_h1 rfl (sw_h1 rfl (sw_h1 rfl (sw_h1 rfl (sw_h1 rfl sw_h0)))))
theorem F9_nearGainN {k : Int} (hI : InvC G M s) (hs : stOK s) (hk : ¬ isS s k) (hg : sw_rg k) : Kt l G μX9_nearGain [.ref (sw_al G 0), sw_i k] M (fun r M' => r = some (sw_j (-1000000000000000)) ∧ InvC G M' s ∧ frC M M') := by
  refine KtA.of (by decide +kernel) (Nat.le_of_ble_eq_true rfl) ?_
  have i0 := hI.1
  have hns : qN s ≤ 8 := hs.2.1
  refine v_aload_n dX9_nearGain_0 rfl ?_
  refine v_iload_n dX9_nearGain_1 rfl ?_
  refine v_callV (ci := 9) (K9_saleAtN (ns := qN s) (nt := qT s) (k := k) i0 hns hk hg) ⟨rfl, rfl⟩ (Nat.le_refl _) (Nat.le_refl _) i0 rfl ⟨ml_X9_104, mm_X9_saleAt⟩ ⟨(Nat.le_of_ble_eq_true rfl), (Nat.le_of_ble_eq_true rfl)⟩ mp_X9_saleAt rfl rfl (Nat.le_of_ble_eq_true rfl) dX9_nearGain_2 (fun r M' h => ?_)
  obtain ⟨rfl, rfl⟩ := h
  refine v_astore_nN dX9_nearGain_5 (Nat.le_of_ble_eq_true rfl) ?_
  refine v_aload_nN dX9_nearGain_6 rfl ?_
  refine v_ifnonnullN dX9_nearGain_7 ?_
  refine v_ldc2 (z := -1000000000000000) kl_X9_202 (by decide +kernel) dX9_nearGain_10 ?_
  exact v_lret dX9_nearGain_13 rfl (Nat.le_refl _) (Nat.le_refl _) (⟨rfl, hI, frC.rf⟩)
theorem F9_judge {k : Int} (hI : InvC G M s) (hs : stOK s) (hk : isS s k) : Kt l G μX9_judge [.ref (sw_al G 0), sw_i k] M (fun r M' => r = some (sw_i (jdO (jdB (sl s k) (qT s) (qB s)) (sSg (sl s k)).toNat (sNb (sl s k)).toNat 0)) ∧ InvC G M' s ∧ frC M M') := by
  refine KtA.of (by decide +kernel) (Nat.le_of_ble_eq_true rfl) ?_
  have i0 := hI.1
  obtain ⟨hk0, hk1⟩ := id hk
  have hw := hs.sale hk
  have hsg := hw.1
  have hnb := hw.2.2.1
  have hns : qN s ≤ 8 := hs.2.1
  obtain ⟨Zq, hZ⟩ : ∃ Zq : Int → Option Value → sw_M → Prop, Zq = (fun z r M' => r = some (sw_i z) ∧ InvC G M' s ∧ frC M M') := ⟨_, rfl⟩
  have eZ : ∀ z, (fun (r : Option Value) (M' : sw_M) => r = some (sw_i z) ∧ InvC G M' s ∧ frC M M') = Zq z := fun z => by rw [hZ]
  rw [eZ]
  obtain ⟨b, hb⟩ : ∃ b, jdB (sl s k) (qT s) (qB s) = b := ⟨_, rfl⟩
  rw [hb]
  have loop : ∀ (n : Nat) (p : Int) (M1 : sw_M), 0 ≤ p → p + n = sNb (sl s k) → InvC G M1 s → frC M M1 → V l G μX9_judge sw_E0 (sw_Zq G μX9_judge (sw_q0 G (Zq (jdO b (sSg (sl s k)).toNat n p)))) 14 [(0, .ref (sw_al G 0)), (1, sw_i k), (2, .ref (sw_al G (100 + 5 * k.toNat))), (3, sw_i p)] [] M1 0 0 := by
    intro n
    induction n with
    | zero =>
      intro p M1 hp0 hp hI1 f1
      have e : p = sNb (sl s k) := by omega
      subst e
      obtain ⟨u1, d1, h51⟩ := hI1.sale hk
      refine v_iload_n dX9_judge_14 rfl ?_
      refine v_aload_n dX9_judge_15 rfl ?_
      refine v_getfH 6 h51.hd fl_X9_114 rfl dX9_judge_16 ?_
      refine v_icmp_ge (tgt := 86) dX9_judge_19 (by decide) ⟨by omega, by omega⟩ ⟨by omega, by omega⟩ (fun h19 => ?_) (fun h19 => ?_)
      · skip
        refine v_iconst dX9_judge_86 ?_
        refine v_iret dX9_judge_87 rfl (Nat.le_refl _) (Nat.le_refl _) ?_
        skip
        rw [hZ]
        exact ⟨rfl, hI1, f1⟩
      · skip
        exfalso; omega
    | succ n ih =>
      intro p M1 hp0 hp hI1 f1
      obtain ⟨Wq, hW⟩ : ∃ Wq : Int, (if jdN b p (sSg (sl s k)).toNat 0 = -1 then jdO b (sSg (sl s k)).toNat n (p + 1) else jdN b p (sSg (sl s k)).toNat 0) = Wq := ⟨_, rfl⟩
      show V l G μX9_judge sw_E0 (sw_Zq G μX9_judge (sw_q0 G (Zq (if jdN b p (sSg (sl s k)).toNat 0 = -1 then jdO b (sSg (sl s k)).toNat n (p + 1) else jdN b p (sSg (sl s k)).toNat 0)))) 14 _ [] M1 0 0
      rw [hW]
      have inner : ∀ (n2 : Nat) (i : Int) (M2 : sw_M), 0 ≤ i → i + n2 = sSg (sl s k) → InvC G M2 s → frC M M2 → rowIs M2 (oF (sl s k) (qT s) (qB s) p) (sNb (sl s k) - 1) (sSg (sl s k)) → jdN b p (sSg (sl s k)).toNat 0 = jdN b p n2 i → V l G μX9_judge sw_E0 (sw_Zq G μX9_judge (sw_q0 G (Zq Wq))) 31 [(0, .ref (sw_al G 0)), (1, sw_i k), (2, .ref (sw_al G (100 + 5 * k.toNat))), (3, sw_i p), (4, sw_i i)] [] M2 0 0 := by
        intro n2
        induction n2 with
        | zero =>
          intro i M2 hi0 hi hI2 f2 r2 ej
          have e : i = sSg (sl s k) := by omega
          subst e
          obtain ⟨u1, d1, h51⟩ := hI2.sale hk
          have eW : jdO b (sSg (sl s k)).toNat n (p + 1) = Wq := by rw [← hW, if_pos (show jdN b p (sSg (sl s k)).toNat 0 = -1 from ej)]
          refine v_iload dX9_judge_31 rfl ?_
          refine v_aload_n dX9_judge_33 rfl ?_
          refine v_getfH 4 h51.hd fl_X9_108 rfl dX9_judge_34 ?_
          refine v_icmp_ge (tgt := 80) dX9_judge_37 (by decide) ⟨by omega, by omega⟩ ⟨by omega, by omega⟩ (fun h37 => ?_) (fun h37 => ?_)
          · skip
            refine v_iinc dX9_judge_80 rfl (Nat.le_of_ble_eq_true rfl) ?_
            refine v_goto (tgt := 14) dX9_judge_83 (by decide) ?_
            rw [← eW]
            exact v_to (ih (p + 1) M2 (by omega) (by omega) hI2 f2) rfl (sw_h1 rfl (sw_h1 rfl (sw_h1 rfl (sw_h1 rfl sw_h0))))
          · skip
            exfalso; omega
        | succ n2 ih2 =>
          intro i M2 hi0 hi hI2 f2 r2 ej
          obtain ⟨u1, d1, h51⟩ := hI2.sale hk
          have hbd := bdF_bd hw hs.c (seat := p) (-1) (k := i) ⟨by omega, by omega⟩
          refine v_iload dX9_judge_31 rfl ?_
          refine v_aload_n dX9_judge_33 rfl ?_
          refine v_getfH 4 h51.hd fl_X9_108 rfl dX9_judge_34 ?_
          refine v_icmp_ge (tgt := 80) dX9_judge_37 (by decide) ⟨by omega, by omega⟩ ⟨by omega, by omega⟩ (fun h37 => ?_) (fun h37 => ?_)
          · skip
            exfalso; omega
          · skip
            refine v_aload_n dX9_judge_40 rfl ?_
            refine v_aload_n dX9_judge_41 rfl ?_
            refine v_iload dX9_judge_42 rfl ?_
            refine v_callV (ci := 9) (W_rivalsBySign hI2 hs hk (j := i) ⟨by omega, by omega⟩ (oF_bd hw hs.c p) r2) ⟨rfl, rfl⟩ (Nat.le_refl _) (Nat.le_refl _) hI2.1 rfl ⟨ml_X9_218, mm_X9_rivalsBySign⟩ ⟨(Nat.le_of_ble_eq_true rfl), (Nat.le_of_ble_eq_true rfl)⟩ mp_X9_rivalsBySign rfl rfl (Nat.le_of_ble_eq_true rfl) dX9_judge_44 (fun r M3 h => ?_)
            obtain ⟨rfl, hI3, f3, r3⟩ := h
            refine v_aload_n dX9_judge_47 rfl ?_
            refine v_getfH 8 hI3.1 fl_X9_53 rfl dX9_judge_48 ?_
            refine v_aload_n dX9_judge_51 rfl ?_
            refine v_aload_n dX9_judge_52 rfl ?_
            refine v_iload_n dX9_judge_53 rfl ?_
            refine v_iload dX9_judge_54 rfl ?_
            refine v_iconst dX9_judge_56 ?_
            refine v_callV (ci := 9) (W_bidOf hI3 hs hk (seat := p) (j := i) (his := -1) ⟨by omega, by omega⟩ ⟨by omega, by omega⟩ ⟨by omega, by omega⟩) ⟨rfl, rfl⟩ (Nat.le_refl _) (Nat.le_refl _) hI3.1 rfl ⟨ml_X9_180, mm_X9_bidOf⟩ ⟨(Nat.le_of_ble_eq_true rfl), (Nat.le_of_ble_eq_true rfl)⟩ mp_X9_bidOf rfl rfl (Nat.le_of_ble_eq_true rfl) dX9_judge_57 (fun r M4 h => ?_)
            obtain ⟨rfl, hI4, f4⟩ := h
            obtain ⟨fw, fo, i14⟩ := (r3.fr f4 (by decide) (by decide)).hd
            refine v_callV (ci := 4) (W_isMost (r3.fr f4 (by decide) (by decide)) (RG_gnB hw _ (pS_B hw i) (by omega)) hbd) ⟨rfl, rfl⟩ (Nat.le_refl _) (Nat.le_refl _) i14 rfl ⟨ml_X9_224, mm_X4_isMost⟩ ⟨(Nat.le_of_ble_eq_true rfl), (Nat.le_of_ble_eq_true rfl)⟩ mp_X4_isMost rfl rfl (Nat.le_of_ble_eq_true rfl) dX9_judge_60 (fun r M' h => ?_)
            obtain ⟨rfl, rfl⟩ := h
            refine v_ifb_ne (tgt := 74) dX9_judge_63 (by decide) (fun q1 => ?_) (fun q1 => ?_)
            · skip
              refine v_iinc dX9_judge_74 rfl (Nat.le_of_ble_eq_true rfl) ?_
              refine v_goto (tgt := 31) dX9_judge_77 (by decide) ?_
              have c : b p i = true := by rw [← hb]; exact decide_eq_true q1
              exact v_to (ih2 (i + 1) _ (by omega) (by omega) hI4 ((f2.trk f3 (by decide)).trk f4 (by decide)) ((r2.fr f3 (by decide)).fr f4 (by decide)) (ej.trans (if_pos c))) rfl (sw_h1 rfl (sw_h1 rfl (sw_h1 rfl (sw_h1 rfl (sw_h1 rfl sw_h0)))))
            · skip
              refine v_bipush dX9_judge_66 (by decide +kernel) ?_
              refine v_iload_n dX9_judge_68 rfl ?_
              refine v_imul dX9_judge_69 ?_
              refine v_iload dX9_judge_70 rfl ?_
              refine v_iadd dX9_judge_72 ?_
              refine v_iret dX9_judge_73 rfl (Nat.le_refl _) (Nat.le_refl _) ?_
              skip
              have c : ¬ b p i = true := by rw [← hb]; exact fun h => q1 (of_decide_eq_true h)
              have ej2 : jdN b p (sSg (sl s k)).toNat 0 = 10 * p + i := ej.trans (if_neg c)
              have eW : 10 * p + i = Wq := by rw [← hW, ej2, if_neg (by omega)]
              rw [← eW, hZ]
              exact ⟨rfl, hI4, (f2.trk f3 (by decide)).trk f4 (by decide)⟩
      obtain ⟨u1, d1, h51⟩ := hI1.sale hk
      refine v_iload_n dX9_judge_14 rfl ?_
      refine v_aload_n dX9_judge_15 rfl ?_
      refine v_getfH 6 h51.hd fl_X9_114 rfl dX9_judge_16 ?_
      refine v_icmp_ge (tgt := 86) dX9_judge_19 (by decide) ⟨by omega, by omega⟩ ⟨by omega, by omega⟩ (fun h19 => ?_) (fun h19 => ?_)
      · skip
        exfalso; omega
      · skip
        refine v_aload_n dX9_judge_22 rfl ?_
        refine v_aload_n dX9_judge_23 rfl ?_
        refine v_iload_n dX9_judge_24 rfl ?_
        refine v_callV (ci := 9) (W_rowsWithout hI1 hs hk (seat := p) ⟨by omega, by omega⟩) ⟨rfl, rfl⟩ (Nat.le_refl _) (Nat.le_refl _) hI1.1 rfl ⟨ml_X9_214, mm_X9_rowsWithout⟩ ⟨(Nat.le_of_ble_eq_true rfl), (Nat.le_of_ble_eq_true rfl)⟩ mp_X9_rowsWithout rfl rfl (Nat.le_of_ble_eq_true rfl) dX9_judge_25 (fun r M2 h => ?_)
        obtain ⟨rfl, hI2, f2, r2⟩ := h
        refine v_iconst dX9_judge_28 ?_
        refine v_istore dX9_judge_29 (Nat.le_of_ble_eq_true rfl) ?_
        exact v_to (inner (sSg (sl s k)).toNat 0 M2 (by omega) (by omega) hI2 (f1.trk f2 (by decide)) r2 rfl) rfl (sw_h1 rfl (sw_h1 rfl (sw_h1 rfl (sw_h1 rfl (sw_h1 rfl sw_h0)))))
  refine v_aload_n dX9_judge_0 rfl ?_
  refine v_iload_n dX9_judge_1 rfl ?_
  refine v_callV (ci := 9) (K9_saleAt (ns := qN s) (nt := qT s) (k := k) i0 hI.2.1 hns hk) ⟨rfl, rfl⟩ (Nat.le_refl _) (Nat.le_refl _) i0 rfl ⟨ml_X9_104, mm_X9_saleAt⟩ ⟨(Nat.le_of_ble_eq_true rfl), (Nat.le_of_ble_eq_true rfl)⟩ mp_X9_saleAt rfl rfl (Nat.le_of_ble_eq_true rfl) dX9_judge_2 (fun r M' h => ?_)
  obtain ⟨rfl, rfl⟩ := h
  refine v_astore_n dX9_judge_5 (Nat.le_of_ble_eq_true rfl) ?_
  refine v_aload_n dX9_judge_6 rfl ?_
  refine v_ifnonnull (tgt := 12) dX9_judge_7 (by decide) ?_
  refine v_iconst dX9_judge_12 ?_
  refine v_istore_n dX9_judge_13 (Nat.le_of_ble_eq_true rfl) ?_
  exact v_to (loop (sNb (sl s k)).toNat 0 _ (by omega) (by omega) hI frC.rf) rfl (sw_h1 rfl (sw_h1 rfl (sw_h1 rfl (sw_h1 rfl sw_h0))))
theorem F9_judgeN {k : Int} (hI : InvC G M s) (hs : stOK s) (hk : ¬ isS s k) (hg : sw_rg k) : Kt l G μX9_judge [.ref (sw_al G 0), sw_i k] M (fun r M' => r = some (sw_i (-1)) ∧ InvC G M' s ∧ frC M M') := by
  refine KtA.of (by decide +kernel) (Nat.le_of_ble_eq_true rfl) ?_
  have i0 := hI.1
  have hns : qN s ≤ 8 := hs.2.1
  refine v_aload_n dX9_judge_0 rfl ?_
  refine v_iload_n dX9_judge_1 rfl ?_
  refine v_callV (ci := 9) (K9_saleAtN (ns := qN s) (nt := qT s) (k := k) i0 hns hk hg) ⟨rfl, rfl⟩ (Nat.le_refl _) (Nat.le_refl _) i0 rfl ⟨ml_X9_104, mm_X9_saleAt⟩ ⟨(Nat.le_of_ble_eq_true rfl), (Nat.le_of_ble_eq_true rfl)⟩ mp_X9_saleAt rfl rfl (Nat.le_of_ble_eq_true rfl) dX9_judge_2 (fun r M' h => ?_)
  obtain ⟨rfl, rfl⟩ := h
  refine v_astore_nN dX9_judge_5 (Nat.le_of_ble_eq_true rfl) ?_
  refine v_aload_nN dX9_judge_6 rfl ?_
  refine v_ifnonnullN dX9_judge_7 ?_
  refine v_iconst dX9_judge_10 ?_
  exact v_iret dX9_judge_11 rfl (Nat.le_refl _) (Nat.le_refl _) (⟨rfl, hI, frC.rf⟩)
end

