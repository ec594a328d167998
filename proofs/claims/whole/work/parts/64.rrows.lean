/-! the reference: what one bids; rows of bids -/
theorem wgt_sw (σ : SaleT) (p q t : Int) : wgt σ p q (-1) (-1) t = wgt σ p (-1) q (-1) t := by
  have h : see σ t (-1) = 1 := if_neg (by omega)
  unfold wgt
  rw [h, Int.mul_one, Int.mul_one, Int.mul_one, Int.mul_one]
theorem hld_sw (σ : SaleT) (p q : Int) : hld σ p q (-1) (-1) = hld σ p (-1) q (-1) := by
  have e1 : upS σ p q (-1) (-1) (sTr σ).toNat = upS σ p (-1) q (-1) (sTr σ).toNat := sm_congr _ (fun t _ _ => by show wgt σ p q (-1) (-1) _ * _ = wgt σ p (-1) q (-1) _ * _; rw [wgt_sw])
  have e2 : dnS σ p q (-1) (-1) (sTr σ).toNat = dnS σ p (-1) q (-1) (sTr σ).toNat := sm_congr _ (fun t _ _ => wgt_sw σ p q t)
  unfold hld
  rw [e1, e2]
/-- a bid by who sits there (-1 PLAIN, -2 WISE, else a table) -/
def bsF (σ : SaleT) (T : Int → Int) (many sort k his : Int) : Int := if 0 ≤ sort then T (5 * sort + k) else hld σ k (if sort = -2 ∧ 1 < many then k else -1) his (-1)
section
variable {l : Launch} {G : sw_G} {M : sw_M} {x : Nat → Int} {a : Nat → Int → Int}
theorem K10_bidBy {s sort k told many : Int} {σ : SaleT} (hM : RS G M x a) (hr : rowR a s σ) (hs : 0 ≤ s ∧ s < 9) (hwf : wfS σ) (h21' : x 21 = many) (hm : 0 ≤ many ∧ many ≤ 4) (hso : -2 ≤ sort ∧ sort < 10) (hk : 0 ≤ k ∧ k < sSg σ) (hto : soN σ told) : Kt l G μX10_bidBy [.ref (sw_al G 70), sw_i s, sw_i sort, sw_i k, sw_i told] M (fun r M' => ∃ x' a', r = some (sw_i (bsF σ (a 18) many sort k told)) ∧ RS G M' x' a' ∧ frR M M' ∧ xfr [16, 17] x x' ∧ afr [15] a a') := by
  refine KtA.of (by decide +kernel) (Nat.le_of_ble_eq_true rfl) ?_
  have hsg := hwf.1
  refine v_iload_n dX10_bidBy_0 rfl ?_
  refine v_if_lt (tgt := 17) dX10_bidBy_1 (by decide) ⟨by omega, by omega⟩ (fun q0 => ?_) (fun q0 => ?_)
  · skip
    refine v_iload_n dX10_bidBy_17 rfl ?_
    refine v_bipush dX10_bidBy_18 (by decide +kernel) ?_
    refine v_icmp_ne (tgt := 43) dX10_bidBy_20 (by decide) ⟨by omega, by omega⟩ ⟨by omega, by omega⟩ (fun q1 => ?_) (fun q1 => ?_)
    · skip
      refine v_aload_n dX10_bidBy_43 rfl ?_
      refine v_iload_n dX10_bidBy_44 rfl ?_
      refine v_iload_n dX10_bidBy_45 rfl ?_
      refine v_iload dX10_bidBy_46 rfl ?_
      refine v_iconst dX10_bidBy_48 ?_
      refine v_callV (ci := 10) (K10_held hM hr hs hwf (p := k) (q := told) (r' := -1) (Or.inr hk) hto (Or.inl rfl)) ⟨rfl, rfl⟩ (Nat.le_refl _) (Nat.le_refl _) hM.1 rfl ⟨ml_X10_179, mm_X10_held⟩ ⟨(Nat.le_of_ble_eq_true rfl), (Nat.le_of_ble_eq_true rfl)⟩ mp_X10_held rfl rfl (Nat.le_of_ble_eq_true rfl) dX10_bidBy_49 (fun r M' h => ?_)
      obtain ⟨x', a', rfl, hM1, hF1, hx, ha⟩ := h
      exact v_iret dX10_bidBy_52 rfl (Nat.le_refl _) (Nat.le_refl _) (⟨x', a', by unfold bsF; rw [if_neg (by omega), if_neg (by omega), hld_sw], hM1, hF1, hx, ha⟩)
    · skip
      refine v_aload_n dX10_bidBy_23 rfl ?_
      refine v_rgi 21 hM h21' fl_X10_176 rfl dX10_bidBy_24 ?_
      refine v_iconst dX10_bidBy_27 ?_
      refine v_icmp_le (tgt := 43) dX10_bidBy_28 (by decide) ⟨by omega, by omega⟩ ⟨by omega, by omega⟩ (fun q2 => ?_) (fun q2 => ?_)
      · skip
        refine v_aload_n dX10_bidBy_43 rfl ?_
        refine v_iload_n dX10_bidBy_44 rfl ?_
        refine v_iload_n dX10_bidBy_45 rfl ?_
        refine v_iload dX10_bidBy_46 rfl ?_
        refine v_iconst dX10_bidBy_48 ?_
        refine v_callV (ci := 10) (K10_held hM hr hs hwf (p := k) (q := told) (r' := -1) (Or.inr hk) hto (Or.inl rfl)) ⟨rfl, rfl⟩ (Nat.le_refl _) (Nat.le_refl _) hM.1 rfl ⟨ml_X10_179, mm_X10_held⟩ ⟨(Nat.le_of_ble_eq_true rfl), (Nat.le_of_ble_eq_true rfl)⟩ mp_X10_held rfl rfl (Nat.le_of_ble_eq_true rfl) dX10_bidBy_49 (fun r M' h => ?_)
        obtain ⟨x', a', rfl, hM1, hF1, hx, ha⟩ := h
        exact v_iret dX10_bidBy_52 rfl (Nat.le_refl _) (Nat.le_refl _) (⟨x', a', by unfold bsF; rw [if_neg (by omega), if_neg (by omega), hld_sw], hM1, hF1, hx, ha⟩)
      · skip
        refine v_aload_n dX10_bidBy_31 rfl ?_
        refine v_iload_n dX10_bidBy_32 rfl ?_
        refine v_iload_n dX10_bidBy_33 rfl ?_
        refine v_iload_n dX10_bidBy_34 rfl ?_
        refine v_iload dX10_bidBy_35 rfl ?_
        refine v_callV (ci := 10) (K10_held hM hr hs hwf (p := k) (q := k) (r' := told) (Or.inr hk) (Or.inr hk) hto) ⟨rfl, rfl⟩ (Nat.le_refl _) (Nat.le_refl _) hM.1 rfl ⟨ml_X10_179, mm_X10_held⟩ ⟨(Nat.le_of_ble_eq_true rfl), (Nat.le_of_ble_eq_true rfl)⟩ mp_X10_held rfl rfl (Nat.le_of_ble_eq_true rfl) dX10_bidBy_37 (fun r M' h => ?_)
        obtain ⟨x', a', rfl, hM1, hF1, hx, ha⟩ := h
        refine v_goto (tgt := 52) dX10_bidBy_40 (by decide) ?_
        exact v_iret dX10_bidBy_52 rfl (Nat.le_refl _) (Nat.le_refl _) (⟨x', a', by unfold bsF; rw [if_neg (by omega), if_pos (by omega)], hM1, hF1, hx, ha⟩)
  · skip
    refine v_aload_n dX10_bidBy_4 rfl ?_
    refine v_getfH 18 hM.1 fl_X10_43 rfl dX10_bidBy_5 ?_
    refine v_iconst dX10_bidBy_8 ?_
    refine v_iload_n dX10_bidBy_9 rfl ?_
    refine v_imul dX10_bidBy_10 ?_
    refine v_iload_n dX10_bidBy_11 rfl ?_
    refine v_iadd dX10_bidBy_12 ?_
    refine v_ria hM ar_18 (by omega) (by omega) rfl dX10_bidBy_13 ?_
    refine v_goto (tgt := 52) dX10_bidBy_14 (by decide) ?_
    exact v_iret dX10_bidBy_52 rfl (Nat.le_refl _) (Nat.le_refl _) (⟨x, a, by unfold bsF; rw [if_pos (by omega)], hM, frR.rf, xfr.rf, afr.rf⟩)
theorem K10_fill {s told : Int} {many : Nat} {σ : SaleT} (hM : RS G M x a) (hr : rowR a s σ) (hs : 0 ≤ s ∧ s < 8) (hwf : wfS σ) (h21' : x 21 = many) (hm : many ≤ 4) (hso : ∀ i, 0 ≤ i → i < 4 → -2 ≤ a 13 (4 * s + i) ∧ a 13 (4 * s + i) < 10) (hto : soN σ told) : Kt l G μX10_fill [.ref (sw_al G 70), sw_i s, sw_i told] M (fun r M' => ∃ x' a', r = none ∧ RS G M' x' a' ∧ frR M M' ∧ xfr [16, 17] x x' ∧ afr [15, 20] a a' ∧ ∀ i k, 0 ≤ i → i < (many : Int) → 0 ≤ k → k < sSg σ → a' 20 (5 * i + k) = bsF σ (a 18) many (a 13 (4 * s + i)) k told) := by
  refine KtA.of (by decide +kernel) (Nat.le_of_ble_eq_true rfl) ?_
  have hsg := hwf.1
  obtain ⟨Zq, hZ⟩ : ∃ Zq : Option Value → sw_M → Prop, Zq = (fun r M' => ∃ x' a', r = none ∧ RS G M' x' a' ∧ frR M M' ∧ xfr [16, 17] x x' ∧ afr [15, 20] a a' ∧ ∀ i k, 0 ≤ i → i < (many : Int) → 0 ≤ k → k < sSg σ → a' 20 (5 * i + k) = bsF σ (a 18) many (a 13 (4 * s + i)) k told) := ⟨_, rfl⟩
  rw [← hZ]
  have outer : ∀ (n p : Nat) (x1 : Nat → Int) (a1 : Nat → Int → Int) (M1 : sw_M), p + n = many → RS G M1 x1 a1 → frR M M1 → xfr [16, 17] x x1 → afr [15, 20] a a1 → (∀ i k, 0 ≤ i → i < (p : Int) → 0 ≤ k → k < sSg σ → a1 20 (5 * i + k) = bsF σ (a 18) many (a 13 (4 * s + i)) k told) → V l G μX10_fill sw_E0 (sw_Zq G μX10_fill (sw_q0 G Zq)) 2 [(0, .ref (sw_al G 70)), (1, sw_i s), (2, sw_i told), (3, sw_i (p : Int))] [] M1 0 0 := by
    intro n
    induction n with
    | zero =>
      intro p x1 a1 M1 hp hM hF hx ha hR
      have e : p = many := by omega
      subst e
      have g21 : x1 21 = (p : Int) := (hx 21 (by decide)).trans h21'
      refine v_iload_n dX10_fill_2 rfl ?_
      refine v_aload_n dX10_fill_3 rfl ?_
      refine v_rgi 21 hM g21 fl_X10_176 rfl dX10_fill_4 ?_
      refine v_icmp_ge (tgt := 65) dX10_fill_7 (by decide) ⟨by omega, by omega⟩ ⟨by omega, by omega⟩ (fun h7 => ?_) (fun h7 => ?_)
      · skip
        exact v_vret dX10_fill_65 rfl (Nat.le_refl _) (Nat.le_refl _) (by rw [hZ]; exact ⟨x1, a1, rfl, hM, hF, hx, ha, hR⟩)
      · skip
        exfalso; omega
    | succ n ih =>
      intro p x1 a1 M1 hp hM hF hx ha hR
      have inner : ∀ (n2 : Nat) (k : Int) (x1 : Nat → Int) (a1 : Nat → Int → Int) (M1 : sw_M), 0 ≤ k → k + n2 = sSg σ → RS G M1 x1 a1 → frR M M1 → xfr [16, 17] x x1 → afr [15, 20] a a1 → (∀ i k, 0 ≤ i → i < (p : Int) → 0 ≤ k → k < sSg σ → a1 20 (5 * i + k) = bsF σ (a 18) many (a 13 (4 * s + i)) k told) → (∀ j, 0 ≤ j → j < k → a1 20 (5 * (p : Int) + j) = bsF σ (a 18) many (a 13 (4 * s + p)) j told) → V l G μX10_fill sw_E0 (sw_Zq G μX10_fill (sw_q0 G Zq)) 13 [(0, .ref (sw_al G 70)), (1, sw_i s), (2, sw_i told), (3, sw_i (p : Int)), (4, sw_i k)] [] M1 0 0 := by
        intro n2
        induction n2 with
        | zero =>
          intro k x1 a1 M1 k0 kn hM hF hx ha hR hL
          have e : k = sSg σ := by omega
          subst e
          have g5 : a1 5 s = sSg σ := by rw [ha 5 (by decide)]; exact hr.1
          refine v_iload dX10_fill_13 rfl ?_
          refine v_aload_n dX10_fill_15 rfl ?_
          refine v_getfH 5 hM.1 fl_X10_13 rfl dX10_fill_16 ?_
          refine v_iload_n dX10_fill_19 rfl ?_
          refine v_ria hM ar_5 (by omega) (by omega) g5 dX10_fill_20 ?_
          refine v_icmp_ge (tgt := 59) dX10_fill_21 (by decide) ⟨by omega, by omega⟩ ⟨by omega, by omega⟩ (fun h21 => ?_) (fun h21 => ?_)
          · skip
            refine v_iinc dX10_fill_59 rfl (Nat.le_of_ble_eq_true rfl) ?_
            refine v_goto (tgt := 2) dX10_fill_62 (by decide) ?_
            refine v_to (ih (p + 1) x1 a1 M1 (by omega) hM hF hx ha (fun i j i0 i1 j0 j1 => ?_)) rfl (sw_h1 rfl (sw_h1 rfl (sw_h1 rfl (sw_h1 rfl sw_h0))))
            by_cases c : i = (p : Int)
            · subst c; exact hL j j0 j1
            · exact hR i j i0 (by omega) j0 j1
          · skip
            exfalso; omega
        | succ n2 ih2 =>
          intro k x1 a1 M1 k0 kn hM hF hx ha hR hL
          have g5 : a1 5 s = sSg σ := by rw [ha 5 (by decide)]; exact hr.1
          have g13 : a1 13 (4 * s + p) = a 13 (4 * s + p) := by rw [ha 13 (by decide)]
          have g18 : a1 18 = a 18 := ha 18 (by decide)
          have hso' := hso p (by omega) (by omega)
          refine v_iload dX10_fill_13 rfl ?_
          refine v_aload_n dX10_fill_15 rfl ?_
          refine v_getfH 5 hM.1 fl_X10_13 rfl dX10_fill_16 ?_
          refine v_iload_n dX10_fill_19 rfl ?_
          refine v_ria hM ar_5 (by omega) (by omega) g5 dX10_fill_20 ?_
          refine v_icmp_ge (tgt := 59) dX10_fill_21 (by decide) ⟨by omega, by omega⟩ ⟨by omega, by omega⟩ (fun h21 => ?_) (fun h21 => ?_)
          · skip
            exfalso; omega
          · skip
            refine v_aload_n dX10_fill_24 rfl ?_
            refine v_getfH 20 hM.1 fl_X10_46 rfl dX10_fill_25 ?_
            refine v_iconst dX10_fill_28 ?_
            refine v_iload_n dX10_fill_29 rfl ?_
            refine v_imul dX10_fill_30 ?_
            refine v_iload dX10_fill_31 rfl ?_
            refine v_iadd dX10_fill_33 ?_
            refine v_aload_n dX10_fill_34 rfl ?_
            refine v_iload_n dX10_fill_35 rfl ?_
            refine v_aload_n dX10_fill_36 rfl ?_
            refine v_getfH 13 hM.1 fl_X10_37 rfl dX10_fill_37 ?_
            refine v_iconst dX10_fill_40 ?_
            refine v_iload_n dX10_fill_41 rfl ?_
            refine v_imul dX10_fill_42 ?_
            refine v_iload_n dX10_fill_43 rfl ?_
            refine v_iadd dX10_fill_44 ?_
            refine v_ria hM ar_13 (by omega) (by omega) g13 dX10_fill_45 ?_
            refine v_iload dX10_fill_46 rfl ?_
            refine v_iload_n dX10_fill_48 rfl ?_
            refine v_callV (ci := 10) (K10_bidBy hM (hr.fr ha (by decide)) ⟨by omega, by omega⟩ hwf ((hx 21 (by decide)).trans h21') ⟨by omega, by omega⟩ hso' (k := k) ⟨by omega, by omega⟩ hto) ⟨rfl, rfl⟩ (Nat.le_refl _) (Nat.le_refl _) hM.1 rfl ⟨ml_X10_193, mm_X10_bidBy⟩ ⟨(Nat.le_of_ble_eq_true rfl), (Nat.le_of_ble_eq_true rfl)⟩ mp_X10_bidBy rfl rfl (Nat.le_of_ble_eq_true rfl) dX10_fill_49 (fun r M' h => ?_)
            obtain ⟨x2, a2, rfl, hM2, hF2, hx2, ha2⟩ := h
            replace hM := hM2
            replace hF := hF.tr hF2
            rw [g18]
            refine v_ris hM hF ar_20 (by omega) (by omega) dX10_fill_52 (fun M hM hF => ?_)
            refine v_iinc dX10_fill_53 rfl (Nat.le_of_ble_eq_true rfl) ?_
            refine v_goto (tgt := 13) dX10_fill_56 (by decide) ?_
            refine v_to (ih2 (k + 1) x2 _ _ (by omega) (by omega) hM hF (hx.tr hx2 (fun t h => h) (fun t h => h)) ((ha.tr ha2 (fun t h => h) (by decide)).up (k := 20) (by decide)) (fun i j i0 i1 j0 j1 => ?_) (fun j j0 j1 => ?_)) rfl (sw_h1 rfl (sw_h1 rfl (sw_h1 rfl (sw_h1 rfl (sw_h1 rfl sw_h0)))))
            · show up (a2 20) (5 * (p : Int) + k) _ (5 * i + j) = _
              rw [up_ne (by omega), ha2 20 (by decide)]; exact hR i j i0 i1 j0 j1
            · show up (a2 20) (5 * (p : Int) + k) _ (5 * (p : Int) + j) = _
              by_cases c : j = k
              · subst c; rw [up_eq]
              · rw [up_ne (by omega), ha2 20 (by decide)]; exact hL j j0 (by omega)
      have g21 : x1 21 = (many : Int) := (hx 21 (by decide)).trans h21'
      refine v_iload_n dX10_fill_2 rfl ?_
      refine v_aload_n dX10_fill_3 rfl ?_
      refine v_rgi 21 hM g21 fl_X10_176 rfl dX10_fill_4 ?_
      refine v_icmp_ge (tgt := 65) dX10_fill_7 (by decide) ⟨by omega, by omega⟩ ⟨by omega, by omega⟩ (fun h7 => ?_) (fun h7 => ?_)
      · skip
        exfalso; omega
      · skip
        refine v_iconst dX10_fill_10 ?_
        refine v_istore dX10_fill_11 (Nat.le_of_ble_eq_true rfl) ?_
        exact v_to (inner (sSg σ).toNat 0 x1 a1 M1 (by omega) (by omega) hM hF hx ha hR (fun j j0 j1 => by omega)) rfl (sw_h1 rfl (sw_h1 rfl (sw_h1 rfl (sw_h1 rfl (sw_h1 rfl sw_h0)))))
  refine v_iconst dX10_fill_0 ?_
  refine v_istore_n dX10_fill_1 (Nat.le_of_ble_eq_true rfl) ?_
  exact v_to (outer many 0 x a M (by omega) hM frR.rf xfr.rf afr.rf (fun i k i0 i1 => by omega)) rfl (sw_h1 rfl (sw_h1 rfl (sw_h1 rfl (sw_h1 rfl sw_h0))))
theorem K10_fillAll {s sort : Int} {many : Nat} {σ : SaleT} (hM : RS G M x a) (hr : rowR a s σ) (hs : 0 ≤ s ∧ s < 8) (hwf : wfS σ) (h21' : x 21 = many) (hm : many ≤ 4) (hso : -2 ≤ sort ∧ sort < 10) : Kt l G μX10_fillAll [.ref (sw_al G 70), sw_i s, sw_i sort] M (fun r M' => ∃ x' a', r = none ∧ RS G M' x' a' ∧ frR M M' ∧ xfr [16, 17] x x' ∧ afr [15, 20] a a' ∧ ∀ i k, 0 ≤ i → i < (many : Int) → 0 ≤ k → k < sSg σ → a' 20 (5 * i + k) = bsF σ (a 18) many sort k (-1)) := by
  refine KtA.of (by decide +kernel) (Nat.le_of_ble_eq_true rfl) ?_
  have hsg := hwf.1
  obtain ⟨Zq, hZ⟩ : ∃ Zq : Option Value → sw_M → Prop, Zq = (fun r M' => ∃ x' a', r = none ∧ RS G M' x' a' ∧ frR M M' ∧ xfr [16, 17] x x' ∧ afr [15, 20] a a' ∧ ∀ i k, 0 ≤ i → i < (many : Int) → 0 ≤ k → k < sSg σ → a' 20 (5 * i + k) = bsF σ (a 18) many sort k (-1)) := ⟨_, rfl⟩
  rw [← hZ]
  have outer : ∀ (n p : Nat) (x1 : Nat → Int) (a1 : Nat → Int → Int) (M1 : sw_M), p + n = many → RS G M1 x1 a1 → frR M M1 → xfr [16, 17] x x1 → afr [15, 20] a a1 → (∀ i k, 0 ≤ i → i < (p : Int) → 0 ≤ k → k < sSg σ → a1 20 (5 * i + k) = bsF σ (a 18) many sort k (-1)) → V l G μX10_fillAll sw_E0 (sw_Zq G μX10_fillAll (sw_q0 G Zq)) 2 [(0, .ref (sw_al G 70)), (1, sw_i s), (2, sw_i sort), (3, sw_i (p : Int))] [] M1 0 0 := by
    intro n
    induction n with
    | zero =>
      intro p x1 a1 M1 hp hM hF hx ha hR
      have e : p = many := by omega
      subst e
      have g21 : x1 21 = (p : Int) := (hx 21 (by decide)).trans h21'
      refine v_iload_n dX10_fillAll_2 rfl ?_
      refine v_aload_n dX10_fillAll_3 rfl ?_
      refine v_rgi 21 hM g21 fl_X10_176 rfl dX10_fillAll_4 ?_
      refine v_icmp_ge (tgt := 56) dX10_fillAll_7 (by decide) ⟨by omega, by omega⟩ ⟨by omega, by omega⟩ (fun h7 => ?_) (fun h7 => ?_)
      · skip
        exact v_vret dX10_fillAll_56 rfl (Nat.le_refl _) (Nat.le_refl _) (by rw [hZ]; exact ⟨x1, a1, rfl, hM, hF, hx, ha, hR⟩)
      · skip
        exfalso; omega
    | succ n ih =>
      intro p x1 a1 M1 hp hM hF hx ha hR
      have inner : ∀ (n2 : Nat) (k : Int) (x1 : Nat → Int) (a1 : Nat → Int → Int) (M1 : sw_M), 0 ≤ k → k + n2 = sSg σ → RS G M1 x1 a1 → frR M M1 → xfr [16, 17] x x1 → afr [15, 20] a a1 → (∀ i k, 0 ≤ i → i < (p : Int) → 0 ≤ k → k < sSg σ → a1 20 (5 * i + k) = bsF σ (a 18) many sort k (-1)) → (∀ j, 0 ≤ j → j < k → a1 20 (5 * (p : Int) + j) = bsF σ (a 18) many sort j (-1)) → V l G μX10_fillAll sw_E0 (sw_Zq G μX10_fillAll (sw_q0 G Zq)) 13 [(0, .ref (sw_al G 70)), (1, sw_i s), (2, sw_i sort), (3, sw_i (p : Int)), (4, sw_i k)] [] M1 0 0 := by
        intro n2
        induction n2 with
        | zero =>
          intro k x1 a1 M1 k0 kn hM hF hx ha hR hL
          have e : k = sSg σ := by omega
          subst e
          have g5 : a1 5 s = sSg σ := by rw [ha 5 (by decide)]; exact hr.1
          refine v_iload dX10_fillAll_13 rfl ?_
          refine v_aload_n dX10_fillAll_15 rfl ?_
          refine v_getfH 5 hM.1 fl_X10_13 rfl dX10_fillAll_16 ?_
          refine v_iload_n dX10_fillAll_19 rfl ?_
          refine v_ria hM ar_5 (by omega) (by omega) g5 dX10_fillAll_20 ?_
          refine v_icmp_ge (tgt := 50) dX10_fillAll_21 (by decide) ⟨by omega, by omega⟩ ⟨by omega, by omega⟩ (fun h21 => ?_) (fun h21 => ?_)
          · skip
            refine v_iinc dX10_fillAll_50 rfl (Nat.le_of_ble_eq_true rfl) ?_
            refine v_goto (tgt := 2) dX10_fillAll_53 (by decide) ?_
            refine v_to (ih (p + 1) x1 a1 M1 (by omega) hM hF hx ha (fun i j i0 i1 j0 j1 => ?_)) rfl (sw_h1 rfl (sw_h1 rfl (sw_h1 rfl (sw_h1 rfl sw_h0))))
            by_cases c : i = (p : Int)
            · subst c; exact hL j j0 j1
            · exact hR i j i0 (by omega) j0 j1
          · skip
            exfalso; omega
        | succ n2 ih2 =>
          intro k x1 a1 M1 k0 kn hM hF hx ha hR hL
          have g5 : a1 5 s = sSg σ := by rw [ha 5 (by decide)]; exact hr.1
          have g18 : a1 18 = a 18 := ha 18 (by decide)
          refine v_iload dX10_fillAll_13 rfl ?_
          refine v_aload_n dX10_fillAll_15 rfl ?_
          refine v_getfH 5 hM.1 fl_X10_13 rfl dX10_fillAll_16 ?_
          refine v_iload_n dX10_fillAll_19 rfl ?_
          refine v_ria hM ar_5 (by omega) (by omega) g5 dX10_fillAll_20 ?_
          refine v_icmp_ge (tgt := 50) dX10_fillAll_21 (by decide) ⟨by omega, by omega⟩ ⟨by omega, by omega⟩ (fun h21 => ?_) (fun h21 => ?_)
          · skip
            exfalso; omega
          · skip
            refine v_aload_n dX10_fillAll_24 rfl ?_
            refine v_getfH 20 hM.1 fl_X10_46 rfl dX10_fillAll_25 ?_
            refine v_iconst dX10_fillAll_28 ?_
            refine v_iload_n dX10_fillAll_29 rfl ?_
            refine v_imul dX10_fillAll_30 ?_
            refine v_iload dX10_fillAll_31 rfl ?_
            refine v_iadd dX10_fillAll_33 ?_
            refine v_aload_n dX10_fillAll_34 rfl ?_
            refine v_iload_n dX10_fillAll_35 rfl ?_
            refine v_iload_n dX10_fillAll_36 rfl ?_
            refine v_iload dX10_fillAll_37 rfl ?_
            refine v_iconst dX10_fillAll_39 ?_
            refine v_callV (ci := 10) (K10_bidBy hM (hr.fr ha (by decide)) ⟨by omega, by omega⟩ hwf ((hx 21 (by decide)).trans h21') ⟨by omega, by omega⟩ hso (k := k) ⟨by omega, by omega⟩ (Or.inl rfl)) ⟨rfl, rfl⟩ (Nat.le_refl _) (Nat.le_refl _) hM.1 rfl ⟨ml_X10_193, mm_X10_bidBy⟩ ⟨(Nat.le_of_ble_eq_true rfl), (Nat.le_of_ble_eq_true rfl)⟩ mp_X10_bidBy rfl rfl (Nat.le_of_ble_eq_true rfl) dX10_fillAll_40 (fun r M' h => ?_)
            obtain ⟨x2, a2, rfl, hM2, hF2, hx2, ha2⟩ := h
            replace hM := hM2
            replace hF := hF.tr hF2
            rw [g18]
            refine v_ris hM hF ar_20 (by omega) (by omega) dX10_fillAll_43 (fun M hM hF => ?_)
            refine v_iinc dX10_fillAll_44 rfl (Nat.le_of_ble_eq_true rfl) ?_
            refine v_goto (tgt := 13) dX10_fillAll_47 (by decide) ?_
            refine v_to (ih2 (k + 1) x2 _ _ (by omega) (by omega) hM hF (hx.tr hx2 (fun t h => h) (fun t h => h)) ((ha.tr ha2 (fun t h => h) (by decide)).up (k := 20) (by decide)) (fun i j i0 i1 j0 j1 => ?_) (fun j j0 j1 => ?_)) rfl (sw_h1 rfl (sw_h1 rfl (sw_h1 rfl (sw_h1 rfl (sw_h1 rfl sw_h0)))))
            · show up (a2 20) (5 * (p : Int) + k) _ (5 * i + j) = _
              rw [up_ne (by omega), ha2 20 (by decide)]; exact hR i j i0 i1 j0 j1
            · show up (a2 20) (5 * (p : Int) + k) _ (5 * (p : Int) + j) = _
              by_cases c : j = k
              · subst c; rw [up_eq]
              · rw [up_ne (by omega), ha2 20 (by decide)]; exact hL j j0 (by omega)
      have g21 : x1 21 = (many : Int) := (hx 21 (by decide)).trans h21'
      refine v_iload_n dX10_fillAll_2 rfl ?_
      refine v_aload_n dX10_fillAll_3 rfl ?_
      refine v_rgi 21 hM g21 fl_X10_176 rfl dX10_fillAll_4 ?_
      refine v_icmp_ge (tgt := 56) dX10_fillAll_7 (by decide) ⟨by omega, by omega⟩ ⟨by omega, by omega⟩ (fun h7 => ?_) (fun h7 => ?_)
      · skip
        exfalso; omega
      · skip
        refine v_iconst dX10_fillAll_10 ?_
        refine v_istore dX10_fillAll_11 (Nat.le_of_ble_eq_true rfl) ?_
        exact v_to (inner (sSg σ).toNat 0 x1 a1 M1 (by omega) (by omega) hM hF hx ha hR (fun j j0 j1 => by omega)) rfl (sw_h1 rfl (sw_h1 rfl (sw_h1 rfl (sw_h1 rfl (sw_h1 rfl sw_h0)))))
  refine v_iconst dX10_fillAll_0 ?_
  refine v_istore_n dX10_fillAll_1 (Nat.le_of_ble_eq_true rfl) ?_
  exact v_to (outer many 0 x a M (by omega) hM frR.rf xfr.rf afr.rf (fun i k i0 i1 => by omega)) rfl (sw_h1 rfl (sw_h1 rfl (sw_h1 rfl (sw_h1 rfl sw_h0))))
end
/-- the rows of the reference -/
def rwR (a : Nat → Int → Int) (f : Int → Int → Int) (m sg : Int) : Prop := ∀ i k, 0 ≤ i → i < m → 0 ≤ k → k < sg → a 20 (5 * i + k) = f i k
section
variable {l : Launch} {G : sw_G} {M : sw_M} {s : CSt} {k : Int} {x : Nat → Int} {a : Nat → Int → Int}
theorem bsF_bdF (hs : stOK s) (hk : isS s k) (hRI : RI s x a) {i j his : Int} (i0 : 0 ≤ i ∧ i < 4) (j0 : 0 ≤ j ∧ j < sSg (sl s k)) : bsF (sl s k) (a 18) (sNb (sl s k)) (a 13 (4 * k + i)) j his = bdF (sl s k) (qT s) (qB s) i j his := by
  have hst := hRI.seat hk i0.1 i0.2
  have hb := (hs.2.2.1 k.toNat (by have := hk; unfold isS at this; omega)).2 i i0.1 i0.2
  have hwf := hs.sale hk
  have hr2 := hwf.2.2.2.2.2.2.2.2 i i0.1 i0.2
  have hsg := hwf.1
  have hc := hs.c.1
  rw [hst]
  unfold bsF bdF
  have hb : sSt (sl s k) i < qT s := hb
  by_cases c : 0 ≤ sSt (sl s k) i
  · rw [if_pos c, if_pos ⟨c, hb⟩, hRI.2.2.2.2.1 _ (by omega) (by omega), show 5 * sSt (sl s k) i + j = sSt (sl s k) i * 5 + j by omega]
  · have c2 : ¬ (0 ≤ sSt (sl s k) i ∧ sSt (sl s k) i < qT s) := fun h => c h.1
    rw [if_neg c, if_neg c2]
theorem K10_begin (hM : RS G M x a) (hRI : RI s x a) (hs : stOK s) (hk : isS s k) : Kt l G μX10_begin [.ref (sw_al G 70), sw_i k] M (fun r M' => ∃ x' a', r = none ∧ RS G M' x' a' ∧ frR M M' ∧ xfr [16, 17, 21, 22, 23] x x' ∧ afr [15, 20] a a' ∧ x' 21 = sNb (sl s k) ∧ x' 22 = sLe (sl s k) ∧ x' 23 = sWy (sl s k) ∧ rwR a' (bF (sl s k) (qT s) (qB s) (-1)) (sNb (sl s k)) (sSg (sl s k))) := by
  refine KtA.of (by decide +kernel) (Nat.le_of_ble_eq_true rfl) ?_
  have hF : frR M M := frR.rf
  have hr := hRI.row hk
  obtain ⟨q5, q6, q10, q11, q12, qr⟩ := id hr
  have hw := hs.sale hk
  have hnb := hw.2.2.1
  have hns : qN s ≤ 8 := hs.2.1
  obtain ⟨hk0, hk1⟩ := id hk
  obtain ⟨m, hm⟩ : ∃ m : Nat, (m : Int) = sNb (sl s k) := ⟨(sNb (sl s k)).toNat, by omega⟩
  refine v_aload_n dX10_begin_0 rfl ?_
  refine v_aload_n dX10_begin_1 rfl ?_
  refine v_getfH 10 hM.1 fl_X10_28 rfl dX10_begin_2 ?_
  refine v_iload_n dX10_begin_5 rfl ?_
  refine v_ria hM ar_10 (by omega) (by omega) q10 dX10_begin_6 ?_
  refine v_rp 21 hM hF (flS_21 G _ _) fp_X10_176 rfl rfl (Nat.le_of_ble_eq_true rfl) dX10_begin_7 (fun M hM hF => ?_)
  refine v_aload_n dX10_begin_10 rfl ?_
  refine v_aload_n dX10_begin_11 rfl ?_
  refine v_getfH 11 hM.1 fl_X10_31 rfl dX10_begin_12 ?_
  refine v_iload_n dX10_begin_15 rfl ?_
  refine v_ria hM ar_11 (by omega) (by omega) q11 dX10_begin_16 ?_
  refine v_rp 22 hM hF (flS_22 G _ _) fp_X10_183 rfl rfl (Nat.le_of_ble_eq_true rfl) dX10_begin_17 (fun M hM hF => ?_)
  refine v_aload_n dX10_begin_20 rfl ?_
  refine v_aload_n dX10_begin_21 rfl ?_
  refine v_getfH 12 hM.1 fl_X10_34 rfl dX10_begin_22 ?_
  refine v_iload_n dX10_begin_25 rfl ?_
  refine v_ria hM ar_12 (by omega) (by omega) q12 dX10_begin_26 ?_
  refine v_rp 23 hM hF (flS_23 G _ _) fp_X10_186 rfl rfl (Nat.le_of_ble_eq_true rfl) dX10_begin_27 (fun M hM hF => ?_)
  refine v_aload_n dX10_begin_30 rfl ?_
  refine v_iload_n dX10_begin_31 rfl ?_
  refine v_iconst dX10_begin_32 ?_
  refine v_callV (ci := 10) (K10_fill hM hr (many := m) ⟨by omega, by omega⟩ hw ((upn_o (by decide)).trans ((upn_o (by decide)).trans (upn_s.trans hm.symm))) (by omega) (fun i i0 i1 => by rw [hRI.seat hk i0 i1]; exact hw.2.2.2.2.2.2.2.2 i i0 i1) (told := -1) (Or.inl rfl)) ⟨rfl, rfl⟩ (Nat.le_refl _) (Nat.le_refl _) hM.1 rfl ⟨ml_X10_189, mm_X10_fill⟩ ⟨(Nat.le_of_ble_eq_true rfl), (Nat.le_of_ble_eq_true rfl)⟩ mp_X10_fill rfl rfl (Nat.le_of_ble_eq_true rfl) dX10_begin_33 (fun r M' h => ?_)
  obtain ⟨x2, a2, rfl, hM2, hF2, hx2, ha2, hR2⟩ := h
  refine v_vret dX10_begin_36 rfl (Nat.le_refl _) (Nat.le_refl _) ?_
  skip
  refine ⟨x2, a2, rfl, hM2, hF.tr hF2, (((xfr.rf.up (k := 21) (by decide)).up (k := 22) (by decide)).up (k := 23) (by decide)).tr hx2 (fun t h => h) (by decide), ha2, ?_, ?_, ?_, fun i j i0 i1 j0 j1 => ?_⟩
  · rw [hx2 21 (by decide)]; exact (upn_o (by decide)).trans ((upn_o (by decide)).trans upn_s)
  · rw [hx2 22 (by decide)]; exact (upn_o (by decide)).trans upn_s
  · rw [hx2 23 (by decide)]; exact upn_s
  · rw [hR2 i j i0 (by omega) j0 j1, hm]
    exact bsF_bdF hs hk hRI ⟨i0, by omega⟩ ⟨j0, j1⟩
theorem R9_bids {seat sign : Int} (hI : InvR G M s) (hs : stOK s) (hk : isS s k) (g1 : sw_rg seat) (g2 : sw_rg sign) : Kt l G μX10_bids [.ref (sw_al G 70), sw_i k, sw_i seat, sw_i sign] M (fun r M' => r = some (sw_i (if (0 ≤ seat ∧ seat < sNb (sl s k)) ∧ 0 ≤ sign ∧ sign < sSg (sl s k) then bdF (sl s k) (qT s) (qB s) seat sign (-1) else -1)) ∧ InvR G M' s ∧ frR M M') := by
  refine KtA.of (by decide +kernel) (Nat.le_of_ble_eq_true rfl) ?_
  obtain ⟨x, a, hM, hRI⟩ := hI
  have hr := hRI.row hk
  have hw := hs.sale hk
  have hnb := hw.2.2.1
  have hsg := hw.1
  have hns : qN s ≤ 8 := hs.2.1
  obtain ⟨hk0, hk1⟩ := id hk
  refine v_aload_n dX10_bids_0 rfl ?_
  refine v_iload_n dX10_bids_1 rfl ?_
  refine v_iload_n dX10_bids_2 rfl ?_
  refine v_callV (ci := 10) (K10_isSeat hM hRI.2.2.1 ⟨by omega, by omega⟩ (nb := sNb (sl s k)) (fun _ => hr.2.2.1) ⟨by omega, by omega⟩ ⟨by omega, by omega⟩ g1) ⟨rfl, rfl⟩ (Nat.le_refl _) (Nat.le_refl _) hM.1 rfl ⟨ml_X10_196, mm_X10_isSeat⟩ ⟨(Nat.le_of_ble_eq_true rfl), (Nat.le_of_ble_eq_true rfl)⟩ mp_X10_isSeat rfl rfl (Nat.le_of_ble_eq_true rfl) dX10_bids_3 (fun r M' h => ?_)
  obtain ⟨rfl, rfl⟩ := h
  refine v_ifb_eq (tgt := 18) dX10_bids_6 (by decide) (fun q1 => ?_) (fun q1 => ?_)
  · skip
    refine v_iconst dX10_bids_18 ?_
    exact v_iret dX10_bids_19 rfl (Nat.le_refl _) (Nat.le_refl _) (⟨by rw [if_neg (fun h => q1 ⟨⟨hk0, hk1⟩, h.1⟩)], ⟨_, _, hM, hRI⟩, frR.rf⟩)
  · skip
    refine v_aload_n dX10_bids_9 rfl ?_
    refine v_iload_n dX10_bids_10 rfl ?_
    refine v_iload_n dX10_bids_11 rfl ?_
    refine v_callV (ci := 10) (K10_isSign hM hr.1 ⟨by omega, by omega⟩ ⟨by omega, by omega⟩ g2) ⟨rfl, rfl⟩ (Nat.le_refl _) (Nat.le_refl _) hM.1 rfl ⟨ml_X10_162, mm_X10_isSign⟩ ⟨(Nat.le_of_ble_eq_true rfl), (Nat.le_of_ble_eq_true rfl)⟩ mp_X10_isSign rfl rfl (Nat.le_of_ble_eq_true rfl) dX10_bids_12 (fun r M' h => ?_)
    obtain ⟨rfl, rfl⟩ := h
    refine v_ifb_ne (tgt := 20) dX10_bids_15 (by decide) (fun q2 => ?_) (fun q2 => ?_)
    · skip
      refine v_aload_n dX10_bids_20 rfl ?_
      refine v_iload_n dX10_bids_21 rfl ?_
      refine v_callV (ci := 10) (K10_begin hM hRI hs hk) ⟨rfl, rfl⟩ (Nat.le_refl _) (Nat.le_refl _) hM.1 rfl ⟨ml_X10_199, mm_X10_begin⟩ ⟨(Nat.le_of_ble_eq_true rfl), (Nat.le_of_ble_eq_true rfl)⟩ mp_X10_begin rfl rfl (Nat.le_of_ble_eq_true rfl) dX10_bids_22 (fun r M' h => ?_)
      obtain ⟨x2, a2, rfl, hM2, hF2, hx2, ha2, -, -, -, hR2⟩ := h
      replace hM := hM2
      refine v_aload_n dX10_bids_25 rfl ?_
      refine v_getfH 20 hM.1 fl_X10_46 rfl dX10_bids_26 ?_
      refine v_iconst dX10_bids_29 ?_
      refine v_iload_n dX10_bids_30 rfl ?_
      refine v_imul dX10_bids_31 ?_
      refine v_iload_n dX10_bids_32 rfl ?_
      refine v_iadd dX10_bids_33 ?_
      refine v_ria hM ar_20 (by omega) (by omega) (hR2 seat sign q1.2.1 q1.2.2 q2.1 q2.2) dX10_bids_34 ?_
      exact v_iret dX10_bids_35 rfl (Nat.le_refl _) (Nat.le_refl _) (⟨by rw [if_pos ⟨q1.2, q2⟩]; rfl, ⟨_, _, hM, hRI.fr (hx2.tr xfr.rf (by decide) (fun t h => h)) (ha2.tr afr.rf (by decide) (fun t h => h))⟩, hF2⟩)
    · skip
      refine v_iconst dX10_bids_18 ?_
      exact v_iret dX10_bids_19 rfl (Nat.le_refl _) (Nat.le_refl _) (⟨by rw [if_neg (fun h => q2 h.2)], ⟨_, _, hM, hRI⟩, frR.rf⟩)
end

