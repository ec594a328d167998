/-! what the face is made of: small ones, half -/
abbrev c0 (G : sw_G) (ns : Nat) (nt : Int) : sw_Ce := (0, sw_o 9 [.ref (sw_al G 1), .ref (sw_al G 3), sw_i (ns : Int), .ref (sw_al G 4), sw_i nt, .ref (sw_al G 5), .ref (sw_al G 6), .ref (sw_al G 10), .ref (sw_al G 14), .ref (sw_al G 18), .ref (sw_al G 21), .ref (sw_al G 25), .ref (sw_al G 30)])
abbrev cSa (G : sw_G) (ns : Nat) : sw_Ce := (3, sw_ra 8 (fun k => if 0 ≤ k ∧ k < (ns : Int) then some (sw_al G (100 + 5 * k.toNat)) else none))
abbrev cTb (T : Int → Int) : sw_Ce := (4, sw_ia 50 T)
abbrev cLd (Ld : Int → Int) : sw_Ce := (5, sw_ia 4 Ld)
def gcdI (a b : Int) : Int := (Nat.gcd a.natAbs b.natAbs : Nat)
theorem gcdI_step {a b : Int} (ha : 0 ≤ a) (hb : 0 < b) : gcdI b (a % b) = gcdI a b := by
  unfold gcdI
  have e : (a % b).natAbs = a.natAbs % b.natAbs := Int.natAbs_emod_of_nonneg ha b
  rw [e, Nat.gcd_comm b.natAbs, ← Nat.gcd_rec, Nat.gcd_comm]
section
variable {l : Launch} {G : sw_G} {M : sw_M}
theorem K9_saleAt {ns : Nat} {nt k : Int} (h0 : M 0 = some (c0 G ns nt).2) (h3 : M 3 = some (cSa G ns).2) (hns : ns ≤ 8) (hk : 0 ≤ k ∧ k < ns) : Kt l G μX9_saleAt [.ref (sw_al G 0), sw_i k] M (fun r M' => r = some (.ref (sw_al G (100 + 5 * k.toNat))) ∧ M' = M) := by
  refine KtA.of (by decide +kernel) (Nat.le_of_ble_eq_true rfl) ?_
  have hback : sw_ov M [c0 G ns nt, cSa G ns] = M := sw_ov_self (sw_hold1 h0 (sw_hold1 h3 sw_hold0))
  refine v_mem hback.symm ?_
  have hn : sw_nd [0, 3] := sw_nd_of (by simp)
  refine v_iload_n dX9_saleAt_0 rfl ?_
  refine v_if_lt (tgt := 18) dX9_saleAt_1 (by decide) ⟨by omega, by omega⟩ (fun h1 => ?_) (fun h1 => ?_)
  · skip
    exfalso; omega
  · skip
    refine v_iload_n dX9_saleAt_4 rfl ?_
    refine v_aload_n dX9_saleAt_5 rfl ?_
    refine v_getf 0 2 fl_X9_22 hn rfl rfl dX9_saleAt_6 ?_
    refine v_icmp_ge (tgt := 18) dX9_saleAt_9 (by decide) ⟨by omega, by omega⟩ ⟨by omega, by omega⟩ (fun h9 => ?_) (fun h9 => ?_)
    · skip
      exfalso; omega
    · skip
      refine v_iload_n dX9_saleAt_12 rfl ?_
      refine v_bipush dX9_saleAt_13 (by decide +kernel) ?_
      refine v_icmp_lt (tgt := 22) dX9_saleAt_15 (by decide) ⟨by omega, by omega⟩ ⟨by omega, by omega⟩ (fun h15 => ?_) (fun h15 => ?_)
      · skip
        refine v_aload_n dX9_saleAt_22 rfl ?_
        refine v_getf 0 1 fl_X9_18 hn rfl rfl dX9_saleAt_23 ?_
        refine v_iload_n dX9_saleAt_26 rfl ?_
        refine v_aldq 1 hn rfl (Nat.le_of_ble_eq_true rfl) (by omega) (by omega) dX9_saleAt_27 ?_
        rw [if_pos hk]
        exact v_aret (v := .ref (sw_al G (100 + 5 * k.toNat))) (Or.inl ⟨_, rfl⟩) (Or.inr ⟨_, rfl⟩) dX9_saleAt_28 rfl (Nat.le_refl _) (Nat.le_refl _) ⟨rfl, hback⟩
      · skip
        exfalso; omega
theorem K9_saleAtN {ns : Nat} {nt k : Int} (h0 : M 0 = some (c0 G ns nt).2) (hns : ns ≤ 8) (hk : ¬ (0 ≤ k ∧ k < ns)) (hg : sw_rg k) : Kt l G μX9_saleAt [.ref (sw_al G 0), sw_i k] M (fun r M' => r = some .null ∧ M' = M) := by
  refine KtA.of (by decide +kernel) (Nat.le_of_ble_eq_true rfl) ?_
  have hback : sw_ov M [c0 G ns nt] = M := sw_ov_self (sw_hold1 h0 sw_hold0)
  refine v_mem hback.symm ?_
  have hn : sw_nd [0] := sw_nd_of (by simp)
  obtain ⟨g1, g2⟩ := hg
  refine v_iload_n dX9_saleAt_0 rfl ?_
  refine v_if_lt (tgt := 18) dX9_saleAt_1 (by decide) ⟨by omega, by omega⟩ (fun h1 => ?_) (fun h1 => ?_)
  · skip
    refine v_null dX9_saleAt_18 ?_
    refine v_goto (tgt := 28) dX9_saleAt_19 (by decide) ?_
    exact v_aret (v := .null) (Or.inl ⟨_, rfl⟩) (Or.inl rfl) dX9_saleAt_28 rfl (Nat.le_refl _) (Nat.le_refl _) ⟨rfl, hback⟩
  · skip
    refine v_iload_n dX9_saleAt_4 rfl ?_
    refine v_aload_n dX9_saleAt_5 rfl ?_
    refine v_getf 0 2 fl_X9_22 hn rfl rfl dX9_saleAt_6 ?_
    refine v_icmp_ge (tgt := 18) dX9_saleAt_9 (by decide) ⟨by omega, by omega⟩ ⟨by omega, by omega⟩ (fun h9 => ?_) (fun h9 => ?_)
    · skip
      refine v_null dX9_saleAt_18 ?_
      refine v_goto (tgt := 28) dX9_saleAt_19 (by decide) ?_
      exact v_aret (v := .null) (Or.inl ⟨_, rfl⟩) (Or.inl rfl) dX9_saleAt_28 rfl (Nat.le_refl _) (Nat.le_refl _) ⟨rfl, hback⟩
    · skip
      exfalso; omega
theorem K9_hasTable {ns : Nat} {nt k : Int} (h0 : M 0 = some (c0 G ns nt).2) (hnt : 0 ≤ nt ∧ nt ≤ 10) (hg : sw_rg k) : Kt l G μX9_hasTable [.ref (sw_al G 0), sw_i k] M (fun r M' => r = some (sw_i (bI (0 ≤ k ∧ k < nt))) ∧ M' = M) := by
  refine KtA.of (by decide +kernel) (Nat.le_of_ble_eq_true rfl) ?_
  have hback : sw_ov M [c0 G ns nt] = M := sw_ov_self (sw_hold1 h0 sw_hold0)
  refine v_mem hback.symm ?_
  have hn : sw_nd [0] := sw_nd_of (by simp)
  obtain ⟨g1, g2⟩ := hg
  refine v_iload_n dX9_hasTable_0 rfl ?_
  refine v_if_lt (tgt := 22) dX9_hasTable_1 (by decide) ⟨by omega, by omega⟩ (fun h1 => ?_) (fun h1 => ?_)
  · skip
    refine v_iconst dX9_hasTable_22 ?_
    exact v_zret rfl dX9_hasTable_23 rfl (Nat.le_refl _) (Nat.le_refl _) (⟨by rw [bI_f (by omega)], hback⟩)
  · skip
    refine v_iload_n dX9_hasTable_4 rfl ?_
    refine v_aload_n dX9_hasTable_5 rfl ?_
    refine v_getf 0 4 fl_X9_30 hn rfl rfl dX9_hasTable_6 ?_
    refine v_icmp_ge (tgt := 22) dX9_hasTable_9 (by decide) ⟨by omega, by omega⟩ ⟨by omega, by omega⟩ (fun h9 => ?_) (fun h9 => ?_)
    · skip
      refine v_iconst dX9_hasTable_22 ?_
      exact v_zret rfl dX9_hasTable_23 rfl (Nat.le_refl _) (Nat.le_refl _) (⟨by rw [bI_f (by omega)], hback⟩)
    · skip
      refine v_iload_n dX9_hasTable_12 rfl ?_
      refine v_bipush dX9_hasTable_13 (by decide +kernel) ?_
      refine v_icmp_ge (tgt := 22) dX9_hasTable_15 (by decide) ⟨by omega, by omega⟩ ⟨by omega, by omega⟩ (fun h15 => ?_) (fun h15 => ?_)
      · skip
        exfalso; omega
      · skip
        refine v_iconst dX9_hasTable_18 ?_
        refine v_goto (tgt := 23) dX9_hasTable_19 (by decide) ?_
        exact v_zret rfl dX9_hasTable_23 rfl (Nat.le_refl _) (Nat.le_refl _) (⟨by rw [bI_t (by omega)], hback⟩)
theorem K9_isHalf {k : Int} (hg : sw_rg k) : Kt l G μX9_isHalf [sw_i k] M (fun r M' => r = some (sw_i (bI (k = 0 ∨ k = 1))) ∧ M' = M) := by
  refine KtA.of (by decide +kernel) (Nat.le_of_ble_eq_true rfl) ?_
  obtain ⟨g1, g2⟩ := hg
  refine v_iload_n dX9_isHalf_0 rfl ?_
  refine v_if_eq (tgt := 9) dX9_isHalf_1 (by decide) ⟨by omega, by omega⟩ (fun h1 => ?_) (fun h1 => ?_)
  · skip
    refine v_iconst dX9_isHalf_9 ?_
    refine v_goto (tgt := 14) dX9_isHalf_10 (by decide) ?_
    exact v_zret rfl dX9_isHalf_14 rfl (Nat.le_refl _) (Nat.le_refl _) (⟨by rw [bI_t (by omega)], rfl⟩)
  · skip
    refine v_iload_n dX9_isHalf_4 rfl ?_
    refine v_iconst dX9_isHalf_5 ?_
    refine v_icmp_ne (tgt := 13) dX9_isHalf_6 (by decide) ⟨by omega, by omega⟩ ⟨by omega, by omega⟩ (fun h6 => ?_) (fun h6 => ?_)
    · skip
      refine v_iconst dX9_isHalf_13 ?_
      exact v_zret rfl dX9_isHalf_14 rfl (Nat.le_refl _) (Nat.le_refl _) (⟨by rw [bI_f (by omega)], rfl⟩)
    · skip
      refine v_iconst dX9_isHalf_9 ?_
      refine v_goto (tgt := 14) dX9_isHalf_10 (by decide) ?_
      exact v_zret rfl dX9_isHalf_14 rfl (Nat.le_refl _) (Nat.le_refl _) (⟨by rw [bI_t (by omega)], rfl⟩)
theorem K9_hasSignOrNone {b : Nat} {σ : SaleT} {u d k : Int} (h5 : M b = some (cO G b σ u d).2) (hsg : sw_rg (sSg σ)) (hg : sw_rg k) : Kt l G μX9_hasSignOrNone [.ref (sw_al G b), sw_i k] M (fun r M' => r = some (sw_i (bI (k = -1 ∨ 0 ≤ k ∧ k < sSg σ))) ∧ M' = M) := by
  refine KtA.of (by decide +kernel) (Nat.le_of_ble_eq_true rfl) ?_
  obtain ⟨g1, g2⟩ := hg
  refine v_iload_n dX9_hasSignOrNone_0 rfl ?_
  refine v_iconst dX9_hasSignOrNone_1 ?_
  refine v_icmp_eq (tgt := 13) dX9_hasSignOrNone_2 (by decide) ⟨by omega, by omega⟩ ⟨by omega, by omega⟩ (fun h2 => ?_) (fun h2 => ?_)
  · skip
    refine v_iconst dX9_hasSignOrNone_13 ?_
    refine v_goto (tgt := 18) dX9_hasSignOrNone_14 (by decide) ?_
    exact v_zret rfl dX9_hasSignOrNone_18 rfl (Nat.le_refl _) (Nat.le_refl _) (⟨by rw [bI_t (by omega)], rfl⟩)
  · skip
    refine v_aload_n dX9_hasSignOrNone_5 rfl ?_
    refine v_iload_n dX9_hasSignOrNone_6 rfl ?_
    refine v_callV (ci := 5) (K5_hasSign h5 hsg ⟨by omega, by omega⟩) ⟨rfl, rfl⟩ (Nat.le_refl _) (Nat.le_refl _) (h5) rfl ⟨ml_X9_145, mm_X5_hasSign⟩ ⟨(Nat.le_of_ble_eq_true rfl), (Nat.le_of_ble_eq_true rfl)⟩ mp_X5_hasSign rfl rfl (Nat.le_of_ble_eq_true rfl) dX9_hasSignOrNone_7 (fun r M' h => ?_)
    obtain ⟨rfl, rfl⟩ := h
    refine v_ifb_eq (tgt := 17) dX9_hasSignOrNone_10 (by decide) (fun h10 => ?_) (fun h10 => ?_)
    · skip
      refine v_iconst dX9_hasSignOrNone_17 ?_
      exact v_zret rfl dX9_hasSignOrNone_18 rfl (Nat.le_refl _) (Nat.le_refl _) (⟨by rw [bI_f (by omega)], rfl⟩)
    · skip
      refine v_iconst dX9_hasSignOrNone_13 ?_
      refine v_goto (tgt := 18) dX9_hasSignOrNone_14 (by decide) ?_
      exact v_zret rfl dX9_hasSignOrNone_18 rfl (Nat.le_refl _) (Nat.le_refl _) (⟨by rw [bI_t (by omega)], rfl⟩)
theorem K9_half {up' dn what : Int} (h1 : -4000000000000000000 ≤ up' ∧ up' ≤ 4000000000000000000) (h2 : 0 < dn ∧ dn ≤ 4000000000000000000) (hg : sw_rg what) : Kt l G μX9_half [sw_j up', sw_j dn, sw_i what] M (fun r M' => r = some (sw_j ((if what = 0 then up' else dn).tdiv (gcdI up' dn))) ∧ M' = M) := by
  refine KtA.of (by decide +kernel) (Nat.le_of_ble_eq_true rfl) ?_
  obtain ⟨g1, g2⟩ := hg
  have last : ∀ (big n y : Int), big = gcdI up' dn → 0 ≤ big ∧ big ≤ 4000000000000000000 → V l G μX9_half sw_E0 (sw_Zq G μX9_half (sw_q0 G (fun r M' => r = some (sw_j ((if what = 0 then up' else dn).tdiv (gcdI up' dn))) ∧ M' = M))) 56 [(0, sw_j up'), (2, sw_j dn), (4, sw_i what), (5, sw_j big)] [] M 0 0 := by
    intro big n y hbig hb
    have hpos : 0 < big := by
      rw [hbig]; unfold gcdI
      have : 0 < Nat.gcd up'.natAbs dn.natAbs := Nat.gcd_pos_of_pos_right _ (by omega)
      omega
    refine v_iload dX9_half_56 rfl ?_
    refine v_if_ne (tgt := 65) dX9_half_58 (by decide) ⟨by omega, by omega⟩ (fun h58 => ?_) (fun h58 => ?_)
    · skip
      refine v_lload_n dX9_half_65 rfl ?_
      refine v_lstore dX9_half_66 (Nat.le_of_ble_eq_true rfl) ?_
      refine v_lload dX9_half_68 rfl ?_
      refine v_lconst (z := 0) dX9_half_70 (by decide +kernel) ?_
      refine v_lcmp_le (tgt := 83) dX9_half_71 dX9_half_72 (by decide) ⟨by omega, by omega⟩ ⟨by omega, by omega⟩ (fun h71 => ?_) (fun h71 => ?_)
      · skip
        exfalso; omega
      · skip
        refine v_lload dX9_half_75 rfl ?_
        refine v_lload dX9_half_77 rfl ?_
        refine v_ldiv dX9_half_79 ⟨by omega, by omega⟩ ⟨by omega, by omega⟩ (by omega) ?_
        refine v_goto (tgt := 85) dX9_half_80 (by decide) ?_
        exact v_lret dX9_half_85 rfl (Nat.le_refl _) (Nat.le_refl _) (⟨by rw [if_neg h58, ← hbig], rfl⟩)
    · skip
      refine v_lload_n dX9_half_61 rfl ?_
      refine v_goto (tgt := 66) dX9_half_62 (by decide) ?_
      refine v_lstore dX9_half_66 (Nat.le_of_ble_eq_true rfl) ?_
      refine v_lload dX9_half_68 rfl ?_
      refine v_lconst (z := 0) dX9_half_70 (by decide +kernel) ?_
      refine v_lcmp_le (tgt := 83) dX9_half_71 dX9_half_72 (by decide) ⟨by omega, by omega⟩ ⟨by omega, by omega⟩ (fun h71 => ?_) (fun h71 => ?_)
      · skip
        exfalso; omega
      · skip
        refine v_lload dX9_half_75 rfl ?_
        refine v_lload dX9_half_77 rfl ?_
        refine v_ldiv dX9_half_79 ⟨by omega, by omega⟩ ⟨by omega, by omega⟩ (by omega) ?_
        refine v_goto (tgt := 85) dX9_half_80 (by decide) ?_
        exact v_lret dX9_half_85 rfl (Nat.le_refl _) (Nat.le_refl _) (⟨by rw [if_pos (by omega), ← hbig], rfl⟩)
  have step : ∀ (big small n : Int), 0 ≤ n → n < 200 → 0 ≤ big ∧ big ≤ 4000000000000000000 → 0 < small ∧ small ≤ 4000000000000000000 → V l G μX9_half sw_E0 (sw_Zq G μX9_half (sw_q0 G (fun r M' => r = some (sw_j ((if what = 0 then up' else dn).tdiv (gcdI up' dn))) ∧ M' = M))) 20 [(0, sw_j up'), (2, sw_j dn), (4, sw_i what), (5, sw_j small), (7, sw_j (big % small)), (9, sw_i (n + 1))] [] M 0 0 →
      V l G μX9_half sw_E0 (sw_Zq G μX9_half (sw_q0 G (fun r M' => r = some (sw_j ((if what = 0 then up' else dn).tdiv (gcdI up' dn))) ∧ M' = M))) 20 [(0, sw_j up'), (2, sw_j dn), (4, sw_i what), (5, sw_j big), (7, sw_j small), (9, sw_i n)] [] M 0 0 := by
    intro big small n hn0 hn1 hb hs kk
    rw [← Int.tmod_eq_emod_of_nonneg hb.1] at kk
    refine v_iload dX9_half_20 rfl ?_
    refine v_sipush dX9_half_22 (by decide +kernel) ?_
    refine v_icmp_ge (tgt := 56) dX9_half_25 (by decide) ⟨by omega, by omega⟩ ⟨by omega, by omega⟩ (fun h25 => ?_) (fun h25 => ?_)
    · skip
      exfalso; omega
    · skip
      refine v_lload dX9_half_28 rfl ?_
      refine v_lconst (z := 0) dX9_half_30 (by decide +kernel) ?_
      refine v_lcmp_le (tgt := 56) dX9_half_31 dX9_half_32 (by decide) ⟨by omega, by omega⟩ ⟨by omega, by omega⟩ (fun h31 => ?_) (fun h31 => ?_)
      · skip
        exfalso; omega
      · skip
        refine v_lload dX9_half_35 rfl ?_
        refine v_lload dX9_half_37 rfl ?_
        refine v_lrem dX9_half_39 ⟨by omega, by omega⟩ ⟨by omega, by omega⟩ (by omega) ?_
        refine v_lstore dX9_half_40 (Nat.le_of_ble_eq_true rfl) ?_
        refine v_lload dX9_half_42 rfl ?_
        refine v_lstore dX9_half_44 (Nat.le_of_ble_eq_true rfl) ?_
        refine v_lload dX9_half_46 rfl ?_
        refine v_lstore dX9_half_48 (Nat.le_of_ble_eq_true rfl) ?_
        refine v_iinc dX9_half_50 rfl (Nat.le_of_ble_eq_true rfl) ?_
        refine v_goto (tgt := 20) dX9_half_53 (by decide) ?_
        exact v_to kk rfl (sw_h1 rfl (sw_h1 rfl (sw_h1 rfl (sw_h1 rfl (sw_h1 rfl (sw_h1 rfl sw_h0))))))
  have stop0 : ∀ (big n : Int), 0 ≤ n → n < 200 → 0 ≤ big ∧ big ≤ 4000000000000000000 → gcdI big 0 = gcdI up' dn → V l G μX9_half sw_E0 (sw_Zq G μX9_half (sw_q0 G (fun r M' => r = some (sw_j ((if what = 0 then up' else dn).tdiv (gcdI up' dn))) ∧ M' = M))) 20 [(0, sw_j up'), (2, sw_j dn), (4, sw_i what), (5, sw_j big), (7, sw_j 0), (9, sw_i n)] [] M 0 0 := by
    intro big n hn0 hn1 hb hg
    have e : big = gcdI up' dn := by
      rw [← hg]; unfold gcdI
      rw [show (0 : Int).natAbs = 0 from rfl, Nat.gcd_zero_right]
      omega
    refine v_iload dX9_half_20 rfl ?_
    refine v_sipush dX9_half_22 (by decide +kernel) ?_
    refine v_icmp_ge (tgt := 56) dX9_half_25 (by decide) ⟨by omega, by omega⟩ ⟨by omega, by omega⟩ (fun h25 => ?_) (fun h25 => ?_)
    · skip
      exfalso; omega
    · skip
      refine v_lload dX9_half_28 rfl ?_
      refine v_lconst (z := 0) dX9_half_30 (by decide +kernel) ?_
      refine v_lcmp_le (tgt := 56) dX9_half_31 dX9_half_32 (by decide) ⟨by omega, by omega⟩ ⟨by omega, by omega⟩ (fun h31 => ?_) (fun h31 => ?_)
      · skip
        exact v_to (last big n 0 e hb) rfl (sw_h1 rfl (sw_h1 rfl (sw_h1 rfl (sw_h1 rfl sw_h0))))
      · skip
        exfalso; omega
  have loop : ∀ (j : Nat) (big small n : Int), 0 ≤ n → n + 2 * j + 1 ≤ 200 → 0 ≤ big ∧ big ≤ 4000000000000000000 → 0 ≤ small ∧ small ≤ 4000000000000000000 → small < 2 ^ j → gcdI big small = gcdI up' dn → V l G μX9_half sw_E0 (sw_Zq G μX9_half (sw_q0 G (fun r M' => r = some (sw_j ((if what = 0 then up' else dn).tdiv (gcdI up' dn))) ∧ M' = M))) 20 [(0, sw_j up'), (2, sw_j dn), (4, sw_i what), (5, sw_j big), (7, sw_j small), (9, sw_i n)] [] M 0 0 := by
    intro j
    induction j with
    | zero =>
      intro big small n hn0 hn1 hb hs hj hg
      have e : small = 0 := by have : small < 1 := hj; omega
      subst e
      exact stop0 big n hn0 (by omega) hb hg
    | succ j ih =>
      intro big small n hn0 hn1 hb hs hj hg
      by_cases c : small = 0
      · subst c; exact stop0 big n hn0 (by omega) hb hg
      · have hr0 := Int.emod_nonneg big c
        have hr1 := Int.emod_lt_of_pos big (show 0 < small by omega)
        have hg1 := gcdI_step hb.1 (show 0 < small by omega)
        have hp : (2 : Int) ^ (j + 1) = 2 ^ j * 2 := Int.pow_succ 2 j
        refine step big small n hn0 (by omega) hb ⟨by omega, by omega⟩ ?_
        by_cases c2 : big % small < 2 ^ j
        · exact ih small (big % small) (n + 1) (by omega) (by omega) ⟨by omega, by omega⟩ ⟨by omega, by omega⟩ c2 (hg1.trans hg)
        · have hpos : (0 : Int) < 2 ^ j := Int.pow_pos (by omega)
          have hr2 : small % (big % small) = small - big % small := by
            rw [Int.emod_def]
            have : small / (big % small) = 1 := by
              have h1 : 1 ≤ small / (big % small) := Int.le_ediv_of_mul_le (by omega) (by omega)
              have h2 : small / (big % small) < 2 := Int.ediv_lt_of_lt_mul (by omega) (by omega)
              omega
            rw [this]; omega
          have hg2 := gcdI_step (a := small) (b := big % small) (by omega) (by omega)
          refine step small (big % small) (n + 1) (by omega) (by omega) ⟨by omega, by omega⟩ ⟨by omega, by omega⟩ ?_
          have := ih (big % small) (small % (big % small)) (n + 1 + 1) (by omega) (by omega) ⟨by omega, by omega⟩ ⟨by omega, by omega⟩ (by omega) (hg2.trans (hg1.trans hg))
          exact this
  have hstart : ∀ big, big = (if up' < 0 then -up' else up') → V l G μX9_half sw_E0 (sw_Zq G μX9_half (sw_q0 G (fun r M' => r = some (sw_j ((if what = 0 then up' else dn).tdiv (gcdI up' dn))) ∧ M' = M))) 20 [(0, sw_j up'), (2, sw_j dn), (4, sw_i what), (5, sw_j big), (7, sw_j dn), (9, sw_i 0)] [] M 0 0 := by
    intro big hbig
    have hb : 0 ≤ big ∧ big ≤ 4000000000000000000 := by rw [hbig]; split <;> omega
    refine loop 63 big dn 0 (by omega) (by omega) hb ⟨by omega, by omega⟩ (Int.lt_of_le_of_lt h2.2 (by decide)) ?_
    unfold gcdI
    have e : big.natAbs = up'.natAbs := by rw [hbig]; split <;> omega
    rw [e]
  refine v_lload_n dX9_half_0 rfl ?_
  refine v_lconst (z := 0) dX9_half_1 (by decide +kernel) ?_
  refine v_lcmp_ge (tgt := 11) dX9_half_2 dX9_half_3 (by decide) ⟨by omega, by omega⟩ ⟨by omega, by omega⟩ (fun h2 => ?_) (fun h2 => ?_)
  · skip
    refine v_lload_n dX9_half_11 rfl ?_
    refine v_lstore dX9_half_12 (Nat.le_of_ble_eq_true rfl) ?_
    refine v_lload_n dX9_half_14 rfl ?_
    refine v_lstore dX9_half_15 (Nat.le_of_ble_eq_true rfl) ?_
    refine v_iconst dX9_half_17 ?_
    refine v_istore dX9_half_18 (Nat.le_of_ble_eq_true rfl) ?_
    exact v_to (hstart up' (if_neg (by omega)).symm) rfl (sw_h1 rfl (sw_h1 rfl (sw_h1 rfl (sw_h1 rfl (sw_h1 rfl (sw_h1 rfl sw_h0))))))
  · skip
    refine v_lload_n dX9_half_6 rfl ?_
    refine v_lneg dX9_half_7 ?_
    refine v_goto (tgt := 12) dX9_half_8 (by decide) ?_
    refine v_lstore dX9_half_12 (Nat.le_of_ble_eq_true rfl) ?_
    refine v_lload_n dX9_half_14 rfl ?_
    refine v_lstore dX9_half_15 (Nat.le_of_ble_eq_true rfl) ?_
    refine v_iconst dX9_half_17 ?_
    refine v_istore dX9_half_18 (Nat.le_of_ble_eq_true rfl) ?_
    exact v_to (hstart (-up') (if_pos (by omega)).symm) rfl (sw_h1 rfl (sw_h1 rfl (sw_h1 rfl (sw_h1 rfl (sw_h1 rfl (sw_h1 rfl sw_h0))))))
end

