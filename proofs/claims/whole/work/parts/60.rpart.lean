/-! the reference: HELD; the common part of two numbers -/
section
variable {l : Launch} {G : sw_G} {μ : sw_Mt} {E : State → (Nat → Prop) → Prop} {Z : sw_Z} {pc ix : Nat} {lv : List (Nat × Value)} {st : List Value} {M : sw_M} {uc us : Nat}
theorem v_labs {z : Int} (hz : sw_rl z) (hl : Cond.methodLink (mY μ).cls ix Lib.MathLoose.abs_long.x ∈ sw_U) (hF : 1 ≤ mF μ ∧ (st.map fun v => v.category).sum + 13 ≤ 64 * mF μ) (hu : uc ≤ mK μ) (hv : us ≤ mS μ) (hd : decode (mC μ) pc = .ok (.invokestatic ix, 3)) (k : V l G μ E Z (pc + 3) lv (sw_j (if 0 < z then z else -z) :: st) M uc us) : V l G μ E Z pc lv (sw_j z :: st) M uc us := by
  intro p e R s m args below meth c A H locs ws ls C hP hD hS hR hl'
  refine va_mabs_long C.1 C.2.1 (C.2.2.1.trans hl'.1.symm) C.2.2.2.1 (C.2.2.2.2.1 _ (List.mem_cons_of_mem _ hl)) (C.2.2.2.2.1 _ (List.mem_cons_of_mem _ uq_abs_s)) (C.2.2.2.2.1 _ (List.mem_cons_of_mem _ uq_ini)) (C.2.2.2.2.1 _ (List.mem_cons_of_mem _ uq_abs_c)) (Nat.le_trans hF.1 C.2.2.2.2.2.2.2.1) (Nat.le_trans hF.2 C.2.2.2.2.2.2.2.2.1) (Nat.le_trans hu C.2.2.2.2.2.2.2.2.2.1) (Nat.le_trans hv C.2.2.2.2.2.2.2.2.2.2.1) hd ?_
  have e1 : (if 0 < jN z then jN z else -jN z) = jN (if 0 < z then z else -z) := by
    have h0 : (0 : Int64) = jN 0 := rfl
    by_cases c : 0 < z
    · rw [if_pos c, if_pos (by rw [h0]; exact (jN_lt ⟨by omega, by omega⟩ hz).mpr c)]
    · rw [if_neg c, if_neg (by rw [h0]; exact fun h => c ((jN_lt ⟨by omega, by omega⟩ hz).mp h)), jN_neg]
  rw [e1]
  exact k p e R s m args below meth c A H locs ws ls C hP hD hS hR hl'
end
/-- Fibonacci's numbers, by sums -/
def fbl : Nat → Int → Int → Int
  | 0, a, _ => a
  | n + 1, a, b => fbl n b (a + b)
theorem fbl_step : ∀ (n : Nat) (a b : Int), fbl (n + 2) a b = fbl (n + 1) a b + fbl n a b
  | 0, a, b => by show a + b = b + a; omega
  | n + 1, a, b => fbl_step n b (a + b)
theorem fbl_mono : ∀ (n : Nat) (a b : Int), 0 ≤ a → 0 ≤ b → 0 ≤ fbl n a b
  | 0, a, _, h, _ => h
  | n + 1, a, b, h, k => fbl_mono n b (a + b) k (by omega)
/-- the reference's divisor with so many frames -/
def μdv (n : Nat) : sw_Mt := (yX10_divisor, cX10_divisor, 4, some .long, n, 0, 0)
theorem gcdI_zero {a : Int} (h : 0 ≤ a) : gcdI a 0 = a := by
  unfold gcdI
  rw [show (0 : Int).natAbs = 0 from rfl, Nat.gcd_zero_right]
  omega
theorem gcdI_comm (a b : Int) : gcdI a b = gcdI b a := by
  unfold gcdI
  rw [Nat.gcd_comm]
theorem gcdI_abs (a b : Int) : gcdI a (if 0 < b then b else -b) = gcdI a b := by
  unfold gcdI
  split
  · rfl
  · rw [Int.natAbs_neg]
theorem gcdI_pos {a b : Int} (h : 0 < b) : 0 < gcdI a b := by
  unfold gcdI
  have := Nat.gcd_pos_of_pos_right (m := a.natAbs) (n := b.natAbs) (by omega)
  omega
theorem gcdI_le {a b : Int} (h : 0 < b) : gcdI a b ≤ b := by
  unfold gcdI
  have := Nat.gcd_le_right (n := b.natAbs) a.natAbs (by omega)
  omega
section
variable {l : Launch} {G : sw_G} {M : sw_M} {x : Nat → Int} {a : Nat → Int → Int}
theorem K10_dv : ∀ (n : Nat) (p q : Int), 0 ≤ q → q < p → p ≤ 4000000000000000000 → (q < fbl (n + 1) 0 1 ∨ p < fbl (n + 2) 0 1) → Kt l G (μdv (n + 1)) [sw_j p, sw_j q] M (fun r M' => r = some (sw_j (gcdI p q)) ∧ M' = M)
  | 0, p, q, h0, h1, h2, h3 => by
    have e : q = 0 := by
      have e1 : fbl (0 + 1) 0 1 = 1 := rfl
      have e2 : fbl (0 + 2) 0 1 = 1 := rfl
      rw [e1, e2] at h3
      omega
    subst e
    refine KtA.of (by decide +kernel) (Nat.le_of_ble_eq_true rfl) ?_
    refine v_lload_n dX10_divisor_0 rfl ?_
    refine v_lconst (z := 0) dX10_divisor_1 (by decide +kernel) ?_
    refine v_lcmp_ne (tgt := 10) dX10_divisor_2 dX10_divisor_3 (by decide) ⟨by omega, by omega⟩ ⟨by omega, by omega⟩ (fun h2 => ?_) (fun h2 => ?_)
    · skip
      exact absurd rfl h2
    · skip
      refine v_lload_n dX10_divisor_6 rfl ?_
      refine v_goto (tgt := 17) dX10_divisor_7 (by decide) ?_
      exact v_lret dX10_divisor_17 rfl (Nat.le_refl _) (Nat.le_refl _) (⟨by rw [gcdI_zero (show 0 ≤ p by omega)], rfl⟩)
  | n + 1, p, q, h0, h1, h2, h3 => by
    have fs := fbl_step (n + 1) 0 1
    refine KtA.of (show plainName RX10 = true by decide +kernel) (Nat.le_of_ble_eq_true rfl) ?_
    by_cases cq : q = 0
    · subst cq
      refine v_lload_n dX10_divisor_0 rfl ?_
      refine v_lconst (z := 0) dX10_divisor_1 (by decide +kernel) ?_
      refine v_lcmp_ne (tgt := 10) dX10_divisor_2 dX10_divisor_3 (by decide) ⟨by omega, by omega⟩ ⟨by omega, by omega⟩ (fun h2 => ?_) (fun h2 => ?_)
      · skip
        exact absurd rfl h2
      · skip
        refine v_lload_n dX10_divisor_6 rfl ?_
        refine v_goto (tgt := 17) dX10_divisor_7 (by decide) ?_
        exact v_lret dX10_divisor_17 rfl (Nat.le_refl _) (Nat.le_refl _) (⟨by rw [gcdI_zero (show 0 ≤ p by omega)], rfl⟩)
    · have hm : p.tmod q = p % q := Int.tmod_eq_emod_of_nonneg (by omega)
      have hr0 : 0 ≤ p % q := Int.emod_nonneg p cq
      have hr1 : p % q < q := Int.emod_lt_of_pos p (by omega)
      have hr2 : p % q ≤ p - q := by
        have e1 := Int.mul_ediv_add_emod p q
        have e2 : 1 ≤ p / q := (Int.le_ediv_iff_mul_le (by omega)).mpr (by omega)
        have e3 : q * 1 ≤ q * (p / q) := Int.mul_le_mul_of_nonneg_left e2 (by omega)
        omega
      have hf : p % q < fbl (n + 1) 0 1 ∨ q < fbl (n + 2) 0 1 := by
        rcases h3 with h3 | h3
        · exact Or.inr h3
        · by_cases c : q < fbl (n + 2) 0 1
          · exact Or.inr c
          · left
            have e1 : fbl (n + 1 + 2) 0 1 = fbl (n + 1 + 1) 0 1 + fbl (n + 1) 0 1 := fs
            rw [e1] at h3
            have e2 : fbl (n + 1 + 1) 0 1 = fbl (n + 2) 0 1 := rfl
            omega
      refine v_lload_n dX10_divisor_0 rfl ?_
      refine v_lconst (z := 0) dX10_divisor_1 (by decide +kernel) ?_
      refine v_lcmp_ne (tgt := 10) dX10_divisor_2 dX10_divisor_3 (by decide) ⟨by omega, by omega⟩ ⟨by omega, by omega⟩ (fun h2 => ?_) (fun h2 => ?_)
      · skip
        refine v_lload_n dX10_divisor_10 rfl ?_
        refine v_lload_n dX10_divisor_11 rfl ?_
        refine v_lload_n dX10_divisor_12 rfl ?_
        refine v_lrem dX10_divisor_13 ⟨by omega, by omega⟩ ⟨by omega, by omega⟩ cq ?_
        rw [hm]
        refine v_callS (μ' := μdv (n + 1)) (K10_dv n q (p % q) hr0 hr1 (by omega) hf) ⟨rfl, rfl⟩ (Nat.le_refl _) (Nat.le_refl _) ⟨ml_X10_152, mm_X10_divisor⟩ ⟨Nat.le_refl _, by show 8 + (4 + 11) + 64 * (n + 1) ≤ 64 * (n + 1 + 1); omega⟩ mp_X10_divisor rfl rfl (Nat.le_of_ble_eq_true rfl) dX10_divisor_14 (fun r M' h => ?_)
        obtain ⟨rfl, rfl⟩ := h
        exact v_lret dX10_divisor_17 rfl (Nat.le_refl _) (Nat.le_refl _) (⟨by rw [gcdI_step (by omega) (by omega)], rfl⟩)
      · skip
        exact absurd (by assumption) cq
theorem K10_divisor {p q : Int} (h0 : 0 ≤ p ∧ p ≤ 4000000000000000000) (h1 : 0 ≤ q ∧ q ≤ 4000000000000000000) : Kt l G μX10_divisor [sw_j p, sw_j q] M (fun r M' => r = some (sw_j (gcdI p q)) ∧ M' = M) := by
  refine KtA.of (by decide +kernel) (Nat.le_of_ble_eq_true rfl) ?_
  by_cases cq : q = 0
  · subst cq
    refine v_lload_n dX10_divisor_0 rfl ?_
    refine v_lconst (z := 0) dX10_divisor_1 (by decide +kernel) ?_
    refine v_lcmp_ne (tgt := 10) dX10_divisor_2 dX10_divisor_3 (by decide) ⟨by omega, by omega⟩ ⟨by omega, by omega⟩ (fun h2 => ?_) (fun h2 => ?_)
    · skip
      exact absurd rfl h2
    · skip
      refine v_lload_n dX10_divisor_6 rfl ?_
      refine v_goto (tgt := 17) dX10_divisor_7 (by decide) ?_
      exact v_lret dX10_divisor_17 rfl (Nat.le_refl _) (Nat.le_refl _) (⟨by rw [gcdI_zero h0.1], rfl⟩)
  · have hm : p.tmod q = p % q := Int.tmod_eq_emod_of_nonneg (by omega)
    have hr0 : 0 ≤ p % q := Int.emod_nonneg p cq
    have hr1 : p % q < q := Int.emod_lt_of_pos p (by omega)
    have hf : (4000000000000000000 : Int) < fbl 110 0 1 := by decide +kernel
    refine v_lload_n dX10_divisor_0 rfl ?_
    refine v_lconst (z := 0) dX10_divisor_1 (by decide +kernel) ?_
    refine v_lcmp_ne (tgt := 10) dX10_divisor_2 dX10_divisor_3 (by decide) ⟨by omega, by omega⟩ ⟨by omega, by omega⟩ (fun h2 => ?_) (fun h2 => ?_)
    · skip
      refine v_lload_n dX10_divisor_10 rfl ?_
      refine v_lload_n dX10_divisor_11 rfl ?_
      refine v_lload_n dX10_divisor_12 rfl ?_
      refine v_lrem dX10_divisor_13 ⟨by omega, by omega⟩ ⟨by omega, by omega⟩ cq ?_
      rw [hm]
      refine v_callS (μ' := μdv 109) (K10_dv 108 q (p % q) hr0 hr1 (by omega) (Or.inr (show q < fbl 110 0 1 by omega))) ⟨rfl, rfl⟩ (Nat.le_refl _) (Nat.le_refl _) ⟨ml_X10_152, mm_X10_divisor⟩ ⟨Nat.le_of_ble_eq_true rfl, Nat.le_of_ble_eq_true rfl⟩ mp_X10_divisor rfl rfl (Nat.le_of_ble_eq_true rfl) dX10_divisor_14 (fun r M' h => ?_)
      obtain ⟨rfl, rfl⟩ := h
      exact v_lret dX10_divisor_17 rfl (Nat.le_refl _) (Nat.le_refl _) (⟨by rw [gcdI_step (by omega) (by omega)], rfl⟩)
    · skip
      exact absurd (by assumption) cq
theorem K10_part {p q what : Int} (h0 : -4000000000000000000 ≤ p ∧ p ≤ 4000000000000000000) (h1 : 0 < q ∧ q ≤ 4000000000000000000) (hg : sw_rg what) : Kt l G μX10_part [sw_j p, sw_j q, sw_i what] M (fun r M' => r = some (sw_j ((if what = 0 then p else q).tdiv (gcdI p q))) ∧ M' = M) := by
  refine KtA.of (by decide +kernel) (Nat.le_of_ble_eq_true rfl) ?_
  have g0 := gcdI_pos (a := p) h1.1
  have g1 := gcdI_le (a := p) h1.1
  refine v_lload_n dX10_part_0 rfl ?_
  refine v_lload_n dX10_part_1 rfl ?_
  refine v_labs ⟨by omega, by omega⟩ ql_X10_156 ⟨Nat.le_of_ble_eq_true rfl, Nat.le_of_ble_eq_true rfl⟩ (Nat.le_refl _) (Nat.le_refl _) dX10_part_2 ?_
  refine v_callS (K10_divisor ⟨by omega, by omega⟩ ⟨by split <;> omega, by split <;> omega⟩) ⟨rfl, rfl⟩ (Nat.le_refl _) (Nat.le_refl _) ⟨ml_X10_152, mm_X10_divisor⟩ ⟨(Nat.le_of_ble_eq_true rfl), (Nat.le_of_ble_eq_true rfl)⟩ mp_X10_divisor rfl rfl (Nat.le_of_ble_eq_true rfl) dX10_part_5 (fun r M' h => ?_)
  obtain ⟨rfl, rfl⟩ := h
  rw [gcdI_abs, gcdI_comm q p]
  refine v_lstore dX10_part_8 (Nat.le_of_ble_eq_true rfl) ?_
  refine v_iload dX10_part_10 rfl ?_
  refine v_if_ne (tgt := 22) dX10_part_12 (by decide) hg (fun q0 => ?_) (fun q0 => ?_)
  · skip
    refine v_lload_n dX10_part_22 rfl ?_
    refine v_lload dX10_part_23 rfl ?_
    refine v_ldiv dX10_part_25 ⟨by omega, by omega⟩ ⟨by omega, by omega⟩ (by omega) ?_
    exact v_lret dX10_part_26 rfl (Nat.le_refl _) (Nat.le_refl _) (⟨by rw [if_neg q0], rfl⟩)
  · skip
    refine v_lload_n dX10_part_15 rfl ?_
    refine v_lload dX10_part_16 rfl ?_
    refine v_ldiv dX10_part_18 ⟨by omega, by omega⟩ ⟨by omega, by omega⟩ (by omega) ?_
    refine v_goto (tgt := 26) dX10_part_19 (by decide) ?_
    exact v_lret dX10_part_26 rfl (Nat.le_refl _) (Nat.le_refl _) (⟨by rw [if_pos q0], rfl⟩)
theorem K10_heldNow {s p q r' s' : Int} {σ : SaleT} (hM : RS G M x a) (hr : rowR a s σ) (hs : 0 ≤ s ∧ s < 9) (hwf : wfS σ) (hS : ∀ k, 0 ≤ k → k < 5 → a 15 k = cn4 p q r' s' k) (hp : soN σ p) (hq : soN σ q) (hr' : soN σ r') (hs' : soN σ s') : Kt l G μX10_heldNow [.ref (sw_al G 70), sw_i s] M (fun r M' => ∃ x', r = some (sw_i (hld σ p q r' s')) ∧ RS G M' x' a ∧ frR M M' ∧ xfr [16, 17] x x') := by
  refine KtA.of (by decide +kernel) (Nat.le_of_ble_eq_true rfl) ?_
  have hF : frR M M := frR.rf
  have htr := hwf.2.1
  have b1 := up_bd hwf p q r' s' (n := (sTr σ).toNat) (by omega)
  have b2 := dn_bd hwf p q r' s' (n := (sTr σ).toNat) (by omega)
  have fr : xfr [16, 17] x (upn (upn x 16 (upS σ p q r' s' (sTr σ).toNat)) 17 (dnS σ p q r' s' (sTr σ).toNat)) := (xfr.rf.up (by simp)).up (by simp)
  refine v_aload_n dX10_heldNow_0 rfl ?_
  refine v_iload_n dX10_heldNow_1 rfl ?_
  refine v_callV (ci := 10) (K10_weigh hM hr hs hwf hS hp hq hr' hs') ⟨rfl, rfl⟩ (Nat.le_refl _) (Nat.le_refl _) hM.1 rfl ⟨ml_X10_142, mm_X10_weigh⟩ ⟨(Nat.le_of_ble_eq_true rfl), (Nat.le_of_ble_eq_true rfl)⟩ mp_X10_weigh rfl rfl (Nat.le_of_ble_eq_true rfl) dX10_heldNow_2 (fun r M' h => ?_)
  obtain ⟨rfl, hM1, hF1⟩ := h
  replace hM := hM1
  replace hF := hF.tr hF1
  obtain ⟨U, hU⟩ : ∃ U, upS σ p q r' s' (sTr σ).toNat = U := ⟨_, rfl⟩
  obtain ⟨D, hD⟩ : ∃ D, dnS σ p q r' s' (sTr σ).toNat = D := ⟨_, rfl⟩
  have hh : hld σ p q r' s' = if 0 < D then U / D else 0 := by unfold hld; rw [hU, hD]
  rw [hU, hD] at hM fr
  rw [hU] at b1
  rw [hD] at b2
  have f16 : upn (upn x 16 U) 17 D 16 = U := (upn_o (by decide)).trans upn_s
  refine v_aload_n dX10_heldNow_5 rfl ?_
  refine v_rgj 17 hM upn_s fl_X10_139 rfl dX10_heldNow_6 ?_
  refine v_lconst (z := 0) dX10_heldNow_9 (by decide +kernel) ?_
  refine v_lcmp_ne (tgt := 18) dX10_heldNow_10 dX10_heldNow_11 (by decide) ⟨by omega, by omega⟩ ⟨by omega, by omega⟩ (fun q1 => ?_) (fun q1 => ?_)
  · skip
    refine v_aload_n dX10_heldNow_18 rfl ?_
    refine v_rgj 16 hM f16 fl_X10_135 rfl dX10_heldNow_19 ?_
    refine v_aload_n dX10_heldNow_22 rfl ?_
    refine v_rgj 17 hM upn_s fl_X10_139 rfl dX10_heldNow_23 ?_
    refine v_ldiv dX10_heldNow_26 ⟨by omega, by omega⟩ ⟨by omega, by omega⟩ q1 ?_
    refine v_l2i dX10_heldNow_27 ?_
    exact v_iret dX10_heldNow_28 rfl (Nat.le_refl _) (Nat.le_refl _) (⟨_, by rw [hh, if_pos (by omega), Int.tdiv_eq_ediv_of_nonneg b1.1], hM, hF, fr⟩)
  · skip
    refine v_iconst dX10_heldNow_14 ?_
    refine v_goto (tgt := 28) dX10_heldNow_15 (by decide) ?_
    exact v_iret dX10_heldNow_28 rfl (Nat.le_refl _) (Nat.le_refl _) (⟨_, by rw [hh, if_neg (by omega)], hM, hF, fr⟩)
theorem K10_held {s p q r' : Int} {σ : SaleT} (hM : RS G M x a) (hr : rowR a s σ) (hs : 0 ≤ s ∧ s < 9) (hwf : wfS σ) (hp : soN σ p) (hq : soN σ q) (hr' : soN σ r') : Kt l G μX10_held [.ref (sw_al G 70), sw_i s, sw_i p, sw_i q, sw_i r'] M (fun r M' => ∃ x' a', r = some (sw_i (hld σ p q r' (-1))) ∧ RS G M' x' a' ∧ frR M M' ∧ xfr [16, 17] x x' ∧ afr [15] a a') := by
  refine KtA.of (by decide +kernel) (Nat.le_of_ble_eq_true rfl) ?_
  have hF : frR M M := frR.rf
  have hsg := hwf.1
  have rgs : ∀ {z}, soN σ z → sw_rg z := fun h => by unfold soN at h; exact ⟨by omega, by omega⟩
  refine v_aload_n dX10_held_0 rfl ?_
  refine v_iload_n dX10_held_1 rfl ?_
  refine v_iload_n dX10_held_2 rfl ?_
  refine v_iload dX10_held_3 rfl ?_
  refine v_iconst dX10_held_5 ?_
  refine v_callV (ci := 10) (K10_see hM (rgs hp) (rgs hq) (rgs hr') (s' := -1) ⟨by omega, by omega⟩) ⟨rfl, rfl⟩ (Nat.le_refl _) (Nat.le_refl _) hM.1 rfl ⟨ml_X10_145, mm_X10_see⟩ ⟨(Nat.le_of_ble_eq_true rfl), (Nat.le_of_ble_eq_true rfl)⟩ mp_X10_see rfl rfl (Nat.le_of_ble_eq_true rfl) dX10_held_6 (fun r M' h => ?_)
  obtain ⟨S, rfl, hM1, hF1, hS⟩ := h
  replace hM := hM1
  replace hF := hF.tr hF1
  refine v_aload_n dX10_held_9 rfl ?_
  refine v_iload_n dX10_held_10 rfl ?_
  refine v_callV (ci := 10) (K10_heldNow hM (hr.fr (K := [15]) (afr.rf.up (by simp)) (by decide)) hs hwf (p := p) (q := q) (r' := r') (s' := -1) (fun k k0 k1 => by rw [upa_s]; exact hS k k0 k1) hp hq hr' (Or.inl rfl)) ⟨rfl, rfl⟩ (Nat.le_refl _) (Nat.le_refl _) hM.1 rfl ⟨ml_X10_149, mm_X10_heldNow⟩ ⟨(Nat.le_of_ble_eq_true rfl), (Nat.le_of_ble_eq_true rfl)⟩ mp_X10_heldNow rfl rfl (Nat.le_of_ble_eq_true rfl) dX10_held_11 (fun r M' h => ?_)
  obtain ⟨x', rfl, hM1, hF1, hx⟩ := h
  exact v_iret dX10_held_14 rfl (Nat.le_refl _) (Nat.le_refl _) (⟨x', _, rfl, hM1, hF.tr hF1, hx, afr.rf.up (by simp)⟩)
end

