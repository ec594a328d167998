/-! a round of LEARN: what stands of the bids is the class's -/
section
variable {Rw Sg : Int → Int} {le : Int} {m : Nat}
theorem hg_rkb (hle : 0 ≤ le) : ∀ k : Nat, bbO (bdN Rw Sg) k → ∀ but : Int, (∀ i : Nat, i < k → (i : Int) ≠ but) → (rkb (bdN Rw Sg) le k).1 = hg Rw Sg le but k
  | 0, _, _, _ => rfl
  | k + 1, h, but, hb => by
    have o := rkb_ok hle k (fun i i0 i1 => h i i0 (by omega))
    have s := rks_ok (b := bdN Rw Sg k) hle (h k (by omega) (by omega)) (v := nwB (bdN Rw Sg) le k) rfl o.1 o.2.1
    have ih := hg_rkb hle k (fun i i0 i1 => h i i0 (by omega)) but (fun i hi => hb i (by omega))
    have hk := hb k (by omega)
    show (rks le (rkb (bdN Rw Sg) le k) (bdN Rw Sg k)).1 = if (k : Int) ≠ but ∧ le ≤ bdN Rw Sg k ∧ hg Rw Sg le but k < bdN Rw Sg k then bdN Rw Sg k else hg Rw Sg le but k
    rw [s.2.2.2.2.2.2.1, ← ih]
    have hv : bdN Rw Sg k < le ∧ nwB (bdN Rw Sg) le k = -1 ∨ ¬ bdN Rw Sg k < le ∧ nwB (bdN Rw Sg) le k = bdN Rw Sg k := by unfold nwB; split <;> omega
    by_cases c : (k : Int) ≠ but ∧ le ≤ bdN Rw Sg k ∧ (rkb (bdN Rw Sg) le k).1 < bdN Rw Sg k
    · rw [if_pos c, if_pos (by omega)]; omega
    · rw [if_neg c, if_neg (by omega)]
theorem ctH_0 {z : Int} : ∀ k : Nat, (∀ i : Nat, i < k → bdN Rw Sg i ≠ z) → ctH Rw Sg z k = 0
  | 0, _ => rfl
  | k + 1, h => by
    show (if bdN Rw Sg k = z then ctH Rw Sg z k + 1 else ctH Rw Sg z k) = 0
    rw [if_neg (h k (by omega)), ctH_0 k (fun i hi => h i (by omega))]
theorem ctH_rkb (hle : 0 ≤ le) : ∀ k : Nat, bbO (bdN Rw Sg) k → (rkb (bdN Rw Sg) le k).1 ≠ -1 → (rkb (bdN Rw Sg) le k).2.1 = ctH Rw Sg (rkb (bdN Rw Sg) le k).1 k
  | 0, _, h => absurd rfl h
  | k + 1, h, hne => by
    have hB : bbO (bdN Rw Sg) k := fun i i0 i1 => h i i0 (by omega)
    have o := rkb_ok hle k hB
    have s := rks_ok (b := bdN Rw Sg k) hle (h k (by omega) (by omega)) (v := nwB (bdN Rw Sg) le k) rfl o.1 o.2.1
    have ih := ctH_rkb hle k hB
    have hmx := fun (i : Int) i0 i1 => rkb_max (B := bdN Rw Sg) hle k hB (i := i) i0 i1
    have hv : bdN Rw Sg k < le ∧ nwB (bdN Rw Sg) le k = -1 ∨ ¬ bdN Rw Sg k < le ∧ nwB (bdN Rw Sg) le k = bdN Rw Sg k := by unfold nwB; split <;> omega
    have hst : rkb (bdN Rw Sg) le (k + 1) = rks le (rkb (bdN Rw Sg) le k) (bdN Rw Sg k) := rfl
    have s1 := s.2.2.2.2.2.2.1
    have s2 := s.2.2.2.2.2.2.2
    have oq := o.1
    unfold qkO at oq
    rw [hst] at hne ⊢
    show _ = if bdN Rw Sg k = (rks le (rkb (bdN Rw Sg) le k) (bdN Rw Sg k)).1 then ctH Rw Sg (rks le (rkb (bdN Rw Sg) le k) (bdN Rw Sg k)).1 k + 1 else ctH Rw Sg (rks le (rkb (bdN Rw Sg) le k) (bdN Rw Sg k)).1 k
    rw [s1] at hne ⊢
    rw [s2]
    by_cases c : (rkb (bdN Rw Sg) le k).1 < nwB (bdN Rw Sg) le k
    · rw [if_pos c, if_pos c, if_pos (by omega), ctH_0 k (fun i hi => ?_)]
      · rfl
      · have h1 := hmx i (by omega) (by omega)
        have hvi : bdN Rw Sg i < le ∧ nwB (bdN Rw Sg) le i = -1 ∨ ¬ bdN Rw Sg i < le ∧ nwB (bdN Rw Sg) le i = bdN Rw Sg i := by unfold nwB; split <;> omega
        omega
    · rw [if_neg c] at hne ⊢
      rw [if_neg c]
      have ih := ih hne
      by_cases d : nwB (bdN Rw Sg) le k = (rkb (bdN Rw Sg) le k).1 ∧ (rkb (bdN Rw Sg) le k).1 ≠ -1
      · rw [if_pos d, if_pos (by omega), ih]
      · rw [if_neg d, if_neg (by omega), ih]
theorem nx_hg (hle : 0 ≤ le) {w : Nat} {H : Int} (hH : bdN Rw Sg w = H) (hHl : le ≤ H) : ∀ k : Nat, w < k → bbO (bdN Rw Sg) k → (∀ i : Nat, i < k → bdN Rw Sg i ≤ H) → (rkb (bdN Rw Sg) le k).1 = H ∧ (rkb (bdN Rw Sg) le k).2.2.1 = hg Rw Sg le w k
  | 0, h, _, _ => by omega
  | k + 1, h, hB, hmx => by
    have hBk : bbO (bdN Rw Sg) k := fun i i0 i1 => hB i i0 (by omega)
    have o := rkb_ok hle k hBk
    have oq := o.1
    unfold qkO at oq
    have hbk := hB k (by omega) (by omega)
    have hmk := hmx k (by omega)
    show (rks le (rkb (bdN Rw Sg) le k) (bdN Rw Sg k)).1 = H ∧ (rks le (rkb (bdN Rw Sg) le k) (bdN Rw Sg k)).2.2.1 = if (k : Int) ≠ (w : Int) ∧ le ≤ bdN Rw Sg k ∧ hg Rw Sg le w k < bdN Rw Sg k then bdN Rw Sg k else hg Rw Sg le w k
    by_cases c : w = k
    · subst c
      have e := hg_rkb hle w hBk (w : Int) (fun i hi => by omega)
      have hq1 : (rkb (bdN Rw Sg) le w).1 ≤ H := by
        have : ∀ n : Nat, n ≤ w → (rkb (bdN Rw Sg) le n).1 ≤ H := by
          intro n
          induction n with
          | zero => intro _; show (-1 : Int) ≤ H; omega
          | succ n ih =>
            intro hn
            have ih := ih (by omega)
            have o' := rkb_ok (B := bdN Rw Sg) hle n (fun i i0 i1 => hB i i0 (by omega))
            have s := rks_ok (b := bdN Rw Sg n) hle (hB n (by omega) (by omega)) (v := nwB (bdN Rw Sg) le n) rfl o'.1 o'.2.1
            show (rks le (rkb (bdN Rw Sg) le n) (bdN Rw Sg n)).1 ≤ H
            have hm2 := hmx n (by omega)
            have hv : nwB (bdN Rw Sg) le n = -1 ∨ nwB (bdN Rw Sg) le n = bdN Rw Sg n := by unfold nwB; split <;> omega
            rw [s.2.2.2.2.2.2.1]
            split <;> omega
        exact this w (Nat.le_refl _)
      rw [if_neg (fun h => h.1 rfl), ← e, hH]
      unfold rks
      rw [if_neg (by omega)]
      by_cases d : (rkb (bdN Rw Sg) le w).1 < H
      · rw [if_pos d]; exact ⟨rfl, rfl⟩
      · rw [if_neg d, if_pos (by omega)]; exact ⟨by dsimp only; omega, by dsimp only; omega⟩
    · obtain ⟨i1, i2⟩ := nx_hg hle hH hHl k (by omega) hBk (fun i hi => hmx i (by omega))
      rw [← i2]
      have hkw : (k : Int) ≠ (w : Int) := by omega
      unfold rks
      by_cases d1 : bdN Rw Sg k < le
      · rw [if_pos d1, if_neg (fun h => by omega)]; exact ⟨i1, rfl⟩
      · rw [if_neg d1, if_neg (by omega)]
        by_cases d2 : bdN Rw Sg k = (rkb (bdN Rw Sg) le k).1
        · rw [if_pos d2]
          refine ⟨i1, ?_⟩
          dsimp only
          by_cases d3 : (k : Int) ≠ (w : Int) ∧ le ≤ bdN Rw Sg k ∧ (rkb (bdN Rw Sg) le k).2.2.1 < bdN Rw Sg k
          · rw [if_pos d3]
          · rw [if_neg d3]; omega
        · rw [if_neg d2]
          by_cases d4 : (rkb (bdN Rw Sg) le k).2.2.1 < bdN Rw Sg k
          · rw [if_pos d4, if_pos ⟨hkw, by omega, d4⟩]; exact ⟨i1, rfl⟩
          · rw [if_neg d4, if_neg (fun h => d4 h.2.2)]; exact ⟨i1, rfl⟩
/-- what a winner pays is the class's -/
theorem pay_prL {σ : SaleT} (hle : 0 ≤ sLe σ) (hB : bbO (bdN Rw Sg) m) {w : Nat} (hw : w < m) (hwin : bdN Rw Sg w = (rkb (bdN Rw Sg) (sLe σ) m).1) (hne : (rkb (bdN Rw Sg) (sLe σ) m).1 ≠ -1) : payB (sWy σ) (sLe σ) (rkb (bdN Rw Sg) (sLe σ) m) = prL σ Rw Sg m w := by
  have o := (rkb_ok hle m hB).1
  unfold qkO at o
  have hmx : ∀ i : Nat, i < m → bdN Rw Sg i ≤ (rkb (bdN Rw Sg) (sLe σ) m).1 := fun i hi => by
    have h1 := rkb_max (B := bdN Rw Sg) hle m hB (i := (i : Int)) (by omega) (by omega)
    have hvi : bdN Rw Sg i < sLe σ ∧ nwB (bdN Rw Sg) (sLe σ) i = -1 ∨ ¬ bdN Rw Sg i < sLe σ ∧ nwB (bdN Rw Sg) (sLe σ) i = bdN Rw Sg i := by unfold nwB; split <;> omega
    omega
  have h := (nx_hg hle hwin (by omega) m hw hB hmx).2
  unfold payB prL
  rw [h, hwin]
end

