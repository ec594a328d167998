/-! the reference: what one still in would leave at -/
/-- which are still in, as bits -/
def inB (n m : Nat) (Gn : Int → Int) : Prop := n < 16 ∧ ∀ o : Nat, o < 4 → (n / 2 ^ o % 2 = 1 ↔ o < m ∧ Gn o = 0)
def ctO (n : Nat) (Ld : Int → Int) : Nat → Int → Int
  | 0, _ => 0
  | o + 1, j => ctO n Ld o j + (if Ld o = j ∧ n / 2 ^ o % 2 = 0 then 1 else 0)
theorem lm_cn {n m : Nat} {Gn Ld : Int → Int} (hm : m ≤ 4) (hn : inB n m Gn) (seat : Int) {j : Int} (hj : 0 ≤ j) : (if j = Ld seat then bc4 n else 0) + ctO n Ld m j = cn4 (lmS m Gn Ld seat 0) (lmS m Gn Ld seat 1) (lmS m Gn Ld seat 2) (lmS m Gn Ld seat 3) j := by
  have b0 := hn.2 0 (by omega)
  have b1 := hn.2 1 (by omega)
  have b2 := hn.2 2 (by omega)
  have b3 := hn.2 3 (by omega)
  have hb : bc4 n = ((n / 2 ^ 0 % 2 : Nat) : Int) + ((n / 2 ^ 1 % 2 : Nat) : Int) + ((n / 2 ^ 2 % 2 : Nat) : Int) + ((n / 2 ^ 3 % 2 : Nat) : Int) := by
    unfold bc4
    rw [show 2 ^ 0 = 1 from rfl, show 2 ^ 1 = 2 from rfl, show 2 ^ 2 = 4 from rfl, show 2 ^ 3 = 8 from rfl, Nat.div_one]
    omega
  have one : ∀ (o : Nat) (b : Nat), b < 2 → (b = 1 ↔ o < m ∧ Gn o = 0) → (if j = lmS m Gn Ld seat o then (1 : Int) else 0) = (if j = Ld seat then (b : Int) else 0) + (if o < m ∧ Ld o = j ∧ b = 0 then 1 else 0) := fun o b hb2 h => by
    unfold lmS
    by_cases c : o < m
    · rw [if_pos (show (o : Int) < (m : Int) by omega)]
      by_cases d : Gn o = 0
      · rw [if_pos d]
        have hb1 := h.mpr ⟨c, d⟩
        have hz : ¬ (o < m ∧ Ld o = j ∧ b = 0) := by omega
        rw [if_neg hz, hb1]
        split <;> omega
      · rw [if_neg d]
        have hb0 : b = 0 := by
          rcases Nat.lt_or_ge b 1 with h1 | h1
          · omega
          · exact absurd (h.mp (by omega)).2 d
        rw [hb0]
        by_cases e : j = Ld o
        · have hz : o < m ∧ Ld o = j ∧ (0 : Nat) = 0 := ⟨c, e.symm, rfl⟩
          rw [if_pos e, if_pos hz]; split <;> omega
        · have hz : ¬ (o < m ∧ Ld o = j ∧ (0 : Nat) = 0) := fun hh => e hh.2.1.symm
          rw [if_neg e, if_neg hz]; split <;> omega
    · have hz : ¬ (o < m ∧ Ld o = j ∧ b = 0) := fun hh => c hh.1
      rw [if_neg (show ¬ (o : Int) < (m : Int) by omega), if_neg (show ¬ j = -1 by omega), if_neg hz]
      have hb0 : b = 0 := by
        rcases Nat.lt_or_ge b 1 with h1 | h1
        · omega
        · exact absurd (h.mp (by omega)).1 c
      rw [hb0]
      split <;> omega
  have e0 := one 0 (n / 2 ^ 0 % 2) (Nat.mod_lt _ (by omega)) b0
  have e1 := one 1 (n / 2 ^ 1 % 2) (Nat.mod_lt _ (by omega)) b1
  have e2 := one 2 (n / 2 ^ 2 % 2) (Nat.mod_lt _ (by omega)) b2
  have e3 := one 3 (n / 2 ^ 3 % 2) (Nat.mod_lt _ (by omega)) b3
  have hc : ctO n Ld m j = (if 0 < m ∧ Ld ((0 : Nat) : Int) = j ∧ n / 2 ^ 0 % 2 = 0 then 1 else 0) + (if 1 < m ∧ Ld ((1 : Nat) : Int) = j ∧ n / 2 ^ 1 % 2 = 0 then 1 else 0) + (if 2 < m ∧ Ld ((2 : Nat) : Int) = j ∧ n / 2 ^ 2 % 2 = 0 then 1 else 0) + (if 3 < m ∧ Ld ((3 : Nat) : Int) = j ∧ n / 2 ^ 3 % 2 = 0 then 1 else 0) := by
    have h5 : m = 0 ∨ m = 1 ∨ m = 2 ∨ m = 3 ∨ m = 4 := by omega
    rcases h5 with rfl | rfl | rfl | rfl | rfl <;> simp [ctO]
  show _ = (if j = lmS m Gn Ld seat ((0 : Nat) : Int) then (1 : Int) else 0) + (if j = lmS m Gn Ld seat ((1 : Nat) : Int) then (1 : Int) else 0) + (if j = lmS m Gn Ld seat ((2 : Nat) : Int) then (1 : Int) else 0) + (if j = lmS m Gn Ld seat ((3 : Nat) : Int) then (1 : Int) else 0)
  rw [e0, e1, e2, e3, hc, hb]
  by_cases c : j = Ld seat
  · rw [if_pos c, if_pos c, if_pos c, if_pos c, if_pos c]; omega
  · rw [if_neg c, if_neg c, if_neg c, if_neg c, if_neg c]; omega

