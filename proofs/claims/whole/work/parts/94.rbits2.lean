/-! who is still in: bits and the class's marks -/
theorem in_ct {n m : Nat} {Gn : Int → Int} (hm : m ≤ 4) (h : inB n m Gn) : bc4 n = ct0 Gn m := by
  have b0 := h.2 0 (by omega)
  have b1 := h.2 1 (by omega)
  have b2 := h.2 2 (by omega)
  have b3 := h.2 3 (by omega)
  have hn := h.1
  unfold bc4
  rw [show 2 ^ 0 = 1 from rfl, Nat.div_one] at b0
  rw [show 2 ^ 1 = 2 from rfl] at b1
  rw [show 2 ^ 2 = 4 from rfl] at b2
  rw [show 2 ^ 3 = 8 from rfl] at b3
  have one : ∀ (o b : Nat), b < 2 → (b = 1 ↔ o < m ∧ Gn o = 0) → o < m → (b : Int) = if Gn o = 0 then 1 else 0 := fun o b hb hh ho => by
    by_cases c : Gn o = 0
    · rw [if_pos c, hh.mpr ⟨ho, c⟩]; rfl
    · rw [if_neg c]
      have : ¬ b = 1 := fun e => c (hh.mp e).2
      omega
  have nil : ∀ (o b : Nat), b < 2 → (b = 1 ↔ o < m ∧ Gn o = 0) → ¬ o < m → b = 0 := fun o b hb hh ho => by
    have : ¬ b = 1 := fun e => ho (hh.mp e).1
    omega
  have m0 : n % 2 < 2 := Nat.mod_lt _ (by omega)
  have m1 : n / 2 % 2 < 2 := Nat.mod_lt _ (by omega)
  have m2 : n / 4 % 2 < 2 := Nat.mod_lt _ (by omega)
  have m3 : n / 8 % 2 < 2 := Nat.mod_lt _ (by omega)
  have h5 : m = 0 ∨ m = 1 ∨ m = 2 ∨ m = 3 ∨ m = 4 := by omega
  rcases h5 with rfl | rfl | rfl | rfl | rfl
  · have z0 := nil 0 _ m0 b0 (by omega)
    have z1 := nil 1 _ m1 b1 (by omega)
    have z2 := nil 2 _ m2 b2 (by omega)
    have z3 := nil 3 _ m3 b3 (by omega)
    rw [z0, z1, z2, z3]; rfl
  · have z0 := one 0 _ m0 b0 (by omega)
    have z1 := nil 1 _ m1 b1 (by omega)
    have z2 := nil 2 _ m2 b2 (by omega)
    have z3 := nil 3 _ m3 b3 (by omega)
    show _ = 0 + (if Gn ((0 : Nat) : Int) = 0 then 1 else 0)
    rw [← z0, z1, z2, z3]; omega
  · have z0 := one 0 _ m0 b0 (by omega)
    have z1 := one 1 _ m1 b1 (by omega)
    have z2 := nil 2 _ m2 b2 (by omega)
    have z3 := nil 3 _ m3 b3 (by omega)
    show _ = 0 + (if Gn ((0 : Nat) : Int) = 0 then 1 else 0) + (if Gn ((1 : Nat) : Int) = 0 then 1 else 0)
    rw [← z0, ← z1, z2, z3]; omega
  · have z0 := one 0 _ m0 b0 (by omega)
    have z1 := one 1 _ m1 b1 (by omega)
    have z2 := one 2 _ m2 b2 (by omega)
    have z3 := nil 3 _ m3 b3 (by omega)
    show _ = 0 + (if Gn ((0 : Nat) : Int) = 0 then 1 else 0) + (if Gn ((1 : Nat) : Int) = 0 then 1 else 0) + (if Gn ((2 : Nat) : Int) = 0 then 1 else 0)
    rw [← z0, ← z1, ← z2, z3]; omega
  · have z0 := one 0 _ m0 b0 (by omega)
    have z1 := one 1 _ m1 b1 (by omega)
    have z2 := one 2 _ m2 b2 (by omega)
    have z3 := one 3 _ m3 b3 (by omega)
    show _ = 0 + (if Gn ((0 : Nat) : Int) = 0 then 1 else 0) + (if Gn ((1 : Nat) : Int) = 0 then 1 else 0) + (if Gn ((2 : Nat) : Int) = 0 then 1 else 0) + (if Gn ((3 : Nat) : Int) = 0 then 1 else 0)
    rw [← z0, ← z1, ← z2, ← z3]; omega
theorem rm_bit {n b : Nat} (hn : n < 16) (hb : b < 4) (h1 : n / 2 ^ b % 2 = 1) : n - 2 ^ b < 16 ∧ ∀ o : Nat, o < 4 → (n - 2 ^ b) / 2 ^ o % 2 = if o = b then 0 else n / 2 ^ o % 2 := by
  have h4 : b = 0 ∨ b = 1 ∨ b = 2 ∨ b = 3 := by omega
  refine ⟨Nat.lt_of_le_of_lt (Nat.sub_le _ _) hn, fun o ho => ?_⟩
  have ho4 : o = 0 ∨ o = 1 ∨ o = 2 ∨ o = 3 := by omega
  revert h1
  rcases h4 with rfl | rfl | rfl | rfl <;> rcases ho4 with rfl | rfl | rfl | rfl <;> rcases lt16 hn with rfl | rfl | rfl | rfl | rfl | rfl | rfl | rfl | rfl | rfl | rfl | rfl | rfl | rfl | rfl | rfl <;> decide
theorem in_rm {n m b : Nat} {Gn : Int → Int} (h : inB n m Gn) (hb : b < m) (hm : m ≤ 4) (hg : Gn b = 0) : inB (n - 2 ^ b) m (up Gn b 1) := by
  have h1 := (h.2 b (by omega)).mpr ⟨hb, hg⟩
  have r := rm_bit h.1 (by omega) h1
  refine ⟨r.1, fun o ho => ?_⟩
  rw [r.2 o ho]
  show _ ↔ o < m ∧ (if (o : Int) = (b : Int) then (1 : Int) else Gn o) = 0
  by_cases c : o = b
  · rw [if_pos c, if_pos (by omega)]; omega
  · rw [if_neg c, if_neg (by omega)]; exact h.2 o ho
theorem rm_val {n b : Nat} (hn : n < 16) (hb : b < 4) (h1 : n / 2 ^ b % 2 = 1) : iN (n : Int) &&& iN ((iN ((iN 1 <<< (iN (b : Int) &&& 31)).toInt) ^^^ iN (-1)).toInt) = iN ((n - 2 ^ b : Nat) : Int) := by
  have h4 : b = 0 ∨ b = 1 ∨ b = 2 ∨ b = 3 := by omega
  revert h1
  rcases h4 with rfl | rfl | rfl | rfl <;> rcases lt16 hn with rfl | rfl | rfl | rfl | rfl | rfl | rfl | rfl | rfl | rfl | rfl | rfl | rfl | rfl | rfl | rfl <;> decide +kernel
theorem tz_one {n : Nat} (hn : n < 16) (h1 : bc4 n = 1) : ∃ o : Nat, o < 4 ∧ tz4 n = (o : Int) ∧ n / 2 ^ o % 2 = 1 ∧ ∀ p : Nat, p < 4 → p ≠ o → n / 2 ^ p % 2 ≠ 1 := by
  have hv : n = 1 ∨ n = 2 ∨ n = 4 ∨ n = 8 := by
    revert h1
    rcases lt16 hn with rfl | rfl | rfl | rfl | rfl | rfl | rfl | rfl | rfl | rfl | rfl | rfl | rfl | rfl | rfl | rfl <;> decide
  rcases hv with rfl | rfl | rfl | rfl
  · exact ⟨0, by omega, rfl, rfl, by decide⟩
  · exact ⟨1, by omega, rfl, rfl, by decide⟩
  · exact ⟨2, by omega, rfl, rfl, by decide⟩
  · exact ⟨3, by omega, rfl, rfl, by decide⟩
theorem wnR_one {Gn : Int → Int} {o : Nat} (h0 : Gn o = 0) : ∀ k : Nat, o < k → (∀ p : Nat, p < k → p ≠ o → Gn p ≠ 0) → wnR Gn k = (o : Int)
  | 0, h, _ => by omega
  | k + 1, h, h2 => by
    show (if Gn k = 0 then (k : Int) else wnR Gn k) = _
    by_cases c : k = o
    · subst c; rw [if_pos h0]
    · rw [if_neg (h2 k (by omega) c)]
      exact wnR_one h0 k (by omega) (fun p hp hpo => h2 p (by omega) hpo)
theorem in_wn {n m : Nat} {Gn : Int → Int} (hm : m ≤ 4) (h : inB n m Gn) (h1 : ct0 Gn m = 1) : tz4 n = wnR Gn m := by
  rw [← in_ct hm h] at h1
  obtain ⟨o, o4, e1, e2, e3⟩ := tz_one h.1 h1
  have ho := (h.2 o o4).mp e2
  rw [e1, wnR_one ho.2 m ho.1 (fun p hp hpo hz => e3 p (by omega) hpo ((h.2 p (by omega)).mpr ⟨hp, hz⟩))]

