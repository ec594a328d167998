/-! who wins; a turn of FIND -/
theorem tX_bd {σ : SaleT} (hw : wfS σ) {R S : Int → Int} {m : Nat} {i : Nat} {k B : Int} {w : (Int → Int) → Int} (h : 0 ≤ w S ∧ w S ≤ B) : 0 ≤ tX R m (sLe σ) i k w S ∧ tX R m (sLe σ) i k w S ≤ 12 * B := by
  have ha := rk_al (R := R) (S := S) hw.2.2.2.1.1 m
  unfold tX
  split
  · omega
  · split
    · exact mul_bd (sh_bd (by omega)) h
    · omega
theorem TC_bd {σ : SaleT} (hw : wfS σ) (R : Int → Int) {P0 : Int → Int} (hP : pB σ P0) {m : Nat} (hm : m ≤ 4) (i : Nat) (k : Int) : 0 ≤ TC σ R P0 m i k ∧ TC σ R P0 m i k ≤ 54000000000 := by
  have h := sum_bd hw hm (B := 12 * 7200000) (F := fun n => tX R m (sLe σ) i k (fun S => crW σ S P0 m) (sq (sSg σ) m z0 n)) (by omega) (fun n => tX_bd hw (crW_bd hw hP (fun j hj => sq_ok (by have := hw.1; omega) m z0 n j hj) hm))
  exact h
theorem TV_bd {σ : SaleT} (hw : wfS σ) (R : Int → Int) {P0 : Int → Int} (hP : pB σ P0) {m : Nat} (hm : m ≤ 4) (i : Nat) (k : Int) : 0 ≤ TV σ R P0 m i k ∧ TV σ R P0 m i k ≤ 3240000000000 := by
  have h := sum_bd hw hm (B := 12 * 432000000) (F := fun n => tX R m (sLe σ) i k (fun S => crV σ S P0 m) (sq (sSg σ) m z0 n)) (by omega) (fun n => tX_bd hw (crV_bd hw hP (fun j hj => sq_ok (by have := hw.1; omega) m z0 n j hj) hm))
  exact h
section
variable {l : Launch} {G : sw_G} {M : sw_M}
end

