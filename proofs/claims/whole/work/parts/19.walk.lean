/-! the walk through all signs; the tally over it -/
def sn (F : Nat → Int) : Nat → Int
  | 0 => 0
  | n + 1 => sn F n + F n
def sq (sg : Int) (m : Nat) (S0 : Int → Int) : Nat → (Int → Int)
  | 0 => fl S0 0 m
  | n + 1 => nx sg m (sq sg m S0 n)
def vl (sg : Int) (S : Int → Int) : Nat → Int
  | 0 => 0
  | k + 1 => vl sg S k * sg + S k
theorem vl_congr {sg : Int} {S S' : Int → Int} : ∀ {k : Nat}, (∀ i : Nat, i < k → S i = S' i) → vl sg S k = vl sg S' k
  | 0, _ => rfl
  | k + 1, h => by
    show vl sg S k * sg + S k = vl sg S' k * sg + S' k
    rw [vl_congr (fun i hi => h i (by omega)), h k (by omega)]
theorem nx_hi {sg : Int} : ∀ (n : Nat) (S : Int → Int) (i : Nat), n ≤ i → nx sg n S i = S i
  | 0, _, _, _ => rfl
  | n + 1, S, i, h => by
    have up' : ∀ v, up S n v i = S i := fun v => if_neg (by omega)
    unfold nx
    by_cases c : S n + 1 < sg
    · rw [if_pos c, up']
    · rw [if_neg c, nx_hi n _ i (by omega), up']
theorem vl_full {sg : Int} {S : Int → Int} : ∀ (k : Nat), (∀ i : Nat, i < k → S i + 1 = sg) → vl sg S k = pwi sg k - 1
  | 0, _ => rfl
  | k + 1, h => by
    show vl sg S k * sg + S k = pwi sg k * sg - 1
    rw [vl_full k (fun i hi => h i (by omega)), Int.sub_mul]
    have := h k (by omega)
    omega
theorem vl_nx {sg : Int} : ∀ (k : Nat) (S : Int → Int), (∀ i : Nat, i < k → 0 ≤ S i ∧ S i < sg) → (∃ i : Nat, i < k ∧ S i + 1 < sg) → vl sg (nx sg k S) k = vl sg S k + 1
  | 0, _, _, h => by obtain ⟨i, hi, _⟩ := h; omega
  | k + 1, S, h, he => by
    unfold nx
    by_cases c : S k + 1 < sg
    · rw [if_pos c]
      show vl sg (up S k (S k + 1)) k * sg + up S k (S k + 1) k = vl sg S k * sg + S k + 1
      rw [vl_congr (S' := S) (fun i hi => if_neg (by omega))]
      have e2 : up S k (S k + 1) k = S k + 1 := if_pos rfl
      rw [e2]; omega
    · rw [if_neg c]
      show vl sg (nx sg k (up S k 0)) k * sg + nx sg k (up S k 0) k = vl sg S k * sg + S k + 1
      have hk := h k (by omega)
      have e2 : up S k 0 k = 0 := if_pos rfl
      have e3 : ∀ i : Nat, i < k → up S k 0 i = S i := fun i hi => if_neg (by omega)
      rw [nx_hi k _ k (Nat.le_refl _), e2, vl_nx k (up S k 0) (fun i hi => by rw [e3 i hi]; exact h i (by omega)) ?_, vl_congr (S' := S) e3, Int.add_mul]
      · omega
      · obtain ⟨i, hi, hs⟩ := he
        have : i ≠ k := fun e => c (by rw [← e]; exact hs)
        exact ⟨i, by omega, by rw [e3 i (by omega)]; exact hs⟩
theorem vl_zero {sg : Int} {S : Int → Int} : ∀ (k : Nat), (∀ i : Nat, i < k → S i = 0) → vl sg S k = 0
  | 0, _ => rfl
  | k + 1, h => by
    show vl sg S k * sg + S k = 0
    rw [vl_zero k (fun i hi => h i (by omega)), h k (by omega)]; omega
theorem pwi_pos {sg : Int} (h : 0 < sg) : ∀ k, 1 ≤ pwi sg k
  | 0 => Int.le_refl _
  | k + 1 => by
    have ih := pwi_pos h k
    show 1 ≤ pwi sg k * sg
    have := Int.mul_le_mul ih (show (1 : Int) ≤ sg by omega) (by omega) (by omega)
    omega
theorem pwi_bd {sg : Int} (h0 : 0 ≤ sg) (h : sg ≤ 5) {k : Nat} (hk : k ≤ 4) : 0 ≤ pwi sg k ∧ pwi sg k ≤ 625 := by
  have b0 : 0 ≤ pwi sg 0 ∧ pwi sg 0 ≤ 1 := ⟨by show (0 : Int) ≤ 1; omega, by show (1 : Int) ≤ 1; omega⟩
  have b1 : 0 ≤ pwi sg 1 ∧ pwi sg 1 ≤ 1 * 5 := mul_bd b0 ⟨h0, h⟩
  have b2 : 0 ≤ pwi sg 2 ∧ pwi sg 2 ≤ 1 * 5 * 5 := mul_bd b1 ⟨h0, h⟩
  have b3 : 0 ≤ pwi sg 3 ∧ pwi sg 3 ≤ 1 * 5 * 5 * 5 := mul_bd b2 ⟨h0, h⟩
  have b4 : 0 ≤ pwi sg 4 ∧ pwi sg 4 ≤ 1 * 5 * 5 * 5 * 5 := mul_bd b3 ⟨h0, h⟩
  match k, hk with
  | 0, _ => omega
  | 1, _ => omega
  | 2, _ => omega
  | 3, _ => omega
  | 4, _ => omega
theorem sq_ok {sg : Int} (h : 0 < sg) (m : Nat) (S0 : Int → Int) : ∀ (n : Nat) (i : Nat), i < m → 0 ≤ sq sg m S0 n i ∧ sq sg m S0 n i < sg
  | 0, i, hi => by
    show 0 ≤ fl S0 0 m i ∧ fl S0 0 m i < sg
    rw [fl_in hi]; omega
  | n + 1, i, hi => nx_ok h m _ (fun j hj => sq_ok h m S0 n j hj) i hi
theorem sq_vl {sg : Int} (h : 0 < sg) (m : Nat) (S0 : Int → Int) : ∀ (n : Nat), (n : Int) < pwi sg m → vl sg (sq sg m S0 n) m = n
  | 0, _ => vl_zero m (fun i hi => fl_in hi)
  | n + 1, hn => by
    have ih := sq_vl h m S0 n (by omega)
    have he : ∃ i : Nat, i < m ∧ sq sg m S0 n i + 1 < sg := by
      by_cases c : ∃ i : Nat, i < m ∧ sq sg m S0 n i + 1 < sg
      · exact c
      · exfalso
        have hf := vl_full (sg := sg) (S := sq sg m S0 n) m (fun i hi => by
          have h1 := sq_ok h m S0 n i hi
          by_cases q : sq sg m S0 n i + 1 < sg
          · exact absurd ⟨i, hi, q⟩ c
          · omega)
        omega
    show vl sg (nx sg m (sq sg m S0 n)) m = _
    rw [vl_nx m _ (fun i hi => sq_ok h m S0 n i hi) he, ih]
    omega
theorem sq_has {sg : Int} (h : 0 < sg) (m : Nat) (S0 : Int → Int) (n : Nat) (hn : ((n + 1 : Nat) : Int) < pwi sg m) : ¬ ∀ i : Nat, i < m → sg ≤ sq sg m S0 n i + 1 := by
  intro hf
  have h1 := sq_vl h m S0 n (by omega)
  have h2 := vl_full (sg := sg) (S := sq sg m S0 n) m (fun i hi => by have h1 := sq_ok h m S0 n i hi; have := hf i hi; omega)
  omega
section
variable {l : Launch} {G : sw_G} {M : sw_M}
theorem K6_add {b b0 : Nat} (hb : 50 ≤ b) {σ : SaleT} {u d : Int} {m : Nat} {m0 le0 wt wo hi al nx' su a tk so un : Int} {R S0 P0 P g ww wc : Int → Int} {ap : Bool} (hY : sw_hold M (cYs G a tk so un g ww wc)) (h1 : M 6 = some (cC G b0 m0 le0 wt wo hi al nx' su).2) (h2 : M 7 = some (cR R).2) (h3 : M 8 = some (cG S0).2) (h4 : M 9 = some (cP P).2) (h5 : sw_hold M (cS G b σ u d)) (hw : wfS σ) (hm : m ≤ 4) (hR : rOK σ R m) (hP : ∀ t, 0 ≤ t → t < sTr σ → P t = P0 t) (hap : ap = true ↔ sWy σ = 2) :
    Kt l G μX6_add [.ref (sw_al G 10), .ref (sw_al G 6), .ref (sw_al G b), sw_i (m : Int)] M (fun r M' => ∃ wt' wo' hi' al' nx' su' S' P' g' ww' wc', r = none ∧ (∀ i : Nat, i < m → g' i = g i + sn (fun n => tG σ R P0 m (sLe σ) ap i (sq (sSg σ) m S0 n)) (pwi (sSg σ) m).toNat) ∧ (∀ (i : Nat) (k : Int), i < m → 0 ≤ k → k < 5 → ww' ((i : Int) * 5 + k) = ww ((i : Int) * 5 + k) + sn (fun n => tX R m (sLe σ) i k (fun S => crV σ S P0 m) (sq (sSg σ) m S0 n)) (pwi (sSg σ) m).toNat) ∧ (∀ (i : Nat) (k : Int), i < m → 0 ≤ k → k < 5 → wc' ((i : Int) * 5 + k) = wc ((i : Int) * 5 + k) + sn (fun n => tX R m (sLe σ) i k (fun S => crW σ S P0 m) (sq (sSg σ) m S0 n)) (pwi (sSg σ) m).toNat) ∧
      M' = sw_ov M (cYs G (a + sn (fun n => tW σ P0 m (sq (sSg σ) m S0 n)) (pwi (sSg σ) m).toNat) (tk + sn (fun n => tT σ R P0 m (sLe σ) ap (sq (sSg σ) m S0 n)) (pwi (sSg σ) m).toNat) (so + sn (fun n => tS σ R P0 m (sLe σ) (sq (sSg σ) m S0 n)) (pwi (sSg σ) m).toNat) (un + sn (fun n => tU σ R P0 m (sLe σ) (sq (sSg σ) m S0 n)) (pwi (sSg σ) m).toNat) g' ww' wc' ++ [cC G b m (sLe σ) wt' wo' hi' al' nx' su', cG S', cP P'])) := by
  refine KtA.of (by decide +kernel) (Nat.le_of_ble_eq_true rfl) ?_
  have hback : ∀ (a tk so un m0 le0 wt wo hi al nx' su : Int) (g ww wc S P : Int → Int) (b0 : Nat), sw_ov M (cYs G a tk so un g ww wc ++ [cC G b0 m0 le0 wt wo hi al nx' su, cG S, cP P, cO G b σ u d]) = sw_ov M (cYs G a tk so un g ww wc ++ [cC G b0 m0 le0 wt wo hi al nx' su, cG S, cP P]) := fun a tk so un m0 le0 wt wo hi al nx' su g ww wc S P b0 => sw_ov_dr (sw_hold1 h5.hd sw_hold0) (cYs G a tk so un g ww wc ++ [cC G b0 m0 le0 wt wo hi al nx' su, cG S, cP P])
  refine v_mem (sw_ov_self (cs := cYs G a tk so un g ww wc ++ [cC G b0 m0 le0 wt wo hi al nx' su, cG S0, cP P, cO G b σ u d]) (sw_hold.app hY (sw_hold1 h1 (sw_hold1 h3 (sw_hold1 h4 (sw_hold1 h5.hd sw_hold0)))))).symm ?_
  have hn : sw_nd [10, 11, 12, 13, 6, 8, 9, b] := sw_nd_of (by simp; omega)
  have hws := hw.1
  have hle := hw.2.2.2.1
  have hwyb := hw.2.2.2.2.1
  have oY : ∀ (a tk so un m0 le0 wt wo hi al nx' su : Int) (g ww wc S P : Int → Int) (b0 : Nat), sw_hold (sw_ov M (cYs G a tk so un g ww wc ++ [cC G b0 m0 le0 wt wo hi al nx' su, cG S, cP P, cO G b σ u d])) (cYs G a tk so un g ww wc) := fun a tk so un m0 le0 wt wo hi al nx' su g ww wc S P b0 => sw_pick (cs := cYs G a tk so un g ww wc ++ [cC G b0 m0 le0 wt wo hi al nx' su, cG S, cP P, cO G b σ u d]) hn [0, 1, 2, 3] rfl
  have hpb := pwi_bd (sg := sSg σ) (by omega) (by omega) hm
  -- what lies outside
  have oR : ∀ (a tk so un m0 le0 wt wo hi al nx' su : Int) (g ww wc S P : Int → Int) (b0 : Nat), (sw_ov M (cYs G a tk so un g ww wc ++ [cC G b0 m0 le0 wt wo hi al nx' su, cG S, cP P, cO G b σ u d])) 7 = some (cR R).2 := fun a tk so un m0 le0 wt wo hi al nx' su g ww wc S P b0 => by rw [sw_ov_out (by simp; omega)]; exact h2
  have oS : ∀ (a tk so un m0 le0 wt wo hi al nx' su : Int) (g ww wc S P : Int → Int) (b0 : Nat), sw_hold (sw_ov M (cYs G a tk so un g ww wc ++ [cC G b0 m0 le0 wt wo hi al nx' su, cG S, cP P, cO G b σ u d])) (cS G b σ u d) := fun a tk so un m0 le0 wt wo hi al nx' su g ww wc S P b0 =>
    sw_hold1 (sw_ov_at (q := 7) (t := b) hn rfl) (h5.tl.out (by simp; omega))
  have hwy : (ap = true ∧ sWy σ = 2) ∨ (ap = false ∧ sWy σ ≠ 2) := by
    cases ap with
    | true => exact Or.inl ⟨rfl, hap.mp rfl⟩
    | false => exact Or.inr ⟨rfl, fun h => by have := hap.mpr h; cases this⟩
  have loop : ∀ (n i : Nat) (wt wo hi al nx' su : Int) (S' P' g' ww' wc' : Int → Int), i + n = (pwi (sSg σ) m).toNat → (0 < n → cC G b m (sLe σ) wt wo hi al nx' su = cCd G b σ m (sLe σ) R (sq (sSg σ) m S0 i) P0 ∧ S' = sq (sSg σ) m S0 i ∧ pOK σ (sq (sSg σ) m S0 i) P0 P' m) →
      (∀ j : Nat, j < m → g' j = g j + sn (fun n => tG σ R P0 m (sLe σ) ap j (sq (sSg σ) m S0 n)) i) → (∀ (j : Nat) (k : Int), j < m → 0 ≤ k → k < 5 → ww' ((j : Int) * 5 + k) = ww ((j : Int) * 5 + k) + sn (fun n => tX R m (sLe σ) j k (fun S => crV σ S P0 m) (sq (sSg σ) m S0 n)) i) → (∀ (j : Nat) (k : Int), j < m → 0 ≤ k → k < 5 → wc' ((j : Int) * 5 + k) = wc ((j : Int) * 5 + k) + sn (fun n => tX R m (sLe σ) j k (fun S => crW σ S P0 m) (sq (sSg σ) m S0 n)) i) →
      V l G μX6_add sw_E0 (sw_Zq G μX6_add (sw_q0 G (fun r M' => ∃ wt' wo' hi' al' nx' su' S' P' g' ww' wc', r = none ∧ (∀ i : Nat, i < m → g' i = g i + sn (fun n => tG σ R P0 m (sLe σ) ap i (sq (sSg σ) m S0 n)) (pwi (sSg σ) m).toNat) ∧ (∀ (i : Nat) (k : Int), i < m → 0 ≤ k → k < 5 → ww' ((i : Int) * 5 + k) = ww ((i : Int) * 5 + k) + sn (fun n => tX R m (sLe σ) i k (fun S => crV σ S P0 m) (sq (sSg σ) m S0 n)) (pwi (sSg σ) m).toNat) ∧ (∀ (i : Nat) (k : Int), i < m → 0 ≤ k → k < 5 → wc' ((i : Int) * 5 + k) = wc ((i : Int) * 5 + k) + sn (fun n => tX R m (sLe σ) i k (fun S => crW σ S P0 m) (sq (sSg σ) m S0 n)) (pwi (sSg σ) m).toNat) ∧
      M' = sw_ov M (cYs G (a + sn (fun n => tW σ P0 m (sq (sSg σ) m S0 n)) (pwi (sSg σ) m).toNat) (tk + sn (fun n => tT σ R P0 m (sLe σ) ap (sq (sSg σ) m S0 n)) (pwi (sSg σ) m).toNat) (so + sn (fun n => tS σ R P0 m (sLe σ) (sq (sSg σ) m S0 n)) (pwi (sSg σ) m).toNat) (un + sn (fun n => tU σ R P0 m (sLe σ) (sq (sSg σ) m S0 n)) (pwi (sSg σ) m).toNat) g' ww' wc' ++ [cC G b m (sLe σ) wt' wo' hi' al' nx' su', cG S', cP P']))))
      15 [(0, .ref (sw_al G 10)), (1, .ref (sw_al G 6)), (2, .ref (sw_al G b)), (4, sw_i (pwi (sSg σ) m)), (5, sw_i (i : Int))] [] (sw_ov M (cYs G (a + sn (fun n => tW σ P0 m (sq (sSg σ) m S0 n)) i) (tk + sn (fun n => tT σ R P0 m (sLe σ) ap (sq (sSg σ) m S0 n)) i) (so + sn (fun n => tS σ R P0 m (sLe σ) (sq (sSg σ) m S0 n)) i) (un + sn (fun n => tU σ R P0 m (sLe σ) (sq (sSg σ) m S0 n)) i) g' ww' wc' ++ [cC G b m (sLe σ) wt wo hi al nx' su, cG S', cP P', cO G b σ u d])) 0 0 := by
    intro n
    induction n with
    | zero =>
      intro i wt wo hi al nx' su S' P' g' ww' wc' hi' hc e1 e2 e3
      have e : i = (pwi (sSg σ) m).toNat := by omega
      subst e
      refine v_iload dX6_add_15 rfl ?_
      refine v_iload dX6_add_17 rfl ?_
      refine v_icmp_ge (tgt := 50) dX6_add_19 (by decide) ⟨by omega, by omega⟩ ⟨by omega, by omega⟩ (fun h19 => ?_) (fun h19 => ?_)
      · skip
        exact v_vret dX6_add_50 rfl (Nat.le_refl _) (Nat.le_refl _) (⟨wt, wo, hi, al, nx', su, S', P', g', ww', wc', rfl, e1, e2, e3, hback _ _ _ _ _ _ _ _ _ _ _ _ _ _ _ _ _ _⟩)
      · skip
        exfalso; omega
    | succ n ih =>
      intro i wt wo hi al nx' su S' P' g' ww' wc' hi' hc e1 e2 e3
      obtain ⟨hc1, rfl, hpk⟩ := hc (by omega)
      rw [hc1]
      have hsk : sOK σ (sq (sSg σ) m S0 i) m := fun j hj => sq_ok (by omega) m S0 i j hj
      have tail : ∀ (g2 ww2 wc2 : Int → Int), (∀ j : Nat, j < m → g2 j = g' j + tG σ R P0 m (sLe σ) ap j (sq (sSg σ) m S0 i)) → (∀ (j : Nat) (k : Int), j < m → 0 ≤ k → k < 5 → ww2 ((j : Int) * 5 + k) = ww' ((j : Int) * 5 + k) + tX R m (sLe σ) j k (fun S => crV σ S P0 m) (sq (sSg σ) m S0 i)) → (∀ (j : Nat) (k : Int), j < m → 0 ≤ k → k < 5 → wc2 ((j : Int) * 5 + k) = wc' ((j : Int) * 5 + k) + tX R m (sLe σ) j k (fun S => crW σ S P0 m) (sq (sSg σ) m S0 i)) →
          V l G μX6_add sw_E0 (sw_Zq G μX6_add (sw_q0 G (fun r M' => ∃ wt' wo' hi' al' nx' su' S' P' g' ww' wc', r = none ∧ (∀ i : Nat, i < m → g' i = g i + sn (fun n => tG σ R P0 m (sLe σ) ap i (sq (sSg σ) m S0 n)) (pwi (sSg σ) m).toNat) ∧ (∀ (i : Nat) (k : Int), i < m → 0 ≤ k → k < 5 → ww' ((i : Int) * 5 + k) = ww ((i : Int) * 5 + k) + sn (fun n => tX R m (sLe σ) i k (fun S => crV σ S P0 m) (sq (sSg σ) m S0 n)) (pwi (sSg σ) m).toNat) ∧ (∀ (i : Nat) (k : Int), i < m → 0 ≤ k → k < 5 → wc' ((i : Int) * 5 + k) = wc ((i : Int) * 5 + k) + sn (fun n => tX R m (sLe σ) i k (fun S => crW σ S P0 m) (sq (sSg σ) m S0 n)) (pwi (sSg σ) m).toNat) ∧
          M' = sw_ov M (cYs G (a + sn (fun n => tW σ P0 m (sq (sSg σ) m S0 n)) (pwi (sSg σ) m).toNat) (tk + sn (fun n => tT σ R P0 m (sLe σ) ap (sq (sSg σ) m S0 n)) (pwi (sSg σ) m).toNat) (so + sn (fun n => tS σ R P0 m (sLe σ) (sq (sSg σ) m S0 n)) (pwi (sSg σ) m).toNat) (un + sn (fun n => tU σ R P0 m (sLe σ) (sq (sSg σ) m S0 n)) (pwi (sSg σ) m).toNat) g' ww' wc' ++ [cC G b m (sLe σ) wt' wo' hi' al' nx' su', cG S', cP P']))))
          40 [(0, .ref (sw_al G 10)), (1, .ref (sw_al G 6)), (2, .ref (sw_al G b)), (4, sw_i (pwi (sSg σ) m)), (5, sw_i (i : Int))] [] (sw_ov M (cYs G (a + sn (fun n => tW σ P0 m (sq (sSg σ) m S0 n)) i + tW σ P0 m (sq (sSg σ) m S0 i)) (tk + sn (fun n => tT σ R P0 m (sLe σ) ap (sq (sSg σ) m S0 n)) i + tT σ R P0 m (sLe σ) ap (sq (sSg σ) m S0 i)) (so + sn (fun n => tS σ R P0 m (sLe σ) (sq (sSg σ) m S0 n)) i + tS σ R P0 m (sLe σ) (sq (sSg σ) m S0 i)) (un + sn (fun n => tU σ R P0 m (sLe σ) (sq (sSg σ) m S0 n)) i + tU σ R P0 m (sLe σ) (sq (sSg σ) m S0 i)) g2 ww2 wc2 ++ [cCd G b σ m (sLe σ) R (sq (sSg σ) m S0 i) P0, cG (sq (sSg σ) m S0 i), cP P', cO G b σ u d])) 0 0 := by
        intro g2 ww2 wc2 f1 f2 f3
        have f1' : ∀ j : Nat, j < m → g2 j = g j + sn (fun n => tG σ R P0 m (sLe σ) ap j (sq (sSg σ) m S0 n)) (i + 1) := fun j hj => by rw [f1 j hj, e1 j hj, Int.add_assoc]; rfl
        have f2' : ∀ (j : Nat) (k : Int), j < m → 0 ≤ k → k < 5 → ww2 ((j : Int) * 5 + k) = ww ((j : Int) * 5 + k) + sn (fun n => tX R m (sLe σ) j k (fun S => crV σ S P0 m) (sq (sSg σ) m S0 n)) (i + 1) := fun j k hj h0 h1 => by rw [f2 j k hj h0 h1, e2 j k hj h0 h1, Int.add_assoc]; rfl
        have f3' : ∀ (j : Nat) (k : Int), j < m → 0 ≤ k → k < 5 → wc2 ((j : Int) * 5 + k) = wc ((j : Int) * 5 + k) + sn (fun n => tX R m (sLe σ) j k (fun S => crW σ S P0 m) (sq (sSg σ) m S0 n)) (i + 1) := fun j k hj h0 h1 => by rw [f3 j k hj h0 h1, e3 j k hj h0 h1, Int.add_assoc]; rfl
        rw [Int.add_assoc a, Int.add_assoc tk, Int.add_assoc so, Int.add_assoc un]
        refine v_aload_n dX6_add_40 rfl ?_
        refine v_callV (ci := 1) (K1_step hb (P := P') (sw_ov_at (q := 4) (t := 6) hn rfl) (oR _ _ _ _ _ _ _ _ _ _ _ _ _ _ _ _ _ _) (sw_ov_at (q := 5) (t := 8) hn rfl) (sw_ov_at (q := 6) (t := 9) hn rfl) (oS _ _ _ _ _ _ _ _ _ _ _ _ _ _ _ _ _ _) hw hm hsk hR hle hpk) ⟨rfl, rfl⟩ (Nat.le_refl _) (Nat.le_refl _) (sw_ov_at (q := 4) (t := 6) hn rfl) rfl ⟨ml_X6_53, mm_X1_step⟩ ⟨(Nat.le_of_ble_eq_true rfl), (Nat.le_of_ble_eq_true rfl)⟩ mp_X1_step rfl rfl (Nat.le_of_ble_eq_true rfl) dX6_add_41 (fun r M' h => ?_)
        obtain ⟨rfl, h⟩ := h
        rcases h with ⟨P2, hp2, rfl⟩ | ⟨hfull, S2, rfl⟩
        · refine v_ovp [4, 5, 6] rfl rfl hn ?_
          refine v_iinc dX6_add_44 rfl (Nat.le_of_ble_eq_true rfl) ?_
          refine v_goto (tgt := 15) dX6_add_47 (by decide) ?_
          exact v_to (ih (i + 1) _ _ _ _ _ _ _ P2 g2 ww2 wc2 (by omega) (fun _ => ⟨rfl, rfl, hp2⟩) f1' f2' f3') rfl (sw_h1 rfl (sw_h1 rfl (sw_h1 rfl (sw_h1 rfl (sw_h1 rfl sw_h0)))))
        · refine v_ovp [4, 5, 6] rfl rfl hn ?_
          refine v_iinc dX6_add_44 rfl (Nat.le_of_ble_eq_true rfl) ?_
          refine v_goto (tgt := 15) dX6_add_47 (by decide) ?_
          exact v_to (ih (i + 1) _ _ _ _ _ _ _ P' g2 ww2 wc2 (by omega) (fun h => absurd hfull (sq_has (by omega) m S0 i (by omega))) f1' f2' f3') rfl (sw_h1 rfl (sw_h1 rfl (sw_h1 rfl (sw_h1 rfl (sw_h1 rfl sw_h0)))))
        skip
      refine v_iload dX6_add_15 rfl ?_
      refine v_iload dX6_add_17 rfl ?_
      refine v_icmp_ge (tgt := 50) dX6_add_19 (by decide) ⟨by omega, by omega⟩ ⟨by omega, by omega⟩ (fun h19 => ?_) (fun h19 => ?_)
      · skip
        exfalso; omega
      · skip
        refine v_aload_n dX6_add_22 rfl ?_
        refine v_aload_n dX6_add_23 rfl ?_
        refine v_aload_n dX6_add_24 rfl ?_
        refine v_getf 7 8 fl_X6_46 hn rfl rfl dX6_add_25 ?_
        refine v_iconst dX6_add_28 ?_
        refine v_icmp_ne (tgt := 36) dX6_add_29 (by decide) ⟨by omega, by omega⟩ ⟨by omega, by omega⟩ (fun h29 => ?_) (fun h29 => ?_)
        · skip
          refine v_iconst dX6_add_36 ?_
          skip
          obtain ⟨rfl, -⟩ : ap = false ∧ True := ⟨by rcases hwy with h | h; exact absurd h.2 h29; exact h.1, trivial⟩
          refine v_callV (ci := 6) (K6_addCases hb (ap := false) (P := P') (oY _ _ _ _ _ _ _ _ _ _ _ _ _ _ _ _ _ _) (sw_ov_at (q := 4) (t := 6) hn rfl) (oR _ _ _ _ _ _ _ _ _ _ _ _ _ _ _ _ _ _) (sw_ov_at (q := 5) (t := 8) hn rfl) (sw_ov_at (q := 6) (t := 9) hn rfl) (oS _ _ _ _ _ _ _ _ _ _ _ _ _ _ _ _ _ _) hw hm hsk (hR.b hsk) hle hpk) ⟨rfl, rfl⟩ (Nat.le_refl _) (Nat.le_refl _) (sw_ov_at (q := 0) (t := 10) hn rfl) rfl ⟨ml_X6_49, mm_X6_addCases⟩ ⟨(Nat.le_of_ble_eq_true rfl), (Nat.le_of_ble_eq_true rfl)⟩ mp_X6_addCases rfl rfl (Nat.le_of_ble_eq_true rfl) dX6_add_37 (fun r M' h => ?_)
          obtain ⟨g2, ww2, wc2, rfl, f1, f2, f3, rfl⟩ := h
          refine v_ovp [0, 1, 2, 3] rfl rfl hn ?_
          exact v_to (tail g2 ww2 wc2 f1 f2 f3) rfl (sw_h1 rfl (sw_h1 rfl (sw_h1 rfl (sw_h1 rfl (sw_h1 rfl sw_h0)))))
        · skip
          refine v_iconst dX6_add_32 ?_
          refine v_goto (tgt := 37) dX6_add_33 (by decide) ?_
          skip
          obtain ⟨rfl, -⟩ : ap = true ∧ True := ⟨hap.mpr (by omega), trivial⟩
          refine v_callV (ci := 6) (K6_addCases hb (ap := true) (P := P') (oY _ _ _ _ _ _ _ _ _ _ _ _ _ _ _ _ _ _) (sw_ov_at (q := 4) (t := 6) hn rfl) (oR _ _ _ _ _ _ _ _ _ _ _ _ _ _ _ _ _ _) (sw_ov_at (q := 5) (t := 8) hn rfl) (sw_ov_at (q := 6) (t := 9) hn rfl) (oS _ _ _ _ _ _ _ _ _ _ _ _ _ _ _ _ _ _) hw hm hsk (hR.b hsk) hle hpk) ⟨rfl, rfl⟩ (Nat.le_refl _) (Nat.le_refl _) (sw_ov_at (q := 0) (t := 10) hn rfl) rfl ⟨ml_X6_49, mm_X6_addCases⟩ ⟨(Nat.le_of_ble_eq_true rfl), (Nat.le_of_ble_eq_true rfl)⟩ mp_X6_addCases rfl rfl (Nat.le_of_ble_eq_true rfl) dX6_add_37 (fun r M' h => ?_)
          obtain ⟨g2, ww2, wc2, rfl, f1, f2, f3, rfl⟩ := h
          refine v_ovp [0, 1, 2, 3] rfl rfl hn ?_
          exact v_to (tail g2 ww2 wc2 f1 f2 f3) rfl (sw_h1 rfl (sw_h1 rfl (sw_h1 rfl (sw_h1 rfl (sw_h1 rfl sw_h0)))))
  refine v_aload_n dX6_add_0 rfl ?_
  refine v_aload_n dX6_add_1 rfl ?_
  refine v_iload_n dX6_add_2 rfl ?_
  refine v_aload_n dX6_add_3 rfl ?_
  refine v_getf 7 7 fl_X6_34 hn rfl rfl dX6_add_4 ?_
  refine v_callV (ci := 1) (K1_begin hb (m := m) (P0 := P0) (P := P) (sw_ov_at (q := 4) (t := 6) hn rfl) (oR _ _ _ _ _ _ _ _ _ _ _ _ _ _ _ _ _ _) (sw_ov_at (q := 5) (t := 8) hn rfl) (sw_ov_at (q := 6) (t := 9) hn rfl) (oS _ _ _ _ _ _ _ _ _ _ _ _ _ _ _ _ _ _) hw hm hR hle hP) ⟨rfl, rfl⟩ (Nat.le_refl _) (Nat.le_refl _) (sw_ov_at (q := 4) (t := 6) hn rfl) rfl ⟨ml_X6_40, mm_X1_begin⟩ ⟨(Nat.le_of_ble_eq_true rfl), (Nat.le_of_ble_eq_true rfl)⟩ mp_X1_begin rfl rfl (Nat.le_of_ble_eq_true rfl) dX6_add_7 (fun r M' h => ?_)
  obtain ⟨P2, rfl, hp2, rfl⟩ := h
  refine v_ovp [4, 5, 6] rfl rfl hn ?_
  refine v_istore dX6_add_10 (Nat.le_of_ble_eq_true rfl) ?_
  refine v_iconst dX6_add_12 ?_
  refine v_istore dX6_add_13 (Nat.le_of_ble_eq_true rfl) ?_
  refine v_to (loop (pwi (sSg σ) m).toNat 0 _ _ _ _ _ _ _ P2 g ww wc (by omega) (fun _ => ⟨rfl, rfl, hp2⟩) (fun j _ => (Int.add_zero _).symm) (fun j k _ _ _ => (Int.add_zero _).symm) (fun j k _ _ _ => (Int.add_zero _).symm)) ?_ (sw_h1 rfl (sw_h1 rfl (sw_h1 rfl (sw_h1 rfl (sw_h1 rfl sw_h0)))))
  show _ = sw_ov M (cYs G (a + 0) (tk + 0) (so + 0) (un + 0) g ww wc ++ _)
  rw [Int.add_zero, Int.add_zero, Int.add_zero, Int.add_zero]
  rfl
end

