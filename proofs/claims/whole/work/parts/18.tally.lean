/-! the tally: what comes out over all CASES -/
theorem rk_al {R S : Int → Int} {le : Int} (hle : 0 ≤ le) : ∀ k : Nat, ((rk R S le k).2.1 = 0 ∧ (rk R S le k).1 = -1 ∧ (rk R S le k).2.2.1 = -1 ∧ (rk R S le k).2.2.2 = 0) ∨ (1 ≤ (rk R S le k).2.1 ∧ le ≤ (rk R S le k).1)
  | 0 => Or.inl ⟨rfl, rfl, rfl, rfl⟩
  | k + 1 => by
    have ih := rk_al (R := R) (S := S) hle k
    have e : rk R S le (k + 1) = rks le (rk R S le k) (R ((k : Int) * 5 + S k)) := rfl
    rw [e]
    generalize rk R S le k = q at ih ⊢
    generalize R ((k : Int) * 5 + S k) = b
    unfold rks
    by_cases c1 : b < le
    · rw [if_pos c1]; exact ih
    · rw [if_neg c1]
      by_cases c2 : q.1 < b
      · rw [if_pos c2]; dsimp only; omega
      · rw [if_neg c2]
        by_cases c3 : b = q.1
        · rw [if_pos c3]; dsimp only; omega
        · rw [if_neg c3]
          by_cases c4 : q.2.2.1 < b
          · rw [if_pos c4]; dsimp only; omega
          · rw [if_neg c4]; dsimp only; omega
theorem sh_bd {al : Int} (h : 1 ≤ al) : 0 ≤ 12 / al ∧ 12 / al ≤ 12 := ⟨Int.ediv_nonneg (by omega) (by omega), Int.ediv_le_self _ (by omega)⟩
theorem crP_bd {σ : SaleT} {le hi nx : Int} (h1 : 0 ≤ le ∧ le ≤ 60) (h2 : 0 ≤ hi ∧ hi ≤ 60) (h3 : -1 ≤ nx ∧ nx ≤ 60) : 0 ≤ crP σ le hi nx ∧ crP σ le hi nx ≤ 60 := by
  unfold crP
  split
  · split <;> omega
  · omega
/-- what a bid pays -/
def pdB (ap : Bool) (le hi al bid pr : Int) : Int := if ap = true then (if le ≤ bid then 12 * bid else 0) else if bid = hi ∧ 0 < al then 12 / al * pr else 0
def tW (σ : SaleT) (P0 : Int → Int) (m : Nat) (S : Int → Int) : Int := 12 * crW σ S P0 m
def tT (σ : SaleT) (R P0 : Int → Int) (m : Nat) (le : Int) (ap : Bool) (S : Int → Int) : Int := if (rk R S le m).2.1 = 0 then 0 else 12 * crW σ S P0 m * (if ap = true then (rk R S le m).2.2.2 else crP σ le (rk R S le m).1 (rk R S le m).2.2.1)
def tS (σ : SaleT) (R P0 : Int → Int) (m : Nat) (le : Int) (S : Int → Int) : Int := if (rk R S le m).2.1 = 0 then 0 else 12 * crB σ S P0 m (crP σ le (rk R S le m).1 (rk R S le m).2.2.1)
def tU (σ : SaleT) (R P0 : Int → Int) (m : Nat) (le : Int) (S : Int → Int) : Int := if (rk R S le m).2.1 = 0 then 12 * crW σ S P0 m else 0
def tG (σ : SaleT) (R P0 : Int → Int) (m : Nat) (le : Int) (ap : Bool) (i : Nat) (S : Int → Int) : Int := if (rk R S le m).2.1 = 0 then 0 else (if R ((i : Int) * 5 + S i) = (rk R S le m).1 then 12 / (rk R S le m).2.1 * crV σ S P0 m else 0) - crW σ S P0 m * pdB ap le (rk R S le m).1 (rk R S le m).2.1 (R ((i : Int) * 5 + S i)) (crP σ le (rk R S le m).1 (rk R S le m).2.2.1)
def tX (R : Int → Int) (m : Nat) (le : Int) (i : Nat) (k : Int) (w : (Int → Int) → Int) (S : Int → Int) : Int := if (rk R S le m).2.1 = 0 then 0 else if S i = k ∧ R ((i : Int) * 5 + S i) = (rk R S le m).1 then 12 / (rk R S le m).2.1 * w S else 0
abbrev cY (G : sw_G) (a tk so un : Int) : sw_Ce := (10, sw_o 6 [sw_j a, sw_j tk, sw_j so, sw_j un, .ref (sw_al G 11), .ref (sw_al G 12), .ref (sw_al G 13)])
abbrev cYs (G : sw_G) (a tk so un : Int) (g ww wc : Int → Int) : List sw_Ce := [cY G a tk so un, (11, sw_la 4 g), (12, sw_la 20 ww), (13, sw_la 20 wc)]
theorem cYs_nd : sw_nd [10, 11, 12, 13] := sw_nd_of (by simp)
section
variable {l : Launch} {G : sw_G} {M : sw_M}
theorem K6_clear {a tk so un : Int} {g ww wc : Int → Int} (hM : sw_hold M (cYs G a tk so un g ww wc)) : Kt l G μX6_clear [.ref (sw_al G 10)] M (fun r M' => r = none ∧ M' = sw_ov M (cYs G 0 0 0 0 (fl g 0 4) (fl ww 0 20) (fl wc 0 20))) := by
  refine KtA.of (by decide +kernel) (Nat.le_of_ble_eq_true rfl) ?_
  refine v_mem (sw_ov_self hM).symm ?_
  have hn := cYs_nd
  have loop2 : ∀ (n : Nat) (k : Int), 0 ≤ k → k + n = 20 → V l G μX6_clear sw_E0 (sw_Zq G μX6_clear (sw_q0 G (fun r M' => r = none ∧ M' = sw_ov M (cYs G 0 0 0 0 (fl g 0 4) (fl ww 0 20) (fl wc 0 20))))) 42 [(0, .ref (sw_al G 10)), (1, sw_i k)] [] (sw_ov M (cYs G 0 0 0 0 (fl g 0 4) (fl ww 0 k.toNat) (fl wc 0 k.toNat))) 0 0 := by
    intro n
    induction n with
    | zero =>
      intro k h0 hk
      have e : k = 20 := by omega
      subst e
      refine v_iload_n dX6_clear_42 rfl ?_
      refine v_bipush dX6_clear_43 (by decide +kernel) ?_
      refine v_icmp_ge (tgt := 68) dX6_clear_45 (by decide) ⟨by omega, by omega⟩ ⟨by omega, by omega⟩ (fun h45 => ?_) (fun h45 => ?_)
      · skip
        exact v_vret dX6_clear_68 rfl (Nat.le_refl _) (Nat.le_refl _) (⟨rfl, rfl⟩)
      · skip
        exfalso; omega
    | succ n ih =>
      intro k h0 hk
      have e1 := fl_s ww 0 h0
      have e2 := fl_s wc 0 h0
      refine v_iload_n dX6_clear_42 rfl ?_
      refine v_bipush dX6_clear_43 (by decide +kernel) ?_
      refine v_icmp_ge (tgt := 68) dX6_clear_45 (by decide) ⟨by omega, by omega⟩ ⟨by omega, by omega⟩ (fun h45 => ?_) (fun h45 => ?_)
      · skip
        exfalso; omega
      · skip
        refine v_aload_n dX6_clear_48 rfl ?_
        refine v_getf 0 5 fl_X6_28 hn rfl rfl dX6_clear_49 ?_
        refine v_iload_n dX6_clear_52 rfl ?_
        refine v_lconst (z := 0) dX6_clear_53 (by decide +kernel) ?_
        refine v_last 2 hn rfl (Nat.le_of_ble_eq_true rfl) (by omega) (by omega) dX6_clear_54 ?_
        refine v_aload_n dX6_clear_55 rfl ?_
        refine v_getf 0 6 fl_X6_31 hn rfl rfl dX6_clear_56 ?_
        refine v_iload_n dX6_clear_59 rfl ?_
        refine v_lconst (z := 0) dX6_clear_60 (by decide +kernel) ?_
        refine v_last 3 hn rfl (Nat.le_of_ble_eq_true rfl) (by omega) (by omega) dX6_clear_61 ?_
        refine v_iinc dX6_clear_62 rfl (Nat.le_of_ble_eq_true rfl) ?_
        refine v_goto (tgt := 42) dX6_clear_65 (by decide) ?_
        refine v_to (ih (k + 1) (by omega) (by omega)) (by rw [e1, e2]; rfl) (sw_h1 rfl (sw_h1 rfl sw_h0))
  have loop : ∀ (n : Nat) (k : Int), 0 ≤ k → k + n = 4 → V l G μX6_clear sw_E0 (sw_Zq G μX6_clear (sw_q0 G (fun r M' => r = none ∧ M' = sw_ov M (cYs G 0 0 0 0 (fl g 0 4) (fl ww 0 20) (fl wc 0 20))))) 22 [(0, .ref (sw_al G 10)), (1, sw_i k)] [] (sw_ov M (cYs G 0 0 0 0 (fl g 0 k.toNat) ww wc)) 0 0 := by
    intro n
    induction n with
    | zero =>
      intro k h0 hk
      have e : k = 4 := by omega
      subst e
      refine v_iload_n dX6_clear_22 rfl ?_
      refine v_iconst dX6_clear_23 ?_
      refine v_icmp_ge (tgt := 40) dX6_clear_24 (by decide) ⟨by omega, by omega⟩ ⟨by omega, by omega⟩ (fun h24 => ?_) (fun h24 => ?_)
      · skip
        refine v_iconst dX6_clear_40 ?_
        refine v_istore_n dX6_clear_41 (Nat.le_of_ble_eq_true rfl) ?_
        exact v_to (loop2 20 0 (by omega) (by omega)) rfl (sw_h1 rfl (sw_h1 rfl sw_h0))
      · skip
        exfalso; omega
    | succ n ih =>
      intro k h0 hk
      have e1 := fl_s g 0 h0
      refine v_iload_n dX6_clear_22 rfl ?_
      refine v_iconst dX6_clear_23 ?_
      refine v_icmp_ge (tgt := 40) dX6_clear_24 (by decide) ⟨by omega, by omega⟩ ⟨by omega, by omega⟩ (fun h24 => ?_) (fun h24 => ?_)
      · skip
        exfalso; omega
      · skip
        refine v_aload_n dX6_clear_27 rfl ?_
        refine v_getf 0 4 fl_X6_24 hn rfl rfl dX6_clear_28 ?_
        refine v_iload_n dX6_clear_31 rfl ?_
        refine v_lconst (z := 0) dX6_clear_32 (by decide +kernel) ?_
        refine v_last 1 hn rfl (Nat.le_of_ble_eq_true rfl) (by omega) (by omega) dX6_clear_33 ?_
        refine v_iinc dX6_clear_34 rfl (Nat.le_of_ble_eq_true rfl) ?_
        refine v_goto (tgt := 22) dX6_clear_37 (by decide) ?_
        refine v_to (ih (k + 1) (by omega) (by omega)) (by rw [e1]; rfl) (sw_h1 rfl (sw_h1 rfl sw_h0))
  refine v_aload_n dX6_clear_0 rfl ?_
  refine v_lconst (z := 0) dX6_clear_1 (by decide +kernel) ?_
  refine v_putf 0 0 fp_X6_9 hn rfl rfl rfl (Nat.le_of_ble_eq_true rfl) dX6_clear_2 ?_
  refine v_aload_n dX6_clear_5 rfl ?_
  refine v_lconst (z := 0) dX6_clear_6 (by decide +kernel) ?_
  refine v_putf 0 1 fp_X6_15 hn rfl rfl rfl (Nat.le_of_ble_eq_true rfl) dX6_clear_7 ?_
  refine v_aload_n dX6_clear_10 rfl ?_
  refine v_lconst (z := 0) dX6_clear_11 (by decide +kernel) ?_
  refine v_putf 0 2 fp_X6_18 hn rfl rfl rfl (Nat.le_of_ble_eq_true rfl) dX6_clear_12 ?_
  refine v_aload_n dX6_clear_15 rfl ?_
  refine v_lconst (z := 0) dX6_clear_16 (by decide +kernel) ?_
  refine v_putf 0 3 fp_X6_21 hn rfl rfl rfl (Nat.le_of_ble_eq_true rfl) dX6_clear_17 ?_
  refine v_iconst dX6_clear_20 ?_
  refine v_istore_n dX6_clear_21 (Nat.le_of_ble_eq_true rfl) ?_
  exact v_to (loop 4 0 (by omega) (by omega)) rfl (sw_h1 rfl (sw_h1 rfl sw_h0))
theorem K6_paidBy {b : Nat} {m le wt wo hi al nx su bid pr : Int} {ap : Bool} (h1 : M 6 = some (cC G b m le wt wo hi al nx su).2) (hle : sw_rg le) (hhi : sw_rg hi) (hal : 0 ≤ al ∧ al ≤ 4) (hb : 0 ≤ bid ∧ bid ≤ 60) (hpr : 0 ≤ pr ∧ pr ≤ 60) : Kt l G μX6_paidBy [.ref (sw_al G 6), sw_i bid, sw_i pr, sw_i (bI (ap = true))] M (fun r M' => r = some (sw_j (pdB ap le hi al bid pr)) ∧ M' = M) := by
  refine KtA.of (by decide +kernel) (Nat.le_of_ble_eq_true rfl) ?_
  have hback : sw_ov M [cC G b m le wt wo hi al nx su] = M := sw_ov_self (sw_hold1 h1 sw_hold0)
  refine v_mem hback.symm ?_
  have hn : sw_nd [6] := sw_nd_of (by simp)
  obtain ⟨l1, l2⟩ := hle
  obtain ⟨i1, i2⟩ := hhi
  refine v_iload_n dX6_paidBy_0 rfl ?_
  refine v_ifb_eq (tgt := 22) dX6_paidBy_1 (by decide) (fun h1 => ?_) (fun h1 => ?_)
  · skip
    refine v_iload_n dX6_paidBy_22 rfl ?_
    refine v_aload_n dX6_paidBy_23 rfl ?_
    refine v_getf 0 8 fl_X6_82 hn rfl rfl dX6_paidBy_24 ?_
    refine v_icmp_ne (tgt := 50) dX6_paidBy_27 (by decide) ⟨by omega, by omega⟩ ⟨by omega, by omega⟩ (fun h27 => ?_) (fun h27 => ?_)
    · skip
      refine v_lconst (z := 0) dX6_paidBy_50 (by decide +kernel) ?_
      exact v_lret dX6_paidBy_51 rfl (Nat.le_refl _) (Nat.le_refl _) (⟨by unfold pdB; rw [if_neg h1, if_neg (by omega)], hback⟩)
    · skip
      skip
      refine v_aload_n dX6_paidBy_30 rfl ?_
      refine v_getf 0 9 fl_X6_61 hn rfl rfl dX6_paidBy_31 ?_
      refine v_if_le (tgt := 50) dX6_paidBy_34 (by decide) ⟨by omega, by omega⟩ (fun h34 => ?_) (fun h34 => ?_)
      · skip
        refine v_lconst (z := 0) dX6_paidBy_50 (by decide +kernel) ?_
        exact v_lret dX6_paidBy_51 rfl (Nat.le_refl _) (Nat.le_refl _) (⟨by unfold pdB; rw [if_neg h1, if_neg (by omega)], hback⟩)
      · skip
        have hs := sh_bd (al := al) (by omega)
        have hm := mul_bd hs hpr
        refine v_bipush dX6_paidBy_37 (by decide +kernel) ?_
        refine v_aload_n dX6_paidBy_39 rfl ?_
        refine v_getf 0 9 fl_X6_61 hn rfl rfl dX6_paidBy_40 ?_
        refine v_idiv dX6_paidBy_43 ⟨by omega, by omega⟩ (by omega) ⟨by omega, by omega⟩ (by omega) ?_
        refine v_iload_n dX6_paidBy_44 rfl ?_
        refine v_imul dX6_paidBy_45 ?_
        refine v_i2l dX6_paidBy_46 ⟨by omega, by omega⟩ ?_
        refine v_goto (tgt := 51) dX6_paidBy_47 (by decide) ?_
        exact v_lret dX6_paidBy_51 rfl (Nat.le_refl _) (Nat.le_refl _) (⟨by unfold pdB; rw [if_neg h1, if_pos ⟨by omega, by omega⟩], hback⟩)
  · skip
    refine v_iload_n dX6_paidBy_4 rfl ?_
    refine v_aload_n dX6_paidBy_5 rfl ?_
    refine v_getf 0 5 fl_X6_96 hn rfl rfl dX6_paidBy_6 ?_
    refine v_icmp_lt (tgt := 20) dX6_paidBy_9 (by decide) ⟨by omega, by omega⟩ ⟨by omega, by omega⟩ (fun h9 => ?_) (fun h9 => ?_)
    · skip
      refine v_lconst (z := 0) dX6_paidBy_20 (by decide +kernel) ?_
      exact v_lret dX6_paidBy_21 rfl (Nat.le_refl _) (Nat.le_refl _) (⟨by unfold pdB; rw [if_pos h1, if_neg (by omega)], hback⟩)
    · skip
      refine v_bipush dX6_paidBy_12 (by decide +kernel) ?_
      refine v_iload_n dX6_paidBy_14 rfl ?_
      refine v_imul dX6_paidBy_15 ?_
      refine v_i2l dX6_paidBy_16 ⟨by omega, by omega⟩ ?_
      refine v_goto (tgt := 21) dX6_paidBy_17 (by decide) ?_
      exact v_lret dX6_paidBy_21 rfl (Nat.le_refl _) (Nat.le_refl _) (⟨by unfold pdB; rw [if_pos h1, if_pos (by omega)], hback⟩)
theorem K6_addCases {b : Nat} (hb : 50 ≤ b) {σ : SaleT} {u d : Int} {m : Nat} {le a tk so un : Int} {R S P0 P g ww wc : Int → Int} {ap : Bool} (hY : sw_hold M (cYs G a tk so un g ww wc)) (h1 : M 6 = some (cCd G b σ m le R S P0).2) (h2 : M 7 = some (cR R).2) (h3 : M 8 = some (cG S).2) (h4 : M 9 = some (cP P).2) (h5 : sw_hold M (cS G b σ u d)) (hw : wfS σ) (hm : m ≤ 4) (hS : sOK σ S m) (hR : bOK R S m) (hle : 0 ≤ le ∧ le ≤ 60) (hP : pOK σ S P0 P m) :
    Kt l G μX6_addCases [.ref (sw_al G 10), .ref (sw_al G 6), sw_i (bI (ap = true))] M (fun r M' => ∃ g' ww' wc', r = none ∧ (∀ i : Nat, i < m → g' i = g i + tG σ R P0 m le ap i S) ∧ (∀ (i : Nat) (k : Int), i < m → 0 ≤ k → k < 5 → ww' ((i : Int) * 5 + k) = ww ((i : Int) * 5 + k) + tX R m le i k (fun S => crV σ S P0 m) S) ∧ (∀ (i : Nat) (k : Int), i < m → 0 ≤ k → k < 5 → wc' ((i : Int) * 5 + k) = wc ((i : Int) * 5 + k) + tX R m le i k (fun S => crW σ S P0 m) S) ∧
      M' = sw_ov M (cYs G (a + tW σ P0 m S) (tk + tT σ R P0 m le ap S) (so + tS σ R P0 m le S) (un + tU σ R P0 m le S) g' ww' wc')) := by
  refine KtA.of (by decide +kernel) (Nat.le_of_ble_eq_true rfl) ?_
  have hback : ∀ (a tk so un : Int) (g ww wc : Int → Int), sw_ov M (cYs G a tk so un g ww wc ++ [cCd G b σ m le R S P0, cG S]) = sw_ov M (cYs G a tk so un g ww wc) := fun a tk so un g ww wc => sw_ov_dr (sw_hold1 h1 (sw_hold1 h3 sw_hold0)) _
  refine v_mem (sw_ov_self (cs := cYs G a tk so un g ww wc ++ [cCd G b σ m le R S P0, cG S]) (sw_hold.app hY (sw_hold1 h1 (sw_hold1 h3 sw_hold0)))).symm ?_
  have hn : sw_nd [10, 11, 12, 13, 6, 8] := sw_nd_of (by simp)
  have hq := rk_bd (le := le) hR
  have hqa := rk_al (R := R) (S := S) hle.1 m
  have hsale : ∀ (a tk so un : Int) (g ww wc : Int → Int), sw_hold (sw_ov M (cYs G a tk so un g ww wc ++ [cCd G b σ m le R S P0, cG S])) (cS G b σ u d) := fun a tk so un g ww wc => h5.out (by simp; omega)
  have hCc : ∀ (a tk so un : Int) (g ww wc : Int → Int), (sw_ov M (cYs G a tk so un g ww wc ++ [cCd G b σ m le R S P0, cG S])) 6 = some (cCd G b σ m le R S P0).2 := fun a tk so un g ww wc => sw_ov_at (q := 4) (t := 6) hn rfl
  have hSc : ∀ (a tk so un : Int) (g ww wc : Int → Int), (sw_ov M (cYs G a tk so un g ww wc ++ [cCd G b σ m le R S P0, cG S])) 8 = some (cG S).2 := fun a tk so un g ww wc => sw_ov_at (q := 5) (t := 8) hn rfl
  have hRc : ∀ (a tk so un : Int) (g ww wc : Int → Int), (sw_ov M (cYs G a tk so un g ww wc ++ [cCd G b σ m le R S P0, cG S])) 7 = some (cR R).2 := fun a tk so un g ww wc => by rw [sw_ov_out (by simp)]; exact h2
  have hPc : ∀ (a tk so un : Int) (g ww wc : Int → Int), (sw_ov M (cYs G a tk so un g ww wc ++ [cCd G b σ m le R S P0, cG S])) 9 = some (cP P).2 := fun a tk so un g ww wc => by rw [sw_ov_out (by simp)]; exact h4
  have hsg := hw.1
  obtain ⟨q, hqq⟩ : ∃ q, rk R S le m = q := ⟨_, rfl⟩
  -- where none bids
  have none_case : q.2.1 = 0 → ∃ g' ww' wc', (none : Option Value) = none ∧ (∀ i : Nat, i < m → g' i = g i + tG σ R P0 m le ap i S) ∧ (∀ (i : Nat) (k : Int), i < m → 0 ≤ k → k < 5 → ww' ((i : Int) * 5 + k) = ww ((i : Int) * 5 + k) + tX R m le i k (fun S => crV σ S P0 m) S) ∧ (∀ (i : Nat) (k : Int), i < m → 0 ≤ k → k < 5 → wc' ((i : Int) * 5 + k) = wc ((i : Int) * 5 + k) + tX R m le i k (fun S => crW σ S P0 m) S) ∧
      sw_ov M (cYs G (a + 12 * crW σ S P0 m) tk so (un + 12 * crW σ S P0 m) g ww wc ++ [cCd G b σ m le R S P0, cG S]) = sw_ov M (cYs G (a + tW σ P0 m S) (tk + tT σ R P0 m le ap S) (so + tS σ R P0 m le S) (un + tU σ R P0 m le S) g' ww' wc') := by
    intro h0
    refine ⟨g, ww, wc, rfl, fun i hi => ?_, fun i k hi hk0 hk1 => ?_, fun i k hi hk0 hk1 => ?_, ?_⟩
    · unfold tG; rw [hqq, if_pos h0]; omega
    · unfold tX; rw [hqq, if_pos h0]; omega
    · unfold tX; rw [hqq, if_pos h0]; omega
    · rw [hback]
      unfold tW tT tS tU
      rw [hqq, if_pos h0, if_pos h0, if_pos h0, Int.add_zero, Int.add_zero]
  rw [hqq] at hq hqa
  have some_case : q.2.1 ≠ 0 → 0 ≤ crP σ le q.1 q.2.2.1 ∧ crP σ le q.1 q.2.2.1 ≤ 60 := fun h => crP_bd hle (by omega) (by omega)
  -- the seats
  have loop : q.2.1 ≠ 0 → ∀ (n i : Nat) (g' ww' wc' : Int → Int), i + n = m → (∀ j : Nat, j < i → g' j = g j + tG σ R P0 m le ap j S) → (∀ j : Nat, i ≤ j → g' j = g j) → (∀ (j : Nat) (k : Int), j < i → 0 ≤ k → k < 5 → ww' ((j : Int) * 5 + k) = ww ((j : Int) * 5 + k) + tX R m le j k (fun S => crV σ S P0 m) S) → (∀ (j : Nat) (k : Int), i ≤ j → 0 ≤ k → k < 5 → ww' ((j : Int) * 5 + k) = ww ((j : Int) * 5 + k)) →
      (∀ (j : Nat) (k : Int), j < i → 0 ≤ k → k < 5 → wc' ((j : Int) * 5 + k) = wc ((j : Int) * 5 + k) + tX R m le j k (fun S => crW σ S P0 m) S) → (∀ (j : Nat) (k : Int), i ≤ j → 0 ≤ k → k < 5 → wc' ((j : Int) * 5 + k) = wc ((j : Int) * 5 + k)) →
      V l G μX6_addCases sw_E0 (sw_Zq G μX6_addCases (sw_q0 G (fun r M' => ∃ g' ww' wc', r = none ∧ (∀ i : Nat, i < m → g' i = g i + tG σ R P0 m le ap i S) ∧ (∀ (i : Nat) (k : Int), i < m → 0 ≤ k → k < 5 → ww' ((i : Int) * 5 + k) = ww ((i : Int) * 5 + k) + tX R m le i k (fun S => crV σ S P0 m) S) ∧ (∀ (i : Nat) (k : Int), i < m → 0 ≤ k → k < 5 → wc' ((i : Int) * 5 + k) = wc ((i : Int) * 5 + k) + tX R m le i k (fun S => crW σ S P0 m) S) ∧
      M' = sw_ov M (cYs G (a + tW σ P0 m S) (tk + tT σ R P0 m le ap S) (so + tS σ R P0 m le S) (un + tU σ R P0 m le S) g' ww' wc')))) 109 [(0, .ref (sw_al G 10)), (1, .ref (sw_al G 6)), (2, sw_i (bI (ap = true))), (3, sw_i (crP σ le q.1 q.2.2.1)), (4, sw_j (12 / q.2.1)), (6, sw_i (i : Int))] [] (sw_ov M (cYs G (a + tW σ P0 m S) (tk + tT σ R P0 m le ap S) (so + tS σ R P0 m le S) (un + tU σ R P0 m le S) g' ww' wc' ++ [cCd G b σ m le R S P0, cG S])) 0 0 := by
    intro hal n
    have hpr := some_case hal
    induction n with
    | zero =>
      intro i g' ww' wc' hi e1 e2 e3 e4 e5 e6
      have e : i = m := by omega
      subst e
      refine v_iload dX6_addCases_109 rfl ?_
      refine v_aload_n dX6_addCases_111 rfl ?_
      refine v_getf 4 4 fl_X6_75 hn rfl rfl dX6_addCases_112 ?_
      refine v_icmp_ge (tgt := 229) dX6_addCases_115 (by decide) ⟨by omega, by omega⟩ ⟨by omega, by omega⟩ (fun h115 => ?_) (fun h115 => ?_)
      · skip
        exact v_vret dX6_addCases_229 rfl (Nat.le_refl _) (Nat.le_refl _) (⟨g', ww', wc', rfl, e1, e3, e5, hback _ _ _ _ _ _ _⟩)
      · skip
        exfalso; omega
    | succ n ih =>
      intro i g' ww' wc' hi e1 e2 e3 e4 e5 e6
      have hsi := hS i (by omega)
      have hbi := hR i (by omega)
      have ht : tG σ R P0 m le ap i S = (if R ((i : Int) * 5 + S i) = q.1 then 12 / q.2.1 * crV σ S P0 m else 0) - crW σ S P0 m * pdB ap le q.1 q.2.1 (R ((i : Int) * 5 + S i)) (crP σ le q.1 q.2.2.1) := by
        unfold tG; rw [hqq, if_neg hal]
      have hx : ∀ (k : Int) (w : (Int → Int) → Int), tX R m le i k w S = if S i = k ∧ R ((i : Int) * 5 + S i) = q.1 then 12 / q.2.1 * w S else 0 := by
        intro k w
        unfold tX; rw [hqq, if_neg hal]
      refine v_iload dX6_addCases_109 rfl ?_
      refine v_aload_n dX6_addCases_111 rfl ?_
      refine v_getf 4 4 fl_X6_75 hn rfl rfl dX6_addCases_112 ?_
      refine v_icmp_ge (tgt := 229) dX6_addCases_115 (by decide) ⟨by omega, by omega⟩ ⟨by omega, by omega⟩ (fun h115 => ?_) (fun h115 => ?_)
      · skip
        exfalso; omega
      · skip
        refine v_aload_n dX6_addCases_118 rfl ?_
        refine v_iload dX6_addCases_119 rfl ?_
        refine v_callV (ci := 1) (K1_bidNow (hCc _ _ _ _ _ _ _) (hRc _ _ _ _ _ _ _) (hSc _ _ _ _ _ _ _) (i := (i : Int)) ⟨by omega, by omega⟩ ⟨by omega, by omega⟩) ⟨rfl, rfl⟩ (Nat.le_refl _) (Nat.le_refl _) (hCc _ _ _ _ _ _ _) rfl ⟨ml_X6_78, mm_X1_bidNow⟩ ⟨(Nat.le_of_ble_eq_true rfl), (Nat.le_of_ble_eq_true rfl)⟩ mp_X1_bidNow rfl rfl (Nat.le_of_ble_eq_true rfl) dX6_addCases_121 (fun r M' h => ?_)
        obtain ⟨rfl, rfl⟩ := h
        refine v_istore dX6_addCases_124 (Nat.le_of_ble_eq_true rfl) ?_
        obtain ⟨v, hv⟩ : ∃ v, R ((i : Int) * 5 + S i) = v := ⟨_, rfl⟩
        rw [hv] at hbi ht
        simp only [hv] at hx
        rw [hv]
        refine v_iload dX6_addCases_126 rfl ?_
        refine v_aload_n dX6_addCases_128 rfl ?_
        refine v_getf 4 8 fl_X6_82 hn rfl rfl dX6_addCases_129 ?_
        refine v_icmp_ne (tgt := 200) dX6_addCases_132 (by decide) ⟨by omega, by omega⟩ ⟨by rw [hqq]; omega, by rw [hqq]; omega⟩ (fun h132 => ?_) (fun h132 => ?_)
        · skip
          rw [hqq] at h132
          rw [if_neg h132] at ht
          refine v_aload_n dX6_addCases_200 rfl ?_
          refine v_getf 0 4 fl_X6_24 hn rfl rfl dX6_addCases_201 ?_
          refine v_iload dX6_addCases_204 rfl ?_
          refine v_dup2 dX6_addCases_206 rfl rfl ?_
          refine v_lald 1 hn rfl (Nat.le_of_ble_eq_true rfl) (by omega) (by omega) dX6_addCases_207 ?_
          refine v_aload_n dX6_addCases_208 rfl ?_
          refine v_getf 4 6 fl_X6_58 hn rfl rfl dX6_addCases_209 ?_
          refine v_aload_n dX6_addCases_212 rfl ?_
          refine v_iload dX6_addCases_213 rfl ?_
          refine v_iload_n dX6_addCases_215 rfl ?_
          refine v_iload_n dX6_addCases_216 rfl ?_
          refine v_callS (K6_paidBy (b := b) (m := m) (le := le) (wt := crW σ S P0 m) (wo := crV σ S P0 m) (hi := (rk R S le m).1) (al := (rk R S le m).2.1) (nx := (rk R S le m).2.2.1) (su := (rk R S le m).2.2.2) (hCc _ _ _ _ _ _ _) ⟨by omega, by omega⟩ ⟨by rw [hqq]; omega, by rw [hqq]; omega⟩ (by rw [hqq]; omega) hbi hpr) ⟨rfl, rfl⟩ (Nat.le_refl _) (Nat.le_refl _) ⟨ml_X6_92, mm_X6_paidBy⟩ ⟨(Nat.le_of_ble_eq_true rfl), (Nat.le_of_ble_eq_true rfl)⟩ mp_X6_paidBy rfl rfl (Nat.le_of_ble_eq_true rfl) dX6_addCases_217 (fun r M' h => ?_)
          obtain ⟨rfl, rfl⟩ := h
          rw [hqq]
          refine v_lmul dX6_addCases_220 ?_
          refine v_lsub dX6_addCases_221 ?_
          refine v_last 1 hn rfl (Nat.le_of_ble_eq_true rfl) (by omega) (by omega) dX6_addCases_222 ?_
          refine v_iinc dX6_addCases_223 rfl (Nat.le_of_ble_eq_true rfl) ?_
          refine v_goto (tgt := 109) dX6_addCases_226 (by decide) ?_
          refine v_to (ih (i + 1) (up g' i (g' i - crW σ S P0 m * pdB ap le q.1 q.2.1 v (crP σ le q.1 q.2.2.1))) ww' wc' (by omega) ?_ ?_ ?_ ?_ ?_ ?_) rfl (sw_h1 rfl (sw_h1 rfl (sw_h1 rfl (sw_h1 rfl (sw_h1 rfl (sw_h1 rfl sw_h0))))))
          · intro j hj
            show (if (j : Int) = i then _ else g' j) = _
            by_cases e : j = i
            · subst e; rw [if_pos rfl, ht, e2 j (Nat.le_refl _)]; omega
            · rw [if_neg (by omega)]; exact e1 j (by omega)
          · intro j hj
            show (if (j : Int) = i then _ else g' j) = _
            rw [if_neg (by omega)]; exact e2 j (by omega)
          · intro j k hj hk0 hk1
            by_cases e : j = i
            · subst e; rw [hx, if_neg (by omega), e4 j k (Nat.le_refl _) hk0 hk1]; omega
            · exact e3 j k (by omega) hk0 hk1
          · intro j k hj hk0 hk1; exact e4 j k (by omega) hk0 hk1
          · intro j k hj hk0 hk1
            by_cases e : j = i
            · subst e; rw [hx, if_neg (by omega), e6 j k (Nat.le_refl _) hk0 hk1]; omega
            · exact e5 j k (by omega) hk0 hk1
          · intro j k hj hk0 hk1; exact e6 j k (by omega) hk0 hk1
        · skip
          rw [hqq] at h132
          rw [if_pos (by omega)] at ht
          refine v_iload dX6_addCases_135 rfl ?_
          refine v_iconst dX6_addCases_137 ?_
          refine v_imul dX6_addCases_138 ?_
          refine v_aload_n dX6_addCases_139 rfl ?_
          refine v_getf 4 1 fl_X6_85 hn rfl rfl dX6_addCases_140 ?_
          refine v_iload dX6_addCases_143 rfl ?_
          refine v_iald 5 hn rfl (Nat.le_of_ble_eq_true rfl) (by omega) (by omega) dX6_addCases_145 ?_
          refine v_iadd dX6_addCases_146 ?_
          refine v_istore dX6_addCases_147 (Nat.le_of_ble_eq_true rfl) ?_
          refine v_aload_n dX6_addCases_149 rfl ?_
          refine v_getf 0 5 fl_X6_28 hn rfl rfl dX6_addCases_150 ?_
          refine v_iload dX6_addCases_153 rfl ?_
          refine v_dup2 dX6_addCases_155 rfl rfl ?_
          refine v_lald 2 hn rfl (Nat.le_of_ble_eq_true rfl) (by omega) (by omega) dX6_addCases_156 ?_
          refine v_lload dX6_addCases_157 rfl ?_
          refine v_aload_n dX6_addCases_159 rfl ?_
          refine v_getf 4 7 fl_X6_89 hn rfl rfl dX6_addCases_160 ?_
          refine v_lmul dX6_addCases_163 ?_
          refine v_ladd dX6_addCases_164 ?_
          refine v_last 2 hn rfl (Nat.le_of_ble_eq_true rfl) (by omega) (by omega) dX6_addCases_165 ?_
          refine v_aload_n dX6_addCases_166 rfl ?_
          refine v_getf 0 6 fl_X6_31 hn rfl rfl dX6_addCases_167 ?_
          refine v_iload dX6_addCases_170 rfl ?_
          refine v_dup2 dX6_addCases_172 rfl rfl ?_
          refine v_lald 3 hn rfl (Nat.le_of_ble_eq_true rfl) (by omega) (by omega) dX6_addCases_173 ?_
          refine v_lload dX6_addCases_174 rfl ?_
          refine v_aload_n dX6_addCases_176 rfl ?_
          refine v_getf 4 6 fl_X6_58 hn rfl rfl dX6_addCases_177 ?_
          refine v_lmul dX6_addCases_180 ?_
          refine v_ladd dX6_addCases_181 ?_
          refine v_last 3 hn rfl (Nat.le_of_ble_eq_true rfl) (by omega) (by omega) dX6_addCases_182 ?_
          refine v_aload_n dX6_addCases_183 rfl ?_
          refine v_getf 0 4 fl_X6_24 hn rfl rfl dX6_addCases_184 ?_
          refine v_iload dX6_addCases_187 rfl ?_
          refine v_dup2 dX6_addCases_189 rfl rfl ?_
          refine v_lald 1 hn rfl (Nat.le_of_ble_eq_true rfl) (by omega) (by omega) dX6_addCases_190 ?_
          refine v_lload dX6_addCases_191 rfl ?_
          refine v_aload_n dX6_addCases_193 rfl ?_
          refine v_getf 4 7 fl_X6_89 hn rfl rfl dX6_addCases_194 ?_
          refine v_lmul dX6_addCases_197 ?_
          refine v_ladd dX6_addCases_198 ?_
          refine v_last 1 hn rfl (Nat.le_of_ble_eq_true rfl) (by omega) (by omega) dX6_addCases_199 ?_
          refine v_aload_n dX6_addCases_200 rfl ?_
          refine v_getf 0 4 fl_X6_24 hn rfl rfl dX6_addCases_201 ?_
          refine v_iload dX6_addCases_204 rfl ?_
          refine v_dup2 dX6_addCases_206 rfl rfl ?_
          refine v_lald 1 hn rfl (Nat.le_of_ble_eq_true rfl) (by omega) (by omega) dX6_addCases_207 ?_
          refine v_aload_n dX6_addCases_208 rfl ?_
          refine v_getf 4 6 fl_X6_58 hn rfl rfl dX6_addCases_209 ?_
          refine v_aload_n dX6_addCases_212 rfl ?_
          refine v_iload dX6_addCases_213 rfl ?_
          refine v_iload_n dX6_addCases_215 rfl ?_
          refine v_iload_n dX6_addCases_216 rfl ?_
          refine v_callS (K6_paidBy (b := b) (m := m) (le := le) (wt := crW σ S P0 m) (wo := crV σ S P0 m) (hi := (rk R S le m).1) (al := (rk R S le m).2.1) (nx := (rk R S le m).2.2.1) (su := (rk R S le m).2.2.2) (hCc _ _ _ _ _ _ _) ⟨by omega, by omega⟩ ⟨by rw [hqq]; omega, by rw [hqq]; omega⟩ (by rw [hqq]; omega) hbi hpr) ⟨rfl, rfl⟩ (Nat.le_refl _) (Nat.le_refl _) ⟨ml_X6_92, mm_X6_paidBy⟩ ⟨(Nat.le_of_ble_eq_true rfl), (Nat.le_of_ble_eq_true rfl)⟩ mp_X6_paidBy rfl rfl (Nat.le_of_ble_eq_true rfl) dX6_addCases_217 (fun r M' h => ?_)
          obtain ⟨rfl, rfl⟩ := h
          rw [hqq]
          refine v_lmul dX6_addCases_220 ?_
          refine v_lsub dX6_addCases_221 ?_
          refine v_last 1 hn rfl (Nat.le_of_ble_eq_true rfl) (by omega) (by omega) dX6_addCases_222 ?_
          refine v_iinc dX6_addCases_223 rfl (Nat.le_of_ble_eq_true rfl) ?_
          refine v_goto (tgt := 109) dX6_addCases_226 (by decide) ?_
          refine v_to (ih (i + 1) (up (up g' i (g' i + 12 / q.2.1 * crV σ S P0 m)) i ((up g' i (g' i + 12 / q.2.1 * crV σ S P0 m)) i - crW σ S P0 m * pdB ap le q.1 q.2.1 v (crP σ le q.1 q.2.2.1))) (up ww' ((i : Int) * 5 + S i) (ww' ((i : Int) * 5 + S i) + 12 / q.2.1 * crV σ S P0 m)) (up wc' ((i : Int) * 5 + S i) (wc' ((i : Int) * 5 + S i) + 12 / q.2.1 * crW σ S P0 m)) (by omega) ?_ ?_ ?_ ?_ ?_ ?_) rfl (sw_h1 rfl (sw_h1 rfl (sw_h1 rfl (sw_h1 rfl (sw_h1 rfl (sw_h1 rfl sw_h0))))))
          · intro j hj
            show (if (j : Int) = i then (if (i : Int) = i then _ else _) - _ else (if (j : Int) = i then _ else g' j)) = _
            by_cases e : j = i
            · subst e; rw [if_pos rfl, if_pos rfl, ht, e2 j (Nat.le_refl _)]; omega
            · rw [if_neg (by omega), if_neg (by omega)]; exact e1 j (by omega)
          · intro j hj
            show (if (j : Int) = i then _ else (if (j : Int) = i then _ else g' j)) = _
            rw [if_neg (by omega), if_neg (by omega)]; exact e2 j (by omega)
          · intro j k hj hk0 hk1
            show (if ((j : Int) * 5 + k : Int) = (i : Int) * 5 + S i then _ else ww' ((j : Int) * 5 + k)) = _
            by_cases e : j = i
            · subst e
              rw [hx]
              by_cases ek : S j = k
              · rw [if_pos (by omega), if_pos ⟨ek, by omega⟩, ek, e4 j k (Nat.le_refl _) hk0 hk1]
              · rw [if_neg (by omega), if_neg (by omega), e4 j k (Nat.le_refl _) hk0 hk1]; omega
            · rw [if_neg (by omega)]; exact e3 j k (by omega) hk0 hk1
          · intro j k hj hk0 hk1
            show (if ((j : Int) * 5 + k : Int) = (i : Int) * 5 + S i then _ else ww' ((j : Int) * 5 + k)) = _
            rw [if_neg (by omega)]; exact e4 j k (by omega) hk0 hk1
          · intro j k hj hk0 hk1
            show (if ((j : Int) * 5 + k : Int) = (i : Int) * 5 + S i then _ else wc' ((j : Int) * 5 + k)) = _
            by_cases e : j = i
            · subst e
              rw [hx]
              by_cases ek : S j = k
              · rw [if_pos (by omega), if_pos ⟨ek, by omega⟩, ek, e6 j k (Nat.le_refl _) hk0 hk1]
              · rw [if_neg (by omega), if_neg (by omega), e6 j k (Nat.le_refl _) hk0 hk1]; omega
            · rw [if_neg (by omega)]; exact e5 j k (by omega) hk0 hk1
          · intro j k hj hk0 hk1
            show (if ((j : Int) * 5 + k : Int) = (i : Int) * 5 + S i then _ else wc' ((j : Int) * 5 + k)) = _
            rw [if_neg (by omega)]; exact e6 j k (by omega) hk0 hk1
  have goal72 : q.2.1 ≠ 0 → ∀ z, z = (if ap = true then q.2.2.2 else crP σ le q.1 q.2.2.1) → V l G μX6_addCases sw_E0 (sw_Zq G μX6_addCases (sw_q0 G (fun r M' => ∃ g' ww' wc', r = none ∧ (∀ i : Nat, i < m → g' i = g i + tG σ R P0 m le ap i S) ∧ (∀ (i : Nat) (k : Int), i < m → 0 ≤ k → k < 5 → ww' ((i : Int) * 5 + k) = ww ((i : Int) * 5 + k) + tX R m le i k (fun S => crV σ S P0 m) S) ∧ (∀ (i : Nat) (k : Int), i < m → 0 ≤ k → k < 5 → wc' ((i : Int) * 5 + k) = wc ((i : Int) * 5 + k) + tX R m le i k (fun S => crW σ S P0 m) S) ∧
      M' = sw_ov M (cYs G (a + tW σ P0 m S) (tk + tT σ R P0 m le ap S) (so + tS σ R P0 m le S) (un + tU σ R P0 m le S) g' ww' wc')))) 72 [(0, .ref (sw_al G 10)), (1, .ref (sw_al G 6)), (2, sw_i (bI (ap = true))), (3, sw_i (crP σ le q.1 q.2.2.1))] [sw_i z, sw_j (12 * crW σ S P0 m), sw_j tk, .ref (sw_al G 10)] (sw_ov M (cYs G (a + 12 * crW σ S P0 m) tk so un g ww wc ++ [cCd G b σ m le R S P0, cG S])) 0 0 := by
    intro hal z hz
    have hpr := some_case hal
    have hzb : 0 ≤ z ∧ z ≤ 240 := by rw [hz]; split <;> omega
    have f1 : tT σ R P0 m le ap S = 12 * crW σ S P0 m * z := by unfold tT; rw [hqq, if_neg hal, hz]
    have f2 : tS σ R P0 m le S = 12 * crB σ S P0 m (crP σ le q.1 q.2.2.1) := by unfold tS; rw [hqq, if_neg hal]
    have f3 : tU σ R P0 m le S = 0 := by unfold tU; rw [hqq, if_neg hal]
    have loop := loop hal
    rw [f1, f2, f3, Int.add_zero] at loop
    rw [f1, f2, f3, Int.add_zero]
    have hsh := sh_bd (al := q.2.1) (by omega)
    refine v_i2l dX6_addCases_72 ⟨by omega, by omega⟩ ?_
    refine v_lmul dX6_addCases_73 ?_
    refine v_ladd dX6_addCases_74 ?_
    refine v_putf 0 1 fp_X6_15 hn rfl rfl rfl (Nat.le_of_ble_eq_true rfl) dX6_addCases_75 ?_
    refine v_aload_n dX6_addCases_78 rfl ?_
    refine v_dup dX6_addCases_79 rfl ?_
    refine v_getf 0 2 fl_X6_18 hn rfl rfl dX6_addCases_80 ?_
    refine v_ldc2 (z := 12) kl_X6_56 (by decide +kernel) dX6_addCases_83 ?_
    refine v_aload_n dX6_addCases_86 rfl ?_
    refine v_iload_n dX6_addCases_87 rfl ?_
    refine v_callV (ci := 1) (K1_weightBelow hb (hCc _ _ _ _ _ _ _) (hPc _ _ _ _ _ _ _) (hsale _ _ _ _ _ _ _) hw hm hP (pr := crP σ le q.1 q.2.2.1) ⟨by omega, by omega⟩) ⟨rfl, rfl⟩ (Nat.le_refl _) (Nat.le_refl _) (hCc _ _ _ _ _ _ _) rfl ⟨ml_X6_71, mm_X1_weightBelow⟩ ⟨(Nat.le_of_ble_eq_true rfl), (Nat.le_of_ble_eq_true rfl)⟩ mp_X1_weightBelow rfl rfl (Nat.le_of_ble_eq_true rfl) dX6_addCases_88 (fun r M' h => ?_)
    obtain ⟨rfl, rfl⟩ := h
    refine v_lmul dX6_addCases_91 ?_
    refine v_ladd dX6_addCases_92 ?_
    refine v_putf 0 2 fp_X6_18 hn rfl rfl rfl (Nat.le_of_ble_eq_true rfl) dX6_addCases_93 ?_
    refine v_bipush dX6_addCases_96 (by decide +kernel) ?_
    refine v_aload_n dX6_addCases_98 rfl ?_
    refine v_getf 4 9 fl_X6_61 hn rfl rfl dX6_addCases_99 ?_
    rw [hqq]
    refine v_idiv dX6_addCases_102 ⟨by omega, by omega⟩ (by omega) ⟨by omega, by omega⟩ (by omega) ?_
    skip
    refine v_i2l dX6_addCases_103 ⟨by omega, by omega⟩ ?_
    refine v_lstore dX6_addCases_104 (Nat.le_of_ble_eq_true rfl) ?_
    refine v_iconst dX6_addCases_106 ?_
    refine v_istore dX6_addCases_107 (Nat.le_of_ble_eq_true rfl) ?_
    exact v_to (loop m 0 g ww wc (by omega) (fun j hj => by omega) (fun j hj => rfl) (fun j k hj => by omega) (fun j k _ _ _ => rfl) (fun j k hj => by omega) (fun j k _ _ _ => rfl)) rfl (sw_h1 rfl (sw_h1 rfl (sw_h1 rfl (sw_h1 rfl (sw_h1 rfl (sw_h1 rfl sw_h0))))))
  refine v_aload_n dX6_addCases_0 rfl ?_
  refine v_dup dX6_addCases_1 rfl ?_
  refine v_getf 0 0 fl_X6_9 hn rfl rfl dX6_addCases_2 ?_
  refine v_ldc2 (z := 12) kl_X6_56 (by decide +kernel) dX6_addCases_5 ?_
  refine v_aload_n dX6_addCases_8 rfl ?_
  refine v_getf 4 6 fl_X6_58 hn rfl rfl dX6_addCases_9 ?_
  refine v_lmul dX6_addCases_12 ?_
  refine v_ladd dX6_addCases_13 ?_
  refine v_putf 0 0 fp_X6_9 hn rfl rfl rfl (Nat.le_of_ble_eq_true rfl) dX6_addCases_14 ?_
  refine v_aload_n dX6_addCases_17 rfl ?_
  refine v_getf 4 9 fl_X6_61 hn rfl rfl dX6_addCases_18 ?_
  rw [hqq]
  refine v_if_ne (tgt := 42) dX6_addCases_21 (by decide) ⟨by omega, by omega⟩ (fun h21 => ?_) (fun h21 => ?_)
  · skip
    refine v_aload_n dX6_addCases_42 rfl ?_
    refine v_callV (ci := 1) (K1_price hb (hCc _ _ _ _ _ _ _) (hsale _ _ _ _ _ _ _) hw ⟨by rw [hqq]; omega, by rw [hqq]; omega⟩) ⟨rfl, rfl⟩ (Nat.le_refl _) (Nat.le_refl _) (hCc _ _ _ _ _ _ _) rfl ⟨ml_X6_64, mm_X1_price⟩ ⟨(Nat.le_of_ble_eq_true rfl), (Nat.le_of_ble_eq_true rfl)⟩ mp_X1_price rfl rfl (Nat.le_of_ble_eq_true rfl) dX6_addCases_43 (fun r M' h => ?_)
    obtain ⟨rfl, rfl⟩ := h
    rw [hqq]
    refine v_istore_n dX6_addCases_46 (Nat.le_of_ble_eq_true rfl) ?_
    refine v_aload_n dX6_addCases_47 rfl ?_
    refine v_dup dX6_addCases_48 rfl ?_
    refine v_getf 0 1 fl_X6_15 hn rfl rfl dX6_addCases_49 ?_
    refine v_ldc2 (z := 12) kl_X6_56 (by decide +kernel) dX6_addCases_52 ?_
    refine v_aload_n dX6_addCases_55 rfl ?_
    refine v_getf 4 6 fl_X6_58 hn rfl rfl dX6_addCases_56 ?_
    refine v_lmul dX6_addCases_59 ?_
    refine v_iload_n dX6_addCases_60 rfl ?_
    refine v_ifb_eq (tgt := 71) dX6_addCases_61 (by decide) (fun h61 => ?_) (fun h61 => ?_)
    · refine v_iload_n dX6_addCases_71 rfl ?_
      exact v_to (goal72 (by omega) _ (if_neg h61).symm) rfl (sw_h1 rfl (sw_h1 rfl (sw_h1 rfl (sw_h1 rfl sw_h0))))
    · refine v_aload_n dX6_addCases_64 rfl ?_
      refine v_getf 4 11 fl_X6_68 hn rfl rfl dX6_addCases_65 ?_
      refine v_goto (tgt := 72) dX6_addCases_68 (by decide) ?_
      rw [hqq]
      exact v_to (goal72 (by omega) _ (if_pos h61).symm) rfl (sw_h1 rfl (sw_h1 rfl (sw_h1 rfl (sw_h1 rfl sw_h0))))
    skip
  · skip
    refine v_aload_n dX6_addCases_24 rfl ?_
    refine v_dup dX6_addCases_25 rfl ?_
    refine v_getf 0 3 fl_X6_21 hn rfl rfl dX6_addCases_26 ?_
    refine v_ldc2 (z := 12) kl_X6_56 (by decide +kernel) dX6_addCases_29 ?_
    refine v_aload_n dX6_addCases_32 rfl ?_
    refine v_getf 4 6 fl_X6_58 hn rfl rfl dX6_addCases_33 ?_
    refine v_lmul dX6_addCases_36 ?_
    refine v_ladd dX6_addCases_37 ?_
    refine v_putf 0 3 fp_X6_21 hn rfl rfl rfl (Nat.le_of_ble_eq_true rfl) dX6_addCases_38 ?_
    exact v_vret dX6_addCases_41 rfl (Nat.le_refl _) (Nat.le_refl _) (none_case (by omega))
end

