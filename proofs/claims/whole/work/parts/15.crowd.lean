/-! the crowd: its mathematics, its methods -/
def pwt (σ : SaleT) (S P0 : Int → Int) : Nat → Int → Int
  | 0, t => P0 t
  | k + 1, t => pwt σ S P0 k t * sO σ (t * 5 + S k)
def pOK (σ : SaleT) (S P0 P : Int → Int) (m : Nat) : Prop := ∀ (k : Nat) (t : Int), k ≤ m → 0 ≤ t → t < sTr σ → P ((k : Int) * 8 + t) = pwt σ S P0 k t
theorem pwt_congr {σ : SaleT} {S S' P0 : Int → Int} : ∀ {k : Nat}, (∀ i : Nat, i < k → S i = S' i) → ∀ t, pwt σ S P0 k t = pwt σ S' P0 k t
  | 0, _, _ => rfl
  | k + 1, h, t => by
    show pwt σ S P0 k t * sO σ (t * 5 + S k) = pwt σ S' P0 k t * sO σ (t * 5 + S' k)
    rw [pwt_congr (fun i hi => h i (by omega)) t, h k (by omega)]
theorem pOK.mono {σ : SaleT} {S P0 P : Int → Int} {m n : Nat} (h : pOK σ S P0 P m) (hn : n ≤ m) : pOK σ S P0 P n := fun k t hk => h k t (by omega)
theorem pOK.congr {σ : SaleT} {S S' P0 P : Int → Int} {m : Nat} (h : pOK σ S P0 P m) (hs : ∀ i : Nat, i < m → S i = S' i) : pOK σ S' P0 P m := fun k t hk h0 h1 => by
  rw [h k t hk h0 h1]; exact pwt_congr (fun i hi => hs i (by omega)) t
def rks (le : Int) (q : Int × Int × Int × Int) (b : Int) : Int × Int × Int × Int :=
  if b < le then q else if q.1 < b then (b, 1, q.1, q.2.2.2 + b) else if b = q.1 then (q.1, q.2.1 + 1, b, q.2.2.2 + b) else if q.2.2.1 < b then (q.1, q.2.1, b, q.2.2.2 + b) else (q.1, q.2.1, q.2.2.1, q.2.2.2 + b)
/-- the highest bid, how many have it, the next one, the sum -/
def rk (R S : Int → Int) (le : Int) : Nat → Int × Int × Int × Int
  | 0 => (-1, 0, -1, 0)
  | k + 1 => rks le (rk R S le k) (R ((k : Int) * 5 + S k))
def bOK (R S : Int → Int) (m : Nat) : Prop := ∀ i : Nat, i < m → 0 ≤ R ((i : Int) * 5 + S i) ∧ R ((i : Int) * 5 + S i) ≤ 60
theorem rk_bd {R S : Int → Int} {le : Int} : ∀ {k : Nat}, bOK R S k → (-1 ≤ (rk R S le k).1 ∧ (rk R S le k).1 ≤ 60) ∧ (-1 ≤ (rk R S le k).2.2.1 ∧ (rk R S le k).2.2.1 ≤ 60) ∧ (0 ≤ (rk R S le k).2.1 ∧ (rk R S le k).2.1 ≤ k) ∧ (0 ≤ (rk R S le k).2.2.2 ∧ (rk R S le k).2.2.2 ≤ 60 * k)
  | 0, _ => by show (-1 ≤ (-1 : Int) ∧ (-1 : Int) ≤ 60) ∧ (-1 ≤ (-1 : Int) ∧ (-1 : Int) ≤ 60) ∧ ((0 : Int) ≤ 0 ∧ (0 : Int) ≤ 0) ∧ ((0 : Int) ≤ 0 ∧ (0 : Int) ≤ 60 * 0); omega
  | k + 1, h => by
    have ih := rk_bd (le := le) (k := k) (fun i hi => h i (by omega))
    have hk := h k (by omega)
    show (-1 ≤ (rks le (rk R S le k) (R ((k : Int) * 5 + S k))).1 ∧ _) ∧ _
    have e : rk R S le (k + 1) = rks le (rk R S le k) (R ((k : Int) * 5 + S k)) := rfl
    rw [e]
    generalize rk R S le k = q at ih ⊢
    generalize R ((k : Int) * 5 + S k) = b at hk ⊢
    unfold rks
    by_cases c1 : b < le
    · rw [if_pos c1]; omega
    · rw [if_neg c1]
      by_cases c2 : q.1 < b
      · rw [if_pos c2]; dsimp only; omega
      · rw [if_neg c2]
        by_cases c3 : b = q.1
        · rw [if_pos c3]; dsimp only; omega
        · rw [if_neg c3]
          by_cases c4 : q.2.2.1 < b
          · rw [if_pos c4]; dsimp only; omega
          · rw [if_neg c4]; dsimp only; omega
theorem rk_congr {R S S' : Int → Int} {le : Int} : ∀ {k : Nat}, (∀ i : Nat, i < k → S i = S' i) → rk R S le k = rk R S' le k
  | 0, _ => rfl
  | k + 1, h => by
    show rks le (rk R S le k) (R ((k : Int) * 5 + S k)) = rks le (rk R S' le k) (R ((k : Int) * 5 + S' k))
    rw [rk_congr (fun i hi => h i (by omega)), h k (by omega)]
def crW (σ : SaleT) (S P0 : Int → Int) (m : Nat) : Int := sm (pwt σ S P0 m) (sTr σ).toNat
def crV (σ : SaleT) (S P0 : Int → Int) (m : Nat) : Int := sm (fun t => pwt σ S P0 m t * sV σ t) (sTr σ).toNat
def crB (σ : SaleT) (S P0 : Int → Int) (m : Nat) (pr : Int) : Int := sm (fun t => if sV σ t < pr then pwt σ S P0 m t else 0) (sTr σ).toNat
def crP (σ : SaleT) (le hi nx : Int) : Int := if sWy σ = 1 then (if nx = -1 then le else nx) else hi
def sOK (σ : SaleT) (S : Int → Int) (m : Nat) : Prop := ∀ i : Nat, i < m → 0 ≤ S i ∧ S i < sSg σ
abbrev cC (G : sw_G) (b : Nat) (m le wt wo hi al nx su : Int) : sw_Ce := (6, sw_o 1 [.ref (sw_al G 7), .ref (sw_al G 8), .ref (sw_al G 9), .ref (sw_al G b), sw_i m, sw_i le, sw_j wt, sw_j wo, sw_i hi, sw_i al, sw_i nx, sw_i su])
abbrev cR (R : Int → Int) : sw_Ce := (7, sw_ia 20 R)
abbrev cG (S : Int → Int) : sw_Ce := (8, sw_ia 4 S)
abbrev cP (P : Int → Int) : sw_Ce := (9, sw_la 40 P)
section
variable {l : Launch} {G : sw_G} {M : sw_M}
theorem K1_bidBy {b : Nat} {m le wt wo hi al nx su : Int} {R : Int → Int} (h1 : M 6 = some (cC G b m le wt wo hi al nx su).2) (h2 : M 7 = some (cR R).2) {i k v : Int} (hi' : 0 ≤ i ∧ i < 4) (hk : 0 ≤ k ∧ k < 5) : Kt l G μX1_bidBy [.ref (sw_al G 6), sw_i i, sw_i k, sw_i v] M (fun r M' => r = none ∧ M' = sw_ov M [cR (up R (i * 5 + k) v)]) := by
  refine KtA.of (by decide +kernel) (Nat.le_of_ble_eq_true rfl) ?_
  refine v_mem (sw_ov_self (cs := [cC G b m le wt wo hi al nx su, cR R]) (sw_hold1 h1 (sw_hold1 h2 sw_hold0))).symm ?_
  have hn : sw_nd [6, 7] := sw_nd_of (by simp)
  have hb : ∀ R', sw_ov M [cC G b m le wt wo hi al nx su, cR R'] = sw_ov M [cR R'] := by
    intro R'
    have e : sw_ov M [cC G b m le wt wo hi al nx su, cR R'] = sw_ov M ([cR R'] ++ [cC G b m le wt wo hi al nx su]) := by
      funext q
      show (if q = 6 then _ else if q = 7 then _ else M q) = (if q = 7 then _ else if q = 6 then _ else M q)
      by_cases e6 : q = 6
      · rw [if_pos e6, if_neg (by omega), if_pos e6]
      · rw [if_neg e6, if_neg e6]
    rw [e, sw_ov_dr (sw_hold1 h1 sw_hold0)]
  refine v_iload_n dX1_bidBy_0 rfl ?_
  refine v_if_lt (tgt := 29) dX1_bidBy_1 (by decide) ⟨by omega, by omega⟩ (fun h1 => ?_) (fun h1 => ?_)
  · skip
    exfalso; omega
  · skip
    refine v_iload_n dX1_bidBy_4 rfl ?_
    refine v_iconst dX1_bidBy_5 ?_
    refine v_icmp_ge (tgt := 29) dX1_bidBy_6 (by decide) ⟨by omega, by omega⟩ ⟨by omega, by omega⟩ (fun h6 => ?_) (fun h6 => ?_)
    · skip
      exfalso; omega
    · skip
      refine v_iload_n dX1_bidBy_9 rfl ?_
      refine v_if_lt (tgt := 29) dX1_bidBy_10 (by decide) ⟨by omega, by omega⟩ (fun h10 => ?_) (fun h10 => ?_)
      · skip
        exfalso; omega
      · skip
        refine v_iload_n dX1_bidBy_13 rfl ?_
        refine v_iconst dX1_bidBy_14 ?_
        refine v_icmp_ge (tgt := 29) dX1_bidBy_15 (by decide) ⟨by omega, by omega⟩ ⟨by omega, by omega⟩ (fun h15 => ?_) (fun h15 => ?_)
        · skip
          exfalso; omega
        · skip
          refine v_aload_n dX1_bidBy_18 rfl ?_
          refine v_getf 0 0 fl_X1_9 hn rfl rfl dX1_bidBy_19 ?_
          refine v_iload_n dX1_bidBy_22 rfl ?_
          refine v_iconst dX1_bidBy_23 ?_
          refine v_imul dX1_bidBy_24 ?_
          refine v_iload_n dX1_bidBy_25 rfl ?_
          refine v_iadd dX1_bidBy_26 ?_
          refine v_iload_n dX1_bidBy_27 rfl ?_
          refine v_iast 1 hn rfl (Nat.le_of_ble_eq_true rfl) (by omega) (by omega) dX1_bidBy_28 ?_
          exact v_vret dX1_bidBy_29 rfl (Nat.le_refl _) (Nat.le_refl _) (⟨rfl, hb _⟩)
theorem K1_bidNow {b : Nat} {m le wt wo hi al nx su : Int} {R S : Int → Int} (h1 : M 6 = some (cC G b m le wt wo hi al nx su).2) (h2 : M 7 = some (cR R).2) (h3 : M 8 = some (cG S).2) {i : Int} (hi' : 0 ≤ i ∧ i < 4) (hs : 0 ≤ S i ∧ S i < 5) : Kt l G μX1_bidNow [.ref (sw_al G 6), sw_i i] M (fun r M' => r = some (sw_i (R (i * 5 + S i))) ∧ M' = M) := by
  refine KtA.of (by decide +kernel) (Nat.le_of_ble_eq_true rfl) ?_
  have hback : sw_ov M [cC G b m le wt wo hi al nx su, cR R, cG S] = M := sw_ov_self (sw_hold1 h1 (sw_hold1 h2 (sw_hold1 h3 sw_hold0)))
  refine v_mem hback.symm ?_
  have hn : sw_nd [6, 7, 8] := sw_nd_of (by simp)
  refine v_aload_n dX1_bidNow_0 rfl ?_
  refine v_getf 0 0 fl_X1_9 hn rfl rfl dX1_bidNow_1 ?_
  refine v_iload_n dX1_bidNow_4 rfl ?_
  refine v_iconst dX1_bidNow_5 ?_
  refine v_imul dX1_bidNow_6 ?_
  refine v_aload_n dX1_bidNow_7 rfl ?_
  refine v_getf 0 1 fl_X1_15 hn rfl rfl dX1_bidNow_8 ?_
  refine v_iload_n dX1_bidNow_11 rfl ?_
  refine v_iald 2 hn rfl (Nat.le_of_ble_eq_true rfl) (by omega) (by omega) dX1_bidNow_12 ?_
  refine v_iadd dX1_bidNow_13 ?_
  refine v_iald 1 hn rfl (Nat.le_of_ble_eq_true rfl) (by omega) (by omega) dX1_bidNow_14 ?_
  exact v_iret dX1_bidNow_15 rfl (Nat.le_refl _) (Nat.le_refl _) (⟨rfl, hback⟩)
theorem K1_rank {b : Nat} {m : Nat} {le wt wo hi al nx su : Int} {R S : Int → Int} (h1 : M 6 = some (cC G b m le wt wo hi al nx su).2) (h2 : M 7 = some (cR R).2) (h3 : M 8 = some (cG S).2) (hm : m ≤ 4) (hS : ∀ i : Nat, i < m → 0 ≤ S i ∧ S i < 5) (hR : bOK R S m) (hle : 0 ≤ le ∧ le ≤ 60) : Kt l G μX1_rank [.ref (sw_al G 6)] M (fun r M' => r = none ∧ M' = sw_ov M [cC G b m le wt wo (rk R S le m).1 (rk R S le m).2.1 (rk R S le m).2.2.1 (rk R S le m).2.2.2]) := by
  refine KtA.of (by decide +kernel) (Nat.le_of_ble_eq_true rfl) ?_
  refine v_mem (sw_ov_self (cs := [cC G b m le wt wo hi al nx su, cR R, cG S]) (sw_hold1 h1 (sw_hold1 h2 (sw_hold1 h3 sw_hold0)))).symm ?_
  have hn : sw_nd [6, 7, 8] := sw_nd_of (by simp)
  have loop : ∀ (n k : Nat), k + n = m → V l G μX1_rank sw_E0 (sw_Zq G μX1_rank (sw_q0 G (fun r M' => r = none ∧ M' = sw_ov M [cC G b m le wt wo (rk R S le m).1 (rk R S le m).2.1 (rk R S le m).2.2.1 (rk R S le m).2.2.2]))) 22 [(0, .ref (sw_al G 6)), (1, sw_i (k : Int))] [] (sw_ov M [cC G b m le wt wo (rk R S le k).1 (rk R S le k).2.1 (rk R S le k).2.2.1 (rk R S le k).2.2.2, cR R, cG S]) 0 0 := by
    intro n
    induction n with
    | zero =>
      intro k hk
      have e : k = m := by omega
      subst e
      refine v_iload_n dX1_rank_22 rfl ?_
      refine v_aload_n dX1_rank_23 rfl ?_
      refine v_getf 0 4 fl_X1_29 hn rfl rfl dX1_rank_24 ?_
      refine v_icmp_ge (tgt := 141) dX1_rank_27 (by decide) ⟨by omega, by omega⟩ ⟨by omega, by omega⟩ (fun h27 => ?_) (fun h27 => ?_)
      · skip
        exact v_vret dX1_rank_141 rfl (Nat.le_refl _) (Nat.le_refl _) (⟨rfl, sw_ov_dr (cs2 := [cR R, cG S]) (sw_hold1 h2 (sw_hold1 h3 sw_hold0)) [cC G b k le wt wo (rk R S le k).1 (rk R S le k).2.1 (rk R S le k).2.2.1 (rk R S le k).2.2.2]⟩)
      · skip
        exfalso; omega
    | succ n ih =>
      intro k hk
      have hb := hR k (by omega)
      have hq := rk_bd (R := R) (S := S) (le := le) (k := k) (fun i hi => hR i (by omega))
      have ih := ih (k + 1) (by omega)
      have e : rk R S le (k + 1) = rks le (rk R S le k) (R ((k : Int) * 5 + S k)) := rfl
      have hsk := hS k (by omega)
      rw [e] at ih
      unfold rks at ih
      obtain ⟨v, hv⟩ : ∃ v, R ((k : Int) * 5 + S k) = v := ⟨_, rfl⟩
      rw [hv] at hb ih
      generalize rk R S le k = q at hq ih ⊢
      refine v_iload_n dX1_rank_22 rfl ?_
      refine v_aload_n dX1_rank_23 rfl ?_
      refine v_getf 0 4 fl_X1_29 hn rfl rfl dX1_rank_24 ?_
      refine v_icmp_ge (tgt := 141) dX1_rank_27 (by decide) ⟨by omega, by omega⟩ ⟨by omega, by omega⟩ (fun h27 => ?_) (fun h27 => ?_)
      · skip
        exfalso; omega
      · skip
        refine v_aload_n dX1_rank_30 rfl ?_
        refine v_getf 0 0 fl_X1_9 hn rfl rfl dX1_rank_31 ?_
        refine v_iload_n dX1_rank_34 rfl ?_
        refine v_iconst dX1_rank_35 ?_
        refine v_imul dX1_rank_36 ?_
        refine v_aload_n dX1_rank_37 rfl ?_
        refine v_getf 0 1 fl_X1_15 hn rfl rfl dX1_rank_38 ?_
        refine v_iload_n dX1_rank_41 rfl ?_
        refine v_iald 2 hn rfl (Nat.le_of_ble_eq_true rfl) (by omega) (by omega) dX1_rank_42 ?_
        refine v_iadd dX1_rank_43 ?_
        refine v_iald 1 hn rfl (Nat.le_of_ble_eq_true rfl) (by omega) (by omega) dX1_rank_44 ?_
        rw [hv]
        refine v_istore_n dX1_rank_45 (Nat.le_of_ble_eq_true rfl) ?_
        refine v_iload_n dX1_rank_46 rfl ?_
        refine v_aload_n dX1_rank_47 rfl ?_
        refine v_getf 0 5 fl_X1_33 hn rfl rfl dX1_rank_48 ?_
        refine v_icmp_ge (tgt := 57) dX1_rank_51 (by decide) ⟨by omega, by omega⟩ ⟨by omega, by omega⟩ (fun h51 => ?_) (fun h51 => ?_)
        · skip
          rw [if_neg (by omega)] at ih
          refine v_aload_n dX1_rank_57 rfl ?_
          refine v_dup dX1_rank_58 rfl ?_
          refine v_getf 0 11 fl_X1_52 hn rfl rfl dX1_rank_59 ?_
          refine v_iload_n dX1_rank_62 rfl ?_
          refine v_iadd dX1_rank_63 ?_
          refine v_putf 0 11 fp_X1_52 hn rfl rfl rfl (Nat.le_of_ble_eq_true rfl) dX1_rank_64 ?_
          refine v_iload_n dX1_rank_67 rfl ?_
          refine v_aload_n dX1_rank_68 rfl ?_
          refine v_getf 0 8 fl_X1_43 hn rfl rfl dX1_rank_69 ?_
          refine v_icmp_le (tgt := 96) dX1_rank_72 (by decide) ⟨by omega, by omega⟩ ⟨by omega, by omega⟩ (fun h72 => ?_) (fun h72 => ?_)
          · skip
            rw [if_neg (by omega)] at ih
            refine v_iload_n dX1_rank_96 rfl ?_
            refine v_aload_n dX1_rank_97 rfl ?_
            refine v_getf 0 8 fl_X1_43 hn rfl rfl dX1_rank_98 ?_
            refine v_icmp_ne (tgt := 122) dX1_rank_101 (by decide) ⟨by omega, by omega⟩ ⟨by omega, by omega⟩ (fun h101 => ?_) (fun h101 => ?_)
            · skip
              rw [if_neg (by omega)] at ih
              refine v_iload_n dX1_rank_122 rfl ?_
              refine v_aload_n dX1_rank_123 rfl ?_
              refine v_getf 0 10 fl_X1_49 hn rfl rfl dX1_rank_124 ?_
              refine v_icmp_le (tgt := 135) dX1_rank_127 (by decide) ⟨by omega, by omega⟩ ⟨by omega, by omega⟩ (fun h127 => ?_) (fun h127 => ?_)
              · skip
                rw [if_neg (by omega)] at ih
                refine v_iinc dX1_rank_135 rfl (Nat.le_of_ble_eq_true rfl) ?_
                refine v_goto (tgt := 22) dX1_rank_138 (by decide) ?_
                exact v_to ih rfl (sw_h1 rfl (sw_h1 rfl sw_h0))
              · skip
                rw [if_pos (by omega)] at ih
                refine v_aload_n dX1_rank_130 rfl ?_
                refine v_iload_n dX1_rank_131 rfl ?_
                refine v_putf 0 10 fp_X1_49 hn rfl rfl rfl (Nat.le_of_ble_eq_true rfl) dX1_rank_132 ?_
                refine v_iinc dX1_rank_135 rfl (Nat.le_of_ble_eq_true rfl) ?_
                refine v_goto (tgt := 22) dX1_rank_138 (by decide) ?_
                exact v_to ih rfl (sw_h1 rfl (sw_h1 rfl sw_h0))
            · skip
              rw [if_pos (by omega)] at ih
              refine v_aload_n dX1_rank_104 rfl ?_
              refine v_iload_n dX1_rank_105 rfl ?_
              refine v_putf 0 10 fp_X1_49 hn rfl rfl rfl (Nat.le_of_ble_eq_true rfl) dX1_rank_106 ?_
              refine v_aload_n dX1_rank_109 rfl ?_
              refine v_dup dX1_rank_110 rfl ?_
              refine v_getf 0 9 fl_X1_46 hn rfl rfl dX1_rank_111 ?_
              refine v_iconst dX1_rank_114 ?_
              refine v_iadd dX1_rank_115 ?_
              refine v_putf 0 9 fp_X1_46 hn rfl rfl rfl (Nat.le_of_ble_eq_true rfl) dX1_rank_116 ?_
              refine v_goto (tgt := 135) dX1_rank_119 (by decide) ?_
              refine v_iinc dX1_rank_135 rfl (Nat.le_of_ble_eq_true rfl) ?_
              refine v_goto (tgt := 22) dX1_rank_138 (by decide) ?_
              exact v_to ih rfl (sw_h1 rfl (sw_h1 rfl sw_h0))
          · skip
            rw [if_pos (by omega)] at ih
            refine v_aload_n dX1_rank_75 rfl ?_
            refine v_aload_n dX1_rank_76 rfl ?_
            refine v_getf 0 8 fl_X1_43 hn rfl rfl dX1_rank_77 ?_
            refine v_putf 0 10 fp_X1_49 hn rfl rfl rfl (Nat.le_of_ble_eq_true rfl) dX1_rank_80 ?_
            refine v_aload_n dX1_rank_83 rfl ?_
            refine v_iload_n dX1_rank_84 rfl ?_
            refine v_putf 0 8 fp_X1_43 hn rfl rfl rfl (Nat.le_of_ble_eq_true rfl) dX1_rank_85 ?_
            refine v_aload_n dX1_rank_88 rfl ?_
            refine v_iconst dX1_rank_89 ?_
            refine v_putf 0 9 fp_X1_46 hn rfl rfl rfl (Nat.le_of_ble_eq_true rfl) dX1_rank_90 ?_
            refine v_goto (tgt := 135) dX1_rank_93 (by decide) ?_
            refine v_iinc dX1_rank_135 rfl (Nat.le_of_ble_eq_true rfl) ?_
            refine v_goto (tgt := 22) dX1_rank_138 (by decide) ?_
            exact v_to ih rfl (sw_h1 rfl (sw_h1 rfl sw_h0))
        · skip
          rw [if_pos (by omega)] at ih
          refine v_goto (tgt := 135) dX1_rank_54 (by decide) ?_
          refine v_iinc dX1_rank_135 rfl (Nat.le_of_ble_eq_true rfl) ?_
          refine v_goto (tgt := 22) dX1_rank_138 (by decide) ?_
          exact v_to ih rfl (sw_h1 rfl (sw_h1 rfl sw_h0))
  refine v_aload_n dX1_rank_0 rfl ?_
  refine v_iconst dX1_rank_1 ?_
  refine v_putf 0 8 fp_X1_43 hn rfl rfl rfl (Nat.le_of_ble_eq_true rfl) dX1_rank_2 ?_
  refine v_aload_n dX1_rank_5 rfl ?_
  refine v_iconst dX1_rank_6 ?_
  refine v_putf 0 9 fp_X1_46 hn rfl rfl rfl (Nat.le_of_ble_eq_true rfl) dX1_rank_7 ?_
  refine v_aload_n dX1_rank_10 rfl ?_
  refine v_iconst dX1_rank_11 ?_
  refine v_putf 0 10 fp_X1_49 hn rfl rfl rfl (Nat.le_of_ble_eq_true rfl) dX1_rank_12 ?_
  refine v_aload_n dX1_rank_15 rfl ?_
  refine v_iconst dX1_rank_16 ?_
  refine v_putf 0 11 fp_X1_52 hn rfl rfl rfl (Nat.le_of_ble_eq_true rfl) dX1_rank_17 ?_
  refine v_iconst dX1_rank_20 ?_
  refine v_istore_n dX1_rank_21 (Nat.le_of_ble_eq_true rfl) ?_
  exact v_to (loop m 0 (by omega)) rfl (sw_h1 rfl (sw_h1 rfl sw_h0))
end

