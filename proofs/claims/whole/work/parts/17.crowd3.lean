/-! the crowd: begin, step, weights, price -/
def rOK (σ : SaleT) (R : Int → Int) (m : Nat) : Prop := ∀ (i : Nat) (k : Int), i < m → 0 ≤ k → k < sSg σ → 0 ≤ R ((i : Int) * 5 + k) ∧ R ((i : Int) * 5 + k) ≤ 60
theorem rOK.b {σ : SaleT} {R S : Int → Int} {m : Nat} (h : rOK σ R m) (hs : sOK σ S m) : bOK R S m := fun i hi => h i (S i) hi (hs i hi).1 (hs i hi).2
def pwi (sg : Int) : Nat → Int
  | 0 => 1
  | n + 1 => pwi sg n * sg
/-- the next signs: the last place is the fastest -/
def nx (sg : Int) : Nat → (Int → Int) → (Int → Int)
  | 0, S => S
  | k + 1, S => if S k + 1 < sg then up S k (S k + 1) else nx sg k (up S k 0)
theorem nx_ok {sg : Int} (hsg : 0 < sg) : ∀ (k : Nat) (S : Int → Int), (∀ i : Nat, i < k → 0 ≤ S i ∧ S i < sg) → ∀ i : Nat, i < k → 0 ≤ nx sg k S i ∧ nx sg k S i < sg
  | 0, S, _, i, hi => by omega
  | k + 1, S, h, i, hi => by
    unfold nx
    have hk := h k (by omega)
    by_cases c : S k + 1 < sg
    · rw [if_pos c]
      show 0 ≤ (if (i : Int) = k then S k + 1 else S i) ∧ (if (i : Int) = k then S k + 1 else S i) < sg
      by_cases e : (i : Int) = k
      · rw [if_pos e]; omega
      · rw [if_neg e]; exact h i hi
    · rw [if_neg c]
      by_cases e : i = k
      · subst e
        have : ∀ (n : Nat) (S' : Int → Int), n ≤ i → nx sg n S' i = S' i := by
          intro n
          induction n with
          | zero => intro S' _; rfl
          | succ n ih =>
            intro S' hn
            unfold nx
            have up' : ∀ v, up S' n v i = S' i := fun v => if_neg (by omega)
            by_cases c : S' n + 1 < sg
            · rw [if_pos c, up']
            · rw [if_neg c, ih _ (by omega), up']
        rw [this i _ (Nat.le_refl _)]
        have e2 : up S i 0 i = 0 := if_pos rfl
        rw [e2]; omega
      · refine nx_ok hsg k _ (fun j hj => ?_) i (by omega)
        have e2 : up S k 0 j = S j := if_neg (by omega)
        rw [e2]; exact h j (by omega)
/-- the crowd as it is at signs -/
abbrev cCd (G : sw_G) (b : Nat) (σ : SaleT) (m : Nat) (le : Int) (R S P0 : Int → Int) : sw_Ce := cC G b m le (crW σ S P0 m) (crV σ S P0 m) (rk R S le m).1 (rk R S le m).2.1 (rk R S le m).2.2.1 (rk R S le m).2.2.2
theorem fl_in {g : Int → Int} {v : Int} {n i : Nat} (h : i < n) : fl g v n i = v := by rw [fl_at, if_pos (by omega)]
section
variable {l : Launch} {G : sw_G} {M : sw_M}
theorem K1_begin {b b0 : Nat} (hb : 50 ≤ b) {σ : SaleT} {u d : Int} {m : Nat} {m0 le0 le wt wo hi al nx su : Int} {R S0 P0 P : Int → Int} (h1 : M 6 = some (cC G b0 m0 le0 wt wo hi al nx su).2) (h2 : M 7 = some (cR R).2) (h3 : M 8 = some (cG S0).2) (h4 : M 9 = some (cP P).2) (h5 : sw_hold M (cS G b σ u d)) (hw : wfS σ) (hm : m ≤ 4) (hR : rOK σ R m) (hle : 0 ≤ le ∧ le ≤ 60) (hP : ∀ t, 0 ≤ t → t < sTr σ → P t = P0 t) :
    Kt l G μX1_begin [.ref (sw_al G 6), .ref (sw_al G b), sw_i (m : Int), sw_i le] M (fun r M' => ∃ P', r = some (sw_i (pwi (sSg σ) m)) ∧ pOK σ (fl S0 0 m) P0 P' m ∧ M' = sw_ov M [cCd G b σ m le R (fl S0 0 m) P0, cG (fl S0 0 m), cP P']) := by
  refine KtA.of (by decide +kernel) (Nat.le_of_ble_eq_true rfl) ?_
  refine v_mem (sw_ov_self (cs := cC G b0 m0 le0 wt wo hi al nx su :: cG S0 :: cP P :: cS G b σ u d) (sw_hold1 h1 (sw_hold1 h3 (sw_hold1 h4 h5)))).symm ?_
  have hn := cCS_nd hb
  have loop : ∀ (n k : Nat), k + n = m → V l G μX1_begin sw_E0 (sw_Zq G μX1_begin (sw_q0 G (fun r M' => ∃ P', r = some (sw_i (pwi (sSg σ) m)) ∧ pOK σ (fl S0 0 m) P0 P' m ∧ M' = sw_ov M [cCd G b σ m le R (fl S0 0 m) P0, cG (fl S0 0 m), cP P']))) 21 [(0, .ref (sw_al G 6)), (1, .ref (sw_al G b)), (4, sw_i (pwi (sSg σ) k)), (5, sw_i (k : Int))] [] (sw_ov M (cCS G b σ u d m le wt wo hi al nx su (fl S0 0 k) P)) 0 0 := by
    intro n
    induction n with
    | zero =>
      intro k hk
      have e : k = m := by omega
      subst e
      have hsz : sOK σ (fl S0 0 k) k := fun i hi => by rw [fl_in hi]; have := hw.1; omega
      refine v_iload dX1_begin_21 rfl ?_
      refine v_aload_n dX1_begin_23 rfl ?_
      refine v_getf 0 4 fl_X1_29 hn rfl rfl dX1_begin_24 ?_
      refine v_icmp_ge (tgt := 53) dX1_begin_27 (by decide) ⟨by omega, by omega⟩ ⟨by omega, by omega⟩ (fun h27 => ?_) (fun h27 => ?_)
      · skip
        refine v_aload_n dX1_begin_53 rfl ?_
        refine v_iconst dX1_begin_54 ?_
        refine v_callV (ci := 1) (K1_reckon hb (fr := 0) (P0 := P0) (R := R) (sw_hold_all (cs := cCS G b σ u d k le wt wo hi al nx su (fl S0 0 k) P) hn).hd (by rw [sw_ov_out (by simp; omega)]; exact h2) (sw_hold_all (cs := cCS G b σ u d k le wt wo hi al nx su (fl S0 0 k) P) hn).tl.hd (sw_hold_all (cs := cCS G b σ u d k le wt wo hi al nx su (fl S0 0 k) P) hn).tl.tl.hd (sw_hold_all (cs := cCS G b σ u d k le wt wo hi al nx su (fl S0 0 k) P) hn).tl.tl.tl hw hm (Nat.zero_le _) hsz (hR.b hsz) hle ?hp) ⟨rfl, rfl⟩ (Nat.le_refl _) (Nat.le_refl _) (sw_hold_all (cs := cCS G b σ u d k le wt wo hi al nx su (fl S0 0 k) P) hn).hd rfl ⟨ml_X1_67, mm_X1_reckon⟩ ⟨(Nat.le_of_ble_eq_true rfl), (Nat.le_of_ble_eq_true rfl)⟩ mp_X1_reckon rfl rfl (Nat.le_of_ble_eq_true rfl) dX1_begin_55 (fun r M' h => ?_)
        case hp =>
          intro k t hk h0 h1
          have e : k = 0 := by omega
          subst e
          rw [show ((0 : Nat) : Int) * 8 + t = t by omega]
          exact hP t h0 h1
        obtain ⟨P', rfl, hP', rfl⟩ := h
        refine v_ovp [0, 2] rfl rfl hn ?_
        refine v_iload dX1_begin_58 rfl ?_
        exact v_iret dX1_begin_60 rfl (Nat.le_refl _) (Nat.le_refl _) (⟨P', rfl, hP', sw_ov_dr h5 [cCd G b σ k le R (fl S0 0 k) P0, cG (fl S0 0 k), cP P']⟩)
      · skip
        exfalso; omega
    | succ n ih =>
      intro k hk
      have hws := hw.1
      refine v_iload dX1_begin_21 rfl ?_
      refine v_aload_n dX1_begin_23 rfl ?_
      refine v_getf 0 4 fl_X1_29 hn rfl rfl dX1_begin_24 ?_
      refine v_icmp_ge (tgt := 53) dX1_begin_27 (by decide) ⟨by omega, by omega⟩ ⟨by omega, by omega⟩ (fun h27 => ?_) (fun h27 => ?_)
      · skip
        exfalso; omega
      · skip
        refine v_aload_n dX1_begin_30 rfl ?_
        refine v_getf 0 1 fl_X1_15 hn rfl rfl dX1_begin_31 ?_
        refine v_iload dX1_begin_34 rfl ?_
        refine v_iconst dX1_begin_36 ?_
        refine v_iast 1 hn rfl (Nat.le_of_ble_eq_true rfl) (by omega) (by omega) dX1_begin_37 ?_
        refine v_iload dX1_begin_38 rfl ?_
        refine v_aload_n dX1_begin_40 rfl ?_
        refine v_getf 3 4 fl_X1_64 hn rfl rfl dX1_begin_41 ?_
        refine v_imul dX1_begin_44 ?_
        refine v_istore dX1_begin_45 (Nat.le_of_ble_eq_true rfl) ?_
        refine v_iinc dX1_begin_47 rfl (Nat.le_of_ble_eq_true rfl) ?_
        refine v_goto (tgt := 21) dX1_begin_50 (by decide) ?_
        exact v_to (ih (k + 1) (by omega)) rfl (sw_h1 rfl (sw_h1 rfl (sw_h1 rfl (sw_h1 rfl sw_h0))))
  refine v_aload_n dX1_begin_0 rfl ?_
  refine v_aload_n dX1_begin_1 rfl ?_
  refine v_putf 0 3 fp_X1_25 hn rfl rfl rfl (Nat.le_of_ble_eq_true rfl) dX1_begin_2 ?_
  refine v_aload_n dX1_begin_5 rfl ?_
  refine v_iload_n dX1_begin_6 rfl ?_
  refine v_putf 0 4 fp_X1_29 hn rfl rfl rfl (Nat.le_of_ble_eq_true rfl) dX1_begin_7 ?_
  refine v_aload_n dX1_begin_10 rfl ?_
  refine v_iload_n dX1_begin_11 rfl ?_
  refine v_putf 0 5 fp_X1_33 hn rfl rfl rfl (Nat.le_of_ble_eq_true rfl) dX1_begin_12 ?_
  refine v_iconst dX1_begin_15 ?_
  refine v_istore dX1_begin_16 (Nat.le_of_ble_eq_true rfl) ?_
  refine v_iconst dX1_begin_18 ?_
  refine v_istore dX1_begin_19 (Nat.le_of_ble_eq_true rfl) ?_
  exact v_to (loop m 0 (by omega)) rfl (sw_h1 rfl (sw_h1 rfl (sw_h1 rfl (sw_h1 rfl sw_h0))))
theorem K1_step {b : Nat} (hb : 50 ≤ b) {σ : SaleT} {u d : Int} {m : Nat} {le wt wo hi al nx' su : Int} {R S P0 P : Int → Int} (h1 : M 6 = some (cC G b m le wt wo hi al nx' su).2) (h2 : M 7 = some (cR R).2) (h3 : M 8 = some (cG S).2) (h4 : M 9 = some (cP P).2) (h5 : sw_hold M (cS G b σ u d)) (hw : wfS σ) (hm : m ≤ 4) (hS : sOK σ S m) (hR : rOK σ R m) (hle : 0 ≤ le ∧ le ≤ 60) (hP : pOK σ S P0 P m) :
    Kt l G μX1_step [.ref (sw_al G 6)] M (fun r M' => r = none ∧ ((∃ P', pOK σ (nx (sSg σ) m S) P0 P' m ∧ M' = sw_ov M [cCd G b σ m le R (nx (sSg σ) m S) P0, cG (nx (sSg σ) m S), cP P']) ∨ ((∀ i : Nat, i < m → sSg σ ≤ S i + 1) ∧ ∃ S', M' = sw_ov M [cC G b m le wt wo hi al nx' su, cG S', cP P]))) := by
  refine KtA.of (by decide +kernel) (Nat.le_of_ble_eq_true rfl) ?_
  refine v_mem (sw_ov_self (cs := cCS G b σ u d m le wt wo hi al nx' su S P) (sw_hold1 h1 (sw_hold1 h3 (sw_hold1 h4 h5)))).symm ?_
  have hn := cCS_nd hb
  have hws := hw.1
  have loop : ∀ (k : Nat) (S' : Int → Int), k ≤ m → sOK σ S' m → (∀ i : Nat, i < k → S' i = S i) → (∀ i : Nat, k ≤ i → i < m → sSg σ ≤ S i + 1) → nx (sSg σ) k S' = nx (sSg σ) m S → V l G μX1_step sw_E0 (sw_Zq G μX1_step (sw_q0 G (fun r M' => r = none ∧ ((∃ P', pOK σ (nx (sSg σ) m S) P0 P' m ∧ M' = sw_ov M [cCd G b σ m le R (nx (sSg σ) m S) P0, cG (nx (sSg σ) m S), cP P']) ∨ ((∀ i : Nat, i < m → sSg σ ≤ S i + 1) ∧ ∃ S', M' = sw_ov M [cC G b m le wt wo hi al nx' su, cG S', cP P]))))) 7 [(0, .ref (sw_al G 6)), (1, sw_i ((k : Int) - 1))] [] (sw_ov M (cCS G b σ u d m le wt wo hi al nx' su S' P)) 0 0 := by
    intro k
    induction k with
    | zero =>
      intro S' hk hs' hlo hhi hnx
      refine v_iload_n dX1_step_7 rfl ?_
      refine v_if_lt (tgt := 58) dX1_step_8 (by decide) ⟨by omega, by omega⟩ (fun h8 => ?_) (fun h8 => ?_)
      · skip
        exact v_vret dX1_step_58 rfl (Nat.le_refl _) (Nat.le_refl _) (⟨rfl, Or.inr ⟨fun i hi => hhi i (Nat.zero_le _) hi, S', sw_ov_dr h5 [cC G b m le wt wo hi al nx' su, cG S', cP P]⟩⟩)
      · skip
        exfalso; omega
    | succ k ih =>
      intro S' hk hs' hlo hhi hnx
      have e0 : (((k + 1 : Nat) : Int) - 1) = (k : Int) := by omega
      rw [e0]
      have hsk := hs' k (by omega)
      have hdef : nx (sSg σ) (k + 1) S' = if S' k + 1 < sSg σ then up S' k (S' k + 1) else nx (sSg σ) k (up S' k 0) := rfl
      refine v_iload_n dX1_step_7 rfl ?_
      refine v_if_lt (tgt := 58) dX1_step_8 (by decide) ⟨by omega, by omega⟩ (fun h8 => ?_) (fun h8 => ?_)
      · skip
        exfalso; omega
      · skip
        refine v_aload_n dX1_step_11 rfl ?_
        refine v_getf 0 1 fl_X1_15 hn rfl rfl dX1_step_12 ?_
        refine v_iload_n dX1_step_15 rfl ?_
        refine v_iald 1 hn rfl (Nat.le_of_ble_eq_true rfl) (by omega) (by omega) dX1_step_16 ?_
        refine v_iconst dX1_step_17 ?_
        refine v_iadd dX1_step_18 ?_
        refine v_aload_n dX1_step_19 rfl ?_
        refine v_getf 0 3 fl_X1_25 hn rfl rfl dX1_step_20 ?_
        refine v_getf 3 4 fl_X1_64 hn rfl rfl dX1_step_23 ?_
        refine v_icmp_ge (tgt := 45) dX1_step_26 (by decide) ⟨by omega, by omega⟩ ⟨by omega, by omega⟩ (fun h26 => ?_) (fun h26 => ?_)
        · skip
          rw [hdef, if_neg (by omega)] at hnx
          refine v_aload_n dX1_step_45 rfl ?_
          refine v_getf 0 1 fl_X1_15 hn rfl rfl dX1_step_46 ?_
          refine v_iload_n dX1_step_49 rfl ?_
          refine v_iconst dX1_step_50 ?_
          refine v_iast 1 hn rfl (Nat.le_of_ble_eq_true rfl) (by omega) (by omega) dX1_step_51 ?_
          refine v_iinc dX1_step_52 rfl (Nat.le_of_ble_eq_true rfl) ?_
          refine v_goto (tgt := 7) dX1_step_55 (by decide) ?_
          refine v_to (ih (up S' k 0) (by omega) ?_ ?_ ?_ hnx) rfl (sw_h1 rfl (sw_h1 rfl sw_h0))
          · intro i hi
            show 0 ≤ (if (i : Int) = k then 0 else S' i) ∧ (if (i : Int) = k then 0 else S' i) < sSg σ
            by_cases e : (i : Int) = k
            · rw [if_pos e]; omega
            · rw [if_neg e]; exact hs' i hi
          · intro i hi
            have e2 : up S' k 0 i = S' i := if_neg (by omega)
            rw [e2]; exact hlo i (by omega)
          · intro i hi1 hi2
            by_cases e : i = k
            · subst e; rw [← hlo i (by omega)]; omega
            · exact hhi i (by omega) hi2
        · skip
          rw [hdef, if_pos (by omega)] at hnx
          have hsn : sOK σ (up S' k (S' k + 1)) m := fun i hi => by
            show 0 ≤ (if (i : Int) = k then S' k + 1 else S' i) ∧ (if (i : Int) = k then S' k + 1 else S' i) < sSg σ
            by_cases e : (i : Int) = k
            · rw [if_pos e]; omega
            · rw [if_neg e]; exact hs' i hi
          have hpk : pOK σ (up S' k (S' k + 1)) P0 P k := (hP.mono (by omega)).congr (fun i hi => by
            have e2 : up S' k (S' k + 1) i = S' i := if_neg (by omega)
            rw [e2, hlo i (by omega)])
          refine v_aload_n dX1_step_29 rfl ?_
          refine v_getf 0 1 fl_X1_15 hn rfl rfl dX1_step_30 ?_
          refine v_iload_n dX1_step_33 rfl ?_
          refine v_dup2 dX1_step_34 rfl rfl ?_
          refine v_iald 1 hn rfl (Nat.le_of_ble_eq_true rfl) (by omega) (by omega) dX1_step_35 ?_
          refine v_iconst dX1_step_36 ?_
          refine v_iadd dX1_step_37 ?_
          refine v_iast 1 hn rfl (Nat.le_of_ble_eq_true rfl) (by omega) (by omega) dX1_step_38 ?_
          refine v_aload_n dX1_step_39 rfl ?_
          refine v_iload_n dX1_step_40 rfl ?_
          refine v_callV (ci := 1) (K1_reckon hb (fr := k) (P0 := P0) (R := R) (sw_hold_all (cs := cCS G b σ u d m le wt wo hi al nx' su (up S' k (S' k + 1)) P) hn).hd (by rw [sw_ov_out (by simp; omega)]; exact h2) (sw_hold_all (cs := cCS G b σ u d m le wt wo hi al nx' su (up S' k (S' k + 1)) P) hn).tl.hd (sw_hold_all (cs := cCS G b σ u d m le wt wo hi al nx' su (up S' k (S' k + 1)) P) hn).tl.tl.hd (sw_hold_all (cs := cCS G b σ u d m le wt wo hi al nx' su (up S' k (S' k + 1)) P) hn).tl.tl.tl hw hm (by omega) hsn (hR.b hsn) hle hpk) ⟨rfl, rfl⟩ (Nat.le_refl _) (Nat.le_refl _) (sw_hold_all (cs := cCS G b σ u d m le wt wo hi al nx' su (up S' k (S' k + 1)) P) hn).hd rfl ⟨ml_X1_67, mm_X1_reckon⟩ ⟨(Nat.le_of_ble_eq_true rfl), (Nat.le_of_ble_eq_true rfl)⟩ mp_X1_reckon rfl rfl (Nat.le_of_ble_eq_true rfl) dX1_step_41 (fun r M' h => ?_)
          obtain ⟨P', rfl, hP', rfl⟩ := h
          refine v_ovp [0, 2] rfl rfl hn ?_
          rw [hnx] at hP'
          exact v_vret dX1_step_44 rfl (Nat.le_refl _) (Nat.le_refl _) (⟨rfl, Or.inl ⟨P', hP', by rw [← hnx]; exact sw_ov_dr h5 [cCd G b σ m le R (up S' k (S' k + 1)) P0, cG (up S' k (S' k + 1)), cP P']⟩⟩)
  refine v_aload_n dX1_step_0 rfl ?_
  refine v_getf 0 4 fl_X1_29 hn rfl rfl dX1_step_1 ?_
  refine v_iconst dX1_step_4 ?_
  refine v_isub dX1_step_5 ?_
  refine v_istore_n dX1_step_6 (Nat.le_of_ble_eq_true rfl) ?_
  exact v_to (loop m S (Nat.le_refl _) hS (fun _ _ => rfl) (fun i h1 h2 => by omega) rfl) rfl (sw_h1 rfl (sw_h1 rfl sw_h0))
theorem K1_withSign {b b0 : Nat} (hb : 50 ≤ b) {σ : SaleT} {u d : Int} {m le wt wo hi al nx su : Int} {P : Int → Int} (h1 : M 6 = some (cC G b0 m le wt wo hi al nx su).2) (h4 : M 9 = some (cP P).2) (h5 : sw_hold M (cS G b σ u d)) (hw : wfS σ) {k : Int} (hk : sw_rg k) :
    Kt l G μX1_withSign [.ref (sw_al G 6), .ref (sw_al G b), sw_i k] M (fun r M' => ∃ P', r = none ∧ (∀ t, 0 ≤ t → t < sTr σ → P' t = sW σ t * see σ t k) ∧ M' = sw_ov M [cP P']) := by
  refine KtA.of (by decide +kernel) (Nat.le_of_ble_eq_true rfl) ?_
  refine v_mem (sw_ov_self (cs := cC G b0 m le wt wo hi al nx su :: cP P :: cS G b σ u d) (sw_hold1 h1 (sw_hold1 h4 h5))).symm ?_
  have hn : sw_nd [6, 9, b, b + 1, b + 2, b + 3, b + 4] := sw_nd_of (by simp; omega)
  have hback : ∀ P', sw_ov M (cC G b0 m le wt wo hi al nx su :: cP P' :: cS G b σ u d) = sw_ov M [cP P'] := by
    intro P'
    have e : sw_ov M (cC G b0 m le wt wo hi al nx su :: cP P' :: cS G b σ u d) = sw_ov M ([cC G b0 m le wt wo hi al nx su, cP P'] ++ cS G b σ u d) := rfl
    rw [e, cCS_back h5]
    funext q
    show (if q = 6 then some (cC G b0 m le wt wo hi al nx su).2 else if q = 9 then _ else M q) = (if q = 9 then _ else M q)
    by_cases e6 : q = 6
    · rw [if_pos e6, if_neg (by omega), e6, h1]
    · rw [if_neg e6]
  have loop : ∀ (n : Nat) (t : Int) (P' : Int → Int), 0 ≤ t → t + n = sTr σ → (∀ t', 0 ≤ t' → t' < t → P' t' = sW σ t' * see σ t' k) → V l G μX1_withSign sw_E0 (sw_Zq G μX1_withSign (sw_q0 G (fun r M' => ∃ P', r = none ∧ (∀ t, 0 ≤ t → t < sTr σ → P' t = sW σ t * see σ t k) ∧ M' = sw_ov M [cP P']))) 2 [(0, .ref (sw_al G 6)), (1, .ref (sw_al G b)), (2, sw_i k), (3, sw_i t)] [] (sw_ov M (cC G b0 m le wt wo hi al nx su :: cP P' :: cS G b σ u d)) 0 0 := by
    intro n
    induction n with
    | zero =>
      intro t P' h0 ht hP
      have htr := hw.2.1
      refine v_iload_n dX1_withSign_2 rfl ?_
      refine v_aload_n dX1_withSign_3 rfl ?_
      refine v_getf 2 5 fl_X1_55 hn rfl rfl dX1_withSign_4 ?_
      refine v_icmp_ge (tgt := 37) dX1_withSign_7 (by decide) ⟨by omega, by omega⟩ ⟨by omega, by omega⟩ (fun h7 => ?_) (fun h7 => ?_)
      · skip
        exact v_vret dX1_withSign_37 rfl (Nat.le_refl _) (Nat.le_refl _) (⟨P', rfl, fun t' h0 h1 => hP t' h0 (by omega), hback P'⟩)
      · skip
        exfalso; omega
    | succ n ih =>
      intro t P' h0 ht hP
      have q := hw.2.2.2.2.2.1 t h0 (by omega)
      have qa := see_bd hw h0 (by omega) k
      have htr := hw.2.1
      have hsg := hw.1
      refine v_iload_n dX1_withSign_2 rfl ?_
      refine v_aload_n dX1_withSign_3 rfl ?_
      refine v_getf 2 5 fl_X1_55 hn rfl rfl dX1_withSign_4 ?_
      refine v_icmp_ge (tgt := 37) dX1_withSign_7 (by decide) ⟨by omega, by omega⟩ ⟨by omega, by omega⟩ (fun h7 => ?_) (fun h7 => ?_)
      · skip
        exfalso; omega
      · skip
        refine v_aload_n dX1_withSign_10 rfl ?_
        refine v_getf 0 2 fl_X1_18 hn rfl rfl dX1_withSign_11 ?_
        refine v_iload_n dX1_withSign_14 rfl ?_
        refine v_aload_n dX1_withSign_15 rfl ?_
        refine v_getf 2 1 fl_X1_58 hn rfl rfl dX1_withSign_16 ?_
        refine v_iload_n dX1_withSign_19 rfl ?_
        refine v_iald 4 hn rfl (Nat.le_of_ble_eq_true rfl) (by omega) (by omega) dX1_withSign_20 ?_
        refine v_i2l dX1_withSign_21 ⟨by omega, by omega⟩ ?_
        refine v_aload_n dX1_withSign_22 rfl ?_
        refine v_iload_n dX1_withSign_23 rfl ?_
        refine v_iload_n dX1_withSign_24 rfl ?_
        refine v_callV (ci := 5) (K5_seeing (u := u) (d := d) (b := b) (σ := σ) (sw_hold_all (cs := cC G b0 m le wt wo hi al nx su :: cP P' :: cS G b σ u d) hn).tl.tl (t := t) (k := k) ⟨by omega, by omega⟩ ⟨by omega, by omega⟩ hk) ⟨rfl, rfl⟩ (Nat.le_refl _) (Nat.le_refl _) ((sw_hold_all (cs := cC G b0 m le wt wo hi al nx su :: cP P' :: cS G b σ u d) hn).tl.tl.hd) rfl ⟨ml_X1_60, mm_X5_seeing⟩ ⟨(Nat.le_of_ble_eq_true rfl), (Nat.le_of_ble_eq_true rfl)⟩ mp_X5_seeing rfl rfl (Nat.le_of_ble_eq_true rfl) dX1_withSign_25 (fun r M' h => ?_)
        obtain ⟨rfl, rfl⟩ := h
        refine v_i2l dX1_withSign_28 ⟨by omega, by omega⟩ ?_
        refine v_lmul dX1_withSign_29 ?_
        refine v_last 1 hn rfl (Nat.le_of_ble_eq_true rfl) (by omega) (by omega) dX1_withSign_30 ?_
        refine v_iinc dX1_withSign_31 rfl (Nat.le_of_ble_eq_true rfl) ?_
        refine v_goto (tgt := 2) dX1_withSign_34 (by decide) ?_
        refine v_to (ih (t + 1) (up P' t (sW σ t * see σ t k)) (by omega) (by omega) (fun t' h0' h1' => ?_)) rfl (sw_h1 rfl (sw_h1 rfl (sw_h1 rfl (sw_h1 rfl sw_h0))))
        show (if t' = t then _ else P' t') = _
        by_cases e : t' = t
        · rw [if_pos e, e]
        · rw [if_neg e]; exact hP t' h0' (by omega)
  refine v_iconst dX1_withSign_0 ?_
  refine v_istore_n dX1_withSign_1 (Nat.le_of_ble_eq_true rfl) ?_
  exact v_to (loop (sTr σ).toNat 0 P (by omega) (by have := hw.2.1; omega) (fun t' h0 h1 => by omega)) rfl (sw_h1 rfl (sw_h1 rfl (sw_h1 rfl (sw_h1 rfl sw_h0))))
theorem K1_withTruth {b b0 : Nat} (hb : 50 ≤ b) {σ : SaleT} {u d : Int} {m le wt wo hi al nx su : Int} {P : Int → Int} (h1 : M 6 = some (cC G b0 m le wt wo hi al nx su).2) (h4 : M 9 = some (cP P).2) (h5 : sw_hold M (cS G b σ u d)) (hw : wfS σ) {k : Int} (hk : sw_rg k) :
    Kt l G μX1_withTruth [.ref (sw_al G 6), .ref (sw_al G b), sw_i k] M (fun r M' => ∃ P', r = none ∧ (∀ t, 0 ≤ t → t < sTr σ → P' t = if t = k then sW σ t else 0) ∧ M' = sw_ov M [cP P']) := by
  refine KtA.of (by decide +kernel) (Nat.le_of_ble_eq_true rfl) ?_
  refine v_mem (sw_ov_self (cs := cC G b0 m le wt wo hi al nx su :: cP P :: cS G b σ u d) (sw_hold1 h1 (sw_hold1 h4 h5))).symm ?_
  have hn : sw_nd [6, 9, b, b + 1, b + 2, b + 3, b + 4] := sw_nd_of (by simp; omega)
  have hback : ∀ P', sw_ov M (cC G b0 m le wt wo hi al nx su :: cP P' :: cS G b σ u d) = sw_ov M [cP P'] := by
    intro P'
    have e : sw_ov M (cC G b0 m le wt wo hi al nx su :: cP P' :: cS G b σ u d) = sw_ov M ([cC G b0 m le wt wo hi al nx su, cP P'] ++ cS G b σ u d) := rfl
    rw [e, cCS_back h5]
    funext q
    show (if q = 6 then some (cC G b0 m le wt wo hi al nx su).2 else if q = 9 then _ else M q) = (if q = 9 then _ else M q)
    by_cases e6 : q = 6
    · rw [if_pos e6, if_neg (by omega), e6, h1]
    · rw [if_neg e6]
  have loop : ∀ (n : Nat) (t : Int) (P' : Int → Int), 0 ≤ t → t + n = sTr σ → (∀ t', 0 ≤ t' → t' < t → P' t' = if t' = k then sW σ t' else 0) → V l G μX1_withTruth sw_E0 (sw_Zq G μX1_withTruth (sw_q0 G (fun r M' => ∃ P', r = none ∧ (∀ t, 0 ≤ t → t < sTr σ → P' t = if t = k then sW σ t else 0) ∧ M' = sw_ov M [cP P']))) 2 [(0, .ref (sw_al G 6)), (1, .ref (sw_al G b)), (2, sw_i k), (3, sw_i t)] [] (sw_ov M (cC G b0 m le wt wo hi al nx su :: cP P' :: cS G b σ u d)) 0 0 := by
    intro n
    induction n with
    | zero =>
      intro t P' h0 ht hP
      have htr := hw.2.1
      refine v_iload_n dX1_withTruth_2 rfl ?_
      refine v_aload_n dX1_withTruth_3 rfl ?_
      refine v_getf 2 5 fl_X1_55 hn rfl rfl dX1_withTruth_4 ?_
      refine v_icmp_ge (tgt := 38) dX1_withTruth_7 (by decide) ⟨by omega, by omega⟩ ⟨by omega, by omega⟩ (fun h7 => ?_) (fun h7 => ?_)
      · skip
        exact v_vret dX1_withTruth_38 rfl (Nat.le_refl _) (Nat.le_refl _) (⟨P', rfl, fun t' h0 h1 => hP t' h0 (by omega), hback P'⟩)
      · skip
        exfalso; omega
    | succ n ih =>
      intro t P' h0 ht hP
      have q := hw.2.2.2.2.2.1 t h0 (by omega)
      have htr := hw.2.1
      have hst : ∀ v, v = (if t = k then sW σ t else 0) → ∀ t', 0 ≤ t' → t' < t + 1 → up P' t v t' = if t' = k then sW σ t' else 0 := by
        intro v hv t' h0' h1'
        show (if t' = t then _ else P' t') = _
        by_cases e : t' = t
        · rw [if_pos e, e]; exact hv
        · rw [if_neg e]; exact hP t' h0' (by omega)
      refine v_iload_n dX1_withTruth_2 rfl ?_
      refine v_aload_n dX1_withTruth_3 rfl ?_
      refine v_getf 2 5 fl_X1_55 hn rfl rfl dX1_withTruth_4 ?_
      refine v_icmp_ge (tgt := 38) dX1_withTruth_7 (by decide) ⟨by omega, by omega⟩ ⟨by omega, by omega⟩ (fun h7 => ?_) (fun h7 => ?_)
      · skip
        exfalso; omega
      · skip
        refine v_aload_n dX1_withTruth_10 rfl ?_
        refine v_getf 0 2 fl_X1_18 hn rfl rfl dX1_withTruth_11 ?_
        refine v_iload_n dX1_withTruth_14 rfl ?_
        refine v_iload_n dX1_withTruth_15 rfl ?_
        refine v_iload_n dX1_withTruth_16 rfl ?_
        refine v_icmp_ne (tgt := 30) dX1_withTruth_17 (by decide) ⟨by omega, by omega⟩ ⟨by omega, by omega⟩ (fun h17 => ?_) (fun h17 => ?_)
        · skip
          refine v_lconst (z := 0) dX1_withTruth_30 (by decide +kernel) ?_
          refine v_last 1 hn rfl (Nat.le_of_ble_eq_true rfl) (by omega) (by omega) dX1_withTruth_31 ?_
          refine v_iinc dX1_withTruth_32 rfl (Nat.le_of_ble_eq_true rfl) ?_
          refine v_goto (tgt := 2) dX1_withTruth_35 (by decide) ?_
          exact v_to (ih (t + 1) (up P' t 0) (by omega) (by omega) (hst _ (if_neg (by omega)).symm)) rfl (sw_h1 rfl (sw_h1 rfl (sw_h1 rfl (sw_h1 rfl sw_h0))))
        · skip
          refine v_aload_n dX1_withTruth_20 rfl ?_
          refine v_getf 2 1 fl_X1_58 hn rfl rfl dX1_withTruth_21 ?_
          refine v_iload_n dX1_withTruth_24 rfl ?_
          refine v_iald 4 hn rfl (Nat.le_of_ble_eq_true rfl) (by omega) (by omega) dX1_withTruth_25 ?_
          refine v_i2l dX1_withTruth_26 ⟨by omega, by omega⟩ ?_
          refine v_goto (tgt := 31) dX1_withTruth_27 (by decide) ?_
          refine v_last 1 hn rfl (Nat.le_of_ble_eq_true rfl) (by omega) (by omega) dX1_withTruth_31 ?_
          refine v_iinc dX1_withTruth_32 rfl (Nat.le_of_ble_eq_true rfl) ?_
          refine v_goto (tgt := 2) dX1_withTruth_35 (by decide) ?_
          exact v_to (ih (t + 1) (up P' t (sW σ t)) (by omega) (by omega) (hst _ (if_pos (by omega)).symm)) rfl (sw_h1 rfl (sw_h1 rfl (sw_h1 rfl (sw_h1 rfl sw_h0))))
  refine v_iconst dX1_withTruth_0 ?_
  refine v_istore_n dX1_withTruth_1 (Nat.le_of_ble_eq_true rfl) ?_
  exact v_to (loop (sTr σ).toNat 0 P (by omega) (by have := hw.2.1; omega) (fun t' h0 h1 => by omega)) rfl (sw_h1 rfl (sw_h1 rfl (sw_h1 rfl (sw_h1 rfl sw_h0))))
theorem K1_price {b : Nat} (hb : 50 ≤ b) {σ : SaleT} {u d : Int} {m le wt wo hi al nx su : Int} (h1 : M 6 = some (cC G b m le wt wo hi al nx su).2) (h5 : sw_hold M (cS G b σ u d)) (hw : wfS σ) (hnx : sw_rg nx) : Kt l G μX1_price [.ref (sw_al G 6)] M (fun r M' => r = some (sw_i (crP σ le hi nx)) ∧ M' = M) := by
  refine KtA.of (by decide +kernel) (Nat.le_of_ble_eq_true rfl) ?_
  have hback : sw_ov M [cC G b m le wt wo hi al nx su, cO G b σ u d] = M := sw_ov_self (sw_hold1 h1 (sw_hold1 h5.hd sw_hold0))
  refine v_mem hback.symm ?_
  have hn : sw_nd [6, b] := sw_nd_of (by simp; omega)
  have hwy := hw.2.2.2.2.1
  obtain ⟨n1, n2⟩ := hnx
  refine v_aload_n dX1_price_0 rfl ?_
  refine v_getf 0 3 fl_X1_25 hn rfl rfl dX1_price_1 ?_
  refine v_getf 1 8 fl_X1_80 hn rfl rfl dX1_price_4 ?_
  refine v_iconst dX1_price_7 ?_
  refine v_icmp_eq (tgt := 16) dX1_price_8 (by decide) ⟨by omega, by omega⟩ ⟨by omega, by omega⟩ (fun h8 => ?_) (fun h8 => ?_)
  · skip
    refine v_aload_n dX1_price_16 rfl ?_
    refine v_getf 0 10 fl_X1_49 hn rfl rfl dX1_price_17 ?_
    refine v_iconst dX1_price_20 ?_
    refine v_icmp_ne (tgt := 31) dX1_price_21 (by decide) ⟨by omega, by omega⟩ ⟨by omega, by omega⟩ (fun h21 => ?_) (fun h21 => ?_)
    · skip
      refine v_aload_n dX1_price_31 rfl ?_
      refine v_getf 0 10 fl_X1_49 hn rfl rfl dX1_price_32 ?_
      exact v_iret dX1_price_35 rfl (Nat.le_refl _) (Nat.le_refl _) (⟨by unfold crP; rw [if_pos (by omega), if_neg (by omega)], hback⟩)
    · skip
      refine v_aload_n dX1_price_24 rfl ?_
      refine v_getf 0 5 fl_X1_33 hn rfl rfl dX1_price_25 ?_
      refine v_goto (tgt := 35) dX1_price_28 (by decide) ?_
      exact v_iret dX1_price_35 rfl (Nat.le_refl _) (Nat.le_refl _) (⟨by unfold crP; rw [if_pos (by omega), if_pos (by omega)], hback⟩)
  · skip
    refine v_aload_n dX1_price_11 rfl ?_
    refine v_getf 0 8 fl_X1_43 hn rfl rfl dX1_price_12 ?_
    exact v_iret dX1_price_15 rfl (Nat.le_refl _) (Nat.le_refl _) (⟨by unfold crP; rw [if_neg (by omega)], hback⟩)
theorem K1_weightBelow {b : Nat} (hb : 50 ≤ b) {σ : SaleT} {u d : Int} {m : Nat} {le wt wo hi al nx su : Int} {S P0 P : Int → Int} (h1 : M 6 = some (cC G b m le wt wo hi al nx su).2) (h4 : M 9 = some (cP P).2) (h5 : sw_hold M (cS G b σ u d)) (hw : wfS σ) (hm : m ≤ 4) (hP : pOK σ S P0 P m) {pr : Int} (hpr : sw_rg pr) : Kt l G μX1_weightBelow [.ref (sw_al G 6), sw_i pr] M (fun r M' => r = some (sw_j (crB σ S P0 m pr)) ∧ M' = M) := by
  refine KtA.of (by decide +kernel) (Nat.le_of_ble_eq_true rfl) ?_
  have hback : sw_ov M [cC G b m le wt wo hi al nx su, cP P, cO G b σ u d, (b + 1, sw_ia 8 (sV σ))] = M := sw_ov_self (sw_hold1 h1 (sw_hold1 h4 (sw_hold1 h5.hd (sw_hold1 h5.tl.hd sw_hold0))))
  refine v_mem hback.symm ?_
  have hn : sw_nd [6, 9, b, b + 1] := sw_nd_of (by simp; omega)
  obtain ⟨n1, n2⟩ := hpr
  have htr := hw.2.1
  have loop : ∀ (n : Nat) (t : Int), 0 ≤ t → t + n = sTr σ → V l G μX1_weightBelow sw_E0 (sw_Zq G μX1_weightBelow (sw_q0 G (fun r M' => r = some (sw_j (crB σ S P0 m pr)) ∧ M' = M))) 5 [(0, .ref (sw_al G 6)), (1, sw_i pr), (2, sw_j (sm (fun t => if sV σ t < pr then pwt σ S P0 m t else 0) t.toNat)), (4, sw_i t)] [] (sw_ov M [cC G b m le wt wo hi al nx su, cP P, cO G b σ u d, (b + 1, sw_ia 8 (sV σ))]) 0 0 := by
    intro n
    induction n with
    | zero =>
      intro t h0 ht
      have e : t = sTr σ := by omega
      subst e
      refine v_iload dX1_weightBelow_5 rfl ?_
      refine v_aload_n dX1_weightBelow_7 rfl ?_
      refine v_getf 0 3 fl_X1_25 hn rfl rfl dX1_weightBelow_8 ?_
      refine v_getf 2 5 fl_X1_55 hn rfl rfl dX1_weightBelow_11 ?_
      refine v_icmp_ge (tgt := 55) dX1_weightBelow_14 (by decide) ⟨by omega, by omega⟩ ⟨by omega, by omega⟩ (fun h14 => ?_) (fun h14 => ?_)
      · skip
        refine v_lload_n dX1_weightBelow_55 rfl ?_
        exact v_lret dX1_weightBelow_56 rfl (Nat.le_refl _) (Nat.le_refl _) (⟨rfl, hback⟩)
      · skip
        exfalso; omega
    | succ n ih =>
      intro t h0 ht
      have e1 := sm_step (fun t => if sV σ t < pr then pwt σ S P0 m t else 0) h0
      have q := hw.2.2.2.2.2.1 t h0 (by omega)
      have ep := hP m t (Nat.le_refl _) h0 (by omega)
      refine v_iload dX1_weightBelow_5 rfl ?_
      refine v_aload_n dX1_weightBelow_7 rfl ?_
      refine v_getf 0 3 fl_X1_25 hn rfl rfl dX1_weightBelow_8 ?_
      refine v_getf 2 5 fl_X1_55 hn rfl rfl dX1_weightBelow_11 ?_
      refine v_icmp_ge (tgt := 55) dX1_weightBelow_14 (by decide) ⟨by omega, by omega⟩ ⟨by omega, by omega⟩ (fun h14 => ?_) (fun h14 => ?_)
      · skip
        exfalso; omega
      · skip
        refine v_aload_n dX1_weightBelow_17 rfl ?_
        refine v_getf 0 3 fl_X1_25 hn rfl rfl dX1_weightBelow_18 ?_
        refine v_getf 2 0 fl_X1_74 hn rfl rfl dX1_weightBelow_21 ?_
        refine v_iload dX1_weightBelow_24 rfl ?_
        refine v_iald 3 hn rfl (Nat.le_of_ble_eq_true rfl) (by omega) (by omega) dX1_weightBelow_26 ?_
        refine v_iload_n dX1_weightBelow_27 rfl ?_
        refine v_icmp_ge (tgt := 49) dX1_weightBelow_28 (by decide) ⟨by omega, by omega⟩ ⟨by omega, by omega⟩ (fun h28 => ?_) (fun h28 => ?_)
        · skip
          rw [if_neg (by omega)] at e1
          refine v_iinc dX1_weightBelow_49 rfl (Nat.le_of_ble_eq_true rfl) ?_
          refine v_goto (tgt := 5) dX1_weightBelow_52 (by decide) ?_
          exact v_to (ih (t + 1) (by omega) (by omega)) rfl (sw_h1 rfl (sw_h1 rfl (sw_h1 (by rw [e1, Int.add_zero]; rfl) (sw_h1 rfl sw_h0))))
        · skip
          rw [if_pos (by omega)] at e1
          refine v_lload_n dX1_weightBelow_31 rfl ?_
          refine v_aload_n dX1_weightBelow_32 rfl ?_
          refine v_getf 0 2 fl_X1_18 hn rfl rfl dX1_weightBelow_33 ?_
          refine v_aload_n dX1_weightBelow_36 rfl ?_
          refine v_getf 0 4 fl_X1_29 hn rfl rfl dX1_weightBelow_37 ?_
          refine v_bipush dX1_weightBelow_40 (by decide +kernel) ?_
          refine v_imul dX1_weightBelow_42 ?_
          refine v_iload dX1_weightBelow_43 rfl ?_
          refine v_iadd dX1_weightBelow_45 ?_
          refine v_lald 1 hn rfl (Nat.le_of_ble_eq_true rfl) (by omega) (by omega) dX1_weightBelow_46 ?_
          refine v_ladd dX1_weightBelow_47 ?_
          refine v_lstore_n dX1_weightBelow_48 (Nat.le_of_ble_eq_true rfl) ?_
          refine v_iinc dX1_weightBelow_49 rfl (Nat.le_of_ble_eq_true rfl) ?_
          refine v_goto (tgt := 5) dX1_weightBelow_52 (by decide) ?_
          exact v_to (ih (t + 1) (by omega) (by omega)) rfl (sw_h1 rfl (sw_h1 rfl (sw_h1 (by rw [e1, ← ep]; rfl) (sw_h1 rfl sw_h0))))
  refine v_lconst (z := 0) dX1_weightBelow_0 (by decide +kernel) ?_
  refine v_lstore_n dX1_weightBelow_1 (Nat.le_of_ble_eq_true rfl) ?_
  refine v_iconst dX1_weightBelow_2 ?_
  refine v_istore dX1_weightBelow_3 (Nat.le_of_ble_eq_true rfl) ?_
  exact v_to (loop (sTr σ).toNat 0 (by omega) (by omega)) rfl (sw_h1 rfl (sw_h1 rfl (sw_h1 rfl (sw_h1 rfl sw_h0))))
end

