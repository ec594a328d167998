/-! the crowd: reckon, begin, step and the weights -/
/-- sale, crowd, its signs and weights -/
abbrev cCS (G : sw_G) (b : Nat) (σ : SaleT) (u d : Int) (m le wt wo hi al nx su : Int) (S P : Int → Int) : List sw_Ce := [cC G b m le wt wo hi al nx su, cG S, cP P, cO G b σ u d, (b + 1, sw_ia 8 (sV σ)), (b + 2, sw_ia 8 (sW σ)), (b + 3, sw_ia 40 (sO σ)), (b + 4, sw_ia 4 (sSt σ))]
theorem cCS_nd {b : Nat} (h : 50 ≤ b) : sw_nd [6, 8, 9, b, b + 1, b + 2, b + 3, b + 4] := sw_nd_of (by simp; omega)
theorem cCS_back {G : sw_G} {M : sw_M} {b : Nat} {σ : SaleT} {u d : Int} (hS : sw_hold M (cS G b σ u d)) (cs : List sw_Ce) : sw_ov M (cs ++ cS G b σ u d) = sw_ov M cs := sw_ov_dr hS cs
section
variable {l : Launch} {G : sw_G} {M : sw_M}
theorem K1_reckon {b : Nat} (hb : 50 ≤ b) {σ : SaleT} {u d : Int} {m fr : Nat} {le wt wo hi al nx su : Int} {R S P0 P : Int → Int} (h1 : M 6 = some (cC G b m le wt wo hi al nx su).2) (h2 : M 7 = some (cR R).2) (h3 : M 8 = some (cG S).2) (h4 : M 9 = some (cP P).2) (h5 : sw_hold M (cS G b σ u d)) (hw : wfS σ) (hm : m ≤ 4) (hfr : fr ≤ m) (hS : sOK σ S m) (hR : bOK R S m) (hle : 0 ≤ le ∧ le ≤ 60) (hP : pOK σ S P0 P fr) :
    Kt l G μX1_reckon [.ref (sw_al G 6), sw_i (fr : Int)] M (fun r M' => ∃ P', r = none ∧ pOK σ S P0 P' m ∧ M' = sw_ov M [cC G b m le (crW σ S P0 m) (crV σ S P0 m) (rk R S le m).1 (rk R S le m).2.1 (rk R S le m).2.2.1 (rk R S le m).2.2.2, cP P']) := by
  refine KtA.of (by decide +kernel) (Nat.le_of_ble_eq_true rfl) ?_
  refine v_mem (sw_ov_self (cs := cCS G b σ u d m le wt wo hi al nx su S P) (sw_hold1 h1 (sw_hold1 h3 (sw_hold1 h4 h5)))).symm ?_
  have hn := cCS_nd hb
  have hw' := hw
  obtain ⟨w1, w2, w3, w4, w5, w6, w7, w8⟩ := hw
  have hback : ∀ (wt wo hi al nx su : Int) (P' : Int → Int), sw_ov M (cCS G b σ u d m le wt wo hi al nx su S P') = sw_ov M [cC G b m le wt wo hi al nx su, cP P'] := by
    intro wt wo hi al nx su P'
    have e : sw_ov M (cCS G b σ u d m le wt wo hi al nx su S P') = sw_ov M ([cC G b m le wt wo hi al nx su, cG S, cP P'] ++ cS G b σ u d) := rfl
    rw [e, cCS_back h5]
    funext q
    show (if q = 6 then _ else if q = 8 then some (cG S).2 else if q = 9 then _ else M q) = (if q = 6 then _ else if q = 9 then _ else M q)
    by_cases e6 : q = 6
    · rw [if_pos e6, if_pos e6]
    · rw [if_neg e6, if_neg e6]
      by_cases e8 : q = 8
      · rw [if_pos e8, if_neg (by omega), e8, h3]
      · rw [if_neg e8]
  -- the sums
  have last : ∀ (P' : Int → Int), pOK σ S P0 P' m → ∀ (n : Nat) (t : Int) (x : Value), 0 ≤ t → t + n = sTr σ → V l G μX1_reckon sw_E0 (sw_Zq G μX1_reckon (sw_q0 G (fun r M' => ∃ P', r = none ∧ pOK σ S P0 P' m ∧ M' = sw_ov M [cC G b m le (crW σ S P0 m) (crV σ S P0 m) (rk R S le m).1 (rk R S le m).2.1 (rk R S le m).2.2.1 (rk R S le m).2.2.2, cP P']))) 96 [(0, .ref (sw_al G 6)), (2, sw_i t)] [] (sw_ov M (cCS G b σ u d m le (sm (pwt σ S P0 m) t.toNat) (sm (fun t => pwt σ S P0 m t * sV σ t) t.toNat) hi al nx su S P')) 0 0 := by
    intro P' hP' n
    induction n with
    | zero =>
      intro t x h0 ht
      have e : t = sTr σ := by omega
      subst e
      refine v_iload_n dX1_reckon_96 rfl ?_
      refine v_aload_n dX1_reckon_97 rfl ?_
      refine v_getf 0 3 fl_X1_25 hn rfl rfl dX1_reckon_98 ?_
      refine v_getf 3 5 fl_X1_55 hn rfl rfl dX1_reckon_101 ?_
      refine v_icmp_ge (tgt := 159) dX1_reckon_104 (by decide) ⟨by omega, by omega⟩ ⟨by omega, by omega⟩ (fun h104 => ?_) (fun h104 => ?_)
      · skip
        refine v_aload_n dX1_reckon_159 rfl ?_
        refine v_callV (ci := 1) (K1_rank (b := b) (m := m) (le := le) (wt := crW σ S P0 m) (wo := crV σ S P0 m) (hi := hi) (al := al) (nx := nx) (su := su) (R := R) (S := S) (sw_hold_all (cs := cCS G b σ u d m le (crW σ S P0 m) (crV σ S P0 m) hi al nx su S P') hn).hd (by rw [sw_ov_out (by simp; omega)]; exact h2) (sw_hold_all (cs := cCS G b σ u d m le (crW σ S P0 m) (crV σ S P0 m) hi al nx su S P') hn).tl.hd hm (fun i hi => ⟨(hS i hi).1, by have := (hS i hi).2; omega⟩) hR hle) ⟨rfl, rfl⟩ (Nat.le_refl _) (Nat.le_refl _) ((sw_hold_all (cs := cCS G b σ u d m le (crW σ S P0 m) (crV σ S P0 m) hi al nx su S P') hn).hd) rfl ⟨ml_X1_77, mm_X1_rank⟩ ⟨(Nat.le_of_ble_eq_true rfl), (Nat.le_of_ble_eq_true rfl)⟩ mp_X1_rank rfl rfl (Nat.le_of_ble_eq_true rfl) dX1_reckon_160 (fun r M' h => ?_)
        obtain ⟨rfl, rfl⟩ := h
        refine v_ovp [0] rfl rfl hn ?_
        exact v_vret dX1_reckon_163 rfl (Nat.le_refl _) (Nat.le_refl _) (⟨P', rfl, hP', hback _ _ _ _ _ _ _⟩)
      · skip
        exfalso; omega
    | succ n ih =>
      intro t x h0 ht
      have e1 := sm_step (pwt σ S P0 m) h0
      have e2 := sm_step (fun t => pwt σ S P0 m t * sV σ t) h0
      have q := w6 t h0 (by omega)
      have ep := hP' m t (Nat.le_refl _) h0 (by omega)
      refine v_iload_n dX1_reckon_96 rfl ?_
      refine v_aload_n dX1_reckon_97 rfl ?_
      refine v_getf 0 3 fl_X1_25 hn rfl rfl dX1_reckon_98 ?_
      refine v_getf 3 5 fl_X1_55 hn rfl rfl dX1_reckon_101 ?_
      refine v_icmp_ge (tgt := 159) dX1_reckon_104 (by decide) ⟨by omega, by omega⟩ ⟨by omega, by omega⟩ (fun h104 => ?_) (fun h104 => ?_)
      · skip
        exfalso; omega
      · skip
        refine v_aload_n dX1_reckon_107 rfl ?_
        refine v_getf 0 2 fl_X1_18 hn rfl rfl dX1_reckon_108 ?_
        refine v_aload_n dX1_reckon_111 rfl ?_
        refine v_getf 0 4 fl_X1_29 hn rfl rfl dX1_reckon_112 ?_
        refine v_bipush dX1_reckon_115 (by decide +kernel) ?_
        refine v_imul dX1_reckon_117 ?_
        refine v_iload_n dX1_reckon_118 rfl ?_
        refine v_iadd dX1_reckon_119 ?_
        refine v_lald 2 hn rfl (Nat.le_of_ble_eq_true rfl) (by omega) (by omega) dX1_reckon_120 ?_
        refine v_lstore_n dX1_reckon_121 (Nat.le_of_ble_eq_true rfl) ?_
        refine v_aload_n dX1_reckon_122 rfl ?_
        refine v_dup dX1_reckon_123 rfl ?_
        refine v_getf 0 6 fl_X1_36 hn rfl rfl dX1_reckon_124 ?_
        refine v_lload_n dX1_reckon_127 rfl ?_
        refine v_ladd dX1_reckon_128 ?_
        refine v_putf 0 6 fp_X1_36 hn rfl rfl rfl (Nat.le_of_ble_eq_true rfl) dX1_reckon_129 ?_
        refine v_aload_n dX1_reckon_132 rfl ?_
        refine v_dup dX1_reckon_133 rfl ?_
        refine v_getf 0 7 fl_X1_40 hn rfl rfl dX1_reckon_134 ?_
        refine v_lload_n dX1_reckon_137 rfl ?_
        refine v_aload_n dX1_reckon_138 rfl ?_
        refine v_getf 0 3 fl_X1_25 hn rfl rfl dX1_reckon_139 ?_
        refine v_getf 3 0 fl_X1_74 hn rfl rfl dX1_reckon_142 ?_
        refine v_iload_n dX1_reckon_145 rfl ?_
        refine v_iald 4 hn rfl (Nat.le_of_ble_eq_true rfl) (by omega) (by omega) dX1_reckon_146 ?_
        refine v_i2l dX1_reckon_147 ⟨by omega, by omega⟩ ?_
        refine v_lmul dX1_reckon_148 ?_
        refine v_ladd dX1_reckon_149 ?_
        refine v_putf 0 7 fp_X1_40 hn rfl rfl rfl (Nat.le_of_ble_eq_true rfl) dX1_reckon_150 ?_
        refine v_iinc dX1_reckon_153 rfl (Nat.le_of_ble_eq_true rfl) ?_
        refine v_goto (tgt := 96) dX1_reckon_156 (by decide) ?_
        refine v_to (ih (t + 1) .null (by omega) (by omega)) (by rw [e1, e2, ← ep]; rfl) (sw_h1 rfl (sw_h1 rfl sw_h0))
  have inner : ∀ (p : Nat), p < m → (∀ (P' : Int → Int), pOK σ S P0 P' (p + 1) → V l G μX1_reckon sw_E0 (sw_Zq G μX1_reckon (sw_q0 G (fun r M' => ∃ P', r = none ∧ pOK σ S P0 P' m ∧ M' = sw_ov M [cC G b m le (crW σ S P0 m) (crV σ S P0 m) (rk R S le m).1 (rk R S le m).2.1 (rk R S le m).2.2.1 (rk R S le m).2.2.2, cP P']))) 2 [(0, .ref (sw_al G 6)), (2, sw_i ((p : Int) + 1))] [] (sw_ov M (cCS G b σ u d m le wt wo hi al nx su S P')) 0 0) →
      ∀ (n : Nat) (t : Int) (P' : Int → Int), 0 ≤ t → t + n = sTr σ → pOK σ S P0 P' p → (∀ t', 0 ≤ t' → t' < t → P' ((p : Int) * 8 + 8 + t') = pwt σ S P0 (p + 1) t') →
      V l G μX1_reckon sw_E0 (sw_Zq G μX1_reckon (sw_q0 G (fun r M' => ∃ P', r = none ∧ pOK σ S P0 P' m ∧ M' = sw_ov M [cC G b m le (crW σ S P0 m) (crV σ S P0 m) (rk R S le m).1 (rk R S le m).2.1 (rk R S le m).2.2.1 (rk R S le m).2.2.2, cP P']))) 18 [(0, .ref (sw_al G 6)), (2, sw_i (p : Int)), (3, sw_i ((p : Int) * 8)), (4, sw_i t)] [] (sw_ov M (cCS G b σ u d m le wt wo hi al nx su S P')) 0 0 := by
    intro p hp kk n
    have hSp := hS p hp
    induction n with
    | zero =>
      intro t P' h0 ht hP1 hP2
      have e : t = sTr σ := by omega
      subst e
      have hP3 : pOK σ S P0 P' (p + 1) := by
        intro k t hk h0 h1
        by_cases c : k = p + 1
        · subst c
          rw [show ((p + 1 : Nat) : Int) * 8 + t = (p : Int) * 8 + 8 + t by omega]
          exact hP2 t h0 h1
        · exact hP1 k t (by omega) h0 h1
      refine v_iload dX1_reckon_18 rfl ?_
      refine v_aload_n dX1_reckon_20 rfl ?_
      refine v_getf 0 3 fl_X1_25 hn rfl rfl dX1_reckon_21 ?_
      refine v_getf 3 5 fl_X1_55 hn rfl rfl dX1_reckon_24 ?_
      refine v_icmp_ge (tgt := 78) dX1_reckon_27 (by decide) ⟨by omega, by omega⟩ ⟨by omega, by omega⟩ (fun h27 => ?_) (fun h27 => ?_)
      · skip
        refine v_iinc dX1_reckon_78 rfl (Nat.le_of_ble_eq_true rfl) ?_
        refine v_goto (tgt := 2) dX1_reckon_81 (by decide) ?_
        exact v_to (kk P' hP3) rfl (sw_h1 rfl (sw_h1 rfl sw_h0))
      · skip
        exfalso; omega
    | succ n ih =>
      intro t P' h0 ht hP1 hP2
      have q := w7 t (S p) h0 (by omega) hSp.1 hSp.2
      have hv := hP1 p t (Nat.le_refl _) h0 (by omega)
      have hP4 : pOK σ S P0 (up P' ((p : Int) * 8 + 8 + t) (P' ((p : Int) * 8 + t) * sO σ (t * 5 + S p))) p := by
        intro k t' hk h0' h1'
        have hne : ((k : Int) * 8 + t' : Int) ≠ (p : Int) * 8 + 8 + t := by omega
        show (if ((k : Int) * 8 + t' : Int) = (p : Int) * 8 + 8 + t then _ else P' ((k : Int) * 8 + t')) = _
        rw [if_neg hne]
        exact hP1 k t' hk h0' h1'
      have hP5 : ∀ t', 0 ≤ t' → t' < t + 1 → up P' ((p : Int) * 8 + 8 + t) (P' ((p : Int) * 8 + t) * sO σ (t * 5 + S p)) ((p : Int) * 8 + 8 + t') = pwt σ S P0 (p + 1) t' := by
        intro t' h0' h1'
        show (if ((p : Int) * 8 + 8 + t' : Int) = (p : Int) * 8 + 8 + t then _ else P' ((p : Int) * 8 + 8 + t')) = _
        by_cases c : t' = t
        · subst c
          rw [if_pos rfl, hv]; rfl
        · rw [if_neg (by omega)]
          exact hP2 t' h0' (by omega)
      refine v_iload dX1_reckon_18 rfl ?_
      refine v_aload_n dX1_reckon_20 rfl ?_
      refine v_getf 0 3 fl_X1_25 hn rfl rfl dX1_reckon_21 ?_
      refine v_getf 3 5 fl_X1_55 hn rfl rfl dX1_reckon_24 ?_
      refine v_icmp_ge (tgt := 78) dX1_reckon_27 (by decide) ⟨by omega, by omega⟩ ⟨by omega, by omega⟩ (fun h27 => ?_) (fun h27 => ?_)
      · skip
        exfalso; omega
      · skip
        refine v_aload_n dX1_reckon_30 rfl ?_
        refine v_getf 0 2 fl_X1_18 hn rfl rfl dX1_reckon_31 ?_
        refine v_iload_n dX1_reckon_34 rfl ?_
        refine v_bipush dX1_reckon_35 (by decide +kernel) ?_
        refine v_iadd dX1_reckon_37 ?_
        refine v_iload dX1_reckon_38 rfl ?_
        refine v_iadd dX1_reckon_40 ?_
        refine v_aload_n dX1_reckon_41 rfl ?_
        refine v_getf 0 2 fl_X1_18 hn rfl rfl dX1_reckon_42 ?_
        refine v_iload_n dX1_reckon_45 rfl ?_
        refine v_iload dX1_reckon_46 rfl ?_
        refine v_iadd dX1_reckon_48 ?_
        refine v_lald 2 hn rfl (Nat.le_of_ble_eq_true rfl) (by omega) (by omega) dX1_reckon_49 ?_
        refine v_aload_n dX1_reckon_50 rfl ?_
        refine v_getf 0 3 fl_X1_25 hn rfl rfl dX1_reckon_51 ?_
        refine v_getf 3 2 fl_X1_71 hn rfl rfl dX1_reckon_54 ?_
        refine v_iload dX1_reckon_57 rfl ?_
        refine v_iconst dX1_reckon_59 ?_
        refine v_imul dX1_reckon_60 ?_
        refine v_aload_n dX1_reckon_61 rfl ?_
        refine v_getf 0 1 fl_X1_15 hn rfl rfl dX1_reckon_62 ?_
        refine v_iload_n dX1_reckon_65 rfl ?_
        refine v_iald 1 hn rfl (Nat.le_of_ble_eq_true rfl) (by omega) (by omega) dX1_reckon_66 ?_
        refine v_iadd dX1_reckon_67 ?_
        refine v_iald 6 hn rfl (Nat.le_of_ble_eq_true rfl) (by omega) (by omega) dX1_reckon_68 ?_
        refine v_i2l dX1_reckon_69 ⟨by omega, by omega⟩ ?_
        refine v_lmul dX1_reckon_70 ?_
        refine v_last 2 hn rfl (Nat.le_of_ble_eq_true rfl) (by omega) (by omega) dX1_reckon_71 ?_
        refine v_iinc dX1_reckon_72 rfl (Nat.le_of_ble_eq_true rfl) ?_
        refine v_goto (tgt := 18) dX1_reckon_75 (by decide) ?_
        exact v_to (ih (t + 1) _ (by omega) (by omega) hP4 hP5) rfl (sw_h1 rfl (sw_h1 rfl (sw_h1 rfl (sw_h1 rfl sw_h0))))
  have outer : ∀ (n p : Nat) (P' : Int → Int), p + n = m → pOK σ S P0 P' p → V l G μX1_reckon sw_E0 (sw_Zq G μX1_reckon (sw_q0 G (fun r M' => ∃ P', r = none ∧ pOK σ S P0 P' m ∧ M' = sw_ov M [cC G b m le (crW σ S P0 m) (crV σ S P0 m) (rk R S le m).1 (rk R S le m).2.1 (rk R S le m).2.2.1 (rk R S le m).2.2.2, cP P']))) 2 [(0, .ref (sw_al G 6)), (2, sw_i (p : Int))] [] (sw_ov M (cCS G b σ u d m le wt wo hi al nx su S P')) 0 0 := by
    intro n
    induction n with
    | zero =>
      intro p P' hp hP1
      have e : p = m := by omega
      subst e
      refine v_iload_n dX1_reckon_2 rfl ?_
      refine v_aload_n dX1_reckon_3 rfl ?_
      refine v_getf 0 4 fl_X1_29 hn rfl rfl dX1_reckon_4 ?_
      refine v_icmp_ge (tgt := 84) dX1_reckon_7 (by decide) ⟨by omega, by omega⟩ ⟨by omega, by omega⟩ (fun h7 => ?_) (fun h7 => ?_)
      · skip
        refine v_aload_n dX1_reckon_84 rfl ?_
        refine v_lconst (z := 0) dX1_reckon_85 (by decide +kernel) ?_
        refine v_putf 0 6 fp_X1_36 hn rfl rfl rfl (Nat.le_of_ble_eq_true rfl) dX1_reckon_86 ?_
        refine v_aload_n dX1_reckon_89 rfl ?_
        refine v_lconst (z := 0) dX1_reckon_90 (by decide +kernel) ?_
        refine v_putf 0 7 fp_X1_40 hn rfl rfl rfl (Nat.le_of_ble_eq_true rfl) dX1_reckon_91 ?_
        refine v_iconst dX1_reckon_94 ?_
        refine v_istore_n dX1_reckon_95 (Nat.le_of_ble_eq_true rfl) ?_
        exact v_to (last P' hP1 (sTr σ).toNat 0 .null (by omega) (by omega)) rfl (sw_h1 rfl (sw_h1 rfl sw_h0))
      · skip
        exfalso; omega
    | succ n ih =>
      intro p P' hp hP1
      refine v_iload_n dX1_reckon_2 rfl ?_
      refine v_aload_n dX1_reckon_3 rfl ?_
      refine v_getf 0 4 fl_X1_29 hn rfl rfl dX1_reckon_4 ?_
      refine v_icmp_ge (tgt := 84) dX1_reckon_7 (by decide) ⟨by omega, by omega⟩ ⟨by omega, by omega⟩ (fun h7 => ?_) (fun h7 => ?_)
      · skip
        exfalso; omega
      · skip
        refine v_iload_n dX1_reckon_10 rfl ?_
        refine v_bipush dX1_reckon_11 (by decide +kernel) ?_
        refine v_imul dX1_reckon_13 ?_
        refine v_istore_n dX1_reckon_14 (Nat.le_of_ble_eq_true rfl) ?_
        refine v_iconst dX1_reckon_15 ?_
        refine v_istore dX1_reckon_16 (Nat.le_of_ble_eq_true rfl) ?_
        exact v_to (inner p (by omega) (fun P'' hP3 => ih (p + 1) P'' (by omega) hP3) (sTr σ).toNat 0 P' (by omega) (by omega) hP1 (fun t' h0 h1 => by omega)) rfl (sw_h1 rfl (sw_h1 rfl (sw_h1 rfl (sw_h1 rfl sw_h0))))
  refine v_iload_n dX1_reckon_0 rfl ?_
  refine v_istore_n dX1_reckon_1 (Nat.le_of_ble_eq_true rfl) ?_
  exact v_to (outer (m - fr) fr P (by omega) hP) rfl (sw_h1 rfl (sw_h1 rfl sw_h0))
end

