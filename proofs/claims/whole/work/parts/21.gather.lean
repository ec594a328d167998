/-! rivals and bars over the walk -/
def gF (R : Int → Int) (m : Nat) (le : Int) (w : (Int → Int) → Int) (S : Int → Int) : Int := if (rk R S le m).2.1 = 0 then w S else 0
def gX (R : Int → Int) (m : Nat) (le : Int) (w : (Int → Int) → Int) (at' : Int) (S : Int → Int) : Int := if (rk R S le m).2.1 = 0 then 0 else if (rk R S le m).1 * 4 + (rk R S le m).2.1 = at' then w S else 0
section
variable {l : Launch} {G : sw_G} {M : sw_M}
theorem K4_gather {b b0 : Nat} (hb : 50 ≤ b) {σ : SaleT} {u d : Int} {m : Nat} {m0 le0 wt wo hi al nx' su fw0 fo0 : Int} {R S0 P0 P Wt0 Wo0 g0 : Int → Int} (hV : sw_hold M (cVs G fw0 fo0 Wt0 Wo0 g0)) (h1 : M 6 = some (cC G b0 m0 le0 wt wo hi al nx' su).2) (h2 : M 7 = some (cR R).2) (h3 : M 8 = some (cG S0).2) (h4 : M 9 = some (cP P).2) (h5 : sw_hold M (cS G b σ u d)) (hw : wfS σ) (hm : m ≤ 3) (hR : rOK σ R m) (hP : ∀ t, 0 ≤ t → t < sTr σ → P t = P0 t) :
    Kt l G μX4_gather [.ref (sw_al G 14), .ref (sw_al G 6), .ref (sw_al G b), sw_i (m : Int)] M (fun r M' => ∃ wt' wo' hi' al' nx' su' S' P' fw fo Wt Wo g, r = none ∧ fw = sn (fun n => gF R m (sLe σ) (fun S => crW σ S P0 m) (sq (sSg σ) m S0 n)) (pwi (sSg σ) m).toNat ∧ fo = sn (fun n => gF R m (sLe σ) (fun S => crV σ S P0 m) (sq (sSg σ) m S0 n)) (pwi (sSg σ) m).toNat ∧
      (∀ a, 0 ≤ a → a < 244 → Wt a = sn (fun n => gX R m (sLe σ) (fun S => crW σ S P0 m) a (sq (sSg σ) m S0 n)) (pwi (sSg σ) m).toNat) ∧ (∀ a, 0 ≤ a → a < 244 → Wo a = sn (fun n => gX R m (sLe σ) (fun S => crV σ S P0 m) a (sq (sSg σ) m S0 n)) (pwi (sSg σ) m).toNat) ∧ (∀ k : Nat, k ≤ 60 → g k = gn4 Wt Wo fw fo (sLe σ) (sWy σ) k) ∧
      M' = sw_ov M (cVs G fw fo Wt Wo g ++ [cC G b m (sLe σ) wt' wo' hi' al' nx' su', cG S', cP P'])) := by
  refine KtA.of (by decide +kernel) (Nat.le_of_ble_eq_true rfl) ?_
  have hback : ∀ (fw fo m0 le0 wt wo hi al nx' su : Int) (Wt Wo g S P : Int → Int) (b0 : Nat), sw_ov M (cVs G fw fo Wt Wo g ++ [cC G b0 m0 le0 wt wo hi al nx' su, cG S, cP P, cO G b σ u d]) = sw_ov M (cVs G fw fo Wt Wo g ++ [cC G b0 m0 le0 wt wo hi al nx' su, cG S, cP P]) := fun fw fo m0 le0 wt wo hi al nx' su Wt Wo g S P b0 => sw_ov_dr (sw_hold1 h5.hd sw_hold0) (cVs G fw fo Wt Wo g ++ [cC G b0 m0 le0 wt wo hi al nx' su, cG S, cP P])
  refine v_mem (sw_ov_self (cs := cVs G fw0 fo0 Wt0 Wo0 g0 ++ [cC G b0 m0 le0 wt wo hi al nx' su, cG S0, cP P, cO G b σ u d]) (sw_hold.app hV (sw_hold1 h1 (sw_hold1 h3 (sw_hold1 h4 (sw_hold1 h5.hd sw_hold0)))))).symm ?_
  have hn : sw_nd [14, 15, 16, 17, 6, 8, 9, b] := sw_nd_of (by simp; omega)
  have hws := hw.1
  have hle := hw.2.2.2.1
  have hwyb := hw.2.2.2.2.1
  have hpb := pwi_bd (sg := sSg σ) (by omega) (by omega) (k := m) (by omega)
  have oR : ∀ (fw fo m0 le0 wt wo hi al nx' su : Int) (Wt Wo g S P : Int → Int) (b0 : Nat), (sw_ov M (cVs G fw fo Wt Wo g ++ [cC G b0 m0 le0 wt wo hi al nx' su, cG S, cP P, cO G b σ u d])) 7 = some (cR R).2 := fun fw fo m0 le0 wt wo hi al nx' su Wt Wo g S P b0 => by rw [sw_ov_out (by simp; omega)]; exact h2
  have oS : ∀ (fw fo m0 le0 wt wo hi al nx' su : Int) (Wt Wo g S P : Int → Int) (b0 : Nat), sw_hold (sw_ov M (cVs G fw fo Wt Wo g ++ [cC G b0 m0 le0 wt wo hi al nx' su, cG S, cP P, cO G b σ u d])) (cS G b σ u d) := fun fw fo m0 le0 wt wo hi al nx' su Wt Wo g S P b0 => sw_hold1 (sw_ov_at (q := 7) (t := b) hn rfl) (h5.tl.out (by simp; omega))
  have oV : ∀ (fw fo m0 le0 wt wo hi al nx' su : Int) (Wt Wo g S P : Int → Int) (b0 : Nat), sw_hold (sw_ov M (cVs G fw fo Wt Wo g ++ [cC G b0 m0 le0 wt wo hi al nx' su, cG S, cP P, cO G b σ u d])) (cVs G fw fo Wt Wo g) := fun fw fo m0 le0 wt wo hi al nx' su Wt Wo g S P b0 => sw_pick (cs := cVs G fw fo Wt Wo g ++ [cC G b0 m0 le0 wt wo hi al nx' su, cG S, cP P, cO G b σ u d]) hn [0, 1, 2, 3] rfl
  obtain ⟨Zq, hZ⟩ : ∃ Zq : Option Value → sw_M → Prop, Zq = (fun r M' => ∃ wt' wo' hi' al' nx' su' S' P' fw fo Wt Wo g, r = none ∧ fw = sn (fun n => gF R m (sLe σ) (fun S => crW σ S P0 m) (sq (sSg σ) m S0 n)) (pwi (sSg σ) m).toNat ∧ fo = sn (fun n => gF R m (sLe σ) (fun S => crV σ S P0 m) (sq (sSg σ) m S0 n)) (pwi (sSg σ) m).toNat ∧
      (∀ a, 0 ≤ a → a < 244 → Wt a = sn (fun n => gX R m (sLe σ) (fun S => crW σ S P0 m) a (sq (sSg σ) m S0 n)) (pwi (sSg σ) m).toNat) ∧ (∀ a, 0 ≤ a → a < 244 → Wo a = sn (fun n => gX R m (sLe σ) (fun S => crV σ S P0 m) a (sq (sSg σ) m S0 n)) (pwi (sSg σ) m).toNat) ∧ (∀ k : Nat, k ≤ 60 → g k = gn4 Wt Wo fw fo (sLe σ) (sWy σ) k) ∧
      M' = sw_ov M (cVs G fw fo Wt Wo g ++ [cC G b m (sLe σ) wt' wo' hi' al' nx' su', cG S', cP P'])) := ⟨_, rfl⟩
  rw [← hZ]
  have loop : ∀ (n i : Nat) (wt wo hi al nx' su fw fo : Int) (S' P' Wt Wo : Int → Int), i + n = (pwi (sSg σ) m).toNat → (0 < n → cC G b m (sLe σ) wt wo hi al nx' su = cCd G b σ m (sLe σ) R (sq (sSg σ) m S0 i) P0 ∧ S' = sq (sSg σ) m S0 i ∧ pOK σ (sq (sSg σ) m S0 i) P0 P' m) →
      fw = sn (fun n => gF R m (sLe σ) (fun S => crW σ S P0 m) (sq (sSg σ) m S0 n)) i → fo = sn (fun n => gF R m (sLe σ) (fun S => crV σ S P0 m) (sq (sSg σ) m S0 n)) i →
      (∀ a, 0 ≤ a → a < 244 → Wt a = sn (fun n => gX R m (sLe σ) (fun S => crW σ S P0 m) a (sq (sSg σ) m S0 n)) i) → (∀ a, 0 ≤ a → a < 244 → Wo a = sn (fun n => gX R m (sLe σ) (fun S => crV σ S P0 m) a (sq (sSg σ) m S0 n)) i) →
      V l G μX4_gather sw_E0 (sw_Zq G μX4_gather (sw_q0 G Zq)) 58 [(0, .ref (sw_al G 14)), (1, .ref (sw_al G 6)), (2, .ref (sw_al G b)), (4, sw_i (pwi (sSg σ) m)), (5, sw_i (i : Int))] [] (sw_ov M (cVs G fw fo Wt Wo g0 ++ [cC G b m (sLe σ) wt wo hi al nx' su, cG S', cP P', cO G b σ u d])) 0 0 := by
    intro n
    induction n with
    | zero =>
      intro i wt wo hi al nx' su fw fo S' P' Wt Wo hi' hc e1 e2 e3 e4
      have e : i = (pwi (sSg σ) m).toNat := by omega
      subst e
      refine v_iload dX4_gather_58 rfl ?_
      refine v_iload dX4_gather_60 rfl ?_
      refine v_icmp_ge (tgt := 80) dX4_gather_62 (by decide) ⟨by omega, by omega⟩ ⟨by omega, by omega⟩ (fun h62 => ?_) (fun h62 => ?_)
      · skip
        refine v_aload_n dX4_gather_80 rfl ?_
        refine v_aload_n dX4_gather_81 rfl ?_
        refine v_getf 7 7 fl_X4_28 hn rfl rfl dX4_gather_82 ?_
        refine v_aload_n dX4_gather_85 rfl ?_
        refine v_getf 7 8 fl_X4_47 hn rfl rfl dX4_gather_86 ?_
        refine v_callV (ci := 4) (K4_reckon (oV _ _ _ _ _ _ _ _ _ _ _ _ _ _ _ _) hle hwyb) ⟨rfl, rfl⟩ (Nat.le_refl _) (Nat.le_refl _) (sw_ov_at (q := 0) (t := 14) hn rfl) rfl ⟨ml_X4_50, mm_X4_reckon⟩ ⟨(Nat.le_of_ble_eq_true rfl), (Nat.le_of_ble_eq_true rfl)⟩ mp_X4_reckon rfl rfl (Nat.le_of_ble_eq_true rfl) dX4_gather_89 (fun r M' h => ?_)
        obtain ⟨g', rfl, hg', rfl⟩ := h
        refine v_ovp [0, 1, 2, 3] rfl rfl hn ?_
        exact v_vret dX4_gather_92 rfl (Nat.le_refl _) (Nat.le_refl _) (by rw [hZ]; exact ⟨wt, wo, hi, al, nx', su, S', P', fw, fo, Wt, Wo, g', rfl, e1, e2, e3, e4, hg', hback _ _ _ _ _ _ _ _ _ _ _ _ _ _ _ _⟩)
      · skip
        exfalso; omega
    | succ n ih =>
      intro i wt wo hi al nx' su fw fo S' P' Wt Wo hi' hc e1 e2 e3 e4
      obtain ⟨hc1, rfl, hpk⟩ := hc (by omega)
      rw [hc1]
      have hsk : sOK σ (sq (sSg σ) m S0 i) m := fun j hj => sq_ok (by omega) m S0 i j hj
      have hq := rk_bd (le := sLe σ) (hR.b hsk)
      have hqa := rk_al (R := R) (S := sq (sSg σ) m S0 i) hle.1 m
      obtain ⟨q, hqq⟩ : ∃ q, rk R (sq (sSg σ) m S0 i) (sLe σ) m = q := ⟨_, rfl⟩
      have f1 : (if q.2.1 = 0 then fw + crW σ (sq (sSg σ) m S0 i) P0 m else fw) = sn (fun n => gF R m (sLe σ) (fun S => crW σ S P0 m) (sq (sSg σ) m S0 n)) (i + 1) := by
        show _ = sn _ i + gF R m (sLe σ) (fun S => crW σ S P0 m) (sq (sSg σ) m S0 i)
        rw [← e1]; unfold gF; rw [hqq]
        by_cases c : q.2.1 = 0
        · rw [if_pos c, if_pos c]
        · rw [if_neg c, if_neg c, Int.add_zero]
      have f2 : (if q.2.1 = 0 then fo + crV σ (sq (sSg σ) m S0 i) P0 m else fo) = sn (fun n => gF R m (sLe σ) (fun S => crV σ S P0 m) (sq (sSg σ) m S0 n)) (i + 1) := by
        show _ = sn _ i + gF R m (sLe σ) (fun S => crV σ S P0 m) (sq (sSg σ) m S0 i)
        rw [← e2]; unfold gF; rw [hqq]
        by_cases c : q.2.1 = 0
        · rw [if_pos c, if_pos c]
        · rw [if_neg c, if_neg c, Int.add_zero]
      have f3 : ∀ (X : Int → Int) (w : (Int → Int) → Int), (∀ a, 0 ≤ a → a < 244 → X a = sn (fun n => gX R m (sLe σ) w a (sq (sSg σ) m S0 n)) i) → ∀ a, 0 ≤ a → a < 244 → (if q.2.1 = 0 then X else up X (q.1 * 4 + q.2.1) (X (q.1 * 4 + q.2.1) + w (sq (sSg σ) m S0 i))) a = sn (fun n => gX R m (sLe σ) w a (sq (sSg σ) m S0 n)) (i + 1) := by
        intro X w hX a h0 h1
        show _ = sn _ i + gX R m (sLe σ) w a (sq (sSg σ) m S0 i)
        rw [← hX a h0 h1]; unfold gX; rw [hqq]
        by_cases c : q.2.1 = 0
        · rw [if_pos c, if_pos c, Int.add_zero]
        · rw [if_neg c, if_neg c]
          show (if a = q.1 * 4 + q.2.1 then _ else X a) = _
          by_cases ea : q.1 * 4 + q.2.1 = a
          · rw [if_pos ea.symm, if_pos ea, ea]
          · rw [if_neg (fun h => ea h.symm), if_neg ea, Int.add_zero]
      rw [hqq] at hq hqa
      refine v_iload dX4_gather_58 rfl ?_
      refine v_iload dX4_gather_60 rfl ?_
      refine v_icmp_ge (tgt := 80) dX4_gather_62 (by decide) ⟨by omega, by omega⟩ ⟨by omega, by omega⟩ (fun h62 => ?_) (fun h62 => ?_)
      · skip
        exfalso; omega
      · skip
        refine v_aload_n dX4_gather_65 rfl ?_
        refine v_aload_n dX4_gather_66 rfl ?_
        refine v_callV (ci := 4) (K4_addCases (oV _ _ _ _ _ _ _ _ _ _ _ _ _ _ _ _) (sw_ov_at (q := 4) (t := 6) hn rfl) (by rw [hqq]; omega) (by rw [hqq]; omega)) ⟨rfl, rfl⟩ (Nat.le_refl _) (Nat.le_refl _) (sw_ov_at (q := 0) (t := 14) hn rfl) rfl ⟨ml_X4_40, mm_X4_addCases⟩ ⟨(Nat.le_of_ble_eq_true rfl), (Nat.le_of_ble_eq_true rfl)⟩ mp_X4_addCases rfl rfl (Nat.le_of_ble_eq_true rfl) dX4_gather_67 (fun r M' h => ?_)
        obtain ⟨rfl, rfl⟩ := h
        refine v_ovp [0, 1, 2] rfl rfl hn ?_
        rw [hqq]
        refine v_aload_n dX4_gather_70 rfl ?_
        refine v_callV (ci := 1) (K1_step hb (P := P') (sw_ov_at (cs := cVs G (if q.2.1 = 0 then fw + crW σ (sq (sSg σ) m S0 i) P0 m else fw) (if q.2.1 = 0 then fo + crV σ (sq (sSg σ) m S0 i) P0 m else fo) (if q.2.1 = 0 then Wt else up Wt (q.1 * 4 + q.2.1) (Wt (q.1 * 4 + q.2.1) + crW σ (sq (sSg σ) m S0 i) P0 m)) (if q.2.1 = 0 then Wo else up Wo (q.1 * 4 + q.2.1) (Wo (q.1 * 4 + q.2.1) + crV σ (sq (sSg σ) m S0 i) P0 m)) g0 ++ [cCd G b σ m (sLe σ) R (sq (sSg σ) m S0 i) P0, cG (sq (sSg σ) m S0 i), cP P', cO G b σ u d]) (q := 4) (t := 6) hn rfl) (oR _ _ _ _ _ _ _ _ _ _ _ _ _ _ _ _) (sw_ov_at (q := 5) (t := 8) hn rfl) (sw_ov_at (q := 6) (t := 9) hn rfl) (oS _ _ _ _ _ _ _ _ _ _ _ _ _ _ _ _) hw (by omega) hsk hR hle hpk) ⟨rfl, rfl⟩ (Nat.le_refl _) (Nat.le_refl _) (sw_ov_at (q := 4) (t := 6) hn rfl) rfl ⟨ml_X4_44, mm_X1_step⟩ ⟨(Nat.le_of_ble_eq_true rfl), (Nat.le_of_ble_eq_true rfl)⟩ mp_X1_step rfl rfl (Nat.le_of_ble_eq_true rfl) dX4_gather_71 (fun r M' h => ?_)
        obtain ⟨rfl, h⟩ := h
        rcases h with ⟨P2, hp2, rfl⟩ | ⟨hfull, S2, rfl⟩
        · refine v_ovp [4, 5, 6] rfl rfl hn ?_
          refine v_iinc dX4_gather_74 rfl (Nat.le_of_ble_eq_true rfl) ?_
          refine v_goto (tgt := 58) dX4_gather_77 (by decide) ?_
          exact v_to (ih (i + 1) _ _ _ _ _ _ _ _ _ P2 _ _ (by omega) (fun _ => ⟨rfl, rfl, hp2⟩) f1 f2 (f3 _ _ e3) (f3 _ _ e4)) rfl (sw_h1 rfl (sw_h1 rfl (sw_h1 rfl (sw_h1 rfl (sw_h1 rfl sw_h0)))))
        · refine v_ovp [4, 5, 6] rfl rfl hn ?_
          refine v_iinc dX4_gather_74 rfl (Nat.le_of_ble_eq_true rfl) ?_
          refine v_goto (tgt := 58) dX4_gather_77 (by decide) ?_
          exact v_to (ih (i + 1) _ _ _ _ _ _ _ _ _ P' _ _ (by omega) (fun h => absurd hfull (sq_has (by omega) m S0 i (by omega))) f1 f2 (f3 _ _ e3) (f3 _ _ e4)) rfl (sw_h1 rfl (sw_h1 rfl (sw_h1 rfl (sw_h1 rfl (sw_h1 rfl sw_h0)))))
        skip
  have zero : ∀ (n : Nat) (k : Int), 0 ≤ k → k + n = 244 → V l G μX4_gather sw_E0 (sw_Zq G μX4_gather (sw_q0 G Zq)) 3 [(0, .ref (sw_al G 14)), (1, .ref (sw_al G 6)), (2, .ref (sw_al G b)), (3, sw_i (m : Int)), (4, sw_i k)] [] (sw_ov M (cVs G fw0 fo0 (fl Wt0 0 k.toNat) (fl Wo0 0 k.toNat) g0 ++ [cC G b0 m0 le0 wt wo hi al nx' su, cG S0, cP P, cO G b σ u d])) 0 0 := by
    intro n
    induction n with
    | zero =>
      intro k h0 hk
      have e : k = 244 := by omega
      subst e
      refine v_iload dX4_gather_3 rfl ?_
      refine v_sipush dX4_gather_5 (by decide +kernel) ?_
      refine v_icmp_ge (tgt := 33) dX4_gather_8 (by decide) ⟨by omega, by omega⟩ ⟨by omega, by omega⟩ (fun h8 => ?_) (fun h8 => ?_)
      · skip
        refine v_aload_n dX4_gather_33 rfl ?_
        refine v_lconst (z := 0) dX4_gather_34 (by decide +kernel) ?_
        refine v_putf 0 2 fp_X4_18 hn rfl rfl rfl (Nat.le_of_ble_eq_true rfl) dX4_gather_35 ?_
        refine v_aload_n dX4_gather_38 rfl ?_
        refine v_lconst (z := 0) dX4_gather_39 (by decide +kernel) ?_
        refine v_putf 0 3 fp_X4_22 hn rfl rfl rfl (Nat.le_of_ble_eq_true rfl) dX4_gather_40 ?_
        refine v_aload_n dX4_gather_43 rfl ?_
        refine v_aload_n dX4_gather_44 rfl ?_
        refine v_iload_n dX4_gather_45 rfl ?_
        refine v_aload_n dX4_gather_46 rfl ?_
        refine v_getf 7 7 fl_X4_28 hn rfl rfl dX4_gather_47 ?_
        refine v_callV (ci := 1) (K1_begin hb (m := m) (P0 := P0) (P := P) (sw_ov_at (cs := cVs G 0 0 (fl Wt0 0 244) (fl Wo0 0 244) g0 ++ [cC G b0 m0 le0 wt wo hi al nx' su, cG S0, cP P, cO G b σ u d]) (q := 4) (t := 6) hn rfl) (oR _ _ _ _ _ _ _ _ _ _ _ _ _ _ _ _) (sw_ov_at (q := 5) (t := 8) hn rfl) (sw_ov_at (q := 6) (t := 9) hn rfl) (oS _ _ _ _ _ _ _ _ _ _ _ _ _ _ _ _) hw (by omega) hR hle hP) ⟨rfl, rfl⟩ (Nat.le_refl _) (Nat.le_refl _) (sw_ov_at (q := 4) (t := 6) hn rfl) rfl ⟨ml_X4_34, mm_X1_begin⟩ ⟨(Nat.le_of_ble_eq_true rfl), (Nat.le_of_ble_eq_true rfl)⟩ mp_X1_begin rfl rfl (Nat.le_of_ble_eq_true rfl) dX4_gather_50 (fun r M' h => ?_)
        obtain ⟨P2, rfl, hp2, rfl⟩ := h
        refine v_ovp [4, 5, 6] rfl rfl hn ?_
        refine v_istore dX4_gather_53 (Nat.le_of_ble_eq_true rfl) ?_
        refine v_iconst dX4_gather_55 ?_
        refine v_istore dX4_gather_56 (Nat.le_of_ble_eq_true rfl) ?_
        exact v_to (loop (pwi (sSg σ) m).toNat 0 _ _ _ _ _ _ 0 0 _ P2 (fl Wt0 0 244) (fl Wo0 0 244) (by omega) (fun _ => ⟨rfl, rfl, hp2⟩) rfl rfl (fun a h0 h1 => by rw [fl_at, if_pos (by omega)]; rfl) (fun a h0 h1 => by rw [fl_at, if_pos (by omega)]; rfl)) rfl (sw_h1 rfl (sw_h1 rfl (sw_h1 rfl (sw_h1 rfl (sw_h1 rfl sw_h0)))))
      · skip
        exfalso; omega
    | succ n ih =>
      intro k h0 hk
      have f1 := fl_s Wt0 0 h0
      have f2 := fl_s Wo0 0 h0
      refine v_iload dX4_gather_3 rfl ?_
      refine v_sipush dX4_gather_5 (by decide +kernel) ?_
      refine v_icmp_ge (tgt := 33) dX4_gather_8 (by decide) ⟨by omega, by omega⟩ ⟨by omega, by omega⟩ (fun h8 => ?_) (fun h8 => ?_)
      · skip
        exfalso; omega
      · skip
        refine v_aload_n dX4_gather_11 rfl ?_
        refine v_getf 0 0 fl_X4_9 hn rfl rfl dX4_gather_12 ?_
        refine v_iload dX4_gather_15 rfl ?_
        refine v_lconst (z := 0) dX4_gather_17 (by decide +kernel) ?_
        refine v_last 1 hn rfl (Nat.le_of_ble_eq_true rfl) (by omega) (by omega) dX4_gather_18 ?_
        refine v_aload_n dX4_gather_19 rfl ?_
        refine v_getf 0 1 fl_X4_15 hn rfl rfl dX4_gather_20 ?_
        refine v_iload dX4_gather_23 rfl ?_
        refine v_lconst (z := 0) dX4_gather_25 (by decide +kernel) ?_
        refine v_last 2 hn rfl (Nat.le_of_ble_eq_true rfl) (by omega) (by omega) dX4_gather_26 ?_
        refine v_iinc dX4_gather_27 rfl (Nat.le_of_ble_eq_true rfl) ?_
        refine v_goto (tgt := 3) dX4_gather_30 (by decide) ?_
        exact v_to (ih (k + 1) (by omega) (by omega)) (by rw [f1, f2]; rfl) (sw_h1 rfl (sw_h1 rfl (sw_h1 rfl (sw_h1 rfl (sw_h1 rfl sw_h0)))))
  refine v_iconst dX4_gather_0 ?_
  refine v_istore dX4_gather_1 (Nat.le_of_ble_eq_true rfl) ?_
  exact v_to (zero 244 0 (by omega) (by omega)) rfl (sw_h1 rfl (sw_h1 rfl (sw_h1 rfl (sw_h1 rfl (sw_h1 rfl sw_h0)))))
end

