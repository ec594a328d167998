/-! what the face is made of: the tally of a SALE, who wins, a turn -/
abbrev cTw (G : sw_G) (ns : Nat) (nt : Int) (x : sw_Ob) (R S P : Int → Int) (a tk so un : Int) (g ww wc : Int → Int) (b : Nat) (σ : SaleT) (u d : Int) : List sw_Ce := [c0 G ns nt, (6, x), cR R, cG S, cP P, cY G a tk so un, (11, sw_la 4 g), (12, sw_la 20 ww), (13, sw_la 20 wc), cO G b σ u d]
theorem cTw_nd {b : Nat} (h : 50 ≤ b) : sw_nd [0, 6, 7, 8, 9, 10, 11, 12, 13, b] := sw_nd_of (by simp; omega)
theorem cTw_at {G : sw_G} {M : sw_M} {ns : Nat} {nt : Int} {x : sw_Ob} {R S P : Int → Int} {a tk so un : Int} {g ww wc : Int → Int} {b : Nat} {σ : SaleT} {u d : Int} (hb : 50 ≤ b) (q t : Nat) {y : sw_Ob} (h : (cTw G ns nt x R S P a tk so un g ww wc b σ u d)[q]? = some (t, y)) : sw_ov M (cTw G ns nt x R S P a tk so un g ww wc b σ u d) t = some y := sw_ov_at (cs := cTw G ns nt x R S P a tk so un g ww wc b σ u d) (q := q) (cTw_nd hb) h
theorem cTw_S {G : sw_G} {M : sw_M} {ns : Nat} {nt : Int} {x : sw_Ob} {R S P : Int → Int} {a tk so un : Int} {g ww wc : Int → Int} {b : Nat} {σ : SaleT} {u d u0 d0 : Int} (hb : 50 ≤ b) (h5 : sw_hold M (cS G b σ u0 d0)) : sw_hold (sw_ov M (cTw G ns nt x R S P a tk so un g ww wc b σ u d)) (cS G b σ u d) := sw_hold1 (cTw_at hb 9 b rfl) (h5.tl.out (by simp; omega))
theorem cTw_Y {G : sw_G} {M : sw_M} {ns : Nat} {nt : Int} {x : sw_Ob} {R S P : Int → Int} {a tk so un : Int} {g ww wc : Int → Int} {b : Nat} {σ : SaleT} {u d : Int} (hb : 50 ≤ b) : sw_hold (sw_ov M (cTw G ns nt x R S P a tk so un g ww wc b σ u d)) (cYs G a tk so un g ww wc) := sw_pick (cs := cTw G ns nt x R S P a tk so un g ww wc b σ u d) (cTw_nd hb) [5, 6, 7, 8] rfl
/-- what a SALE's seats bid -/
def bF (σ : SaleT) (nt : Int) (T : Int → Int) (his : Int) : Int → Int → Int := fun p k => bdF σ nt T p k his
section
variable {l : Launch} {G : sw_G} {M : sw_M}
theorem K9_tallyOf {b ns b0 : Nat} (hb : 50 ≤ b) {σ : SaleT} {u d nt m0 le wt wo hi al nx' su a tk so un : Int} {T R S P g ww wc : Int → Int} (h0 : M 0 = some (c0 G ns nt).2) (h4 : M 4 = some (cTb T).2) (h6 : M 6 = some (cC G b0 m0 le wt wo hi al nx' su).2) (h7 : M 7 = some (cR R).2) (h8 : M 8 = some (cG S).2) (h9 : M 9 = some (cP P).2) (hY : sw_hold M (cYs G a tk so un g ww wc)) (h5 : sw_hold M (cS G b σ u d)) (hw : wfS σ) (hc : wfC nt T) {m : Nat} (hm : (m : Int) = sNb σ) :
    Kt l G μX9_tallyOf [.ref (sw_al G 0), .ref (sw_al G b)] M (fun r M' => ∃ wt hi al nx' su wo R' S' P' g' ww' wc' u' d', r = none ∧ (∀ i : Nat, i < m → g' i = TG σ (rwF (bF σ nt T (-1))) (pS σ (-1)) m i) ∧ (∀ (i : Nat) (k : Int), i < m → 0 ≤ k → k < 5 → ww' ((i : Int) * 5 + k) = TV σ (rwF (bF σ nt T (-1))) (pS σ (-1)) m i k) ∧ (∀ (i : Nat) (k : Int), i < m → 0 ≤ k → k < 5 → wc' ((i : Int) * 5 + k) = TC σ (rwF (bF σ nt T (-1))) (pS σ (-1)) m i k) ∧
      M' = sw_ov M (cTw G ns nt (cC G b m (sLe σ) wt wo hi al nx' su).2 R' S' P' (TA σ (pS σ (-1)) m) (TT σ (rwF (bF σ nt T (-1))) (pS σ (-1)) m) (TS σ (rwF (bF σ nt T (-1))) (pS σ (-1)) m) (TU σ (rwF (bF σ nt T (-1))) (pS σ (-1)) m) g' ww' wc' b σ u' d')) := by
  refine KtA.of (by decide +kernel) (Nat.le_of_ble_eq_true rfl) ?_
  have hn := cTw_nd hb
  refine v_mem (sw_ov_self (cs := cTw G ns nt (cC G b0 m0 le wt wo hi al nx' su).2 R S P a tk so un g ww wc b σ u d) (sw_hold1 h0 (sw_hold1 h6 (sw_hold1 h7 (sw_hold1 h8 (sw_hold1 h9 (sw_hold1 hY.hd (sw_hold1 hY.tl.hd (sw_hold1 hY.tl.tl.hd (sw_hold1 hY.tl.tl.tl.hd (sw_hold1 h5.hd sw_hold0))))))))))).symm ?_
  have hnb := hw.2.2.1
  have hsg := hw.1
  obtain ⟨Zq, hZ⟩ : ∃ Zq : Option Value → sw_M → Prop, Zq = (fun r M' => ∃ wt hi al nx' su wo R' S' P' g' ww' wc' u' d', r = none ∧ (∀ i : Nat, i < m → g' i = TG σ (rwF (bF σ nt T (-1))) (pS σ (-1)) m i) ∧ (∀ (i : Nat) (k : Int), i < m → 0 ≤ k → k < 5 → ww' ((i : Int) * 5 + k) = TV σ (rwF (bF σ nt T (-1))) (pS σ (-1)) m i k) ∧ (∀ (i : Nat) (k : Int), i < m → 0 ≤ k → k < 5 → wc' ((i : Int) * 5 + k) = TC σ (rwF (bF σ nt T (-1))) (pS σ (-1)) m i k) ∧
      M' = sw_ov M (cTw G ns nt (cC G b m (sLe σ) wt wo hi al nx' su).2 R' S' P' (TA σ (pS σ (-1)) m) (TT σ (rwF (bF σ nt T (-1))) (pS σ (-1)) m) (TS σ (rwF (bF σ nt T (-1))) (pS σ (-1)) m) (TU σ (rwF (bF σ nt T (-1))) (pS σ (-1)) m) g' ww' wc' b σ u' d')) := ⟨_, rfl⟩
  rw [← hZ]
  have tail : ∀ (R' : Int → Int) (u' d' : Int), (∀ q k, 0 ≤ q → q < (m : Int) → 0 ≤ k → k < sSg σ → R' (q * 5 + k) = bdF σ nt T q k (-1)) → V l G μX9_tallyOf sw_E0 (sw_Zq G μX9_tallyOf (sw_q0 G Zq)) 24 [(0, .ref (sw_al G 0)), (1, .ref (sw_al G b))] [] (sw_ov M (cTw G ns nt (cC G b0 m0 le wt wo hi al nx' su).2 R' S P a tk so un g ww wc b σ u' d')) 0 0 := by
    intro R' u' d' hR'
    have hro : rOK σ R' m := fun i k hi k0 k1 => by
      rw [hR' i k (by omega) (by omega) k0 k1]
      exact bdF_bd hw hc (-1) ⟨k0, by omega⟩
    have hre : rEq σ R' (rwF (bF σ nt T (-1))) m := fun i k hi k0 k1 => by
      rw [hR' i k (by omega) (by omega) k0 k1, rwF_at _ _ k k0 (by omega)]; rfl
    refine v_aload_n dX9_tallyOf_24 rfl ?_
    refine v_getf 0 6 fl_X9_39 hn rfl rfl dX9_tallyOf_25 ?_
    refine v_aload_n dX9_tallyOf_28 rfl ?_
    refine v_iconst dX9_tallyOf_29 ?_
    refine v_callV (ci := 1) (K1_withSign hb (σ := σ) (u := u') (d := d') (P := P) (k := -1) (cTw_at hb 1 6 rfl) (cTw_at hb 4 9 rfl) (cTw_S hb h5) hw ⟨by omega, by omega⟩) ⟨rfl, rfl⟩ (Nat.le_refl _) (Nat.le_refl _) (cTw_at hb 1 6 rfl) rfl ⟨ml_X9_254, mm_X1_withSign⟩ ⟨(Nat.le_of_ble_eq_true rfl), (Nat.le_of_ble_eq_true rfl)⟩ mp_X1_withSign rfl rfl (Nat.le_of_ble_eq_true rfl) dX9_tallyOf_30 (fun r M' h => ?_)
    obtain ⟨P', rfl, hP', rfl⟩ := h
    refine v_ovp [4] rfl rfl hn ?_
    refine v_aload_n dX9_tallyOf_33 rfl ?_
    refine v_getf 0 7 fl_X9_46 hn rfl rfl dX9_tallyOf_34 ?_
    refine v_callV (ci := 6) (K6_clear (a := a) (tk := tk) (so := so) (un := un) (g := g) (ww := ww) (wc := wc) (cTw_Y (P := P') hb)) ⟨rfl, rfl⟩ (Nat.le_refl _) (Nat.le_refl _) (cTw_at (P := P') hb 5 10 rfl) rfl ⟨ml_X9_257, mm_X6_clear⟩ ⟨(Nat.le_of_ble_eq_true rfl), (Nat.le_of_ble_eq_true rfl)⟩ mp_X6_clear rfl rfl (Nat.le_of_ble_eq_true rfl) dX9_tallyOf_37 (fun r M' h => ?_)
    obtain ⟨rfl, rfl⟩ := h
    refine v_ovp [5, 6, 7, 8] rfl rfl hn ?_
    refine v_aload_n dX9_tallyOf_40 rfl ?_
    refine v_getf 0 7 fl_X9_46 hn rfl rfl dX9_tallyOf_41 ?_
    refine v_aload_n dX9_tallyOf_44 rfl ?_
    refine v_getf 0 6 fl_X9_39 hn rfl rfl dX9_tallyOf_45 ?_
    refine v_aload_n dX9_tallyOf_48 rfl ?_
    refine v_aload_n dX9_tallyOf_49 rfl ?_
    refine v_getf 9 6 fl_X9_114 hn rfl rfl dX9_tallyOf_50 ?_
    rw [← hm]
    refine v_callV (ci := 6) (K6_add hb (σ := σ) (u := u') (d := d') (b0 := b0) (m := m) (m0 := m0) (le0 := le) (a := 0) (tk := 0) (so := 0) (un := 0) (R := R') (S0 := S) (P0 := pS σ (-1)) (P := P') (g := fl g 0 4) (ww := fl ww 0 20) (wc := fl wc 0 20) (ap := decide (sWy σ = 2)) (cTw_Y (P := P') (ns := ns) (nt := nt) (x := (cC G b0 m0 le wt wo hi al nx' su).2) (R := R') (S := S) (b := b) (σ := σ) (u := u') (d := d') hb) (cTw_at hb 1 6 rfl) (cTw_at hb 2 7 rfl) (cTw_at hb 3 8 rfl) (cTw_at hb 4 9 rfl) (cTw_S hb h5) hw (by omega) hro hP' ⟨of_decide_eq_true, decide_eq_true⟩) ⟨rfl, rfl⟩ (Nat.le_refl _) (Nat.le_refl _) (cTw_at (P := P') (a := 0) (tk := 0) (so := 0) (un := 0) (g := fl g 0 4) (ww := fl ww 0 20) (wc := fl wc 0 20) hb 5 10 rfl) rfl ⟨ml_X9_260, mm_X6_add⟩ ⟨(Nat.le_of_ble_eq_true rfl), (Nat.le_of_ble_eq_true rfl)⟩ mp_X6_add rfl rfl (Nat.le_of_ble_eq_true rfl) dX9_tallyOf_53 (fun r M' h => ?_)
    obtain ⟨wt2, wo2, hi2, al2, nx2, su2, S2, P2, g2, ww2, wc2, rfl, f1, f2, f3, rfl⟩ := h
    refine v_ovp [5, 6, 7, 8, 1, 3, 4] rfl rfl hn ?_
    refine v_vret dX9_tallyOf_56 rfl (Nat.le_refl _) (Nat.le_refl _) ?_
    skip
    rw [hZ]
    have hPe : ∀ t, 0 ≤ t → t < sTr σ → pS σ (-1) t = pS σ (-1) t := fun _ _ _ => rfl
    refine ⟨wt2, hi2, al2, nx2, su2, wo2, R', S2, P2, g2, ww2, wc2, u', d', rfl, fun i hi => ?_, fun i k hi k0 k1 => ?_, fun i k hi k0 k1 => ?_, ?_⟩
    · rw [f1 i hi, fl_at, if_pos (by omega), Int.zero_add]
      exact sn_congr _ (fun n _ => tG_eq hw hre hPe S n _ _ hi)
    · rw [f2 i k hi k0 k1, fl_at, if_pos (by omega), Int.zero_add]
      exact sn_congr _ (fun n _ => tX_eq hw hre S n _ hi k (crV_congr hPe (sq_eq hw S n)))
    · rw [f3 i k hi k0 k1, fl_at, if_pos (by omega), Int.zero_add]
      exact sn_congr _ (fun n _ => tX_eq hw hre S n _ hi k (crW_congr hPe (sq_eq hw S n)))
    · have g1 : (0 : Int) + sn (fun n => tW σ (pS σ (-1)) m (sq (sSg σ) m S n)) (pwi (sSg σ) m).toNat = TA σ (pS σ (-1)) m := by rw [Int.zero_add]; exact sn_congr _ (fun n _ => tW_eq hw hPe S n)
      have g2 : (0 : Int) + sn (fun n => tT σ R' (pS σ (-1)) m (sLe σ) (decide (sWy σ = 2)) (sq (sSg σ) m S n)) (pwi (sSg σ) m).toNat = TT σ (rwF (bF σ nt T (-1))) (pS σ (-1)) m := by rw [Int.zero_add]; exact sn_congr _ (fun n _ => tT_eq hw hre hPe S n _ _)
      have g3 : (0 : Int) + sn (fun n => tS σ R' (pS σ (-1)) m (sLe σ) (sq (sSg σ) m S n)) (pwi (sSg σ) m).toNat = TS σ (rwF (bF σ nt T (-1))) (pS σ (-1)) m := by rw [Int.zero_add]; exact sn_congr _ (fun n _ => tS_eq hw hre hPe S n _)
      have g4 : (0 : Int) + sn (fun n => tU σ R' (pS σ (-1)) m (sLe σ) (sq (sSg σ) m S n)) (pwi (sSg σ) m).toNat = TU σ (rwF (bF σ nt T (-1))) (pS σ (-1)) m := by rw [Int.zero_add]; exact sn_congr _ (fun n _ => tU_eq hw hre hPe S n _)
      rw [← g1, ← g2, ← g3, ← g4]
      rfl
  have loop : ∀ (n p : Nat) (R' : Int → Int) (u' d' : Int), p + n = m → (∀ q k, 0 ≤ q → q < (p : Int) → 0 ≤ k → k < sSg σ → R' (q * 5 + k) = bdF σ nt T q k (-1)) → V l G μX9_tallyOf sw_E0 (sw_Zq G μX9_tallyOf (sw_q0 G Zq)) 2 [(0, .ref (sw_al G 0)), (1, .ref (sw_al G b)), (2, sw_i (p : Int))] [] (sw_ov M (cTw G ns nt (cC G b0 m0 le wt wo hi al nx' su).2 R' S P a tk so un g ww wc b σ u' d')) 0 0 := by
    intro n
    induction n with
    | zero =>
      intro p R' u' d' hp e1
      have e : p = m := by omega
      subst e
      refine v_iload_n dX9_tallyOf_2 rfl ?_
      refine v_aload_n dX9_tallyOf_3 rfl ?_
      refine v_getf 9 6 fl_X9_114 hn rfl rfl dX9_tallyOf_4 ?_
      refine v_icmp_ge (tgt := 24) dX9_tallyOf_7 (by decide) ⟨by omega, by omega⟩ ⟨by omega, by omega⟩ (fun h7 => ?_) (fun h7 => ?_)
      · skip
        exact v_to (tail R' u' d' e1) rfl (sw_h1 rfl (sw_h1 rfl sw_h0))
      · skip
        exfalso; omega
    | succ n ih =>
      intro p R' u' d' hp e1
      refine v_iload_n dX9_tallyOf_2 rfl ?_
      refine v_aload_n dX9_tallyOf_3 rfl ?_
      refine v_getf 9 6 fl_X9_114 hn rfl rfl dX9_tallyOf_4 ?_
      refine v_icmp_ge (tgt := 24) dX9_tallyOf_7 (by decide) ⟨by omega, by omega⟩ ⟨by omega, by omega⟩ (fun h7 => ?_) (fun h7 => ?_)
      · skip
        exfalso; omega
      · skip
        refine v_aload_n dX9_tallyOf_10 rfl ?_
        refine v_aload_n dX9_tallyOf_11 rfl ?_
        refine v_iload_n dX9_tallyOf_12 rfl ?_
        refine v_iload_n dX9_tallyOf_13 rfl ?_
        refine v_iconst dX9_tallyOf_14 ?_
        refine v_callV (ci := 9) (K9_rowOf hb (ns := ns) (nt := nt) (σ := σ) (u := u') (d := d') (T := T) (R := R') (seat := (p : Int)) (place := (p : Int)) (his := -1) (cTw_at hb 0 0 rfl) (by rw [sw_ov_out (by simp; omega)]; exact h4) (cTw_at hb 1 6 rfl) (cTw_at hb 2 7 rfl) (cTw_S hb h5) hw hc ⟨by omega, by omega⟩ ⟨by omega, by omega⟩ ⟨by omega, by omega⟩) ⟨rfl, rfl⟩ (Nat.le_refl _) (Nat.le_refl _) (cTw_at hb 0 0 rfl) rfl ⟨ml_X9_269, mm_X9_rowOf⟩ ⟨(Nat.le_of_ble_eq_true rfl), (Nat.le_of_ble_eq_true rfl)⟩ mp_X9_rowOf rfl rfl (Nat.le_of_ble_eq_true rfl) dX9_tallyOf_15 (fun r M' h => ?_)
        obtain ⟨R2, u2, d2, rfl, f1, f2, rfl⟩ := h
        refine v_ovp [2, 9] rfl rfl hn ?_
        refine v_iinc dX9_tallyOf_18 rfl (Nat.le_of_ble_eq_true rfl) ?_
        refine v_goto (tgt := 2) dX9_tallyOf_21 (by decide) ?_
        refine v_to (ih (p + 1) R2 u2 d2 (by omega) ?_) rfl (sw_h1 rfl (sw_h1 rfl (sw_h1 rfl sw_h0)))
        intro q k q0 q1 k0 k1
        by_cases e : q = (p : Int)
        · subst e; exact f1 k k0 k1
        · rw [f2 _ (by omega)]; exact e1 q k q0 (by omega) k0 k1
  refine v_iconst dX9_tallyOf_0 ?_
  refine v_istore_n dX9_tallyOf_1 (Nat.le_of_ble_eq_true rfl) ?_
  exact v_to (loop m 0 R u d (by omega) (fun q k q0 q1 => by omega)) rfl (sw_h1 rfl (sw_h1 rfl (sw_h1 rfl sw_h0)))
end

