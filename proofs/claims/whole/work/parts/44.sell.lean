/-! the face: by, bar, telling, asOne -/
section
variable {l : Launch} {G : sw_G} {M : sw_M} {s : CSt} {k : Int}
/-- what stands in the tally: all CASES, what is taken -/
def tlIs (G : sw_G) (M : sw_M) (a tk : Int) : Prop := ∃ so un, M 10 = some (cY G a tk so un).2
/-- the base weights that stand in the crowd -/
def pdIs (M : sw_M) (σ : SaleT) (P0 : Int → Int) : Prop := ∃ P, M 9 = some (cP P).2 ∧ ∀ t, 0 ≤ t → t < sTr σ → P t = P0 t
theorem tlIs.fr {L : List Nat} {M M' : sw_M} {a tk : Int} (h : tlIs G M a tk) (f : frK L M M') (h1 : 10 ∉ L) : tlIs G M' a tk := by
  obtain ⟨so, un, e⟩ := h
  exact ⟨so, un, (f 10 (by omega) h1).trans e⟩
theorem pdIs.fr {L : List Nat} {M M' : sw_M} {σ : SaleT} {P0 : Int → Int} (h : pdIs M σ P0) (f : frK L M M') (h1 : 9 ∉ L) : pdIs M' σ P0 := by
  obtain ⟨P, e, q⟩ := h
  exact ⟨P, (f 9 (by omega) h1).trans e, q⟩
theorem W_withSign {his : Int} (hI : InvC G M s) (hs : stOK s) (hk : isS s k) (hh : sw_rg his) : Kt l G μX1_withSign [.ref (sw_al G 6), .ref (sw_al G (100 + 5 * k.toNat)), sw_i his] M (fun r M' => r = none ∧ InvC G M' s ∧ frK [9] M M' ∧ pdIs M' (sl s k) (pS (sl s k) his)) := by
  obtain ⟨u, d, h5⟩ := hI.sale hk
  obtain ⟨b0, m0, le0, wt, wo, hi, al, nx', su, x6⟩ := hI.x6
  obtain ⟨P, x9⟩ := hI.x9
  refine (K1_withSign (by omega) x6 x9 h5 (hs.sale hk) hh).mono (fun r M' h => ?_)
  obtain ⟨P', rfl, f1, rfl⟩ := h
  refine ⟨rfl, hI.ov (fun c hc => ?_), frK.ov (fun t ht => ?_), P', rfl, f1⟩
  · rw [List.mem_singleton.mp hc]
    exact Or.inl ⟨by dsimp only; omega, by dsimp only; omega, P', rfl⟩
  · rw [List.mem_singleton.mp ht]
    exact Or.inl (List.mem_singleton.mpr rfl)
theorem cYs_okC {a tk so un : Int} {g ww wc : Int → Int} {L : List sw_Ce} (hL : ∀ c ∈ L, okC G M s c) : ∀ c ∈ cYs G a tk so un g ww wc ++ L, okC G M s c := by
  intro c hc
  simp only [List.mem_append, List.mem_cons, List.not_mem_nil, or_false] at hc
  rcases hc with (rfl | rfl | rfl | rfl) | hc
  · exact Or.inl ⟨by dsimp only; omega, by dsimp only; omega, a, tk, so, un, rfl⟩
  · exact Or.inl ⟨by dsimp only; omega, by dsimp only; omega, g, rfl⟩
  · exact Or.inl ⟨by dsimp only; omega, by dsimp only; omega, ww, rfl⟩
  · exact Or.inl ⟨by dsimp only; omega, by dsimp only; omega, wc, rfl⟩
  · exact hL c hc
theorem cCr_okC {b : Nat} {m le wt wo hi al nx su : Int} {S P : Int → Int} : ∀ c ∈ [cC G b m le wt wo hi al nx su, cG S, cP P], okC G M s c := by
  intro c hc
  simp only [List.mem_cons, List.not_mem_nil, or_false] at hc
  rcases hc with rfl | rfl | rfl
  · exact Or.inl ⟨by dsimp only; omega, by dsimp only; omega, b, m, le, wt, wo, hi, al, nx, su, rfl⟩
  · exact Or.inl ⟨by dsimp only; omega, by dsimp only; omega, S, rfl⟩
  · exact Or.inl ⟨by dsimp only; omega, by dsimp only; omega, P, rfl⟩
theorem W_clear (hI : InvC G M s) : Kt l G μX6_clear [.ref (sw_al G 10)] M (fun r M' => r = none ∧ InvC G M' s ∧ frK [10, 11, 12, 13] M M' ∧ tlIs G M' 0 0) := by
  obtain ⟨a, tk, so, un, g, ww, wc, xY⟩ := hI.xY
  refine (K6_clear xY).mono (fun r M' h => ?_)
  obtain ⟨rfl, rfl⟩ := h
  refine ⟨rfl, hI.ov ?_, frK.ov (fun t ht => Or.inl ht), 0, 0, rfl⟩
  have h := cYs_okC (G := G) (M := M) (s := s) (a := 0) (tk := 0) (so := 0) (un := 0) (g := fl g 0 4) (ww := fl ww 0 20) (wc := fl wc 0 20) (L := []) (fun c hc => absurd hc List.not_mem_nil)
  rwa [List.append_nil] at h
theorem W_addT {m : Nat} {f : Int → Int → Int} {P0 : Int → Int} {a tk : Int} (hI : InvC G M s) (hs : stOK s) (hk : isS s k) (hm : m ≤ 4) (hf : ∀ p i, 0 ≤ p → p < (m : Int) → 0 ≤ i → i < sSg (sl s k) → 0 ≤ f p i ∧ f p i ≤ 60) (hr : rowIs M f m (sSg (sl s k))) (hp : pdIs M (sl s k) P0) (ht : tlIs G M a tk) :
    Kt l G μX6_add [.ref (sw_al G 10), .ref (sw_al G 6), .ref (sw_al G (100 + 5 * k.toNat)), sw_i (m : Int)] M (fun r M' => r = none ∧ InvC G M' s ∧ frK [6, 8, 9, 10, 11, 12, 13] M M' ∧ tlIs G M' (a + TA (sl s k) P0 m) (tk + TT (sl s k) (rwF f) P0 m)) := by
  obtain ⟨u, d, h5⟩ := hI.sale hk
  obtain ⟨b0, m0, le0, wt, wo, hi, al, nx', su, x6⟩ := hI.x6
  obtain ⟨S, x8⟩ := hI.x8
  obtain ⟨P, x9, hP⟩ := hp
  obtain ⟨R, h7, hR⟩ := hr
  obtain ⟨a0, tk0, so0, un0, g, ww, wc, xY⟩ := hI.xY
  obtain ⟨so, un, hy⟩ := ht
  have hw := hs.sale hk
  have xY' : sw_hold M (cYs G a tk so un g ww wc) := sw_hold1 hy xY.tl
  refine (K6_add (ap := decide (sWy (sl s k) = 2)) (P0 := P0) (by omega) xY' x6 h7 x8 x9 h5 hw hm (fun i j hi j0 j1 => by rw [hR i j (by omega) (by omega) j0 j1]; exact hf i j (by omega) (by omega) j0 j1) hP ⟨of_decide_eq_true, decide_eq_true⟩).mono (fun r M' h => ?_)
  obtain ⟨wt2, wo2, hi2, al2, nx2, su2, S2, P2, g2, ww2, wc2, rfl, -, -, -, rfl⟩ := h
  have hre : rEq (sl s k) R (rwF f) m := fun i j hi j0 j1 => by
    rw [hR i j (by omega) (by omega) j0 j1, rwF_at _ _ j j0 (by have := hw.1; omega)]
  have hPe : ∀ t, 0 ≤ t → t < sTr (sl s k) → P0 t = P0 t := fun _ _ _ => rfl
  have g1 : sn (fun n => tW (sl s k) P0 m (sq (sSg (sl s k)) m S n)) (pwi (sSg (sl s k)) m).toNat = TA (sl s k) P0 m := sn_congr _ (fun n _ => tW_eq hw hPe S n)
  have g2 : sn (fun n => tT (sl s k) R P0 m (sLe (sl s k)) (decide (sWy (sl s k) = 2)) (sq (sSg (sl s k)) m S n)) (pwi (sSg (sl s k)) m).toNat = TT (sl s k) (rwF f) P0 m := sn_congr _ (fun n _ => tT_eq hw hre hPe S n _ _)
  refine ⟨rfl, hI.ov (cYs_okC cCr_okC), frK.ov (fun t ht => ?_), ?_⟩
  · simp only [List.cons_append, List.nil_append, List.map_cons, List.map_nil, List.mem_cons, List.not_mem_nil, or_false] at ht
    exact Or.inl (by rcases ht with rfl | rfl | rfl | rfl | rfl | rfl | rfl <;> decide)
  · rw [← g1, ← g2]; exact ⟨_, _, rfl⟩
theorem W_bidBy {i j v : Int} {R : Int → Int} (hI : InvC G M s) (h7 : M 7 = some (cR R).2) (h1 : 0 ≤ i ∧ i < 4) (h2 : 0 ≤ j ∧ j < 5) : Kt l G μX1_bidBy [.ref (sw_al G 6), sw_i i, sw_i j, sw_i v] M (fun r M' => r = none ∧ InvC G M' s ∧ frK [7] M M' ∧ M' 7 = some (cR (up R (i * 5 + j) v)).2) := by
  obtain ⟨b0, m0, le0, wt, wo, hi, al, nx', su, x6⟩ := hI.x6
  refine (K1_bidBy x6 h7 h1 h2).mono (fun r M' h => ?_)
  obtain ⟨rfl, rfl⟩ := h
  refine ⟨rfl, hI.ov (fun c hc => ?_), frK.ov (fun t ht => ?_), rfl⟩
  · rw [List.mem_singleton.mp hc]
    exact Or.inl ⟨by dsimp only; omega, by dsimp only; omega, _, rfl⟩
  · rw [List.mem_singleton.mp ht]
    exact Or.inl (List.mem_singleton.mpr rfl)
theorem W_held {a e c d : Int} (hI : InvC G M s) (hs : stOK s) (hk : isS s k) (ha : sw_rg a) (he : sw_rg e) (hc : sw_rg c) (hd : sw_rg d) : Kt l G μX5_held [.ref (sw_al G (100 + 5 * k.toNat)), sw_i a, sw_i e, sw_i c, sw_i d] M (fun r M' => r = some (sw_i (hld (sl s k) a e c d)) ∧ InvC G M' s ∧ frK [] M M') := by
  obtain ⟨u, d', h5⟩ := hI.sale hk
  refine (K5_held h5 (hs.sale hk) ha he hc hd).mono (fun r M' h => ?_)
  obtain ⟨rfl, rfl⟩ := h
  exact ⟨rfl, hI.ov (fun c hc => by rw [List.mem_singleton.mp hc]; exact okS hk _ _), frK.ov (fun t ht => by rw [List.mem_singleton.mp ht]; exact Or.inr (by dsimp only; omega))⟩
theorem InvC.g6 (hI : InvC G M s) : ∃ fs, M 6 = some (sw_o 1 fs) := by
  obtain ⟨b0, m0, le0, wt, wo, hi, al, nx', su, x6⟩ := hI.x6
  exact ⟨_, x6⟩
theorem InvC.g10 (hI : InvC G M s) : ∃ fs, M 10 = some (sw_o 6 fs) := by
  obtain ⟨a, tk, so, un, g, ww, wc, xY⟩ := hI.xY
  exact ⟨_, xY.hd⟩
theorem alF_bd {σ : SaleT} (hw : wfS σ) {many : Int} {wise : Prop} [Decidable wise] (p i : Int) : 0 ≤ alF σ many wise p i ∧ alF σ many wise p i ≤ 60 := hld_bd hw _ _ _ _
theorem tT_bd {σ : SaleT} (hw : wfS σ) {R P0 S : Int → Int} {m : Nat} (hP : pB σ P0) (hS : sOK σ S m) (hm : m ≤ 4) (hb : bOK R S m) {ap : Bool} : 0 ≤ tT σ R P0 m (sLe σ) ap S ∧ tT σ R P0 m (sLe σ) ap S ≤ 12 * 7200000 * 300 := by
  have hle := hw.2.2.2.1
  have a1 := rk_bd (le := sLe σ) hb
  have a2 := rk_al (R := R) (S := S) (le := sLe σ) hle.1 m
  have a3 := crW_bd hw hP hS hm
  unfold tT
  split
  · omega
  · rename_i c
    have hx : 0 ≤ (if ap = true then (rk R S (sLe σ) m).2.2.2 else crP σ (sLe σ) (rk R S (sLe σ) m).1 (rk R S (sLe σ) m).2.2.1) ∧ (if ap = true then (rk R S (sLe σ) m).2.2.2 else crP σ (sLe σ) (rk R S (sLe σ) m).1 (rk R S (sLe σ) m).2.2.1) ≤ 300 := by
      split
      · omega
      · have := crP_bd (σ := σ) hle (hi := (rk R S (sLe σ) m).1) (nx := (rk R S (sLe σ) m).2.2.1) (by omega) a1.2.1
        omega
    exact mul_bd (x := 12 * crW σ S P0 m) (A := 12 * 7200000) ⟨by omega, by omega⟩ hx
theorem TT_bd {σ : SaleT} (hw : wfS σ) {f : Int → Int → Int} {P0 : Int → Int} {m : Nat} (hP : pB σ P0) (hm : m ≤ 4) (hf : ∀ p i, 0 ≤ p → p < (m : Int) → 0 ≤ i → i < sSg σ → 0 ≤ f p i ∧ f p i ≤ 60) : 0 ≤ TT σ (rwF f) P0 m ∧ TT σ (rwF f) P0 m ≤ 20000000000000 := by
  have hsg := hw.1
  have hs : ∀ i, sOK σ (sq (sSg σ) m z0 i) m := fun i j hj => sq_ok (by omega) m z0 i j hj
  have h := sum_bd hw hm (B := 12 * 7200000 * 300) (F := fun n => tT σ (rwF f) P0 m (sLe σ) (decide (sWy σ = 2)) (sq (sSg σ) m z0 n)) (by omega) (fun i => by
    have hb : bOK (rwF f) (sq (sSg σ) m z0 i) m := fun j hj => by
      have hj2 := hs i j hj
      rw [rwF_at f _ _ hj2.1 (by omega)]
      exact hf j _ (by omega) (by omega) hj2.1 hj2.2
    exact tT_bd hw hP (hs i) hm hb)
  unfold TT
  omega
theorem TA_bd {σ : SaleT} (hw : wfS σ) {P0 : Int → Int} {m : Nat} (hP : pB σ P0) (hm : m ≤ 4) : 0 ≤ TA σ P0 m ∧ TA σ P0 m ≤ 100000000000 := by
  have hsg := hw.1
  have hs : ∀ i, sOK σ (sq (sSg σ) m z0 i) m := fun i j hj => sq_ok (by omega) m z0 i j hj
  have h := sum_bd hw hm (B := 12 * 7200000) (F := fun n => tW σ P0 m (sq (sSg σ) m z0 n)) (by omega) (fun i => by
    have := crW_bd hw hP (hs i) hm
    unfold tW
    omega)
  unfold TA
  omega
def byF (σ : SaleT) (many : Int) (wise : Prop) [Decidable wise] (what : Int) : Int := (if what = 0 then TT σ (rwF (alF σ many wise)) (pS σ (-1)) many.toNat else TA σ (pS σ (-1)) many.toNat).tdiv (gcdI (TT σ (rwF (alF σ many wise)) (pS σ (-1)) many.toNat) (TA σ (pS σ (-1)) many.toNat))
theorem pS_pos {σ : SaleT} (hw : wfS σ) : 0 < pS σ (-1) 0 := by
  have h1 := (hw.2.2.2.2.2.1 0 (Int.le_refl 0) (by have := hw.2.1; omega)).2.1
  have h2 : see σ 0 (-1) = 1 := if_neg (by omega)
  show 0 < sW σ 0 * see σ 0 (-1)
  rw [h2]; omega
theorem F9_by {many what : Int} {wise : Prop} [Decidable wise] (hI : InvC G M s) (hs : stOK s) (hk : isS s k) (g1 : sw_rg many) (g2 : sw_rg what) : Kt l G μX9_by [.ref (sw_al G 0), sw_i k, sw_i many, sw_i (bI wise), sw_i what] M (fun r M' => r = some (sw_j (if (1 ≤ many ∧ many ≤ 4) ∧ (what = 0 ∨ what = 1) then byF (sl s k) many wise what else -1)) ∧ InvC G M' s ∧ frC M M') := by
  refine KtA.of (by decide +kernel) (Nat.le_of_ble_eq_true rfl) ?_
  have i0 := hI.1
  obtain ⟨hk0, hk1⟩ := id hk
  have hw := hs.sale hk
  have hns : qN s ≤ 8 := hs.2.1
  obtain ⟨u, d, h5⟩ := hI.sale hk
  obtain ⟨g3, g4⟩ := g1
  refine v_aload_n dX9_by_0 rfl ?_
  refine v_iload_n dX9_by_1 rfl ?_
  refine v_callV (ci := 9) (K9_saleAt (ns := qN s) (nt := qT s) (k := k) i0 hI.2.1 hns hk) ⟨rfl, rfl⟩ (Nat.le_refl _) (Nat.le_refl _) i0 rfl ⟨ml_X9_104, mm_X9_saleAt⟩ ⟨(Nat.le_of_ble_eq_true rfl), (Nat.le_of_ble_eq_true rfl)⟩ mp_X9_saleAt rfl rfl (Nat.le_of_ble_eq_true rfl) dX9_by_2 (fun r M' h => ?_)
  obtain ⟨rfl, rfl⟩ := h
  refine v_astore dX9_by_5 (Nat.le_of_ble_eq_true rfl) ?_
  refine v_aload dX9_by_7 rfl ?_
  refine v_ifnull dX9_by_9 ?_
  refine v_iload_n dX9_by_12 rfl ?_
  refine v_iconst dX9_by_13 ?_
  refine v_icmp_lt (tgt := 30) dX9_by_14 (by decide) ⟨by omega, by omega⟩ ⟨by omega, by omega⟩ (fun q1 => ?_) (fun q1 => ?_)
  · skip
    refine v_ldc2 (z := -1) kl_X9_184 (by decide +kernel) dX9_by_30 ?_
    exact v_lret dX9_by_33 rfl (Nat.le_refl _) (Nat.le_refl _) (⟨by rw [if_neg (fun h => by have := q1; omega)], hI, frC.rf⟩)
  · skip
    refine v_iload_n dX9_by_17 rfl ?_
    refine v_iconst dX9_by_18 ?_
    refine v_icmp_gt (tgt := 30) dX9_by_19 (by decide) ⟨by omega, by omega⟩ ⟨by omega, by omega⟩ (fun q2 => ?_) (fun q2 => ?_)
    · skip
      refine v_ldc2 (z := -1) kl_X9_184 (by decide +kernel) dX9_by_30 ?_
      exact v_lret dX9_by_33 rfl (Nat.le_refl _) (Nat.le_refl _) (⟨by rw [if_neg (fun h => by have := q2; omega)], hI, frC.rf⟩)
    · skip
      refine v_iload dX9_by_22 rfl ?_
      refine v_callS (K9_isHalf (k := what) g2) ⟨rfl, rfl⟩ (Nat.le_refl _) (Nat.le_refl _) ⟨ml_X9_149, mm_X9_isHalf⟩ ⟨(Nat.le_of_ble_eq_true rfl), (Nat.le_of_ble_eq_true rfl)⟩ mp_X9_isHalf rfl rfl (Nat.le_of_ble_eq_true rfl) dX9_by_24 (fun r M' h => ?_)
      obtain ⟨rfl, rfl⟩ := h
      refine v_ifb_ne (tgt := 34) dX9_by_27 (by decide) (fun q3 => ?_) (fun q3 => ?_)
      · skip
        obtain ⟨n, rfl⟩ : ∃ n : Nat, many = (n : Int) := ⟨many.toNat, by omega⟩
        refine v_aload_n dX9_by_34 rfl ?_
        refine v_aload dX9_by_35 rfl ?_
        refine v_iload_n dX9_by_37 rfl ?_
        refine v_iload_n dX9_by_38 rfl ?_
        refine v_callV (ci := 9) (W_rowsAlike hI hs hk (many := n) (wise := wise) (by omega)) ⟨rfl, rfl⟩ (Nat.le_refl _) (Nat.le_refl _) i0 rfl ⟨ml_X9_250, mm_X9_rowsAlike⟩ ⟨(Nat.le_of_ble_eq_true rfl), (Nat.le_of_ble_eq_true rfl)⟩ mp_X9_rowsAlike rfl rfl (Nat.le_of_ble_eq_true rfl) dX9_by_39 (fun r M1 h => ?_)
        obtain ⟨rfl, hI1, f1, r1⟩ := h
        refine v_aload_n dX9_by_42 rfl ?_
        refine v_getfH 6 hI1.1 fl_X9_39 rfl dX9_by_43 ?_
        refine v_aload dX9_by_46 rfl ?_
        refine v_iconst dX9_by_48 ?_
        obtain ⟨fs6, g6⟩ := hI1.g6
        refine v_callV (ci := 1) (W_withSign hI1 hs hk (his := -1) ⟨by omega, by omega⟩) ⟨rfl, rfl⟩ (Nat.le_refl _) (Nat.le_refl _) g6 rfl ⟨ml_X9_254, mm_X1_withSign⟩ ⟨(Nat.le_of_ble_eq_true rfl), (Nat.le_of_ble_eq_true rfl)⟩ mp_X1_withSign rfl rfl (Nat.le_of_ble_eq_true rfl) dX9_by_49 (fun r M2 h => ?_)
        obtain ⟨rfl, hI2, f2, p2⟩ := h
        refine v_aload_n dX9_by_52 rfl ?_
        refine v_getfH 7 hI2.1 fl_X9_46 rfl dX9_by_53 ?_
        obtain ⟨fs10, g10⟩ := hI2.g10
        refine v_callV (ci := 6) (W_clear hI2) ⟨rfl, rfl⟩ (Nat.le_refl _) (Nat.le_refl _) g10 rfl ⟨ml_X9_257, mm_X6_clear⟩ ⟨(Nat.le_of_ble_eq_true rfl), (Nat.le_of_ble_eq_true rfl)⟩ mp_X6_clear rfl rfl (Nat.le_of_ble_eq_true rfl) dX9_by_56 (fun r M3 h => ?_)
        obtain ⟨rfl, hI3, f3, t3⟩ := h
        refine v_aload_n dX9_by_59 rfl ?_
        refine v_getfH 7 hI3.1 fl_X9_46 rfl dX9_by_60 ?_
        refine v_aload_n dX9_by_63 rfl ?_
        refine v_getfH 6 hI3.1 fl_X9_39 rfl dX9_by_64 ?_
        refine v_aload dX9_by_67 rfl ?_
        refine v_iload_n dX9_by_69 rfl ?_
        obtain ⟨fs10, g10⟩ := hI3.g10
        refine v_callV (ci := 6) (W_addT (m := n) (f := alF (sl s k) n wise) hI3 hs hk (by omega) (fun p i _ _ _ _ => alF_bd hw p i) ((r1.fr f2 (by decide)).fr f3 (by decide)) (p2.fr f3 (by decide)) t3) ⟨rfl, rfl⟩ (Nat.le_refl _) (Nat.le_refl _) g10 rfl ⟨ml_X9_260, mm_X6_add⟩ ⟨(Nat.le_of_ble_eq_true rfl), (Nat.le_of_ble_eq_true rfl)⟩ mp_X6_add rfl rfl (Nat.le_of_ble_eq_true rfl) dX9_by_70 (fun r M4 h => ?_)
        obtain ⟨rfl, hI4, f4, t4⟩ := h
        obtain ⟨so, un, hy⟩ := t4
        rw [Int.zero_add, Int.zero_add] at hy
        have b1 := TT_bd hw (pS_B hw (-1)) (m := n) (by omega) (f := alF (sl s k) n wise) (fun p i _ _ _ _ => alF_bd hw p i)
        have b2 := TA_bd hw (pS_B hw (-1)) (m := n) (by omega)
        have b3 := TA_pos hw (pS_B hw (-1)) (m := n) (by omega) (pS_pos hw)
        refine v_aload_n dX9_by_73 rfl ?_
        refine v_getfH 7 hI4.1 fl_X9_46 rfl dX9_by_74 ?_
        refine v_getfH 1 hy fl_X9_193 rfl dX9_by_77 ?_
        refine v_aload_n dX9_by_80 rfl ?_
        refine v_getfH 7 hI4.1 fl_X9_46 rfl dX9_by_81 ?_
        refine v_getfH 0 hy fl_X9_190 rfl dX9_by_84 ?_
        refine v_iload dX9_by_87 rfl ?_
        refine v_callS (K9_half (up' := TT (sl s k) (rwF (alF (sl s k) n wise)) (pS (sl s k) (-1)) n) (dn := TA (sl s k) (pS (sl s k) (-1)) n) (what := what) ⟨by omega, by omega⟩ ⟨by omega, by omega⟩ g2) ⟨rfl, rfl⟩ (Nat.le_refl _) (Nat.le_refl _) ⟨ml_X9_167, mm_X9_half⟩ ⟨(Nat.le_of_ble_eq_true rfl), (Nat.le_of_ble_eq_true rfl)⟩ mp_X9_half rfl rfl (Nat.le_of_ble_eq_true rfl) dX9_by_89 (fun r M' h => ?_)
        obtain ⟨rfl, rfl⟩ := h
        exact v_lret dX9_by_92 rfl (Nat.le_refl _) (Nat.le_refl _) (⟨by rw [if_pos (show (1 ≤ (n : Int) ∧ (n : Int) ≤ 4) ∧ (what = 0 ∨ what = 1) from ⟨⟨by omega, by omega⟩, q3⟩)]; rfl, hI4, (((f1.c (by decide)).trk f2 (by decide)).trk f3 (by decide)).trk f4 (by decide)⟩)
      · skip
        refine v_ldc2 (z := -1) kl_X9_184 (by decide +kernel) dX9_by_30 ?_
        exact v_lret dX9_by_33 rfl (Nat.le_refl _) (Nat.le_refl _) (⟨by rw [if_neg (fun h => q3 h.2)], hI, frC.rf⟩)
theorem F9_byN {many what : Int} {wise : Prop} [Decidable wise] (hI : InvC G M s) (hs : stOK s) (hk : ¬ isS s k) (hg : sw_rg k) : Kt l G μX9_by [.ref (sw_al G 0), sw_i k, sw_i many, sw_i (bI wise), sw_i what] M (fun r M' => r = some (sw_j (-1)) ∧ InvC G M' s ∧ frC M M') := by
  refine KtA.of (by decide +kernel) (Nat.le_of_ble_eq_true rfl) ?_
  have i0 := hI.1
  have hns : qN s ≤ 8 := hs.2.1
  refine v_aload_n dX9_by_0 rfl ?_
  refine v_iload_n dX9_by_1 rfl ?_
  refine v_callV (ci := 9) (K9_saleAtN (ns := qN s) (nt := qT s) (k := k) i0 hns hk hg) ⟨rfl, rfl⟩ (Nat.le_refl _) (Nat.le_refl _) i0 rfl ⟨ml_X9_104, mm_X9_saleAt⟩ ⟨(Nat.le_of_ble_eq_true rfl), (Nat.le_of_ble_eq_true rfl)⟩ mp_X9_saleAt rfl rfl (Nat.le_of_ble_eq_true rfl) dX9_by_2 (fun r M' h => ?_)
  obtain ⟨rfl, rfl⟩ := h
  refine v_astoreN dX9_by_5 (Nat.le_of_ble_eq_true rfl) ?_
  refine v_aloadN dX9_by_7 rfl ?_
  refine v_ifnullN (tgt := 30) dX9_by_9 (by decide) ?_
  refine v_ldc2 (z := -1) kl_X9_184 (by decide +kernel) dX9_by_30 ?_
  exact v_lret dX9_by_33 rfl (Nat.le_refl _) (Nat.le_refl _) (⟨rfl, hI, frC.rf⟩)
/-- weights by the highest bid, by the next one, above no LEAST -/
def brH (σ : SaleT) (f : Int → Int → Int) (P0 : Int → Int) (m : Nat) (a : Int) : Int := sn (fun n => if (rk (rwF f) (sq (sSg σ) m z0 n) 0 m).1 = a then crW σ (sq (sSg σ) m z0 n) P0 m else 0) (pwi (sSg σ) m).toNat
def brN (σ : SaleT) (f : Int → Int → Int) (P0 : Int → Int) (m : Nat) (a : Int) : Int := sn (fun n => if (rk (rwF f) (sq (sSg σ) m z0 n) 0 m).2.2.1 = a then crW σ (sq (sSg σ) m z0 n) P0 m else 0) (pwi (sSg σ) m).toNat
theorem br_bd {σ : SaleT} (hw : wfS σ) (f : Int → Int → Int) {P0 : Int → Int} {m : Nat} (hP : pB σ P0) (hm : m ≤ 4) (a : Int) : (0 ≤ brH σ f P0 m a ∧ brH σ f P0 m a ≤ 1000000000000) ∧ (0 ≤ brN σ f P0 m a ∧ brN σ f P0 m a ≤ 1000000000000) := by
  have hsg := hw.1
  have hs : ∀ i, sOK σ (sq (sSg σ) m z0 i) m := fun i j hj => sq_ok (by omega) m z0 i j hj
  have h1 := sum_bd hw hm (B := 7200000) (F := fun n => if (rk (rwF f) (sq (sSg σ) m z0 n) 0 m).1 = a then crW σ (sq (sSg σ) m z0 n) P0 m else 0) (by omega) (fun i => by
    have := crW_bd hw hP (hs i) hm
    split <;> omega)
  have h2 := sum_bd hw hm (B := 7200000) (F := fun n => if (rk (rwF f) (sq (sSg σ) m z0 n) 0 m).2.2.1 = a then crW σ (sq (sSg σ) m z0 n) P0 m else 0) (by omega) (fun i => by
    have := crW_bd hw hP (hs i) hm
    split <;> omega)
  unfold brH brN
  omega
theorem bsN_congr {H N H' N' : Int → Int} (h : ∀ a, 0 ≤ a → a ≤ 60 → H a = H' a ∧ N a = N' a) : ∀ n : Nat, n ≤ 61 → bsN H N n = bsN H' N' n
  | 0, _ => rfl
  | n + 1, hn => by
    show bsS H N (60 - (n : Int)) (bsN H N n) = bsS H' N' (60 - (n : Int)) (bsN H' N' n)
    rw [bsN_congr h n (by omega)]
    unfold bsS
    rw [(h (60 - (n : Int)) (by omega) (by omega)).1, (h (60 - (n : Int)) (by omega) (by omega)).2]
def brIs (G : sw_G) (M : sw_M) (H N : Int → Int) : Prop := ∃ Hi Nx, sw_hold M (cHs G Hi Nx) ∧ ∀ a, 0 ≤ a → a ≤ 60 → Hi a = H a ∧ Nx a = N a
theorem W_gather {m : Nat} {f : Int → Int → Int} {P0 : Int → Int} (hI : InvC G M s) (hs : stOK s) (hk : isS s k) (hm : (m : Int) = sNb (sl s k)) (hf : ∀ p i, 0 ≤ p → p < (m : Int) → 0 ≤ i → i < sSg (sl s k) → 0 ≤ f p i ∧ f p i ≤ 60) (hr : rowIs M f m (sSg (sl s k))) (hp : pdIs M (sl s k) P0) :
    Kt l G μX0_gather [.ref (sw_al G 18), .ref (sw_al G 6), .ref (sw_al G (100 + 5 * k.toNat))] M (fun r M' => r = none ∧ InvC G M' s ∧ frK [6, 8, 9, 18, 19, 20] M M' ∧ brIs G M' (brH (sl s k) f P0 m) (brN (sl s k) f P0 m)) := by
  obtain ⟨u, d, h5⟩ := hI.sale hk
  obtain ⟨b0, m0, le0, wt, wo, hi, al, nx', su, x6⟩ := hI.x6
  obtain ⟨S, x8⟩ := hI.x8
  obtain ⟨P, x9, hP⟩ := hp
  obtain ⟨R, h7, hR⟩ := hr
  obtain ⟨Hi0, Nx0, xH⟩ := hI.xH
  have hw := hs.sale hk
  refine (K0_gather (P0 := P0) (by omega) xH x6 h7 x8 x9 h5 hw hm (fun i j hi j0 j1 => by rw [hR i j (by omega) (by omega) j0 j1]; exact hf i j (by omega) (by omega) j0 j1) hP).mono (fun r M' h => ?_)
  obtain ⟨wt2, wo2, hi2, al2, nx2, su2, S2, P2, Hi, Nx, rfl, f1, f2, rfl⟩ := h
  have hre : rEq (sl s k) R (rwF f) m := fun i j hi j0 j1 => by
    rw [hR i j (by omega) (by omega) j0 j1, rwF_at _ _ j j0 (by have := hw.1; omega)]
  have hPe : ∀ t, 0 ≤ t → t < sTr (sl s k) → P0 t = P0 t := fun _ _ _ => rfl
  refine ⟨rfl, hI.ov (fun c hc => ?_), frK.ov (fun t ht => ?_), Hi, Nx, sw_hold1 rfl (sw_hold1 rfl (sw_hold1 rfl sw_hold0)), fun a a0 a1 => ⟨?_, ?_⟩⟩
  · rcases List.mem_append.mp hc with hc | hc
    · simp only [List.mem_cons, List.not_mem_nil, or_false] at hc
      rcases hc with rfl | rfl | rfl
      · exact Or.inl ⟨by dsimp only; omega, by dsimp only; omega, rfl⟩
      · exact Or.inl ⟨by dsimp only; omega, by dsimp only; omega, Hi, rfl⟩
      · exact Or.inl ⟨by dsimp only; omega, by dsimp only; omega, Nx, rfl⟩
    · exact cCr_okC c hc
  · simp only [List.cons_append, List.nil_append, List.map_cons, List.map_nil, List.mem_cons, List.not_mem_nil, or_false] at ht
    exact Or.inl (by rcases ht with rfl | rfl | rfl | rfl | rfl | rfl <;> decide)
  · rw [f1 a a0 a1]
    exact sn_congr _ (fun n _ => by rw [rk_eq hw hre S n 0, crW_congr hPe (sq_eq hw S n)])
  · rw [f2 a a0 a1]
    exact sn_congr _ (fun n _ => by rw [rk_eq hw hre S n 0, crW_congr hPe (sq_eq hw S n)])
theorem W_pickB {H N : Int → Int} (h : brIs G M H N) (h1 : ∀ a, (0 ≤ H a ∧ H a ≤ 1000000000000) ∧ (0 ≤ N a ∧ N a ≤ 1000000000000)) : Kt l G μX0_pick [.ref (sw_al G 18)] M (fun r M' => r = some (sw_i (bsN H N 61).1) ∧ M' = M) := by
  obtain ⟨Hi, Nx, hH, he⟩ := h
  rw [← bsN_congr he 61 (Nat.le_refl _)]
  exact K0_pick hH (fun i i0 i1 => by rw [(he i i0 i1).1]; exact (h1 i).1) (fun i i0 i1 => by rw [(he i i0 i1).2]; exact (h1 i).2)
def barF (σ : SaleT) (wise : Prop) [Decidable wise] : Int := if sWy σ = 1 then (bsN (brH σ (alF σ (sNb σ) wise) (pS σ (-1)) (sNb σ).toNat) (brN σ (alF σ (sNb σ) wise) (pS σ (-1)) (sNb σ).toNat) 61).1 else 0
theorem F9_bar {wise : Prop} [Decidable wise] (hI : InvC G M s) (hs : stOK s) (hk : isS s k) : Kt l G μX9_bar [.ref (sw_al G 0), sw_i k, sw_i (bI wise)] M (fun r M' => r = some (sw_i (barF (sl s k) wise)) ∧ InvC G M' s ∧ frC M M') := by
  refine KtA.of (by decide +kernel) (Nat.le_of_ble_eq_true rfl) ?_
  have i0 := hI.1
  obtain ⟨hk0, hk1⟩ := id hk
  have hw := hs.sale hk
  have hwy := hw.2.2.2.2.1
  have hnb := hw.2.2.1
  have hns : qN s ≤ 8 := hs.2.1
  obtain ⟨u, d, h5⟩ := hI.sale hk
  obtain ⟨n, hm⟩ : ∃ n : Nat, (n : Int) = sNb (sl s k) := ⟨(sNb (sl s k)).toNat, by omega⟩
  have e1 : sWy (sl s k) = 1 → barF (sl s k) wise = (bsN (brH (sl s k) (alF (sl s k) n wise) (pS (sl s k) (-1)) n) (brN (sl s k) (alF (sl s k) n wise) (pS (sl s k) (-1)) n) 61).1 := fun h => by
    unfold barF
    rw [if_pos h, ← hm, Int.toNat_natCast]
  have e2 : sWy (sl s k) ≠ 1 → barF (sl s k) wise = 0 := fun h => if_neg h
  obtain ⟨Wq, hWq⟩ : ∃ Wq, barF (sl s k) wise = Wq := ⟨_, rfl⟩
  rw [hWq] at e1 e2 ⊢
  refine v_aload_n dX9_bar_0 rfl ?_
  refine v_iload_n dX9_bar_1 rfl ?_
  refine v_callV (ci := 9) (K9_saleAt (ns := qN s) (nt := qT s) (k := k) i0 hI.2.1 hns hk) ⟨rfl, rfl⟩ (Nat.le_refl _) (Nat.le_refl _) i0 rfl ⟨ml_X9_104, mm_X9_saleAt⟩ ⟨(Nat.le_of_ble_eq_true rfl), (Nat.le_of_ble_eq_true rfl)⟩ mp_X9_saleAt rfl rfl (Nat.le_of_ble_eq_true rfl) dX9_bar_2 (fun r M' h => ?_)
  obtain ⟨rfl, rfl⟩ := h
  refine v_astore_n dX9_bar_5 (Nat.le_of_ble_eq_true rfl) ?_
  refine v_aload_n dX9_bar_6 rfl ?_
  refine v_ifnonnull (tgt := 12) dX9_bar_7 (by decide) ?_
  refine v_aload_n dX9_bar_12 rfl ?_
  refine v_getfH 8 h5.hd fl_X9_120 rfl dX9_bar_13 ?_
  refine v_iconst dX9_bar_16 ?_
  refine v_icmp_eq (tgt := 22) dX9_bar_17 (by decide) ⟨by omega, by omega⟩ ⟨by omega, by omega⟩ (fun q1 => ?_) (fun q1 => ?_)
  · skip
    refine v_aload_n dX9_bar_22 rfl ?_
    refine v_aload_n dX9_bar_23 rfl ?_
    refine v_aload_n dX9_bar_24 rfl ?_
    refine v_getfH 6 h5.hd fl_X9_114 rfl dX9_bar_25 ?_
    refine v_iload_n dX9_bar_28 rfl ?_
    rw [← hm]
    refine v_callV (ci := 9) (W_rowsAlike hI hs hk (many := n) (wise := wise) (by omega)) ⟨rfl, rfl⟩ (Nat.le_refl _) (Nat.le_refl _) i0 rfl ⟨ml_X9_250, mm_X9_rowsAlike⟩ ⟨(Nat.le_of_ble_eq_true rfl), (Nat.le_of_ble_eq_true rfl)⟩ mp_X9_rowsAlike rfl rfl (Nat.le_of_ble_eq_true rfl) dX9_bar_29 (fun r M1 h => ?_)
    obtain ⟨rfl, hI1, f1, r1⟩ := h
    refine v_aload_n dX9_bar_32 rfl ?_
    refine v_getfH 6 hI1.1 fl_X9_39 rfl dX9_bar_33 ?_
    refine v_aload_n dX9_bar_36 rfl ?_
    refine v_iconst dX9_bar_37 ?_
    obtain ⟨fs6, g6⟩ := hI1.g6
    refine v_callV (ci := 1) (W_withSign hI1 hs hk (his := -1) ⟨by omega, by omega⟩) ⟨rfl, rfl⟩ (Nat.le_refl _) (Nat.le_refl _) g6 rfl ⟨ml_X9_254, mm_X1_withSign⟩ ⟨(Nat.le_of_ble_eq_true rfl), (Nat.le_of_ble_eq_true rfl)⟩ mp_X1_withSign rfl rfl (Nat.le_of_ble_eq_true rfl) dX9_bar_38 (fun r M2 h => ?_)
    obtain ⟨rfl, hI2, f2, p2⟩ := h
    refine v_aload_n dX9_bar_41 rfl ?_
    refine v_getfH 9 hI2.1 fl_X9_60 rfl dX9_bar_42 ?_
    refine v_aload_n dX9_bar_45 rfl ?_
    refine v_getfH 6 hI2.1 fl_X9_39 rfl dX9_bar_46 ?_
    refine v_aload_n dX9_bar_49 rfl ?_
    obtain ⟨Hi0, Nx0, xH⟩ := hI2.xH
    refine v_callV (ci := 0) (W_gather (f := alF (sl s k) n wise) hI2 hs hk hm (fun p i _ _ _ _ => alF_bd hw p i) (r1.fr f2 (by decide)) p2) ⟨rfl, rfl⟩ (Nat.le_refl _) (Nat.le_refl _) xH.hd rfl ⟨ml_X9_264, mm_X0_gather⟩ ⟨(Nat.le_of_ble_eq_true rfl), (Nat.le_of_ble_eq_true rfl)⟩ mp_X0_gather rfl rfl (Nat.le_of_ble_eq_true rfl) dX9_bar_50 (fun r M3 h => ?_)
    obtain ⟨rfl, hI3, f3, b3⟩ := h
    refine v_aload_n dX9_bar_53 rfl ?_
    refine v_getfH 9 hI3.1 fl_X9_60 rfl dX9_bar_54 ?_
    obtain ⟨Hi1, Nx1, xH1⟩ := hI3.xH
    refine v_callV (ci := 0) (W_pickB b3 (fun a => br_bd hw _ (pS_B hw (-1)) (by omega) a)) ⟨rfl, rfl⟩ (Nat.le_refl _) (Nat.le_refl _) xH1.hd rfl ⟨ml_X9_268, mm_X0_pick⟩ ⟨(Nat.le_of_ble_eq_true rfl), (Nat.le_of_ble_eq_true rfl)⟩ mp_X0_pick rfl rfl (Nat.le_of_ble_eq_true rfl) dX9_bar_57 (fun r M' h => ?_)
    obtain ⟨rfl, rfl⟩ := h
    exact v_iret dX9_bar_60 rfl (Nat.le_refl _) (Nat.le_refl _) (⟨by rw [e1 q1], hI3, ((f1.c (by decide)).trk f2 (by decide)).trk f3 (by decide)⟩)
  · skip
    refine v_iconst dX9_bar_20 ?_
    exact v_iret dX9_bar_21 rfl (Nat.le_refl _) (Nat.le_refl _) (⟨by rw [e2 q1], hI, frC.rf⟩)
theorem F9_barN {wise : Prop} [Decidable wise] (hI : InvC G M s) (hs : stOK s) (hk : ¬ isS s k) (hg : sw_rg k) : Kt l G μX9_bar [.ref (sw_al G 0), sw_i k, sw_i (bI wise)] M (fun r M' => r = some (sw_i (-1)) ∧ InvC G M' s ∧ frC M M') := by
  refine KtA.of (by decide +kernel) (Nat.le_of_ble_eq_true rfl) ?_
  have i0 := hI.1
  have hns : qN s ≤ 8 := hs.2.1
  refine v_aload_n dX9_bar_0 rfl ?_
  refine v_iload_n dX9_bar_1 rfl ?_
  refine v_callV (ci := 9) (K9_saleAtN (ns := qN s) (nt := qT s) (k := k) i0 hns hk hg) ⟨rfl, rfl⟩ (Nat.le_refl _) (Nat.le_refl _) i0 rfl ⟨ml_X9_104, mm_X9_saleAt⟩ ⟨(Nat.le_of_ble_eq_true rfl), (Nat.le_of_ble_eq_true rfl)⟩ mp_X9_saleAt rfl rfl (Nat.le_of_ble_eq_true rfl) dX9_bar_2 (fun r M' h => ?_)
  obtain ⟨rfl, rfl⟩ := h
  refine v_astore_nN dX9_bar_5 (Nat.le_of_ble_eq_true rfl) ?_
  refine v_aload_nN dX9_bar_6 rfl ?_
  refine v_ifnonnullN dX9_bar_7 ?_
  refine v_iconst dX9_bar_10 ?_
  exact v_iret dX9_bar_11 rfl (Nat.le_refl _) (Nat.le_refl _) (⟨rfl, hI, frC.rf⟩)
end

