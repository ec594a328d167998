/-! sums; a SALE: its mathematics, its methods -/
def sm (f : Int → Int) : Nat → Int
  | 0 => 0
  | n + 1 => sm f n + f n
theorem sm_step (f : Int → Int) {t : Int} (h : 0 ≤ t) : sm f (t + 1).toNat = sm f t.toNat + f t := by
  have e : (t + 1).toNat = t.toNat + 1 := by omega
  have e2 : ((t.toNat : Nat) : Int) = t := by omega
  rw [e]
  show sm f t.toNat + f (t.toNat : Int) = _
  rw [e2]
theorem sm_bd {f : Int → Int} {A B : Int} : ∀ (n : Nat), (∀ i : Int, 0 ≤ i → i < n → A ≤ f i ∧ f i ≤ B) → A * n ≤ sm f n ∧ sm f n ≤ B * n
  | 0, _ => by simp [sm]
  | n + 1, h => by
    have ih := sm_bd n (fun i h0 h1 => h i h0 (by omega))
    have h1 := h n (by omega) (by omega)
    have e1 : A * ((n + 1 : Nat) : Int) = A * n + A := by rw [Int.natCast_add]; show A * (n + 1) = _; rw [Int.mul_add, Int.mul_one]
    have e2 : B * ((n + 1 : Nat) : Int) = B * n + B := by rw [Int.natCast_add]; show B * (n + 1) = _; rw [Int.mul_add, Int.mul_one]
    rw [e1, e2]
    show _ ≤ sm f n + f n ∧ sm f n + f n ≤ _
    omega
theorem sm_congr {f g : Int → Int} : ∀ (n : Nat), (∀ i : Int, 0 ≤ i → i < n → f i = g i) → sm f n = sm g n
  | 0, _ => rfl
  | n + 1, h => by
    show sm f n + f n = sm g n + g n
    rw [sm_congr n (fun i h0 h1 => h i h0 (by omega)), h n (by omega) (by omega)]
theorem sm_add (f g : Int → Int) : ∀ (n : Nat), sm (fun i => f i + g i) n = sm f n + sm g n
  | 0 => rfl
  | n + 1 => by
    show sm (fun i => f i + g i) n + (f n + g n) = sm f n + f n + (sm g n + g n)
    rw [sm_add f g n]; omega
theorem sm_mul (c : Int) (f : Int → Int) : ∀ (n : Nat), sm (fun i => c * f i) n = c * sm f n
  | 0 => by simp [sm]
  | n + 1 => by
    show sm (fun i => c * f i) n + c * f n = c * (sm f n + f n)
    rw [sm_mul c f n, Int.mul_add]
/-- a SALE: signs, truths, bidders, least, way, V, weights, of ten, sitters -/
abbrev SaleT : Type := Int × Int × Int × Int × Int × (Int → Int) × (Int → Int) × (Int → Int) × (Int → Int)
abbrev sSg (σ : SaleT) : Int := σ.1
abbrev sTr (σ : SaleT) : Int := σ.2.1
abbrev sNb (σ : SaleT) : Int := σ.2.2.1
abbrev sLe (σ : SaleT) : Int := σ.2.2.2.1
abbrev sWy (σ : SaleT) : Int := σ.2.2.2.2.1
abbrev sV (σ : SaleT) : Int → Int := σ.2.2.2.2.2.1
abbrev sW (σ : SaleT) : Int → Int := σ.2.2.2.2.2.2.1
abbrev sO (σ : SaleT) : Int → Int := σ.2.2.2.2.2.2.2.1
abbrev sSt (σ : SaleT) : Int → Int := σ.2.2.2.2.2.2.2.2
def wfS (σ : SaleT) : Prop := (2 ≤ sSg σ ∧ sSg σ ≤ 5) ∧ (1 ≤ sTr σ ∧ sTr σ ≤ 8) ∧ (1 ≤ sNb σ ∧ sNb σ ≤ 4) ∧ (0 ≤ sLe σ ∧ sLe σ ≤ 60) ∧ (0 ≤ sWy σ ∧ sWy σ ≤ 2) ∧
  (∀ t, 0 ≤ t → t < sTr σ → (0 ≤ sV σ t ∧ sV σ t ≤ 60) ∧ 1 ≤ sW σ t ∧ sW σ t ≤ 9) ∧ (∀ t k, 0 ≤ t → t < sTr σ → 0 ≤ k → k < sSg σ → 0 ≤ sO σ (t * 5 + k) ∧ sO σ (t * 5 + k) ≤ 10) ∧
  (∀ t, 0 ≤ t → t < sTr σ → sm (fun k => sO σ (t * 5 + k)) (sSg σ).toNat = 10) ∧ (∀ k, 0 ≤ k → k < 4 → -2 ≤ sSt σ k ∧ sSt σ k < 10)
abbrev cO (G : sw_G) (b : Nat) (σ : SaleT) (u d : Int) : sw_Ce := (b, sw_o 5 [.ref (sw_al G (b + 1)), .ref (sw_al G (b + 2)), .ref (sw_al G (b + 3)), .ref (sw_al G (b + 4)), sw_i (sSg σ), sw_i (sTr σ), sw_i (sNb σ), sw_i (sLe σ), sw_i (sWy σ), sw_j u, sw_j d])
abbrev cS (G : sw_G) (b : Nat) (σ : SaleT) (u d : Int) : List sw_Ce := [cO G b σ u d, (b + 1, sw_ia 8 (sV σ)), (b + 2, sw_ia 8 (sW σ)), (b + 3, sw_ia 40 (sO σ)), (b + 4, sw_ia 4 (sSt σ))]
theorem cS_nd (b : Nat) : sw_nd [b, b + 1, b + 2, b + 3, b + 4] := sw_nd_of (by simp)
/-- how many of ten see a sign; 1 for none -/
def see (σ : SaleT) (t k : Int) : Int := if 0 ≤ k ∧ k < sSg σ then sO σ (t * 5 + k) else 1
theorem see_bd {σ : SaleT} (hw : wfS σ) {t : Int} (h0 : 0 ≤ t) (h1 : t < sTr σ) (k : Int) : 0 ≤ see σ t k ∧ see σ t k ≤ 10 := by
  unfold see
  split
  · rename_i h; exact hw.2.2.2.2.2.2.1 t k h0 h1 h.1 h.2
  · omega
def wgt (σ : SaleT) (a b c d t : Int) : Int := sW σ t * see σ t a * see σ t b * see σ t c * see σ t d
def upS (σ : SaleT) (a b c d : Int) (n : Nat) : Int := sm (fun t => wgt σ a b c d t * sV σ t) n
def dnS (σ : SaleT) (a b c d : Int) (n : Nat) : Int := sm (wgt σ a b c d) n
theorem mul_bd {x y A B : Int} (h : 0 ≤ x ∧ x ≤ A) (k : 0 ≤ y ∧ y ≤ B) : 0 ≤ x * y ∧ x * y ≤ A * B :=
  ⟨Int.mul_nonneg h.1 k.1, Int.mul_le_mul h.2 k.2 k.1 (by omega)⟩
theorem wgt_bd {σ : SaleT} (hw : wfS σ) {t : Int} (h0 : 0 ≤ t) (h1 : t < sTr σ) (a b c d : Int) : 0 ≤ wgt σ a b c d t ∧ wgt σ a b c d t ≤ 90000 := by
  have q := hw.2.2.2.2.2.1 t h0 h1
  exact mul_bd (mul_bd (mul_bd (mul_bd ⟨by omega, q.2.2⟩ (see_bd hw h0 h1 a)) (see_bd hw h0 h1 b)) (see_bd hw h0 h1 c)) (see_bd hw h0 h1 d)
theorem up_bd {σ : SaleT} (hw : wfS σ) (a b c d : Int) {n : Nat} (hn : n ≤ sTr σ) : 0 ≤ upS σ a b c d n ∧ upS σ a b c d n ≤ 43200000 := by
  have h := sm_bd (f := fun t => wgt σ a b c d t * sV σ t) (A := 0) (B := 5400000) n (fun i h0 h1 => mul_bd (wgt_bd hw h0 (by omega) a b c d) (hw.2.2.2.2.2.1 i h0 (by omega)).1)
  have := hw.2.1.2
  unfold upS
  omega
theorem dn_bd {σ : SaleT} (hw : wfS σ) (a b c d : Int) {n : Nat} (hn : n ≤ sTr σ) : 0 ≤ dnS σ a b c d n ∧ dnS σ a b c d n ≤ 720000 := by
  have h := sm_bd (f := wgt σ a b c d) (A := 0) (B := 90000) n (fun i h0 h1 => wgt_bd hw h0 (by omega) a b c d)
  have := hw.2.1.2
  unfold dnS
  omega
theorem cS_all {G : sw_G} {M : sw_M} {b : Nat} {σ : SaleT} {u d : Int} : sw_hold (sw_ov M (cS G b σ u d)) (cS G b σ u d) := sw_hold_all (cs := cS G b σ u d) (cS_nd b)
section
variable {l : Launch} {G : sw_G} {M : sw_M}
theorem K5_hasSign {b : Nat} {σ : SaleT} {u d : Int} (hM : M b = some (cO G b σ u d).2) {k : Int} (hg : sw_rg (sSg σ)) (hk : sw_rg k) : Kt l G μX5_hasSign [.ref (sw_al G b), sw_i k] M (fun r M' => r = some (sw_i (bI (0 ≤ k ∧ k < sSg σ))) ∧ M' = M) := by
  refine KtA.of (by decide +kernel) (Nat.le_of_ble_eq_true rfl) ?_
  refine v_mem (sw_ov_self (cs := [cO G b σ u d]) (sw_hold1 hM sw_hold0)).symm ?_
  have hn : sw_nd [b] := sw_nd_of (by simp)
  have hback : sw_ov M [cO G b σ u d] = M := sw_ov_self (sw_hold1 hM sw_hold0)
  refine v_iload_n dX5_hasSign_0 rfl ?_
  refine v_if_lt (tgt := 16) dX5_hasSign_1 (by decide) ⟨by omega, by omega⟩ (fun h1 => ?_) (fun h1 => ?_)
  · skip
    refine v_iconst dX5_hasSign_16 ?_
    exact v_zret rfl dX5_hasSign_17 rfl (Nat.le_refl _) (Nat.le_refl _) (⟨by rw [bI]; first | (rw [if_pos (by omega)]) | (rw [if_neg (by omega)]), hback⟩)
  · skip
    refine v_iload_n dX5_hasSign_4 rfl ?_
    refine v_aload_n dX5_hasSign_5 rfl ?_
    refine v_getf 0 4 fl_X5_24 hn rfl rfl dX5_hasSign_6 ?_
    refine v_icmp_ge (tgt := 16) dX5_hasSign_9 (by decide) ⟨by omega, by omega⟩ ⟨by omega, by omega⟩ (fun h9 => ?_) (fun h9 => ?_)
    · skip
      refine v_iconst dX5_hasSign_16 ?_
      exact v_zret rfl dX5_hasSign_17 rfl (Nat.le_refl _) (Nat.le_refl _) (⟨by rw [bI]; first | (rw [if_pos (by omega)]) | (rw [if_neg (by omega)]), hback⟩)
    · skip
      refine v_iconst dX5_hasSign_12 ?_
      refine v_goto (tgt := 17) dX5_hasSign_13 (by decide) ?_
      exact v_zret rfl dX5_hasSign_17 rfl (Nat.le_refl _) (Nat.le_refl _) (⟨by rw [bI]; first | (rw [if_pos (by omega)]) | (rw [if_neg (by omega)]), hback⟩)
theorem K5_hasSeat {b : Nat} {σ : SaleT} {u d : Int} (hM : M b = some (cO G b σ u d).2) {k : Int} (hg : sw_rg (sNb σ)) (hk : sw_rg k) : Kt l G μX5_hasSeat [.ref (sw_al G b), sw_i k] M (fun r M' => r = some (sw_i (bI (0 ≤ k ∧ k < sNb σ))) ∧ M' = M) := by
  refine KtA.of (by decide +kernel) (Nat.le_of_ble_eq_true rfl) ?_
  refine v_mem (sw_ov_self (cs := [cO G b σ u d]) (sw_hold1 hM sw_hold0)).symm ?_
  have hn : sw_nd [b] := sw_nd_of (by simp)
  have hback : sw_ov M [cO G b σ u d] = M := sw_ov_self (sw_hold1 hM sw_hold0)
  refine v_iload_n dX5_hasSeat_0 rfl ?_
  refine v_if_lt (tgt := 16) dX5_hasSeat_1 (by decide) ⟨by omega, by omega⟩ (fun h1 => ?_) (fun h1 => ?_)
  · skip
    refine v_iconst dX5_hasSeat_16 ?_
    exact v_zret rfl dX5_hasSeat_17 rfl (Nat.le_refl _) (Nat.le_refl _) (⟨by rw [bI]; first | (rw [if_pos (by omega)]) | (rw [if_neg (by omega)]), hback⟩)
  · skip
    refine v_iload_n dX5_hasSeat_4 rfl ?_
    refine v_aload_n dX5_hasSeat_5 rfl ?_
    refine v_getf 0 6 fl_X5_31 hn rfl rfl dX5_hasSeat_6 ?_
    refine v_icmp_ge (tgt := 16) dX5_hasSeat_9 (by decide) ⟨by omega, by omega⟩ ⟨by omega, by omega⟩ (fun h9 => ?_) (fun h9 => ?_)
    · skip
      refine v_iconst dX5_hasSeat_16 ?_
      exact v_zret rfl dX5_hasSeat_17 rfl (Nat.le_refl _) (Nat.le_refl _) (⟨by rw [bI]; first | (rw [if_pos (by omega)]) | (rw [if_neg (by omega)]), hback⟩)
    · skip
      refine v_iconst dX5_hasSeat_12 ?_
      refine v_goto (tgt := 17) dX5_hasSeat_13 (by decide) ?_
      exact v_zret rfl dX5_hasSeat_17 rfl (Nat.le_refl _) (Nat.le_refl _) (⟨by rw [bI]; first | (rw [if_pos (by omega)]) | (rw [if_neg (by omega)]), hback⟩)
theorem K5_allWeights {b : Nat} {σ : SaleT} {u d : Int} (hM : sw_hold M (cS G b σ u d)) (hw : wfS σ) : Kt l G μX5_allWeights [.ref (sw_al G b)] M (fun r M' => r = some (sw_i (sm (sW σ) (sTr σ).toNat)) ∧ M' = M) := by
  refine KtA.of (by decide +kernel) (Nat.le_of_ble_eq_true rfl) ?_
  have hback : sw_ov M (cS G b σ u d) = M := sw_ov_self hM
  refine v_mem hback.symm ?_
  have hn := cS_nd b
  obtain ⟨h1, h2, h3, h4, h5, h6, h7, h8⟩ := hw
  have loop : ∀ (k : Nat) (t : Int), 0 ≤ t → t + k = sTr σ → V l G μX5_allWeights sw_E0 (sw_Zq G μX5_allWeights (sw_q0 G (fun r M' => r = some (sw_i (sm (sW σ) (sTr σ).toNat)) ∧ M' = M))) 4 [(0, .ref (sw_al G b)), (1, sw_i (sm (sW σ) t.toNat)), (2, sw_i t)] [] (sw_ov M (cS G b σ u d)) 0 0 := by
    intro k
    induction k with
    | zero =>
      intro t h0 ht
      have e : t = sTr σ := by omega
      subst e
      refine v_iload_n dX5_allWeights_4 rfl ?_
      refine v_aload_n dX5_allWeights_5 rfl ?_
      refine v_getf 0 5 fl_X5_28 hn rfl rfl dX5_allWeights_6 ?_
      refine v_icmp_ge (tgt := 27) dX5_allWeights_9 (by decide) ⟨by omega, by omega⟩ ⟨by omega, by omega⟩ (fun h9 => ?_) (fun h9 => ?_)
      · skip
        refine v_iload_n dX5_allWeights_27 rfl ?_
        exact v_iret dX5_allWeights_28 rfl (Nat.le_refl _) (Nat.le_refl _) (⟨rfl, hback⟩)
      · skip
        exfalso; omega
    | succ k ih =>
      intro t h0 ht
      have hs := sm_step (sW σ) h0
      refine v_iload_n dX5_allWeights_4 rfl ?_
      refine v_aload_n dX5_allWeights_5 rfl ?_
      refine v_getf 0 5 fl_X5_28 hn rfl rfl dX5_allWeights_6 ?_
      refine v_icmp_ge (tgt := 27) dX5_allWeights_9 (by decide) ⟨by omega, by omega⟩ ⟨by omega, by omega⟩ (fun h9 => ?_) (fun h9 => ?_)
      · skip
        exfalso; omega
      · skip
        refine v_iload_n dX5_allWeights_12 rfl ?_
        refine v_aload_n dX5_allWeights_13 rfl ?_
        refine v_getf 0 1 fl_X5_15 hn rfl rfl dX5_allWeights_14 ?_
        refine v_iload_n dX5_allWeights_17 rfl ?_
        refine v_iald 2 hn rfl (Nat.le_of_ble_eq_true rfl) (by omega) (by omega) dX5_allWeights_18 ?_
        refine v_iadd dX5_allWeights_19 ?_
        refine v_istore_n dX5_allWeights_20 (Nat.le_of_ble_eq_true rfl) ?_
        refine v_iinc dX5_allWeights_21 rfl (Nat.le_of_ble_eq_true rfl) ?_
        refine v_goto (tgt := 4) dX5_allWeights_24 (by decide) ?_
        refine v_to (ih (t + 1) (by omega) (by omega)) rfl ?_
        exact sw_h1 rfl (sw_h1 (by rw [hs]; rfl) (sw_h1 rfl sw_h0))
  refine v_iconst dX5_allWeights_0 ?_
  refine v_istore_n dX5_allWeights_1 (Nat.le_of_ble_eq_true rfl) ?_
  refine v_iconst dX5_allWeights_2 ?_
  refine v_istore_n dX5_allWeights_3 (Nat.le_of_ble_eq_true rfl) ?_
  exact v_to (loop (sTr σ).toNat 0 (by omega) (by omega)) rfl (sw_h1 rfl (sw_h1 rfl (sw_h1 rfl sw_h0)))
theorem K5_seeing {b : Nat} {σ : SaleT} {u d : Int} (hM : sw_hold M (cS G b σ u d)) (hg : sSg σ ≤ 5 ∧ 0 ≤ sSg σ) {t k : Int} (ht : 0 ≤ t ∧ t < 8) (hk : sw_rg k) : Kt l G μX5_seeing [.ref (sw_al G b), sw_i t, sw_i k] M (fun r M' => r = some (sw_i (see σ t k)) ∧ M' = M) := by
  refine KtA.of (by decide +kernel) (Nat.le_of_ble_eq_true rfl) ?_
  have hback : sw_ov M (cS G b σ u d) = M := sw_ov_self hM
  refine v_mem hback.symm ?_
  have hn := cS_nd b
  obtain ⟨k0, k1⟩ := hk
  refine v_iload_n dX5_seeing_0 rfl ?_
  refine v_if_lt (tgt := 25) dX5_seeing_1 (by decide) ⟨by omega, by omega⟩ (fun h1 => ?_) (fun h1 => ?_)
  · skip
    have he : see σ t k = 1 := if_neg (by omega)
    refine v_iconst dX5_seeing_25 ?_
    exact v_iret dX5_seeing_26 rfl (Nat.le_refl _) (Nat.le_refl _) (⟨by rw [he], hback⟩)
  · skip
    refine v_iload_n dX5_seeing_4 rfl ?_
    refine v_aload_n dX5_seeing_5 rfl ?_
    refine v_getf 0 4 fl_X5_24 hn rfl rfl dX5_seeing_6 ?_
    refine v_icmp_ge (tgt := 25) dX5_seeing_9 (by decide) ⟨by omega, by omega⟩ ⟨by omega, by omega⟩ (fun h9 => ?_) (fun h9 => ?_)
    · skip
      have he : see σ t k = 1 := if_neg (by omega)
      refine v_iconst dX5_seeing_25 ?_
      exact v_iret dX5_seeing_26 rfl (Nat.le_refl _) (Nat.le_refl _) (⟨by rw [he], hback⟩)
    · skip
      have he : see σ t k = sO σ (t * 5 + k) := if_pos (by omega)
      refine v_aload_n dX5_seeing_12 rfl ?_
      refine v_getf 0 2 fl_X5_18 hn rfl rfl dX5_seeing_13 ?_
      refine v_iload_n dX5_seeing_16 rfl ?_
      refine v_iconst dX5_seeing_17 ?_
      refine v_imul dX5_seeing_18 ?_
      refine v_iload_n dX5_seeing_19 rfl ?_
      refine v_iadd dX5_seeing_20 ?_
      refine v_iald 3 hn rfl (Nat.le_of_ble_eq_true rfl) (by omega) (by omega) dX5_seeing_21 ?_
      refine v_goto (tgt := 26) dX5_seeing_22 (by decide) ?_
      exact v_iret dX5_seeing_26 rfl (Nat.le_refl _) (Nat.le_refl _) (⟨by rw [he], hback⟩)
theorem K5_weigh {b : Nat} {σ : SaleT} {u0 d0 : Int} (hM : sw_hold M (cS G b σ u0 d0)) (hw : wfS σ) {a e c d : Int} (ha : sw_rg a) (he : sw_rg e) (hc : sw_rg c) (hd : sw_rg d) : Kt l G μX5_weigh [.ref (sw_al G b), sw_i a, sw_i e, sw_i c, sw_i d] M (fun r M' => r = some (sw_i (bI (0 < dnS σ a e c d (sTr σ).toNat))) ∧ M' = sw_ov M [cO G b σ (upS σ a e c d (sTr σ).toNat) (dnS σ a e c d (sTr σ).toNat)]) := by
  refine KtA.of (by decide +kernel) (Nat.le_of_ble_eq_true rfl) ?_
  have hn := cS_nd b
  have hback : ∀ x y, sw_ov M (cS G b σ x y) = sw_ov M [cO G b σ x y] := by
    intro x y
    show sw_ov M ([cO G b σ x y] ++ _) = _
    have h2 : sw_ov M [(b + 1, sw_ia 8 (sV σ)), (b + 2, sw_ia 8 (sW σ)), (b + 3, sw_ia 40 (sO σ)), (b + 4, sw_ia 4 (sSt σ))] = M := sw_ov_self hM.tl
    funext q
    show (if q = b then _ else sw_ov M [(b + 1, sw_ia 8 (sV σ)), (b + 2, sw_ia 8 (sW σ)), (b + 3, sw_ia 40 (sO σ)), (b + 4, sw_ia 4 (sSt σ))] q) = (if q = b then _ else M q)
    rw [h2]
  refine v_mem (sw_ov_self hM).symm ?_
  have hw' := hw
  obtain ⟨h1, h2, h3, h4, h5, h6, h7, h8⟩ := hw
  have loop : ∀ (k : Nat) (t : Int), 0 ≤ t → t + k = sTr σ → V l G μX5_weigh sw_E0 (sw_Zq G μX5_weigh (sw_q0 G (fun r M' => r = some (sw_i (bI (0 < dnS σ a e c d (sTr σ).toNat))) ∧ M' = sw_ov M [cO G b σ (upS σ a e c d (sTr σ).toNat) (dnS σ a e c d (sTr σ).toNat)]))) 13 [(0, .ref (sw_al G b)), (1, sw_i a), (2, sw_i e), (3, sw_i c), (4, sw_i d), (5, sw_i t)] [] (sw_ov M (cS G b σ (upS σ a e c d t.toNat) (dnS σ a e c d t.toNat))) 0 0 := by
    intro k
    induction k with
    | zero =>
      intro t h0 ht
      have e1 : t = sTr σ := by omega
      subst e1
      have hb := dn_bd hw' a e c d (n := (sTr σ).toNat) (by omega)
      refine v_iload dX5_weigh_13 rfl ?_
      refine v_aload_n dX5_weigh_15 rfl ?_
      refine v_getf 0 5 fl_X5_28 hn rfl rfl dX5_weigh_16 ?_
      refine v_icmp_ge (tgt := 106) dX5_weigh_19 (by decide) ⟨by omega, by omega⟩ ⟨by omega, by omega⟩ (fun h19 => ?_) (fun h19 => ?_)
      · skip
        refine v_aload_n dX5_weigh_106 rfl ?_
        refine v_getf 0 10 fl_X5_44 hn rfl rfl dX5_weigh_107 ?_
        refine v_lconst (z := 0) dX5_weigh_110 (by decide +kernel) ?_
        refine v_lcmp_le (tgt := 119) dX5_weigh_111 dX5_weigh_112 (by decide) ⟨by omega, by omega⟩ ⟨by omega, by omega⟩ (fun h111 => ?_) (fun h111 => ?_)
        · skip
          refine v_iconst dX5_weigh_119 ?_
          exact v_zret rfl dX5_weigh_120 rfl (Nat.le_refl _) (Nat.le_refl _) (⟨by rw [bI]; first | (rw [if_pos (by omega)]) | (rw [if_neg (by omega)]), hback _ _⟩)
        · skip
          refine v_iconst dX5_weigh_115 ?_
          refine v_goto (tgt := 120) dX5_weigh_116 (by decide) ?_
          exact v_zret rfl dX5_weigh_120 rfl (Nat.le_refl _) (Nat.le_refl _) (⟨by rw [bI]; first | (rw [if_pos (by omega)]) | (rw [if_neg (by omega)]), hback _ _⟩)
      · skip
        exfalso; omega
    | succ k ih =>
      intro t h0 ht
      have hs1 : upS σ a e c d (t + 1).toNat = upS σ a e c d t.toNat + wgt σ a e c d t * sV σ t := sm_step _ h0
      have hs2 : dnS σ a e c d (t + 1).toNat = dnS σ a e c d t.toNat + wgt σ a e c d t := sm_step _ h0
      have q := h6 t h0 (by omega)
      have qa := see_bd hw' h0 (by omega) a
      have qe := see_bd hw' h0 (by omega) e
      have qc := see_bd hw' h0 (by omega) c
      have qd := see_bd hw' h0 (by omega) d
      refine v_iload dX5_weigh_13 rfl ?_
      refine v_aload_n dX5_weigh_15 rfl ?_
      refine v_getf 0 5 fl_X5_28 hn rfl rfl dX5_weigh_16 ?_
      refine v_icmp_ge (tgt := 106) dX5_weigh_19 (by decide) ⟨by omega, by omega⟩ ⟨by omega, by omega⟩ (fun h19 => ?_) (fun h19 => ?_)
      · skip
        exfalso; omega
      · skip
        refine v_aload_n dX5_weigh_22 rfl ?_
        refine v_getf 0 1 fl_X5_15 hn rfl rfl dX5_weigh_23 ?_
        refine v_iload dX5_weigh_26 rfl ?_
        refine v_iald 2 hn rfl (Nat.le_of_ble_eq_true rfl) (by omega) (by omega) dX5_weigh_28 ?_
        refine v_i2l dX5_weigh_29 ⟨by omega, by omega⟩ ?_
        refine v_aload_n dX5_weigh_30 rfl ?_
        refine v_iload dX5_weigh_31 rfl ?_
        refine v_iload_n dX5_weigh_33 rfl ?_
        refine v_callV (K5_seeing (u := upS σ a e c d t.toNat) (d := dnS σ a e c d t.toNat) cS_all (t := t) (k := a) ⟨by omega, by omega⟩ ⟨by omega, by omega⟩ ha) ⟨rfl, rfl⟩ (Nat.le_refl _) (Nat.le_refl _) cS_all.hd rfl ⟨ml_X5_47, mm_X5_seeing⟩ ⟨(Nat.le_of_ble_eq_true rfl), (Nat.le_of_ble_eq_true rfl)⟩ mp_X5_seeing rfl rfl (Nat.le_of_ble_eq_true rfl) dX5_weigh_34 (fun r M' h => ?_)
        obtain ⟨rfl, rfl⟩ := h
        refine v_i2l dX5_weigh_37 ⟨by omega, by omega⟩ ?_
        refine v_lmul dX5_weigh_38 ?_
        refine v_aload_n dX5_weigh_39 rfl ?_
        refine v_iload dX5_weigh_40 rfl ?_
        refine v_iload_n dX5_weigh_42 rfl ?_
        refine v_callV (K5_seeing (u := upS σ a e c d t.toNat) (d := dnS σ a e c d t.toNat) cS_all (t := t) (k := e) ⟨by omega, by omega⟩ ⟨by omega, by omega⟩ he) ⟨rfl, rfl⟩ (Nat.le_refl _) (Nat.le_refl _) cS_all.hd rfl ⟨ml_X5_47, mm_X5_seeing⟩ ⟨(Nat.le_of_ble_eq_true rfl), (Nat.le_of_ble_eq_true rfl)⟩ mp_X5_seeing rfl rfl (Nat.le_of_ble_eq_true rfl) dX5_weigh_43 (fun r M' h => ?_)
        obtain ⟨rfl, rfl⟩ := h
        refine v_i2l dX5_weigh_46 ⟨by omega, by omega⟩ ?_
        refine v_lmul dX5_weigh_47 ?_
        refine v_aload_n dX5_weigh_48 rfl ?_
        refine v_iload dX5_weigh_49 rfl ?_
        refine v_iload_n dX5_weigh_51 rfl ?_
        refine v_callV (K5_seeing (u := upS σ a e c d t.toNat) (d := dnS σ a e c d t.toNat) cS_all (t := t) (k := c) ⟨by omega, by omega⟩ ⟨by omega, by omega⟩ hc) ⟨rfl, rfl⟩ (Nat.le_refl _) (Nat.le_refl _) cS_all.hd rfl ⟨ml_X5_47, mm_X5_seeing⟩ ⟨(Nat.le_of_ble_eq_true rfl), (Nat.le_of_ble_eq_true rfl)⟩ mp_X5_seeing rfl rfl (Nat.le_of_ble_eq_true rfl) dX5_weigh_52 (fun r M' h => ?_)
        obtain ⟨rfl, rfl⟩ := h
        refine v_i2l dX5_weigh_55 ⟨by omega, by omega⟩ ?_
        refine v_lmul dX5_weigh_56 ?_
        refine v_aload_n dX5_weigh_57 rfl ?_
        refine v_iload dX5_weigh_58 rfl ?_
        refine v_iload dX5_weigh_60 rfl ?_
        refine v_callV (K5_seeing (u := upS σ a e c d t.toNat) (d := dnS σ a e c d t.toNat) cS_all (t := t) (k := d) ⟨by omega, by omega⟩ ⟨by omega, by omega⟩ hd) ⟨rfl, rfl⟩ (Nat.le_refl _) (Nat.le_refl _) cS_all.hd rfl ⟨ml_X5_47, mm_X5_seeing⟩ ⟨(Nat.le_of_ble_eq_true rfl), (Nat.le_of_ble_eq_true rfl)⟩ mp_X5_seeing rfl rfl (Nat.le_of_ble_eq_true rfl) dX5_weigh_62 (fun r M' h => ?_)
        obtain ⟨rfl, rfl⟩ := h
        refine v_i2l dX5_weigh_65 ⟨by omega, by omega⟩ ?_
        refine v_lmul dX5_weigh_66 ?_
        refine v_lstore dX5_weigh_67 (Nat.le_of_ble_eq_true rfl) ?_
        refine v_aload_n dX5_weigh_69 rfl ?_
        refine v_dup dX5_weigh_70 rfl ?_
        refine v_getf 0 9 fl_X5_40 hn rfl rfl dX5_weigh_71 ?_
        refine v_lload dX5_weigh_74 rfl ?_
        refine v_aload_n dX5_weigh_76 rfl ?_
        refine v_getf 0 0 fl_X5_9 hn rfl rfl dX5_weigh_77 ?_
        refine v_iload dX5_weigh_80 rfl ?_
        refine v_iald 1 hn rfl (Nat.le_of_ble_eq_true rfl) (by omega) (by omega) dX5_weigh_82 ?_
        refine v_i2l dX5_weigh_83 ⟨by omega, by omega⟩ ?_
        refine v_lmul dX5_weigh_84 ?_
        refine v_ladd dX5_weigh_85 ?_
        refine v_putf 0 9 fp_X5_40 hn rfl rfl rfl (Nat.le_of_ble_eq_true rfl) dX5_weigh_86 ?_
        refine v_aload_n dX5_weigh_89 rfl ?_
        refine v_dup dX5_weigh_90 rfl ?_
        refine v_getf 0 10 fl_X5_44 hn rfl rfl dX5_weigh_91 ?_
        refine v_lload dX5_weigh_94 rfl ?_
        refine v_ladd dX5_weigh_96 ?_
        refine v_putf 0 10 fp_X5_44 hn rfl rfl rfl (Nat.le_of_ble_eq_true rfl) dX5_weigh_97 ?_
        refine v_iinc dX5_weigh_100 rfl (Nat.le_of_ble_eq_true rfl) ?_
        refine v_goto (tgt := 13) dX5_weigh_103 (by decide) ?_
        refine v_to (ih (t + 1) (by omega) (by omega)) ?_ ?_
        · rw [hs1, hs2]; rfl
        · exact sw_h1 rfl (sw_h1 rfl (sw_h1 rfl (sw_h1 rfl (sw_h1 rfl (sw_h1 rfl sw_h0)))))
  refine v_aload_n dX5_weigh_0 rfl ?_
  refine v_lconst (z := 0) dX5_weigh_1 (by decide +kernel) ?_
  refine v_putf 0 9 fp_X5_40 hn rfl rfl rfl (Nat.le_of_ble_eq_true rfl) dX5_weigh_2 ?_
  refine v_aload_n dX5_weigh_5 rfl ?_
  refine v_lconst (z := 0) dX5_weigh_6 (by decide +kernel) ?_
  refine v_putf 0 10 fp_X5_44 hn rfl rfl rfl (Nat.le_of_ble_eq_true rfl) dX5_weigh_7 ?_
  refine v_iconst dX5_weigh_10 ?_
  refine v_istore dX5_weigh_11 (Nat.le_of_ble_eq_true rfl) ?_
  exact v_to (loop (sTr σ).toNat 0 (by omega) (by omega)) rfl (sw_h1 rfl (sw_h1 rfl (sw_h1 rfl (sw_h1 rfl (sw_h1 rfl (sw_h1 rfl sw_h0))))))
/-- HELD of up to four signs -/
def hld (σ : SaleT) (a b c d : Int) : Int := if 0 < dnS σ a b c d (sTr σ).toNat then upS σ a b c d (sTr σ).toNat / dnS σ a b c d (sTr σ).toNat else 0
theorem hld_bd {σ : SaleT} (hw : wfS σ) (a b c d : Int) : 0 ≤ hld σ a b c d ∧ hld σ a b c d ≤ 60 := by
  unfold hld
  split
  · rename_i h
    have h0 := up_bd hw a b c d (n := (sTr σ).toNat) (by have := hw.2.1.1; omega)
    refine ⟨Int.ediv_nonneg h0.1 (by omega), ?_⟩
    have h2 : upS σ a b c d (sTr σ).toNat ≤ 60 * dnS σ a b c d (sTr σ).toNat := by
      have key : ∀ n : Nat, (n : Int) ≤ sTr σ → upS σ a b c d n ≤ 60 * dnS σ a b c d n := by
        intro n
        induction n with
        | zero => intro _; exact Int.le_refl _
        | succ n ih =>
          intro hn
          have h3 := ih (by omega)
          have h4 := (wgt_bd hw (t := (n : Int)) (by omega) (by omega) a b c d).1
          have h5 := (hw.2.2.2.2.2.1 (n : Int) (by omega) (by omega)).1
          have h6 : wgt σ a b c d n * sV σ n ≤ wgt σ a b c d n * 60 := Int.mul_le_mul_of_nonneg_left h5.2 h4
          show upS σ a b c d n + wgt σ a b c d n * sV σ n ≤ 60 * (dnS σ a b c d n + wgt σ a b c d n)
          omega
      exact key _ (by have := hw.2.1.1; omega)
    exact Int.le_of_lt_add_one (Int.ediv_lt_of_lt_mul h (by omega))
  · omega
theorem K5_held {b : Nat} {σ : SaleT} {u0 d0 : Int} (hM : sw_hold M (cS G b σ u0 d0)) (hw : wfS σ) {a e c d : Int} (ha : sw_rg a) (he : sw_rg e) (hc : sw_rg c) (hd : sw_rg d) : Kt l G μX5_held [.ref (sw_al G b), sw_i a, sw_i e, sw_i c, sw_i d] M (fun r M' => r = some (sw_i (hld σ a e c d)) ∧ M' = sw_ov M [cO G b σ (upS σ a e c d (sTr σ).toNat) (dnS σ a e c d (sTr σ).toNat)]) := by
  refine KtA.of (by decide +kernel) (Nat.le_of_ble_eq_true rfl) ?_
  have hn : sw_nd [b] := sw_nd_of (by simp)
  have hb1 := up_bd hw a e c d (n := (sTr σ).toNat) (by have := hw.2.1.1; omega)
  have hb2 := dn_bd hw a e c d (n := (sTr σ).toNat) (by have := hw.2.1.1; omega)
  refine v_aload_n dX5_held_0 rfl ?_
  refine v_iload_n dX5_held_1 rfl ?_
  refine v_iload_n dX5_held_2 rfl ?_
  refine v_iload_n dX5_held_3 rfl ?_
  refine v_iload dX5_held_4 rfl ?_
  refine v_callV (K5_weigh hM hw ha he hc hd) ⟨rfl, rfl⟩ (Nat.le_refl _) (Nat.le_refl _) hM.hd rfl ⟨ml_X5_51, mm_X5_weigh⟩ ⟨(Nat.le_of_ble_eq_true rfl), (Nat.le_of_ble_eq_true rfl)⟩ mp_X5_weigh rfl rfl (Nat.le_of_ble_eq_true rfl) dX5_held_6 (fun r M' h => ?_)
  obtain ⟨rfl, rfl⟩ := h
  refine v_ifb_eq (tgt := 34) dX5_held_9 (by decide) (fun h9 => ?_) (fun h9 => ?_)
  · skip
    refine v_iconst dX5_held_34 ?_
    exact v_iret dX5_held_35 rfl (Nat.le_refl _) (Nat.le_refl _) (⟨by unfold hld; first | (rw [if_pos (by omega), Int.tdiv_eq_ediv_of_nonneg hb1.1]) | (rw [if_neg (by omega)]), rfl⟩)
  · skip
    refine v_aload_n dX5_held_12 rfl ?_
    refine v_getf 0 10 fl_X5_44 hn rfl rfl dX5_held_13 ?_
    refine v_lconst (z := 0) dX5_held_16 (by decide +kernel) ?_
    refine v_lcmp_le (tgt := 34) dX5_held_17 dX5_held_18 (by decide) ⟨by omega, by omega⟩ ⟨by omega, by omega⟩ (fun h17 => ?_) (fun h17 => ?_)
    · skip
      refine v_iconst dX5_held_34 ?_
      exact v_iret dX5_held_35 rfl (Nat.le_refl _) (Nat.le_refl _) (⟨by unfold hld; first | (rw [if_pos (by omega), Int.tdiv_eq_ediv_of_nonneg hb1.1]) | (rw [if_neg (by omega)]), rfl⟩)
    · skip
      refine v_aload_n dX5_held_21 rfl ?_
      refine v_getf 0 9 fl_X5_40 hn rfl rfl dX5_held_22 ?_
      refine v_aload_n dX5_held_25 rfl ?_
      refine v_getf 0 10 fl_X5_44 hn rfl rfl dX5_held_26 ?_
      refine v_ldiv dX5_held_29 ⟨by omega, by omega⟩ ⟨by omega, by omega⟩ (by omega) ?_
      refine v_l2i dX5_held_30 ?_
      refine v_goto (tgt := 35) dX5_held_31 (by decide) ?_
      exact v_iret dX5_held_35 rfl (Nat.le_refl _) (Nat.le_refl _) (⟨by unfold hld; first | (rw [if_pos (by omega), Int.tdiv_eq_ediv_of_nonneg hb1.1]) | (rw [if_neg (by omega)]), rfl⟩)
end

