/-! the reference's face: find -/
theorem enN_2 {Rw Nx : Int → Int} {sg kp : Nat} : ∀ n : Nat, (∀ i : Nat, i < n → ¬ eqP (fun k => Rw ((i : Int) * 5 + k)) Nx sg) → enN Rw Nx sg kp n = 2
  | 0, _ => rfl
  | n + 1, h => by
    unfold enN
    rw [if_pos (enN_2 n (fun i hi => h i (by omega))), if_neg (h n (by omega))]
theorem enN_at {Rw Nx : Int → Int} {sg kp j : Nat} (h0 : ∀ i : Nat, i < j → ¬ eqP (fun k => Rw ((i : Int) * 5 + k)) Nx sg) (h1 : eqP (fun k => Rw ((j : Int) * 5 + k)) Nx sg) {n : Nat} (hn : j < n) : enN Rw Nx sg kp n = if (j : Int) = (kp : Int) - 1 then 0 else 1 := by
  have e : enN Rw Nx sg kp (j + 1) = if (j : Int) = (kp : Int) - 1 then 0 else 1 := by
    show (if enN Rw Nx sg kp j = 2 then (if eqP (fun k => Rw ((j : Int) * 5 + k)) Nx sg then (if (j : Int) = (kp : Int) - 1 then (0 : Int) else 1) else 2) else enN Rw Nx sg kp j) = _
    rw [if_pos (enN_2 j h0), if_pos h1]
  rw [enN_stay (show j + 1 ≤ n by omega) (by rw [e]; split <;> omega), e]
/-- two rows of FIND are alike -/
def rhE (σ : SaleT) (i j : Nat) : Prop := ∀ k : Nat, k < (sSg σ).toNat → rhF σ i k = rhF σ j k
theorem rh_row (σ : SaleT) (hsg : sSg σ ≤ 5) (i j : Nat) : eqP (fun k => (fun i => rhF σ (i / 5).toNat (i % 5)) ((i : Int) * 5 + k)) (rhF σ j) (sSg σ).toNat ↔ rhE σ i j := by
  constructor
  · intro h k hk
    have := h k hk
    dsimp only at this
    rw [show (((i : Int) * 5 + (k : Int)) / 5).toNat = i by omega, show ((i : Int) * 5 + (k : Int)) % 5 = k by omega] at this
    exact this
  · intro h k hk
    show rhF σ (((i : Int) * 5 + (k : Int)) / 5).toNat (((i : Int) * 5 + (k : Int)) % 5) = rhF σ j k
    rw [show (((i : Int) * 5 + (k : Int)) / 5).toNat = i by omega, show ((i : Int) * 5 + (k : Int)) % 5 = k by omega]
    exact h k hk
theorem enT_2 (σ : SaleT) (hsg : sSg σ ≤ 5) {n : Nat} (h : ∀ i, i < n → ¬ rhE σ i n) : enT σ n = 2 :=
  enN_2 n (fun i hi he => h i hi ((rh_row σ hsg i n).mp he))
theorem enT_n (σ : SaleT) (hsg : sSg σ ≤ 5) {n j : Nat} (h0 : ∀ i, i < j → ¬ rhE σ i n) (h1 : rhE σ j n) (hj : j < n) : enT σ n = if j + 1 = n then 0 else 1 := by
  have h := enN_at (Rw := fun i => rhF σ (i / 5).toNat (i % 5)) (Nx := rhF σ n) (sg := (sSg σ).toNat) (kp := n) (j := j) (fun i hi he => h0 i hi ((rh_row σ hsg i n).mp he)) ((rh_row σ hsg j n).mpr h1) hj
  show enN _ _ _ n n = _
  rw [h]
  by_cases c : j + 1 = n
  · rw [if_pos c, if_pos (by omega)]
  · rw [if_neg c, if_neg (by omega)]
theorem rhE_dec (σ : SaleT) (i j : Nat) : rhE σ i j ∨ ¬ rhE σ i j := Classical.em _
/-- a first one that is alike -/
theorem rh_first (σ : SaleT) (n : Nat) : ∀ j : Nat, (∃ i, i < j ∧ rhE σ i n) → ∃ i, i < j ∧ rhE σ i n ∧ ∀ l, l < i → ¬ rhE σ l n
  | 0, h => by obtain ⟨i, h, _⟩ := h; omega
  | j + 1, h => by
    rcases Classical.em (∃ i, i < j ∧ rhE σ i n) with c | c
    · obtain ⟨i, h1, h2, h3⟩ := rh_first σ n j c
      exact ⟨i, by omega, h2, h3⟩
    · obtain ⟨i, h1, h2⟩ := h
      have e : i = j := by
        by_cases d : i < j
        · exact absurd ⟨i, d, h2⟩ c
        · omega
      subst e
      exact ⟨i, h1, h2, fun l hl hr => c ⟨l, hl, hr⟩⟩
theorem enT_0 (σ : SaleT) (hsg : sSg σ ≤ 5) {n : Nat} (hp : ∀ j, 1 ≤ j → j ≤ n → enT σ j = 2) (h : rhE σ n (n + 1)) : enT σ (n + 1) = 0 := by
  rcases Classical.em (∃ i, i < n ∧ rhE σ i (n + 1)) with c | c
  · exfalso
    obtain ⟨i, h1, h2⟩ := c
    have h3 : rhE σ i n := fun k hk => (h2 k hk).trans (h k hk).symm
    obtain ⟨j, j1, j2, j3⟩ := rh_first σ n n ⟨i, h1, h3⟩
    have e := enT_n σ hsg j3 j2 j1
    have := hp n (by omega) (Nat.le_refl _)
    rw [this] at e
    split at e <;> omega
  · rw [enT_n σ hsg (fun i hi hr => c ⟨i, hi, hr⟩) h (by omega), if_pos rfl]
theorem enT_1 (σ : SaleT) (hsg : sSg σ ≤ 5) {n i : Nat} (hn : ¬ rhE σ n (n + 1)) (hi : i < n) (h : rhE σ i (n + 1)) : enT σ (n + 1) = 1 := by
  obtain ⟨j, j1, j2, j3⟩ := rh_first σ (n + 1) n ⟨i, hi, h⟩
  rw [enT_n σ hsg j3 j2 (by omega), if_neg (by omega)]
section
variable {l : Launch} {G : sw_G} {M : sw_M} {s : CSt} {k : Int} {x : Nat → Int} {a : Nat → Int → Int}
theorem K10_keep {sg : Int} {N : Int → Int} {turn : Nat} (hM : RS G M x a) (hk : 0 ≤ k ∧ k < 8) (h5 : a 5 k = sg) (hsg : 0 ≤ sg ∧ sg ≤ 5) (ht : turn ≤ 20) (hN : ∀ j, 0 ≤ j → j < sg → a 20 j = N j) : Kt l G μX10_keep [.ref (sw_al G 70), sw_i k, sw_i (turn : Int)] M (fun r M' => ∃ a', r = none ∧ RS G M' x a' ∧ frR M M' ∧ afr [40] a a' ∧ (∀ j, 0 ≤ j → j < sg → a' 40 (5 * (turn : Int) + j) = N j) ∧ ∀ z, z < 5 * (turn : Int) → a' 40 z = a 40 z) := by
  refine KtA.of (by decide +kernel) (Nat.le_of_ble_eq_true rfl) ?_
  obtain ⟨Zq, hZ⟩ : ∃ Zq : Option Value → sw_M → Prop, Zq = (fun r M' => ∃ a', r = none ∧ RS G M' x a' ∧ frR M M' ∧ afr [40] a a' ∧ (∀ j, 0 ≤ j → j < sg → a' 40 (5 * (turn : Int) + j) = N j) ∧ ∀ z, z < 5 * (turn : Int) → a' 40 z = a 40 z) := ⟨_, rfl⟩
  rw [← hZ]
  have loop : ∀ (c : Nat) (j : Int) (a1 : Nat → Int → Int) (M1 : sw_M), 0 ≤ j → j + c = sg → RS G M1 x a1 → frR M M1 → afr [40] a a1 → (∀ i, 0 ≤ i → i < j → a1 40 (5 * (turn : Int) + i) = N i) → (∀ z, z < 5 * (turn : Int) → a1 40 z = a 40 z) → V l G μX10_keep sw_E0 (sw_Zq G μX10_keep (sw_q0 G Zq)) 2 [(0, .ref (sw_al G 70)), (1, sw_i k), (2, sw_i (turn : Int)), (3, sw_i j)] [] M1 0 0 := by
    intro c
    induction c with
    | zero =>
      intro j a1 M1 j0 jc hM hF ha h1 h2
      have e : j = sg := by omega
      subst e
      have g5 : a1 5 k = j := by rw [ha 5 (by decide)]; exact h5
      refine v_iload_n dX10_keep_2 rfl ?_
      refine v_aload_n dX10_keep_3 rfl ?_
      refine v_getfH 5 hM.1 fl_X10_13 rfl dX10_keep_4 ?_
      refine v_iload_n dX10_keep_7 rfl ?_
      refine v_ria hM ar_5 (by omega) (by omega) g5 dX10_keep_8 ?_
      refine v_icmp_ge (tgt := 34) dX10_keep_9 (by decide) ⟨by omega, by omega⟩ ⟨by omega, by omega⟩ (fun h9 => ?_) (fun h9 => ?_)
      · skip
        exact v_vret dX10_keep_34 rfl (Nat.le_refl _) (Nat.le_refl _) (by rw [hZ]; exact ⟨a1, rfl, hM, hF, ha, h1, h2⟩)
      · skip
        exfalso; omega
    | succ c ih =>
      intro j a1 M1 j0 jc hM hF ha h1 h2
      have g5 : a1 5 k = sg := by rw [ha 5 (by decide)]; exact h5
      have g20 : a1 20 j = N j := by rw [ha 20 (by decide)]; exact hN j j0 (by omega)
      refine v_iload_n dX10_keep_2 rfl ?_
      refine v_aload_n dX10_keep_3 rfl ?_
      refine v_getfH 5 hM.1 fl_X10_13 rfl dX10_keep_4 ?_
      refine v_iload_n dX10_keep_7 rfl ?_
      refine v_ria hM ar_5 (by omega) (by omega) g5 dX10_keep_8 ?_
      refine v_icmp_ge (tgt := 34) dX10_keep_9 (by decide) ⟨by omega, by omega⟩ ⟨by omega, by omega⟩ (fun h9 => ?_) (fun h9 => ?_)
      · skip
        exfalso; omega
      · skip
        refine v_aload_n dX10_keep_12 rfl ?_
        refine v_getfH 40 hM.1 fl_X10_55 rfl dX10_keep_13 ?_
        refine v_iconst dX10_keep_16 ?_
        refine v_iload_n dX10_keep_17 rfl ?_
        refine v_imul dX10_keep_18 ?_
        refine v_iload_n dX10_keep_19 rfl ?_
        refine v_iadd dX10_keep_20 ?_
        refine v_aload_n dX10_keep_21 rfl ?_
        refine v_getfH 20 hM.1 fl_X10_46 rfl dX10_keep_22 ?_
        refine v_iload_n dX10_keep_25 rfl ?_
        refine v_ria hM ar_20 (by omega) (by omega) g20 dX10_keep_26 ?_
        refine v_ris hM hF ar_40 (by omega) (by omega) dX10_keep_27 (fun M hM hF => ?_)
        refine v_iinc dX10_keep_28 rfl (Nat.le_of_ble_eq_true rfl) ?_
        refine v_goto (tgt := 2) dX10_keep_31 (by decide) ?_
        refine v_to (ih (j + 1) _ _ (by omega) (by omega) hM hF (ha.up (k := 40) (by decide)) (fun i i0 i1 => ?_) (fun z hz => ?_)) rfl (sw_h1 rfl (sw_h1 rfl (sw_h1 rfl (sw_h1 rfl sw_h0))))
        · show up (a1 40) (5 * (turn : Int) + j) _ (5 * (turn : Int) + i) = _
          by_cases e : i = j
          · subst e; rw [up_eq]
          · rw [up_ne (by omega)]; exact h1 i i0 (by omega)
        · show up (a1 40) (5 * (turn : Int) + j) _ z = _
          rw [up_ne (by omega)]; exact h2 z hz
  refine v_iconst dX10_keep_0 ?_
  refine v_istore_n dX10_keep_1 (Nat.le_of_ble_eq_true rfl) ?_
  exact v_to (loop sg.toNat 0 a M (by omega) (by omega) hM frR.rf afr.rf (fun i i0 i1 => by omega) (fun z _ => rfl)) rfl (sw_h1 rfl (sw_h1 rfl (sw_h1 rfl (sw_h1 rfl sw_h0))))
theorem K10_isKept {sg : Int} {N H : Int → Int} {turn : Nat} (hM : RS G M x a) (hk : 0 ≤ k ∧ k < 8) (h5 : a 5 k = sg) (hsg : 0 ≤ sg ∧ sg ≤ 5) (ht : turn ≤ 20) (hN : ∀ j, 0 ≤ j → j < sg → a 20 j = N j) (hH : ∀ j, 0 ≤ j → j < sg → a 40 (5 * (turn : Int) + j) = H j) (hNb : ∀ j, 0 ≤ j → j < sg → sw_rg (N j) ∧ sw_rg (H j)) : Kt l G μX10_isKept [.ref (sw_al G 70), sw_i k, sw_i (turn : Int)] M (fun r M' => (∃ z : Int, r = some (sw_i z) ∧ (z = 1 ∧ (∀ j : Nat, j < sg.toNat → H j = N j) ∨ z = 0 ∧ ¬ ∀ j : Nat, j < sg.toNat → H j = N j)) ∧ M' = M) := by
  refine KtA.of (by decide +kernel) (Nat.le_of_ble_eq_true rfl) ?_
  have loop : ∀ (c j : Nat), (j : Int) + c = sg → (∀ i : Nat, i < j → H i = N i) → V l G μX10_isKept sw_E0 (sw_Zq G μX10_isKept (sw_q0 G (fun r M' => (∃ z : Int, r = some (sw_i z) ∧ (z = 1 ∧ (∀ j : Nat, j < sg.toNat → H j = N j) ∨ z = 0 ∧ ¬ ∀ j : Nat, j < sg.toNat → H j = N j)) ∧ M' = M))) 2 [(0, .ref (sw_al G 70)), (1, sw_i k), (2, sw_i (turn : Int)), (3, sw_i (j : Int))] [] M 0 0 := by
    intro c
    induction c with
    | zero =>
      intro j jc h
      have e : (j : Int) = sg := by omega
      subst e
      refine v_iload_n dX10_isKept_2 rfl ?_
      refine v_aload_n dX10_isKept_3 rfl ?_
      refine v_getfH 5 hM.1 fl_X10_13 rfl dX10_isKept_4 ?_
      refine v_iload_n dX10_isKept_7 rfl ?_
      refine v_ria hM ar_5 (by omega) (by omega) h5 dX10_isKept_8 ?_
      refine v_icmp_ge (tgt := 39) dX10_isKept_9 (by decide) ⟨by omega, by omega⟩ ⟨by omega, by omega⟩ (fun h9 => ?_) (fun h9 => ?_)
      · skip
        refine v_iconst dX10_isKept_39 ?_
        exact v_zret rfl dX10_isKept_40 rfl (Nat.le_refl _) (Nat.le_refl _) (⟨⟨1, rfl, Or.inl ⟨rfl, fun i hi => h i (by omega)⟩⟩, rfl⟩)
      · skip
        exfalso; omega
    | succ c ih =>
      intro j jc h
      have hb := hNb j (by omega) (by omega)
      refine v_iload_n dX10_isKept_2 rfl ?_
      refine v_aload_n dX10_isKept_3 rfl ?_
      refine v_getfH 5 hM.1 fl_X10_13 rfl dX10_isKept_4 ?_
      refine v_iload_n dX10_isKept_7 rfl ?_
      refine v_ria hM ar_5 (by omega) (by omega) h5 dX10_isKept_8 ?_
      refine v_icmp_ge (tgt := 39) dX10_isKept_9 (by decide) ⟨by omega, by omega⟩ ⟨by omega, by omega⟩ (fun h9 => ?_) (fun h9 => ?_)
      · skip
        exfalso; omega
      · skip
        refine v_aload_n dX10_isKept_12 rfl ?_
        refine v_getfH 40 hM.1 fl_X10_55 rfl dX10_isKept_13 ?_
        refine v_iconst dX10_isKept_16 ?_
        refine v_iload_n dX10_isKept_17 rfl ?_
        refine v_imul dX10_isKept_18 ?_
        refine v_iload_n dX10_isKept_19 rfl ?_
        refine v_iadd dX10_isKept_20 ?_
        refine v_ria hM ar_40 (by omega) (by omega) (hH j (by omega) (by omega)) dX10_isKept_21 ?_
        refine v_aload_n dX10_isKept_22 rfl ?_
        refine v_getfH 20 hM.1 fl_X10_46 rfl dX10_isKept_23 ?_
        refine v_iload_n dX10_isKept_26 rfl ?_
        refine v_ria hM ar_20 (by omega) (by omega) (hN j (by omega) (by omega)) dX10_isKept_27 ?_
        refine v_icmp_eq (tgt := 33) dX10_isKept_28 (by decide) hb.2 hb.1 (fun q => ?_) (fun q => ?_)
        · skip
          refine v_iinc dX10_isKept_33 rfl (Nat.le_of_ble_eq_true rfl) ?_
          refine v_goto (tgt := 2) dX10_isKept_36 (by decide) ?_
          exact v_to (ih (j + 1) (by omega) (fun i hi => by
            by_cases e : i = j
            · subst e; exact q
            · exact h i (by omega))) rfl (sw_h1 rfl (sw_h1 rfl (sw_h1 rfl (sw_h1 rfl sw_h0))))
        · skip
          refine v_iconst dX10_isKept_31 ?_
          exact v_zret rfl dX10_isKept_32 rfl (Nat.le_refl _) (Nat.le_refl _) (⟨⟨0, rfl, Or.inr ⟨rfl, fun hh => q (hh j (by omega))⟩⟩, rfl⟩)
  refine v_iconst dX10_isKept_0 ?_
  refine v_istore_n dX10_isKept_1 (Nat.le_of_ble_eq_true rfl) ?_
  exact v_to (loop sg.toNat 0 (by omega) (fun i hi => by omega)) rfl (sw_h1 rfl (sw_h1 rfl (sw_h1 rfl (sw_h1 rfl sw_h0))))
end

