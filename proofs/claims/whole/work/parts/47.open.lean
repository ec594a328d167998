/-! the face: lay, open, leaves -/
abbrev sD (s : CSt) (T : Int → Int) : CSt := (qF s, qL s, qN s, qS s, qT s, qB s, T, qM s, qK s, qR s, qG s)
theorem InvC.setD {G : sw_G} {M : sw_M} {s : CSt} (hI : InvC G M s) (T : Int → Int) : InvC G (sw_ov M [cLd T]) (sD s T) := by
  obtain ⟨i0, i3, i4, i5, i2, ⟨a, wr, i1⟩, ⟨sg, tr, nb, le, wy, Va, Wa, Oa, St, u, d, id'⟩, is', ⟨b, x, so, Sg, il⟩, ic⟩ := hI
  have fx : ∀ (t : Nat) (ob : sw_Ob), t ≠ 5 → M t = some ob → sw_ov M [cLd T] t = some ob := fun t ob h hm => (if_neg h).trans hm
  have fxH : ∀ l, sw_hold M l → (∀ c ∈ l, c.1 ≠ 5) → sw_hold (sw_ov M [cLd T]) l := fun l hl hx c hc => fx _ _ (hx c hc) (hl c hc)
  refine ⟨fx _ _ (by omega) i0, fx _ _ (by omega) i3, fx _ _ (by omega) i4, rfl, fx _ _ (by omega) i2, ⟨a, wr, fx _ _ (by omega) i1⟩, ⟨sg, tr, nb, le, wy, Va, Wa, Oa, St, u, d, fxH _ id' ?_⟩, fun k hk => ?_, ⟨b, x, so, Sg, fxH _ il ?_⟩, fun t h1 h2 => ?_⟩
  · intro c hcl
    simp only [List.mem_cons, List.not_mem_nil, or_false] at hcl
    rcases hcl with rfl | rfl | rfl | rfl | rfl <;> (dsimp only; omega)
  · obtain ⟨u', d', hu⟩ := is' k hk
    refine ⟨u', d', fxH _ hu ?_⟩
    intro c hcl
    simp only [List.mem_cons, List.not_mem_nil, or_false] at hcl
    rcases hcl with rfl | rfl | rfl | rfl | rfl <;> (dsimp only; omega)
  · intro c hcl
    simp only [List.mem_cons, List.not_mem_nil, or_false] at hcl
    rcases hcl with rfl | rfl | rfl | rfl <;> (dsimp only; omega)
  · obtain ⟨ob, g1, g2⟩ := ic t h1 h2
    exact ⟨ob, fx _ _ (by omega) g1, g2⟩
/-- who is still in -/
def ct0 (Gn : Int → Int) : Nat → Int
  | 0 => 0
  | k + 1 => ct0 Gn k + (if Gn k = 0 then 1 else 0)
theorem ct0_out {Gn : Int → Int} {w : Int} : ∀ k : Nat, (w < 0 ∨ (k : Int) ≤ w) → ct0 (up Gn w 1) k = ct0 Gn k
  | 0, _ => rfl
  | k + 1, h => by
    have e : up Gn w 1 (k : Int) = Gn k := if_neg (by omega)
    show ct0 (up Gn w 1) k + (if up Gn w 1 (k : Int) = 0 then 1 else 0) = ct0 Gn k + (if Gn k = 0 then 1 else 0)
    rw [e, ct0_out k (by omega)]
theorem ct0_up {Gn : Int → Int} {w : Int} (hg : Gn w = 0) : ∀ k : Nat, 0 ≤ w → w < (k : Int) → ct0 (up Gn w 1) k = ct0 Gn k - 1
  | 0, _, _ => by omega
  | k + 1, h0, h1 => by
    show ct0 (up Gn w 1) k + (if up Gn w 1 (k : Int) = 0 then 1 else 0) = ct0 Gn k + (if Gn k = 0 then 1 else 0) - 1
    by_cases c : (k : Int) = w
    · have e : up Gn w 1 (k : Int) = 1 := if_pos c
      rw [e, ct0_out k (by omega), if_neg (by omega), c, if_pos hg]; omega
    · have e : up Gn w 1 (k : Int) = Gn k := if_neg c
      rw [e, ct0_up hg k h0 (by omega)]; omega
theorem ct0_nn (Gn : Int → Int) : ∀ k : Nat, 0 ≤ ct0 Gn k ∧ ct0 Gn k ≤ k
  | 0 => by show 0 ≤ (0 : Int) ∧ (0 : Int) ≤ 0; omega
  | k + 1 => by
    have ih := ct0_nn Gn k
    show 0 ≤ ct0 Gn k + (if Gn k = 0 then 1 else 0) ∧ ct0 Gn k + (if Gn k = 0 then 1 else 0) ≤ ((k + 1 : Nat) : Int)
    split <;> omega
theorem wfl_in {σ : SaleT} {Gn Ld : Int → Int} : ∀ k : Nat, (wfl σ Gn Ld k).1 ≠ -1 → 0 ≤ (wfl σ Gn Ld k).1 ∧ (wfl σ Gn Ld k).1 < k ∧ Gn (wfl σ Gn Ld k).1 = 0
  | 0, h => absurd rfl h
  | k + 1, h => by
    have ih := wfl_in (σ := σ) (Gn := Gn) (Ld := Ld) k
    have e : wfl σ Gn Ld (k + 1) = if Gn k = 0 then (if (wfl σ Gn Ld k).1 = -1 ∨ lmt σ Gn Ld k < (wfl σ Gn Ld k).2 then ((k : Int), lmt σ Gn Ld k) else wfl σ Gn Ld k) else wfl σ Gn Ld k := rfl
    by_cases c : Gn k = 0
    · rw [if_pos c] at e
      by_cases c2 : (wfl σ Gn Ld k).1 = -1 ∨ lmt σ Gn Ld k < (wfl σ Gn Ld k).2
      · rw [if_pos c2] at e
        rw [e]
        exact ⟨by dsimp only; omega, by dsimp only; omega, c⟩
      · rw [if_neg c2] at e
        rw [e] at h ⊢
        have := ih h
        exact ⟨this.1, by omega, this.2.2⟩
    · rw [if_neg c] at e
      rw [e] at h ⊢
      have := ih h
      exact ⟨this.1, by omega, this.2.2⟩
theorem wfl_none {σ : SaleT} {Gn Ld : Int → Int} : ∀ k : Nat, (wfl σ Gn Ld k).1 = -1 → ct0 Gn k = 0
  | 0, _ => rfl
  | k + 1, h => by
    have ih := wfl_none (σ := σ) (Gn := Gn) (Ld := Ld) k
    have e : wfl σ Gn Ld (k + 1) = if Gn k = 0 then (if (wfl σ Gn Ld k).1 = -1 ∨ lmt σ Gn Ld k < (wfl σ Gn Ld k).2 then ((k : Int), lmt σ Gn Ld k) else wfl σ Gn Ld k) else wfl σ Gn Ld k := rfl
    show ct0 Gn k + (if Gn k = 0 then 1 else 0) = 0
    by_cases c : Gn k = 0
    · rw [if_pos c] at e
      exfalso
      by_cases c2 : (wfl σ Gn Ld k).1 = -1 ∨ lmt σ Gn Ld k < (wfl σ Gn Ld k).2
      · rw [if_pos c2] at e
        rw [e] at h
        dsimp only at h; omega
      · rw [if_neg c2] at e
        rw [e] at h
        exact c2 (Or.inl h)
    · rw [if_neg c] at e
      rw [e] at h
      rw [if_neg c, ih h]; rfl
/-- states of a rising that are alike where they show -/
def riEq (ρ τ : riT) : Prop := ρ.1 = τ.1 ∧ ρ.2.1 = τ.2.1 ∧ (∀ i, 0 ≤ i → i < 4 → ρ.2.2.1 i = τ.2.2.1 i) ∧ ∀ i, 0 ≤ i → i < ρ.1 → ρ.2.2.2.1 i = τ.2.2.2.1 i ∧ ρ.2.2.2.2 i = τ.2.2.2.2 i
theorem lmt_congr {σ : SaleT} {Gn Gn' Ld : Int → Int} (h : ∀ i, 0 ≤ i → i < 4 → Gn i = Gn' i) (seat : Int) : lmt σ Gn Ld seat = lmt σ Gn' Ld seat := by
  unfold lmt lmS
  rw [h 0 (by omega) (by omega), h 1 (by omega) (by omega), h 2 (by omega) (by omega), h 3 (by omega) (by omega)]
theorem wfl_congr {σ : SaleT} {Gn Gn' Ld : Int → Int} (h : ∀ i, 0 ≤ i → i < 4 → Gn i = Gn' i) : ∀ k : Nat, k ≤ 4 → wfl σ Gn Ld k = wfl σ Gn' Ld k
  | 0, _ => rfl
  | k + 1, hk => by
    unfold wfl
    rw [wfl_congr h k (by omega), lmt_congr h, h k (by omega) (by omega)]
theorem ol_eq {σ : SaleT} (hw : wfS σ) {Ld : Int → Int} {ρ τ : riT} (h : riEq ρ τ) (h0 : 0 ≤ ρ.1) : riEq (ol σ Ld ρ) (ol σ Ld τ) := by
  obtain ⟨h1, h2, h3, h4⟩ := h
  have hnb := hw.2.2.1
  have e := wfl_congr (σ := σ) (Ld := Ld) h3 (sNb σ).toNat (by omega)
  unfold ol
  rw [e, h1, h2]
  by_cases c : (wfl σ τ.2.2.1 Ld (sNb σ).toNat).1 = -1 ∨ 4 ≤ τ.1
  · rw [if_pos c, if_pos c]
    exact ⟨h1, h2, h3, h4⟩
  · rw [if_neg c, if_neg c]
    refine ⟨rfl, rfl, fun i i0 i1 => ?_, fun i i0 i1 => ?_⟩
    · show (if i = _ then (1 : Int) else ρ.2.2.1 i) = (if i = _ then (1 : Int) else τ.2.2.1 i)
      rw [h3 i i0 i1]
    · show (if i = τ.1 then _ else ρ.2.2.2.1 i) = (if i = τ.1 then _ else τ.2.2.2.1 i) ∧ (if i = τ.1 then _ else ρ.2.2.2.2 i) = (if i = τ.1 then _ else τ.2.2.2.2 i)
      by_cases c2 : i = τ.1
      · rw [if_pos c2, if_pos c2, if_pos c2, if_pos c2]; exact ⟨rfl, rfl⟩
      · rw [if_neg c2, if_neg c2, if_neg c2, if_neg c2]
        have i1' : i < τ.1 + 1 := i1
        exact h4 i i0 (by omega)
theorem olN_at {σ : SaleT} (hw : wfS σ) {Ld : Int → Int} {ρ : riT} (h0 : ρ.1 = 0) (hg : ∀ i, 0 ≤ i → i < 4 → ρ.2.2.1 i = 0) : ∀ n : Nat, (n : Int) ≤ sNb σ → (olN σ Ld ρ n).1 = n ∧ ct0 (olN σ Ld ρ n).2.2.1 (sNb σ).toNat = sNb σ - n
  | 0, _ => by
    have hnb := hw.2.2.1
    refine ⟨h0, ?_⟩
    have : ∀ k : Nat, k ≤ 4 → ct0 ρ.2.2.1 k = k := by
      intro k
      induction k with
      | zero => intro _; rfl
      | succ k ih =>
        intro hk
        show ct0 ρ.2.2.1 k + (if ρ.2.2.1 k = 0 then 1 else 0) = ((k + 1 : Nat) : Int)
        rw [ih (by omega), hg k (by omega) (by omega), if_pos rfl]; omega
    show ct0 ρ.2.2.1 (sNb σ).toNat = sNb σ - 0
    rw [this _ (by omega)]; omega
  | n + 1, hn => by
    obtain ⟨e1, e2⟩ := olN_at hw (Ld := Ld) h0 hg n (by omega)
    have hnb := hw.2.2.1
    show (ol σ Ld (olN σ Ld ρ n)).1 = _ ∧ ct0 (ol σ Ld (olN σ Ld ρ n)).2.2.1 (sNb σ).toNat = _
    have c : ¬ ((wfl σ (olN σ Ld ρ n).2.2.1 Ld (sNb σ).toNat).1 = -1 ∨ 4 ≤ (olN σ Ld ρ n).1) := by
      rintro (c | c)
      · have := wfl_none _ c
        omega
      · omega
    have hi := wfl_in (σ := σ) (Gn := (olN σ Ld ρ n).2.2.1) (Ld := Ld) (sNb σ).toNat (fun h => c (Or.inl h))
    unfold ol
    rw [if_neg c]
    refine ⟨by dsimp only; omega, ?_⟩
    show ct0 (up (olN σ Ld ρ n).2.2.1 _ 1) (sNb σ).toNat = _
    rw [ct0_up hi.2.2 _ hi.1 hi.2.1]; omega
theorem olN_eq {σ : SaleT} (hw : wfS σ) {Ld : Int → Int} {ρ τ : riT} (h : riEq ρ τ) (h0 : ρ.1 = 0) (hg : ∀ i, 0 ≤ i → i < 4 → ρ.2.2.1 i = 0) : ∀ n : Nat, (n : Int) ≤ sNb σ → riEq (olN σ Ld ρ n) (olN σ Ld τ n)
  | 0, _ => h
  | n + 1, hn => ol_eq hw (olN_eq hw h h0 hg n (by omega)) (by rw [(olN_at hw h0 hg n (by omega)).1]; omega)
/-- the bids in the OPEN: left, price, gone, who left, at what -/
def olC (σ : SaleT) (Ld : Int → Int) (n : Nat) : riT := olN σ Ld (0, sLe σ, z0, z0, z0) n
def opW (σ : SaleT) (Ld : Int → Int) : Int := wnR (olC σ Ld (sNb σ - 1).toNat).2.2.1 (sNb σ).toNat
def opP (σ : SaleT) (Ld : Int → Int) : Int := (olC σ Ld (sNb σ - 1).toNat).2.1
def opL (σ : SaleT) (Ld : Int → Int) (i : Int) : Int := (olC σ Ld (sNb σ - 1).toNat).2.2.2.1 i
def opA (σ : SaleT) (Ld : Int → Int) (i : Int) : Int := (olC σ Ld (sNb σ - 1).toNat).2.2.2.2 i
theorem wnR_congr {Gn Gn' : Int → Int} : ∀ k : Nat, (∀ i : Nat, i < k → Gn i = Gn' i) → wnR Gn k = wnR Gn' k
  | 0, _ => rfl
  | k + 1, h => by
    unfold wnR
    rw [h k (by omega), wnR_congr k (fun i hi => h i (by omega))]
abbrev lfP (σ : SaleT) (Ld : Int → Int) : Prop := ∀ i : Nat, i < (sNb σ).toNat → Ld i < sSg σ
section
variable {l : Launch} {G : sw_G} {M : sw_M} {s : CSt} {k : Int}
theorem cUs_okC {lf wn pr : Int} {Lv La Gn Sn : Int → Int} : ∀ c ∈ cUs G lf wn pr Lv La Gn Sn, okC G M s c := by
  intro c hc
  simp only [List.mem_cons, List.not_mem_nil, or_false] at hc
  rcases hc with rfl | rfl | rfl | rfl | rfl
  · exact Or.inl ⟨by dsimp only; omega, by dsimp only; omega, lf, wn, pr, rfl⟩
  · exact Or.inl ⟨by dsimp only; omega, by dsimp only; omega, Lv, rfl⟩
  · exact Or.inl ⟨by dsimp only; omega, by dsimp only; omega, La, rfl⟩
  · exact Or.inl ⟨by dsimp only; omega, by dsimp only; omega, Gn, rfl⟩
  · exact Or.inl ⟨by dsimp only; omega, by dsimp only; omega, Sn, rfl⟩
theorem W_rise (hI : InvC G M s) (hs : stOK s) (hk : isS s k) : Kt l G μX3_rise [.ref (sw_al G 25), .ref (sw_al G (100 + 5 * k.toNat)), .ref (sw_al G 5)] M (fun r M' => r = none ∧ InvC G M' s ∧ frK [25, 26, 27, 28, 29] M M' ∧ ∃ lf Lv La Gn Sn, sw_hold M' (cUs G lf (opW (sl s k) (qD s)) (opP (sl s k) (qD s)) Lv La Gn Sn) ∧ ∀ i, 0 ≤ i → i < sNb (sl s k) - 1 → Lv i = opL (sl s k) (qD s) i ∧ La i = opA (sl s k) (qD s) i) := by
  obtain ⟨u, d, h5⟩ := hI.sale hk
  obtain ⟨lf, wn, pr, Lv, La, Gn, Sn, xU⟩ := hI.xU
  have hw := hs.sale hk
  have hnb := hw.2.2.1
  refine (K3_rise (by omega) xU h5 hI.2.2.2.1 hw hs.2.2.2.2.1).mono (fun r M' h => ?_)
  obtain ⟨Sn', u', d', rfl, rfl⟩ := h
  have hq : riEq (0, sLe (sl s k), fl Gn 0 4, Lv, La) (0, sLe (sl s k), z0, z0, z0) := ⟨rfl, rfl, fun i i0 i1 => by
    show fl Gn 0 4 i = 0
    rw [fl_at, if_pos ⟨i0, i1⟩], fun i i0 i1 => by have : i < 0 := i1; omega⟩
  have h0 : ∀ i, 0 ≤ i → i < 4 → fl Gn 0 4 i = 0 := fun i i0 i1 => by rw [fl_at, if_pos ⟨i0, i1⟩]
  have he := olN_eq hw (Ld := qD s) hq rfl h0 (sNb (sl s k) - 1).toNat (by omega)
  have ha := olN_at hw (Ld := qD s) (ρ := (0, sLe (sl s k), fl Gn 0 4, Lv, La)) rfl h0 (sNb (sl s k) - 1).toNat (by omega)
  obtain ⟨ρ, hρ⟩ : ∃ ρ, olN (sl s k) (qD s) (0, sLe (sl s k), fl Gn 0 4, Lv, La) (sNb (sl s k) - 1).toNat = ρ := ⟨_, rfl⟩
  have hρ' : olN (qS s k.toNat) (qD s) (0, sLe (qS s k.toNat), fl Gn 0 4, Lv, La) (sNb (qS s k.toNat) - 1).toNat = ρ := hρ
  rw [hρ] at he ha
  obtain ⟨e1, e2, e3, e4⟩ := he
  have ew : wnR ρ.2.2.1 (sNb (sl s k)).toNat = opW (sl s k) (qD s) := wnR_congr _ (fun i hi => e3 i (by omega) (by omega))
  have ep : ρ.2.1 = opP (sl s k) (qD s) := e2
  rw [hρ', ep]
  rw [show wnR ρ.2.2.1 (sNb (qS s k.toNat)).toNat = opW (sl s k) (qD s) from ew]
  refine ⟨rfl, hI.ov (fun c hc => ?_), frK.ov (fun t ht => ?_), ρ.1, ρ.2.2.2.1, ρ.2.2.2.2, ρ.2.2.1, Sn', sw_hold1 rfl (sw_hold1 rfl (sw_hold1 rfl (sw_hold1 rfl (sw_hold1 rfl sw_hold0)))), fun i i0 i1 => e4 i i0 (by omega)⟩
  · rcases List.mem_append.mp hc with hc | hc
    · exact cUs_okC c hc
    · rw [List.mem_singleton.mp hc]; exact okS hk u' d'
  · simp only [List.cons_append, List.nil_append, List.map_cons, List.map_nil, List.mem_cons, List.not_mem_nil, or_false] at ht
    rcases ht with rfl | rfl | rfl | rfl | rfl | rfl
    · exact Or.inl (by decide)
    · exact Or.inl (by decide)
    · exact Or.inl (by decide)
    · exact Or.inl (by decide)
    · exact Or.inl (by decide)
    · exact Or.inr (by omega)
theorem F9_lay {seat sign : Int} (hI : InvC G M s) (hc : (0 ≤ seat ∧ seat < 4) ∧ 0 ≤ sign ∧ sign < 5) : Kt l G μX9_lay [.ref (sw_al G 0), sw_i seat, sw_i sign] M (fun r M' => r = some (sw_i 1) ∧ InvC G M' (sD s (up (qD s) seat sign)) ∧ frC M M') := by
  refine KtA.of (by decide +kernel) (Nat.le_of_ble_eq_true rfl) ?_
  have i0 := hI.1
  have i5 := hI.2.2.2.1
  obtain ⟨⟨c1, c2⟩, c3, c4⟩ := hc
  refine v_iload_n dX9_lay_0 rfl ?_
  refine v_if_lt (tgt := 18) dX9_lay_1 (by decide) ⟨by omega, by omega⟩ (fun h1 => ?_) (fun h1 => ?_)
  · skip
    exfalso; omega
  · skip
    refine v_iload_n dX9_lay_4 rfl ?_
    refine v_iconst dX9_lay_5 ?_
    refine v_icmp_ge (tgt := 18) dX9_lay_6 (by decide) ⟨by omega, by omega⟩ ⟨by omega, by omega⟩ (fun h6 => ?_) (fun h6 => ?_)
    · skip
      exfalso; omega
    · skip
      refine v_iload_n dX9_lay_9 rfl ?_
      refine v_if_lt (tgt := 18) dX9_lay_10 (by decide) ⟨by omega, by omega⟩ (fun h10 => ?_) (fun h10 => ?_)
      · skip
        exfalso; omega
      · skip
        refine v_iload_n dX9_lay_13 rfl ?_
        refine v_iconst dX9_lay_14 ?_
        refine v_icmp_lt (tgt := 20) dX9_lay_15 (by decide) ⟨by omega, by omega⟩ ⟨by omega, by omega⟩ (fun h15 => ?_) (fun h15 => ?_)
        · skip
          refine v_aload_n dX9_lay_20 rfl ?_
          refine v_getfH 5 i0 fl_X9_33 rfl dX9_lay_21 ?_
          refine v_iload_n dX9_lay_24 rfl ?_
          refine v_iload_n dX9_lay_25 rfl ?_
          refine v_iastH i5 (Nat.le_of_ble_eq_true rfl) (by omega) (by omega) dX9_lay_26 ?_
          refine v_iconst dX9_lay_27 ?_
          exact v_zret rfl dX9_lay_28 rfl (Nat.le_refl _) (Nat.le_refl _) (⟨rfl, hI.setD _, frC.ov (fun c hc => by rw [List.mem_singleton.mp hc]; exact Or.inl (by dsimp only; omega))⟩)
        · skip
          exfalso; omega
theorem F9_layX {seat sign : Int} (hI : InvC G M s) (hc : ¬ ((0 ≤ seat ∧ seat < 4) ∧ 0 ≤ sign ∧ sign < 5)) (g1 : sw_rg seat) (g2 : sw_rg sign) : Kt l G μX9_lay [.ref (sw_al G 0), sw_i seat, sw_i sign] M (fun r M' => r = some (sw_i 0) ∧ InvC G M' s ∧ frC M M') := by
  refine KtA.of (by decide +kernel) (Nat.le_of_ble_eq_true rfl) ?_
  obtain ⟨g3, g4⟩ := g1
  obtain ⟨g5, g6⟩ := g2
  refine v_iload_n dX9_lay_0 rfl ?_
  refine v_if_lt (tgt := 18) dX9_lay_1 (by decide) ⟨by omega, by omega⟩ (fun h1 => ?_) (fun h1 => ?_)
  · skip
    refine v_iconst dX9_lay_18 ?_
    exact v_zret rfl dX9_lay_19 rfl (Nat.le_refl _) (Nat.le_refl _) (⟨rfl, hI, frC.rf⟩)
  · skip
    refine v_iload_n dX9_lay_4 rfl ?_
    refine v_iconst dX9_lay_5 ?_
    refine v_icmp_ge (tgt := 18) dX9_lay_6 (by decide) ⟨by omega, by omega⟩ ⟨by omega, by omega⟩ (fun h6 => ?_) (fun h6 => ?_)
    · skip
      refine v_iconst dX9_lay_18 ?_
      exact v_zret rfl dX9_lay_19 rfl (Nat.le_refl _) (Nat.le_refl _) (⟨rfl, hI, frC.rf⟩)
    · skip
      refine v_iload_n dX9_lay_9 rfl ?_
      refine v_if_lt (tgt := 18) dX9_lay_10 (by decide) ⟨by omega, by omega⟩ (fun h10 => ?_) (fun h10 => ?_)
      · skip
        refine v_iconst dX9_lay_18 ?_
        exact v_zret rfl dX9_lay_19 rfl (Nat.le_refl _) (Nat.le_refl _) (⟨rfl, hI, frC.rf⟩)
      · skip
        refine v_iload_n dX9_lay_13 rfl ?_
        refine v_iconst dX9_lay_14 ?_
        refine v_icmp_lt (tgt := 20) dX9_lay_15 (by decide) ⟨by omega, by omega⟩ ⟨by omega, by omega⟩ (fun h15 => ?_) (fun h15 => ?_)
        · skip
          exfalso; omega
        · skip
          refine v_iconst dX9_lay_18 ?_
          exact v_zret rfl dX9_lay_19 rfl (Nat.le_refl _) (Nat.le_refl _) (⟨rfl, hI, frC.rf⟩)
theorem F9_open {what : Int} (hI : InvC G M s) (hs : stOK s) (hk : isS s k) (g2 : sw_rg what) : Kt l G μX9_open [.ref (sw_al G 0), sw_i k, sw_i what] M (fun r M' => r = some (sw_i (if (what = 0 ∨ what = 1) ∧ lfP (sl s k) (qD s) then (if what = 0 then opW (sl s k) (qD s) else opP (sl s k) (qD s)) else -1)) ∧ InvC G M' s ∧ frC M M') := by
  refine KtA.of (by decide +kernel) (Nat.le_of_ble_eq_true rfl) ?_
  have i0 := hI.1
  obtain ⟨hk0, hk1⟩ := id hk
  have hw := hs.sale hk
  have hns : qN s ≤ 8 := hs.2.1
  obtain ⟨u, d, h5⟩ := hI.sale hk
  refine v_aload_n dX9_open_0 rfl ?_
  refine v_iload_n dX9_open_1 rfl ?_
  refine v_callV (ci := 9) (K9_saleAt (ns := qN s) (nt := qT s) (k := k) i0 hI.2.1 hns hk) ⟨rfl, rfl⟩ (Nat.le_refl _) (Nat.le_refl _) i0 rfl ⟨ml_X9_104, mm_X9_saleAt⟩ ⟨(Nat.le_of_ble_eq_true rfl), (Nat.le_of_ble_eq_true rfl)⟩ mp_X9_saleAt rfl rfl (Nat.le_of_ble_eq_true rfl) dX9_open_2 (fun r M' h => ?_)
  obtain ⟨rfl, rfl⟩ := h
  refine v_astore_n dX9_open_5 (Nat.le_of_ble_eq_true rfl) ?_
  refine v_aload_n dX9_open_6 rfl ?_
  refine v_ifnull dX9_open_7 ?_
  refine v_iload_n dX9_open_10 rfl ?_
  refine v_callS (K9_isHalf (k := what) g2) ⟨rfl, rfl⟩ (Nat.le_refl _) (Nat.le_refl _) ⟨ml_X9_149, mm_X9_isHalf⟩ ⟨(Nat.le_of_ble_eq_true rfl), (Nat.le_of_ble_eq_true rfl)⟩ mp_X9_isHalf rfl rfl (Nat.le_of_ble_eq_true rfl) dX9_open_11 (fun r M' h => ?_)
  obtain ⟨rfl, rfl⟩ := h
  refine v_ifb_eq (tgt := 25) dX9_open_14 (by decide) (fun q1 => ?_) (fun q1 => ?_)
  · skip
    refine v_iconst dX9_open_25 ?_
    exact v_iret dX9_open_26 rfl (Nat.le_refl _) (Nat.le_refl _) (⟨by rw [if_neg (fun h => q1 h.1)], hI, frC.rf⟩)
  · skip
    refine v_aload_n dX9_open_17 rfl ?_
    refine v_aload_n dX9_open_18 rfl ?_
    refine v_callV (ci := 9) (K9_laidFor (b := 100 + 5 * k.toNat) (by omega) (nt := qT s) i0 h5.hd hI.2.2.2.1 hw hs.2.2.2.2.1) ⟨rfl, rfl⟩ (Nat.le_refl _) (Nat.le_refl _) i0 rfl ⟨ml_X9_284, mm_X9_laidFor⟩ ⟨(Nat.le_of_ble_eq_true rfl), (Nat.le_of_ble_eq_true rfl)⟩ mp_X9_laidFor rfl rfl (Nat.le_of_ble_eq_true rfl) dX9_open_19 (fun r M' h => ?_)
    obtain ⟨rfl, rfl⟩ := h
    refine v_ifb_ne (tgt := 27) dX9_open_22 (by decide) (fun q2 => ?_) (fun q2 => ?_)
    · skip
      refine v_aload_n dX9_open_27 rfl ?_
      refine v_getfH 11 i0 fl_X9_74 rfl dX9_open_28 ?_
      refine v_aload_n dX9_open_31 rfl ?_
      refine v_aload_n dX9_open_32 rfl ?_
      refine v_getfH 5 i0 fl_X9_33 rfl dX9_open_33 ?_
      obtain ⟨lf, wn, pr, Lv, La, Gn, Sn, xU⟩ := hI.xU
      refine v_callV (ci := 3) (W_rise hI hs hk) ⟨rfl, rfl⟩ (Nat.le_refl _) (Nat.le_refl _) xU.hd rfl ⟨ml_X9_288, mm_X3_rise⟩ ⟨(Nat.le_of_ble_eq_true rfl), (Nat.le_of_ble_eq_true rfl)⟩ mp_X3_rise rfl rfl (Nat.le_of_ble_eq_true rfl) dX9_open_36 (fun r M1 h => ?_)
      obtain ⟨rfl, hI1, f1, lf1, Lv1, La1, Gn1, Sn1, xU1, e1⟩ := h
      refine v_iload_n dX9_open_39 rfl ?_
      refine v_if_ne (tgt := 53) dX9_open_40 (by decide) ⟨by have := g2.1; omega, by have := g2.2; omega⟩ (fun q3 => ?_) (fun q3 => ?_)
      · skip
        refine v_aload_n dX9_open_53 rfl ?_
        refine v_getfH 11 hI1.1 fl_X9_74 rfl dX9_open_54 ?_
        refine v_getfH 6 xU1.hd fl_X9_295 rfl dX9_open_57 ?_
        exact v_iret dX9_open_60 rfl (Nat.le_refl _) (Nat.le_refl _) (⟨by rw [if_pos (show (what = 0 ∨ what = 1) ∧ lfP (sl s k) (qD s) from ⟨q1, q2⟩), if_neg q3], hI1, f1.c (by decide)⟩)
      · skip
        refine v_aload_n dX9_open_43 rfl ?_
        refine v_getfH 11 hI1.1 fl_X9_74 rfl dX9_open_44 ?_
        refine v_getfH 5 xU1.hd fl_X9_292 rfl dX9_open_47 ?_
        refine v_goto (tgt := 60) dX9_open_50 (by decide) ?_
        exact v_iret dX9_open_60 rfl (Nat.le_refl _) (Nat.le_refl _) (⟨by rw [if_pos (show (what = 0 ∨ what = 1) ∧ lfP (sl s k) (qD s) from ⟨q1, q2⟩), if_pos q3], hI1, f1.c (by decide)⟩)
    · skip
      refine v_iconst dX9_open_25 ?_
      exact v_iret dX9_open_26 rfl (Nat.le_refl _) (Nat.le_refl _) (⟨by rw [if_neg (fun h => q2 h.2)], hI, frC.rf⟩)
theorem F9_openN {what : Int} (hI : InvC G M s) (hs : stOK s) (hk : ¬ isS s k) (hg : sw_rg k) : Kt l G μX9_open [.ref (sw_al G 0), sw_i k, sw_i what] M (fun r M' => r = some (sw_i (-1)) ∧ InvC G M' s ∧ frC M M') := by
  refine KtA.of (by decide +kernel) (Nat.le_of_ble_eq_true rfl) ?_
  have i0 := hI.1
  have hns : qN s ≤ 8 := hs.2.1
  refine v_aload_n dX9_open_0 rfl ?_
  refine v_iload_n dX9_open_1 rfl ?_
  refine v_callV (ci := 9) (K9_saleAtN (ns := qN s) (nt := qT s) (k := k) i0 hns hk hg) ⟨rfl, rfl⟩ (Nat.le_refl _) (Nat.le_refl _) i0 rfl ⟨ml_X9_104, mm_X9_saleAt⟩ ⟨(Nat.le_of_ble_eq_true rfl), (Nat.le_of_ble_eq_true rfl)⟩ mp_X9_saleAt rfl rfl (Nat.le_of_ble_eq_true rfl) dX9_open_2 (fun r M' h => ?_)
  obtain ⟨rfl, rfl⟩ := h
  refine v_astore_nN dX9_open_5 (Nat.le_of_ble_eq_true rfl) ?_
  refine v_aload_nN dX9_open_6 rfl ?_
  refine v_ifnullN (tgt := 25) dX9_open_7 (by decide) ?_
  refine v_iconst dX9_open_25 ?_
  exact v_iret dX9_open_26 rfl (Nat.le_refl _) (Nat.le_refl _) (⟨rfl, hI, frC.rf⟩)
theorem F9_leaves {i what : Int} (hI : InvC G M s) (hs : stOK s) (hk : isS s k) (g1 : sw_rg i) (g2 : sw_rg what) : Kt l G μX9_leaves [.ref (sw_al G 0), sw_i k, sw_i i, sw_i what] M (fun r M' => r = some (sw_i (if ((what = 0 ∨ what = 1) ∧ 0 ≤ i ∧ i < sNb (sl s k) - 1) ∧ lfP (sl s k) (qD s) then (if what = 0 then opL (sl s k) (qD s) i else opA (sl s k) (qD s) i) else -1)) ∧ InvC G M' s ∧ frC M M') := by
  refine KtA.of (by decide +kernel) (Nat.le_of_ble_eq_true rfl) ?_
  have i0 := hI.1
  obtain ⟨hk0, hk1⟩ := id hk
  have hw := hs.sale hk
  have hnb := hw.2.2.1
  have hns : qN s ≤ 8 := hs.2.1
  obtain ⟨u, d, h5⟩ := hI.sale hk
  obtain ⟨g3, g4⟩ := g1
  refine v_aload_n dX9_leaves_0 rfl ?_
  refine v_iload_n dX9_leaves_1 rfl ?_
  refine v_callV (ci := 9) (K9_saleAt (ns := qN s) (nt := qT s) (k := k) i0 hI.2.1 hns hk) ⟨rfl, rfl⟩ (Nat.le_refl _) (Nat.le_refl _) i0 rfl ⟨ml_X9_104, mm_X9_saleAt⟩ ⟨(Nat.le_of_ble_eq_true rfl), (Nat.le_of_ble_eq_true rfl)⟩ mp_X9_saleAt rfl rfl (Nat.le_of_ble_eq_true rfl) dX9_leaves_2 (fun r M' h => ?_)
  obtain ⟨rfl, rfl⟩ := h
  refine v_astore dX9_leaves_5 (Nat.le_of_ble_eq_true rfl) ?_
  refine v_aload dX9_leaves_7 rfl ?_
  refine v_ifnull dX9_leaves_9 ?_
  refine v_iload_n dX9_leaves_12 rfl ?_
  refine v_callS (K9_isHalf (k := what) g2) ⟨rfl, rfl⟩ (Nat.le_refl _) (Nat.le_refl _) ⟨ml_X9_149, mm_X9_isHalf⟩ ⟨(Nat.le_of_ble_eq_true rfl), (Nat.le_of_ble_eq_true rfl)⟩ mp_X9_isHalf rfl rfl (Nat.le_of_ble_eq_true rfl) dX9_leaves_13 (fun r M' h => ?_)
  obtain ⟨rfl, rfl⟩ := h
  refine v_ifb_eq (tgt := 43) dX9_leaves_16 (by decide) (fun q1 => ?_) (fun q1 => ?_)
  · skip
    refine v_iconst dX9_leaves_43 ?_
    exact v_iret dX9_leaves_44 rfl (Nat.le_refl _) (Nat.le_refl _) (⟨by rw [if_neg (fun h => q1 h.1.1)], hI, frC.rf⟩)
  · skip
    refine v_iload_n dX9_leaves_19 rfl ?_
    refine v_if_lt (tgt := 43) dX9_leaves_20 (by decide) ⟨by omega, by omega⟩ (fun q4 => ?_) (fun q4 => ?_)
    · skip
      refine v_iconst dX9_leaves_43 ?_
      exact v_iret dX9_leaves_44 rfl (Nat.le_refl _) (Nat.le_refl _) (⟨by rw [if_neg (fun h => by have := q4; omega)], hI, frC.rf⟩)
    · skip
      refine v_iload_n dX9_leaves_23 rfl ?_
      refine v_aload dX9_leaves_24 rfl ?_
      refine v_getfH 6 h5.hd fl_X9_114 rfl dX9_leaves_26 ?_
      refine v_iconst dX9_leaves_29 ?_
      refine v_isub dX9_leaves_30 ?_
      refine v_icmp_ge (tgt := 43) dX9_leaves_31 (by decide) ⟨by omega, by omega⟩ ⟨by omega, by omega⟩ (fun q5 => ?_) (fun q5 => ?_)
      · skip
        refine v_iconst dX9_leaves_43 ?_
        exact v_iret dX9_leaves_44 rfl (Nat.le_refl _) (Nat.le_refl _) (⟨by rw [if_neg (fun h => by have := q5; omega)], hI, frC.rf⟩)
      · skip
        refine v_aload_n dX9_leaves_34 rfl ?_
        refine v_aload dX9_leaves_35 rfl ?_
        refine v_callV (ci := 9) (K9_laidFor (b := 100 + 5 * k.toNat) (by omega) (nt := qT s) i0 h5.hd hI.2.2.2.1 hw hs.2.2.2.2.1) ⟨rfl, rfl⟩ (Nat.le_refl _) (Nat.le_refl _) i0 rfl ⟨ml_X9_284, mm_X9_laidFor⟩ ⟨(Nat.le_of_ble_eq_true rfl), (Nat.le_of_ble_eq_true rfl)⟩ mp_X9_laidFor rfl rfl (Nat.le_of_ble_eq_true rfl) dX9_leaves_37 (fun r M' h => ?_)
        obtain ⟨rfl, rfl⟩ := h
        refine v_ifb_ne (tgt := 45) dX9_leaves_40 (by decide) (fun q2 => ?_) (fun q2 => ?_)
        · skip
          refine v_aload_n dX9_leaves_45 rfl ?_
          refine v_getfH 11 i0 fl_X9_74 rfl dX9_leaves_46 ?_
          refine v_aload dX9_leaves_49 rfl ?_
          refine v_aload_n dX9_leaves_51 rfl ?_
          refine v_getfH 5 i0 fl_X9_33 rfl dX9_leaves_52 ?_
          obtain ⟨lf, wn, pr, Lv, La, Gn, Sn, xU⟩ := hI.xU
          refine v_callV (ci := 3) (W_rise hI hs hk) ⟨rfl, rfl⟩ (Nat.le_refl _) (Nat.le_refl _) xU.hd rfl ⟨ml_X9_288, mm_X3_rise⟩ ⟨(Nat.le_of_ble_eq_true rfl), (Nat.le_of_ble_eq_true rfl)⟩ mp_X3_rise rfl rfl (Nat.le_of_ble_eq_true rfl) dX9_leaves_55 (fun r M1 h => ?_)
          obtain ⟨rfl, hI1, f1, lf1, Lv1, La1, Gn1, Sn1, xU1, e1⟩ := h
          have e2 := e1 i (by omega) (by omega)
          refine v_iload_n dX9_leaves_58 rfl ?_
          refine v_if_ne (tgt := 74) dX9_leaves_59 (by decide) ⟨by have := g2.1; omega, by have := g2.2; omega⟩ (fun q3 => ?_) (fun q3 => ?_)
          · skip
            refine v_aload_n dX9_leaves_74 rfl ?_
            refine v_getfH 11 hI1.1 fl_X9_74 rfl dX9_leaves_75 ?_
            refine v_getfH 1 xU1.hd fl_X9_301 rfl dX9_leaves_78 ?_
            refine v_iload_n dX9_leaves_81 rfl ?_
            refine v_ialdH xU1.tl.tl.hd (Nat.le_of_ble_eq_true rfl) (by omega) (by omega) dX9_leaves_82 ?_
            exact v_iret dX9_leaves_83 rfl (Nat.le_refl _) (Nat.le_refl _) (⟨by rw [if_pos (show ((what = 0 ∨ what = 1) ∧ 0 ≤ i ∧ i < sNb (sl s k) - 1) ∧ lfP (sl s k) (qD s) from ⟨⟨q1, by omega, by omega⟩, q2⟩), if_neg q3, e2.2], hI1, f1.c (by decide)⟩)
          · skip
            refine v_aload_n dX9_leaves_62 rfl ?_
            refine v_getfH 11 hI1.1 fl_X9_74 rfl dX9_leaves_63 ?_
            refine v_getfH 0 xU1.hd fl_X9_298 rfl dX9_leaves_66 ?_
            refine v_iload_n dX9_leaves_69 rfl ?_
            refine v_ialdH xU1.tl.hd (Nat.le_of_ble_eq_true rfl) (by omega) (by omega) dX9_leaves_70 ?_
            refine v_goto (tgt := 83) dX9_leaves_71 (by decide) ?_
            exact v_iret dX9_leaves_83 rfl (Nat.le_refl _) (Nat.le_refl _) (⟨by rw [if_pos (show ((what = 0 ∨ what = 1) ∧ 0 ≤ i ∧ i < sNb (sl s k) - 1) ∧ lfP (sl s k) (qD s) from ⟨⟨q1, by omega, by omega⟩, q2⟩), if_pos q3, e2.1], hI1, f1.c (by decide)⟩)
        · skip
          refine v_iconst dX9_leaves_43 ?_
          exact v_iret dX9_leaves_44 rfl (Nat.le_refl _) (Nat.le_refl _) (⟨by rw [if_neg (fun h => q2 h.2)], hI, frC.rf⟩)
theorem F9_leavesN {i what : Int} (hI : InvC G M s) (hs : stOK s) (hk : ¬ isS s k) (hg : sw_rg k) : Kt l G μX9_leaves [.ref (sw_al G 0), sw_i k, sw_i i, sw_i what] M (fun r M' => r = some (sw_i (-1)) ∧ InvC G M' s ∧ frC M M') := by
  refine KtA.of (by decide +kernel) (Nat.le_of_ble_eq_true rfl) ?_
  have i0 := hI.1
  have hns : qN s ≤ 8 := hs.2.1
  refine v_aload_n dX9_leaves_0 rfl ?_
  refine v_iload_n dX9_leaves_1 rfl ?_
  refine v_callV (ci := 9) (K9_saleAtN (ns := qN s) (nt := qT s) (k := k) i0 hns hk hg) ⟨rfl, rfl⟩ (Nat.le_refl _) (Nat.le_refl _) i0 rfl ⟨ml_X9_104, mm_X9_saleAt⟩ ⟨(Nat.le_of_ble_eq_true rfl), (Nat.le_of_ble_eq_true rfl)⟩ mp_X9_saleAt rfl rfl (Nat.le_of_ble_eq_true rfl) dX9_leaves_2 (fun r M' h => ?_)
  obtain ⟨rfl, rfl⟩ := h
  refine v_astoreN dX9_leaves_5 (Nat.le_of_ble_eq_true rfl) ?_
  refine v_aloadN dX9_leaves_7 rfl ?_
  refine v_ifnullN (tgt := 43) dX9_leaves_9 (by decide) ?_
  refine v_iconst dX9_leaves_43 ?_
  exact v_iret dX9_leaves_44 rfl (Nat.le_refl _) (Nat.le_refl _) (⟨rfl, hI, frC.rf⟩)
end

