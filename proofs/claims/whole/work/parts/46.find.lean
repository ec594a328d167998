/-! the face: find -/
abbrev sB (s : CSt) (T : Int → Int) : CSt := (qF s, qL s, qN s, qS s, qT s, T, qD s, qM s, qK s, qR s, qG s)
theorem InvC.setB {G : sw_G} {M : sw_M} {s : CSt} (hI : InvC G M s) (T : Int → Int) : InvC G (sw_ov M [cTb T]) (sB s T) := by
  obtain ⟨i0, i3, i4, i5, i2, ⟨a, wr, i1⟩, ⟨sg, tr, nb, le, wy, Va, Wa, Oa, St, u, d, id'⟩, is', ⟨b, x, so, Sg, il⟩, ic⟩ := hI
  have fx : ∀ (t : Nat) (ob : sw_Ob), t ≠ 4 → M t = some ob → sw_ov M [cTb T] t = some ob := fun t ob h hm => (if_neg h).trans hm
  have fxH : ∀ l, sw_hold M l → (∀ c ∈ l, c.1 ≠ 4) → sw_hold (sw_ov M [cTb T]) l := fun l hl hx c hc => fx _ _ (hx c hc) (hl c hc)
  refine ⟨fx _ _ (by omega) i0, fx _ _ (by omega) i3, rfl, fx _ _ (by omega) i5, fx _ _ (by omega) i2, ⟨a, wr, fx _ _ (by omega) i1⟩, ⟨sg, tr, nb, le, wy, Va, Wa, Oa, St, u, d, fxH _ id' ?_⟩, fun k hk => ?_, ⟨b, x, so, Sg, fxH _ il ?_⟩, fun t h1 h2 => ?_⟩
  · intro c hcl
    simp only [List.mem_cons, List.not_mem_nil, or_false] at hcl
    rcases hcl with rfl | rfl | rfl | rfl | rfl <;> (dsimp only; omega)
  · obtain ⟨u', d', hu⟩ := is' k hk
    refine ⟨u', d', fxH _ hu ?_⟩
    intro c hcl
    simp only [List.mem_cons, List.not_mem_nil, or_false] at hcl
    rcases hcl with rfl | rfl | rfl | rfl | rfl <;> (dsimp only; omega)
  · intro c hcl
    simp only [List.mem_cons, List.not_mem_nil, or_false] at hcl
    rcases hcl with rfl | rfl | rfl | rfl <;> (dsimp only; omega)
  · obtain ⟨ob, g1, g2⟩ := ic t h1 h2
    exact ⟨ob, fx _ _ (by omega) g1, g2⟩
/-- what a turn leads to -/
def trF (σ : SaleT) (N : Int → Int) (j : Int) : Int := pk (RG σ (fun _ i => N i) (pS σ j) (sNb σ - 1).toNat) 60
theorem RG_congr {σ : SaleT} (hw : wfS σ) {f f' : Int → Int → Int} {P0 : Int → Int} {n : Nat} (h : ∀ p i, 0 ≤ p → p < (n : Int) → 0 ≤ i → i < sSg σ → f p i = f' p i) (j : Int) : RG σ f P0 n j = RG σ f' P0 n j := by
  refine rvg_eq hw (fun i k hi k0 k1 => ?_) (fun _ _ _ => rfl) z0 j
  rw [rwF_at _ _ k k0 (by have := hw.1; omega), rwF_at _ _ k k0 (by have := hw.1; omega)]
  exact h i k (by omega) (by omega) k0 k1
theorem trF_congr {σ : SaleT} (hw : wfS σ) {N N' : Int → Int} (h : ∀ i, 0 ≤ i → i < sSg σ → N i = N' i) (j : Int) : trF σ N j = trF σ N' j := by
  unfold trF
  exact pk_congr 60 (Nat.le_refl _) (fun i _ => RG_congr hw (fun p i _ _ i0 i1 => h i i0 i1) i)
theorem trF_bd {σ : SaleT} (N : Int → Int) (j : Int) : 0 ≤ trF σ N j ∧ trF σ N j ≤ 60 := by
  unfold trF
  have := pk_bd (RG σ (fun _ i => N i) (pS σ j) (sNb σ - 1).toNat) 60
  omega
/-- the rows of FIND, turn by turn -/
def rhF (σ : SaleT) : Nat → (Int → Int)
  | 0 => fun j => hld σ j (-1) (-1) (-1)
  | n + 1 => trF σ (rhF σ n)
theorem rhF_bd {σ : SaleT} (hw : wfS σ) : ∀ (n : Nat) (j : Int), 0 ≤ rhF σ n j ∧ rhF σ n j ≤ 60
  | 0, j => hld_bd hw _ _ _ _
  | n + 1, j => trF_bd _ _
/-- how turn n ends -/
def enT (σ : SaleT) (n : Nat) : Int := enN (fun i => rhF σ (i / 5).toNat (i % 5)) (rhF σ n) (sSg σ).toNat n n
/-- how it ends and at which turn, from turn n on with so many left -/
def fnd (σ : SaleT) : Nat → Nat → Int × Nat
  | 0, n => (2, n)
  | f + 1, n => if enT σ (n + 1) = 2 then fnd σ f (n + 1) else (enT σ (n + 1), n + 1)
theorem enN_congr {Rw Rw' Nx Nx' : Int → Int} {sg kp : Nat} : ∀ n : Nat, (∀ i k : Nat, i < n → k < sg → Rw ((i : Int) * 5 + k) = Rw' ((i : Int) * 5 + k)) → (∀ k : Nat, k < sg → Nx k = Nx' k) → enN Rw Nx sg kp n = enN Rw' Nx' sg kp n
  | 0, _, _ => rfl
  | n + 1, h, h2 => by
    have e : eqP (fun k => Rw ((n : Int) * 5 + k)) Nx sg ↔ eqP (fun k => Rw' ((n : Int) * 5 + k)) Nx' sg := by
      constructor
      · intro hh k hk
        have := hh k hk
        dsimp only at this ⊢
        rw [← h n k (by omega) hk, ← h2 k hk]; exact this
      · intro hh k hk
        have := hh k hk
        dsimp only at this ⊢
        rw [h n k (by omega) hk, h2 k hk]; exact this
    unfold enN
    rw [enN_congr n (fun i k hi hk => h i k (by omega) hk) h2]
    by_cases c : eqP (fun k => Rw ((n : Int) * 5 + k)) Nx sg
    · rw [if_pos c, if_pos (e.mp c)]
    · rw [if_neg c, if_neg (fun x => c (e.mpr x))]
section
variable {l : Launch} {G : sw_G} {M : sw_M} {s : CSt} {k : Int}
theorem cNs_fr {L : List Nat} {M M' : sw_M} {sg kp en : Int} {Rw Nw Nx : Int → Int} (h : sw_hold M (cNs G sg kp en Rw Nw Nx)) (f : frK L M M') (hx : ∀ t ∈ [21, 22, 23, 24], t ∉ L) : sw_hold M' (cNs G sg kp en Rw Nw Nx) :=
  sw_hold1 ((f 21 (by omega) (hx 21 (by simp))).trans h.hd) (sw_hold1 ((f 22 (by omega) (hx 22 (by simp))).trans h.tl.hd) (sw_hold1 ((f 23 (by omega) (hx 23 (by simp))).trans h.tl.tl.hd) (sw_hold1 ((f 24 (by omega) (hx 24 (by simp))).trans h.tl.tl.tl.hd) sw_hold0)))
theorem cNs_up {sg kp en : Int} {Rw Nw Nx f : Int → Int} (h : sw_hold M (cNs G sg kp en Rw Nw Nx)) : sw_hold (sw_ov M [(24, sw_ia 5 f)]) (cNs G sg kp en Rw Nw f) := sw_hold1 h.hd (sw_hold1 h.tl.hd (sw_hold1 h.tl.tl.hd (sw_hold1 rfl sw_hold0)))
theorem InvC.up24 (hI : InvC G M s) (f : Int → Int) : InvC G (sw_ov M [(24, sw_ia 5 f)]) s := hI.ov (fun c hc => by
  rw [List.mem_singleton.mp hc]
  exact Or.inl ⟨by dsimp only; omega, by dsimp only; omega, f, rfl⟩)
theorem frK.up {L : List Nat} {t : Nat} {x : sw_Ob} (h : t ∈ L) : frK L M (sw_ov M [(t, x)]) := frK.ov (fun q hq => by
  rw [List.mem_singleton.mp hq]; exact Or.inl h)
theorem W_turnOf {sg kp en : Int} {Rw Nw Nx : Int → Int} (hI : InvC G M s) (hs : stOK s) (hk : isS s k) (hT : sw_hold M (cNs G sg kp en Rw Nw Nx)) (hN : ∀ i, 0 ≤ i → i < sSg (sl s k) → 0 ≤ Nw i ∧ Nw i ≤ 60) : Kt l G μX9_turnOf [.ref (sw_al G 0), .ref (sw_al G (100 + 5 * k.toNat))] M (fun r M' => r = none ∧ InvC G M' s ∧ frK [6, 7, 8, 9, 14, 15, 16, 17, 24] M M' ∧ ∃ Nx', sw_hold M' (cNs G sg kp en Rw Nw Nx') ∧ ∀ i, 0 ≤ i → i < sSg (sl s k) → Nx' i = trF (sl s k) Nw i) := by
  refine KtA.of (by decide +kernel) (Nat.le_of_ble_eq_true rfl) ?_
  have i0 := hI.1
  obtain ⟨hk0, hk1⟩ := id hk
  have hw := hs.sale hk
  have hsg := hw.1
  have hnb := hw.2.2.1
  obtain ⟨m, hm⟩ : ∃ m : Nat, (m : Int) = sNb (sl s k) - 1 := ⟨(sNb (sl s k) - 1).toNat, by omega⟩
  obtain ⟨Zq, hZ⟩ : ∃ Zq : Option Value → sw_M → Prop, Zq = (fun r M' => r = none ∧ InvC G M' s ∧ frK [6, 7, 8, 9, 14, 15, 16, 17, 24] M M' ∧ ∃ Nx', sw_hold M' (cNs G sg kp en Rw Nw Nx') ∧ ∀ i, 0 ≤ i → i < sSg (sl s k) → Nx' i = trF (sl s k) Nw i) := ⟨_, rfl⟩
  rw [← hZ]
  have loop : ∀ (n : Nat) (i : Int) (M1 : sw_M) (Nx1 : Int → Int), 0 ≤ i → i + n = sSg (sl s k) → InvC G M1 s → frK [6, 7, 8, 9, 14, 15, 16, 17, 24] M M1 → sw_hold M1 (cNs G sg kp en Rw Nw Nx1) → rowIs M1 (fun _ i => Nw i) (sNb (sl s k) - 1) (sSg (sl s k)) → (∀ j, 0 ≤ j → j < i → Nx1 j = trF (sl s k) Nw j) → V l G μX9_turnOf sw_E0 (sw_Zq G μX9_turnOf (sw_q0 G Zq)) 54 [(0, .ref (sw_al G 0)), (1, .ref (sw_al G (100 + 5 * k.toNat))), (2, sw_i i)] [] M1 0 0 := by
    intro n
    induction n with
    | zero =>
      intro i M1 Nx1 i0 i1 hI1 f1 hT1 r1 hX
      have e : i = sSg (sl s k) := by omega
      subst e
      obtain ⟨u1, d1, h51⟩ := hI1.sale hk
      refine v_iload_n dX9_turnOf_54 rfl ?_
      refine v_aload_n dX9_turnOf_55 rfl ?_
      refine v_getfH 4 h51.hd fl_X9_108 rfl dX9_turnOf_56 ?_
      refine v_icmp_ge (tgt := 90) dX9_turnOf_59 (by decide) ⟨by omega, by omega⟩ ⟨by omega, by omega⟩ (fun h59 => ?_) (fun h59 => ?_)
      · skip
        refine v_vret dX9_turnOf_90 rfl (Nat.le_refl _) (Nat.le_refl _) ?_
        skip
        rw [hZ]
        exact ⟨rfl, hI1, f1, Nx1, hT1, fun j j0 j1 => hX j j0 j1⟩
      · skip
        exfalso; omega
    | succ n ih =>
      intro i M1 Nx1 i0 i1 hI1 f1 hT1 r1 hX
      obtain ⟨u1, d1, h51⟩ := hI1.sale hk
      refine v_iload_n dX9_turnOf_54 rfl ?_
      refine v_aload_n dX9_turnOf_55 rfl ?_
      refine v_getfH 4 h51.hd fl_X9_108 rfl dX9_turnOf_56 ?_
      refine v_icmp_ge (tgt := 90) dX9_turnOf_59 (by decide) ⟨by omega, by omega⟩ ⟨by omega, by omega⟩ (fun h59 => ?_) (fun h59 => ?_)
      · skip
        exfalso; omega
      · skip
        refine v_aload_n dX9_turnOf_62 rfl ?_
        refine v_aload_n dX9_turnOf_63 rfl ?_
        refine v_iload_n dX9_turnOf_64 rfl ?_
        refine v_callV (ci := 9) (W_rivalsBySign hI1 hs hk (j := i) ⟨by omega, by omega⟩ (fun p i _ _ i0 i1 => hN i i0 i1) r1) ⟨rfl, rfl⟩ (Nat.le_refl _) (Nat.le_refl _) hI1.1 rfl ⟨ml_X9_218, mm_X9_rivalsBySign⟩ ⟨(Nat.le_of_ble_eq_true rfl), (Nat.le_of_ble_eq_true rfl)⟩ mp_X9_rivalsBySign rfl rfl (Nat.le_of_ble_eq_true rfl) dX9_turnOf_65 (fun r M2 h => ?_)
        obtain ⟨rfl, hI2, f2, r2⟩ := h
        have hT2 := cNs_fr hT1 f2 (by decide)
        refine v_aload_n dX9_turnOf_68 rfl ?_
        refine v_getfH 10 hI2.1 fl_X9_67 rfl dX9_turnOf_69 ?_
        refine v_getfH 2 hT2.hd fl_X9_227 rfl dX9_turnOf_72 ?_
        refine v_iload_n dX9_turnOf_75 rfl ?_
        refine v_aload_n dX9_turnOf_76 rfl ?_
        refine v_getfH 8 hI2.1 fl_X9_53 rfl dX9_turnOf_77 ?_
        obtain ⟨fw, fo, i14⟩ := r2.hd
        refine v_callV (ci := 4) (W_pick r2 (RG_gnB hw _ (pS_B hw i) (by omega))) ⟨rfl, rfl⟩ (Nat.le_refl _) (Nat.le_refl _) i14 rfl ⟨ml_X9_221, mm_X4_pick⟩ ⟨(Nat.le_of_ble_eq_true rfl), (Nat.le_of_ble_eq_true rfl)⟩ mp_X4_pick rfl rfl (Nat.le_of_ble_eq_true rfl) dX9_turnOf_80 (fun r M' h => ?_)
        obtain ⟨rfl, rfl⟩ := h
        refine v_iastH hT2.tl.tl.tl.hd (Nat.le_of_ble_eq_true rfl) (by omega) (by omega) dX9_turnOf_83 ?_
        refine v_iinc dX9_turnOf_84 rfl (Nat.le_of_ble_eq_true rfl) ?_
        refine v_goto (tgt := 54) dX9_turnOf_87 (by decide) ?_
        refine v_to (ih (i + 1) _ _ (by omega) (by omega) (hI2.up24 _) ((f1.tr f2 (fun t h => h) (by decide)).tr (frK.up (L := [24]) (by decide)) (fun t h => h) (by decide)) (cNs_up hT2) ((r1.fr f2 (by decide)).fr (frK.up (L := [24]) (by decide)) (by decide)) ?_) rfl (sw_h1 rfl (sw_h1 rfl (sw_h1 rfl sw_h0)))
        intro j j0 j1
        show (if j = i then _ else Nx1 j) = _
        by_cases c : j = i
        · subst c; rw [if_pos rfl]; rfl
        · rw [if_neg c]; exact hX j j0 (by omega)
  have outer : ∀ (n : Nat) (p : Int) (M1 : sw_M) (R : Int → Int), 0 ≤ p → p + n = m → InvC G M1 s → frK [6, 7, 8, 9, 14, 15, 16, 17, 24] M M1 → sw_hold M1 (cNs G sg kp en Rw Nw Nx) → M1 7 = some (cR R).2 → (∀ q j, 0 ≤ q → q < p → 0 ≤ j → j < sSg (sl s k) → R (q * 5 + j) = Nw j) → V l G μX9_turnOf sw_E0 (sw_Zq G μX9_turnOf (sw_q0 G Zq)) 2 [(0, .ref (sw_al G 0)), (1, .ref (sw_al G (100 + 5 * k.toNat))), (2, sw_i p)] [] M1 0 0 := by
    intro n
    induction n with
    | zero =>
      intro p M1 R p0 p1 hI1 f1 hT1 h7 hR
      obtain ⟨u1, d1, h51⟩ := hI1.sale hk
      refine v_iload_n dX9_turnOf_2 rfl ?_
      refine v_aload_n dX9_turnOf_3 rfl ?_
      refine v_getfH 6 h51.hd fl_X9_114 rfl dX9_turnOf_4 ?_
      refine v_iconst dX9_turnOf_7 ?_
      refine v_isub dX9_turnOf_8 ?_
      refine v_icmp_ge (tgt := 52) dX9_turnOf_9 (by decide) ⟨by omega, by omega⟩ ⟨by omega, by omega⟩ (fun h9 => ?_) (fun h9 => ?_)
      · skip
        refine v_iconst dX9_turnOf_52 ?_
        refine v_istore_n dX9_turnOf_53 (Nat.le_of_ble_eq_true rfl) ?_
        exact v_to (loop (sSg (sl s k)).toNat 0 M1 Nx (by omega) (by omega) hI1 f1 hT1 ⟨R, h7, fun q j q0 q1 j0 j1 => hR q j q0 (by omega) j0 j1⟩ (fun j j0 j1 => by omega)) rfl (sw_h1 rfl (sw_h1 rfl (sw_h1 rfl sw_h0)))
      · skip
        exfalso; omega
    | succ n ih =>
      intro p M1 R p0 p1 hI1 f1 hT1 h7 hR
      have inner : ∀ (n2 : Nat) (i : Int) (M2 : sw_M) (R : Int → Int), 0 ≤ i → i + n2 = sSg (sl s k) → InvC G M2 s → frK [6, 7, 8, 9, 14, 15, 16, 17, 24] M M2 → sw_hold M2 (cNs G sg kp en Rw Nw Nx) → M2 7 = some (cR R).2 → (∀ q j, 0 ≤ q → q < p → 0 ≤ j → j < sSg (sl s k) → R (q * 5 + j) = Nw j) → (∀ j, 0 ≤ j → j < i → R (p * 5 + j) = Nw j) → V l G μX9_turnOf sw_E0 (sw_Zq G μX9_turnOf (sw_q0 G Zq)) 14 [(0, .ref (sw_al G 0)), (1, .ref (sw_al G (100 + 5 * k.toNat))), (2, sw_i p), (3, sw_i i)] [] M2 0 0 := by
        intro n2
        induction n2 with
        | zero =>
          intro i M2 R i0 i1 hI2 f2 hT2 h7 hR hL
          have e : i = sSg (sl s k) := by omega
          subst e
          obtain ⟨u1, d1, h51⟩ := hI2.sale hk
          refine v_iload_n dX9_turnOf_14 rfl ?_
          refine v_aload_n dX9_turnOf_15 rfl ?_
          refine v_getfH 4 h51.hd fl_X9_108 rfl dX9_turnOf_16 ?_
          refine v_icmp_ge (tgt := 46) dX9_turnOf_19 (by decide) ⟨by omega, by omega⟩ ⟨by omega, by omega⟩ (fun h19 => ?_) (fun h19 => ?_)
          · skip
            refine v_iinc dX9_turnOf_46 rfl (Nat.le_of_ble_eq_true rfl) ?_
            refine v_goto (tgt := 2) dX9_turnOf_49 (by decide) ?_
            refine v_to (ih (p + 1) M2 R (by omega) (by omega) hI2 f2 hT2 h7 ?_) rfl (sw_h1 rfl (sw_h1 rfl (sw_h1 rfl sw_h0)))
            intro q j q0 q1 j0 j1
            by_cases c : q = p
            · subst c; exact hL j j0 j1
            · exact hR q j q0 (by omega) j0 j1
          · skip
            exfalso; omega
        | succ n2 ih2 =>
          intro i M2 R i0 i1 hI2 f2 hT2 h7 hR hL
          obtain ⟨u1, d1, h51⟩ := hI2.sale hk
          refine v_iload_n dX9_turnOf_14 rfl ?_
          refine v_aload_n dX9_turnOf_15 rfl ?_
          refine v_getfH 4 h51.hd fl_X9_108 rfl dX9_turnOf_16 ?_
          refine v_icmp_ge (tgt := 46) dX9_turnOf_19 (by decide) ⟨by omega, by omega⟩ ⟨by omega, by omega⟩ (fun h19 => ?_) (fun h19 => ?_)
          · skip
            exfalso; omega
          · skip
            refine v_aload_n dX9_turnOf_22 rfl ?_
            refine v_getfH 6 hI2.1 fl_X9_39 rfl dX9_turnOf_23 ?_
            refine v_iload_n dX9_turnOf_26 rfl ?_
            refine v_iload_n dX9_turnOf_27 rfl ?_
            refine v_aload_n dX9_turnOf_28 rfl ?_
            refine v_getfH 10 hI2.1 fl_X9_67 rfl dX9_turnOf_29 ?_
            refine v_getfH 1 hT2.hd fl_X9_328 rfl dX9_turnOf_32 ?_
            refine v_iload_n dX9_turnOf_35 rfl ?_
            refine v_ialdH hT2.tl.tl.hd (Nat.le_of_ble_eq_true rfl) (by omega) (by omega) dX9_turnOf_36 ?_
            obtain ⟨fs6, g6⟩ := hI2.g6
            refine v_callV (ci := 1) (W_bidBy hI2 (i := p) (j := i) h7 ⟨by omega, by omega⟩ ⟨by omega, by omega⟩) ⟨rfl, rfl⟩ (Nat.le_refl _) (Nat.le_refl _) g6 rfl ⟨ml_X9_280, mm_X1_bidBy⟩ ⟨(Nat.le_of_ble_eq_true rfl), (Nat.le_of_ble_eq_true rfl)⟩ mp_X1_bidBy rfl rfl (Nat.le_of_ble_eq_true rfl) dX9_turnOf_37 (fun r M4 hh => ?_)
            obtain ⟨rfl, hI4, f4, h74⟩ := hh
            refine v_iinc dX9_turnOf_40 rfl (Nat.le_of_ble_eq_true rfl) ?_
            refine v_goto (tgt := 14) dX9_turnOf_43 (by decide) ?_
            refine v_to (ih2 (i + 1) M4 _ (by omega) (by omega) hI4 (f2.tr f4 (fun t h => h) (by decide)) (cNs_fr hT2 f4 (by decide)) h74 ?_ ?_) rfl (sw_h1 rfl (sw_h1 rfl (sw_h1 rfl (sw_h1 rfl sw_h0))))
            · intro q j q0 q1 j0 j1
              show (if q * 5 + j = p * 5 + i then _ else R (q * 5 + j)) = _
              rw [if_neg (by omega)]
              exact hR q j q0 q1 j0 j1
            · intro j j0 j1
              show (if p * 5 + j = p * 5 + i then _ else R (p * 5 + j)) = _
              by_cases c : j = i
              · subst c; rw [if_pos rfl]
              · rw [if_neg (by omega)]; exact hL j j0 (by omega)
      obtain ⟨u1, d1, h51⟩ := hI1.sale hk
      refine v_iload_n dX9_turnOf_2 rfl ?_
      refine v_aload_n dX9_turnOf_3 rfl ?_
      refine v_getfH 6 h51.hd fl_X9_114 rfl dX9_turnOf_4 ?_
      refine v_iconst dX9_turnOf_7 ?_
      refine v_isub dX9_turnOf_8 ?_
      refine v_icmp_ge (tgt := 52) dX9_turnOf_9 (by decide) ⟨by omega, by omega⟩ ⟨by omega, by omega⟩ (fun h9 => ?_) (fun h9 => ?_)
      · skip
        exfalso; omega
      · skip
        refine v_iconst dX9_turnOf_12 ?_
        refine v_istore_n dX9_turnOf_13 (Nat.le_of_ble_eq_true rfl) ?_
        exact v_to (inner (sSg (sl s k)).toNat 0 M1 R (by omega) (by omega) hI1 f1 hT1 h7 hR (fun j j0 j1 => by omega)) rfl (sw_h1 rfl (sw_h1 rfl (sw_h1 rfl (sw_h1 rfl sw_h0))))
  obtain ⟨R0, x7⟩ := hI.x7
  obtain ⟨u, d, h5⟩ := hI.sale hk
  refine v_iconst dX9_turnOf_0 ?_
  refine v_istore_n dX9_turnOf_1 (Nat.le_of_ble_eq_true rfl) ?_
  exact v_to (outer m 0 M R0 (by omega) (by omega) hI frK.rf hT x7 (fun q j q0 q1 => by omega)) rfl (sw_h1 rfl (sw_h1 rfl (sw_h1 rfl sw_h0)))
theorem cNs_okC {sg kp en : Int} {Rw Nw Nx : Int → Int} : ∀ c ∈ cNs G sg kp en Rw Nw Nx, okC G M s c := by
  intro c hc
  simp only [List.mem_cons, List.not_mem_nil, or_false] at hc
  rcases hc with rfl | rfl | rfl | rfl
  · exact Or.inl ⟨by dsimp only; omega, by dsimp only; omega, sg, kp, en, rfl⟩
  · exact Or.inl ⟨by dsimp only; omega, by dsimp only; omega, Rw, rfl⟩
  · exact Or.inl ⟨by dsimp only; omega, by dsimp only; omega, Nw, rfl⟩
  · exact Or.inl ⟨by dsimp only; omega, by dsimp only; omega, Nx, rfl⟩
theorem cNs_self {sg kp en : Int} {Rw Nw Nx : Int → Int} : sw_hold (sw_ov M (cNs G sg kp en Rw Nw Nx)) (cNs G sg kp en Rw Nw Nx) := sw_hold1 rfl (sw_hold1 rfl (sw_hold1 rfl (sw_hold1 rfl sw_hold0)))
theorem W_begin {sg : Nat} {sg0 kp0 en0 : Int} {Rw Nw Nx : Int → Int} (hI : InvC G M s) (hT : sw_hold M (cNs G sg0 kp0 en0 Rw Nw Nx)) (hsg : sg ≤ 5) : Kt l G μX8_begin [.ref (sw_al G 21), sw_i (sg : Int)] M (fun r M' => r = none ∧ InvC G M' s ∧ frK [21, 22, 23, 24] M M' ∧ ∃ Rw' Nw', (∀ k : Nat, k < sg → Rw' k = Nx k) ∧ (∀ k : Nat, k < sg → Nw' k = Nx k) ∧ sw_hold M' (cNs G sg 1 2 Rw' Nw' Nx)) := by
  refine (K8_begin hT hsg).mono (fun r M' h => ?_)
  obtain ⟨Rw', Nw', rfl, e1, e2, rfl⟩ := h
  exact ⟨rfl, hI.ov cNs_okC, frK.ov (fun t ht => Or.inl ht), Rw', Nw', e1, e2, cNs_self⟩
theorem W_close {sg kp : Nat} {Rw Nw Nx : Int → Int} (hI : InvC G M s) (hT : sw_hold M (cNs G sg kp 2 Rw Nw Nx)) (hsg : sg ≤ 5) (hkp : kp ≤ 20) (hr1 : ∀ n k : Nat, n < kp → k < sg → sw_rg (Rw ((n : Int) * 5 + k))) (hr2 : ∀ k : Nat, k < sg → sw_rg (Nx k)) : Kt l G μX8_close [.ref (sw_al G 21)] M (fun r M' => r = none ∧ InvC G M' s ∧ frK [21, 22, 23, 24] M M' ∧ ∃ Rw' Nw', (∀ i : Int, i < (kp : Int) * 5 → Rw' i = Rw i) ∧ (∀ k : Nat, k < sg → Rw' ((kp : Int) * 5 + k) = Nx k) ∧ (∀ k : Nat, k < sg → Nw' k = Nx k) ∧ sw_hold M' (cNs G sg ((kp : Int) + 1) (enN Rw Nx sg kp kp) Rw' Nw' Nx)) := by
  refine (K8_close hT hsg hkp hr1 hr2).mono (fun r M' h => ?_)
  obtain ⟨Rw', Nw', rfl, e1, e2, e3, rfl⟩ := h
  exact ⟨rfl, hI.ov cNs_okC, frK.ov (fun t ht => Or.inl ht), Rw', Nw', e1, e2, e3, cNs_self⟩
theorem W_held0 {j : Int} (hI : InvC G M s) (hs : stOK s) (hk : isS s k) (h1 : sw_rg j) : Kt l G μX5_held [.ref (sw_al G (100 + 5 * k.toNat)), sw_i j, sw_i (-1), sw_i (-1), sw_i (-1)] M (fun r M' => r = some (sw_i (hld (sl s k) j (-1) (-1) (-1))) ∧ InvC G M' s ∧ frK [] M M') := by
  obtain ⟨u, d, h5⟩ := hI.sale hk
  refine (K5_held h5 (hs.sale hk) h1 ⟨by omega, by omega⟩ ⟨by omega, by omega⟩ ⟨by omega, by omega⟩).mono (fun r M' h => ?_)
  obtain ⟨rfl, rfl⟩ := h
  exact ⟨rfl, hI.ov (fun c hc => by rw [List.mem_singleton.mp hc]; exact okS hk _ _), frK.ov (fun t ht => by rw [List.mem_singleton.mp ht]; exact Or.inr (by dsimp only; omega))⟩
/-- the table that FIND leaves -/
def fdB (σ : SaleT) (B : Int → Int) (table i : Int) : Int → Int := fun x => if table * 5 ≤ x ∧ x < table * 5 + i then rhF σ (fnd σ 20 0).2 (x - table * 5) else B x
theorem F9_find {table : Int} (hI : InvC G M s) (hs : stOK s) (hk : isS s k) (ht : 0 ≤ table ∧ table < qT s) : Kt l G μX9_find [.ref (sw_al G 0), sw_i k, sw_i table] M (fun r M' => r = some (sw_i (fnd (sl s k) 20 0).1) ∧ InvC G M' (sB s (fdB (sl s k) (qB s) table (sSg (sl s k)))) ∧ frC M M') := by
  refine KtA.of (by decide +kernel) (Nat.le_of_ble_eq_true rfl) ?_
  have i0 := hI.1
  obtain ⟨hk0, hk1⟩ := id hk
  have hw := hs.sale hk
  have hsg := hw.1
  have hns : qN s ≤ 8 := hs.2.1
  have hnt := hs.c.1
  obtain ⟨m, hm⟩ : ∃ m : Nat, (m : Int) = sSg (sl s k) := ⟨(sSg (sl s k)).toNat, by omega⟩
  obtain ⟨Wq, hWq⟩ : ∃ Wq : Int × Nat, fnd (sl s k) 20 0 = Wq := ⟨_, rfl⟩
  obtain ⟨Zq, hZ⟩ : ∃ Zq : Option Value → sw_M → Prop, Zq = (fun r M' => r = some (sw_i (fnd (sl s k) 20 0).1) ∧ InvC G M' (sB s (fdB (sl s k) (qB s) table (sSg (sl s k)))) ∧ frC M M') := ⟨_, rfl⟩
  rw [← hZ]
  have fin : ∀ (n : Nat) (i : Int) (M1 : sw_M) (sg' kp : Int) (Rw Nw Nx : Int → Int), 0 ≤ i → i + n = sSg (sl s k) → InvC G M1 (sB s (fdB (sl s k) (qB s) table i)) → frC M M1 → sw_hold M1 (cNs G sg' kp Wq.1 Rw Nw Nx) → (∀ j : Nat, j < m → Nx j = rhF (sl s k) Wq.2 j) → V l G μX9_find sw_E0 (sw_Zq G μX9_find (sw_q0 G Zq)) 109 [(0, .ref (sw_al G 0)), (1, sw_i k), (2, sw_i table), (3, .ref (sw_al G (100 + 5 * k.toNat))), (4, sw_i i)] [] M1 0 0 := by
    intro n
    induction n with
    | zero =>
      intro i M1 sg' kp Rw Nw Nx i0 i1 hI1 f1 hT1 hX
      have e : i = sSg (sl s k) := by omega
      subst e
      obtain ⟨u1, d1, h51⟩ := hI1.sale (k := k) hk
      refine v_iload dX9_find_109 rfl ?_
      refine v_aload_n dX9_find_111 rfl ?_
      refine v_getfH 4 h51.hd fl_X9_108 rfl dX9_find_112 ?_
      refine v_icmp_ge (tgt := 145) dX9_find_115 (by decide) ⟨by omega, by omega⟩ ⟨by show (-2147483648 : Int) ≤ sSg (sl s k); omega, by show sSg (sl s k) < 2147483648; omega⟩ (fun h115 => ?_) (fun h115 => ?_)
      · skip
        refine v_aload_n dX9_find_145 rfl ?_
        refine v_getfH 10 hI1.1 fl_X9_67 rfl dX9_find_146 ?_
        refine v_getfH 5 hT1.hd fl_X9_247 rfl dX9_find_149 ?_
        refine v_iret dX9_find_152 rfl (Nat.le_refl _) (Nat.le_refl _) ?_
        skip
        rw [hZ]
        exact ⟨by rw [hWq], hI1, f1⟩
      · skip
        exact absurd (Int.le_refl _) h115
    | succ n ih =>
      intro i M1 sg' kp Rw Nw Nx i0 i1 hI1 f1 hT1 hX
      obtain ⟨u1, d1, h51⟩ := hI1.sale (k := k) hk
      refine v_iload dX9_find_109 rfl ?_
      refine v_aload_n dX9_find_111 rfl ?_
      refine v_getfH 4 h51.hd fl_X9_108 rfl dX9_find_112 ?_
      refine v_icmp_ge (tgt := 145) dX9_find_115 (by decide) ⟨by omega, by omega⟩ ⟨by show (-2147483648 : Int) ≤ sSg (sl s k); omega, by show sSg (sl s k) < 2147483648; omega⟩ (fun h115 => ?_) (fun h115 => ?_)
      · skip
        exact absurd (show sSg (sl s k) ≤ i from h115) (by omega)
      · skip
        refine v_aload_n dX9_find_118 rfl ?_
        refine v_getfH 3 hI1.1 fl_X9_26 rfl dX9_find_119 ?_
        refine v_iload_n dX9_find_122 rfl ?_
        refine v_iconst dX9_find_123 ?_
        refine v_imul dX9_find_124 ?_
        refine v_iload dX9_find_125 rfl ?_
        refine v_iadd dX9_find_127 ?_
        refine v_aload_n dX9_find_128 rfl ?_
        refine v_getfH 10 hI1.1 fl_X9_67 rfl dX9_find_129 ?_
        refine v_getfH 2 hT1.hd fl_X9_227 rfl dX9_find_132 ?_
        refine v_iload dX9_find_135 rfl ?_
        refine v_ialdH hT1.tl.tl.tl.hd (Nat.le_of_ble_eq_true rfl) (by omega) (by omega) dX9_find_137 ?_
        refine v_iastH hI1.2.2.1 (Nat.le_of_ble_eq_true rfl) (by omega) (by omega) dX9_find_138 ?_
        refine v_iinc dX9_find_139 rfl (Nat.le_of_ble_eq_true rfl) ?_
        refine v_goto (tgt := 109) dX9_find_142 (by decide) ?_
        have ex : Nx i = rhF (sl s k) Wq.2 i := by
          have := hX i.toNat (by omega)
          rwa [show ((i.toNat : Nat) : Int) = i by omega] at this
        have eT : up (fdB (sl s k) (qB s) table i) (table * 5 + i) (Nx i) = fdB (sl s k) (qB s) table (i + 1) := by
          funext x
          show (if x = table * 5 + i then Nx i else fdB (sl s k) (qB s) table i x) = fdB (sl s k) (qB s) table (i + 1) x
          unfold fdB
          rw [hWq]
          by_cases c : x = table * 5 + i
          · subst c
            rw [if_pos rfl, if_pos (by omega), ex, show table * 5 + i - table * 5 = i by omega]
          · rw [if_neg c]
            by_cases c2 : table * 5 ≤ x ∧ x < table * 5 + i
            · rw [if_pos c2, if_pos (by omega)]
            · rw [if_neg c2, if_neg (by omega)]
        have hI2 := hI1.setB (fdB (sl s k) (qB s) table (i + 1))
        rw [← eT] at hI2
        refine v_to (ih (i + 1) _ sg' kp Rw Nw Nx (by omega) (by omega) ?_ (f1.trk (frK.up (L := [4]) (by decide)) (by decide)) (cNs_fr hT1 (frK.up (L := [4]) (by decide)) (by decide)) hX) rfl (sw_h1 rfl (sw_h1 rfl (sw_h1 rfl (sw_h1 rfl (sw_h1 rfl sw_h0)))))
        rw [← eT]
        exact hI2
  have fin0 : ∀ (M1 : sw_M) (sg' kp en : Int) (Rw Nw Nx : Int → Int) (x : Int) (N : Nat), InvC G M1 s → frC M M1 → sw_hold M1 (cNs G sg' kp en Rw Nw Nx) → Wq = (en, N) → (∀ j : Nat, j < m → Nx j = rhF (sl s k) N j) → V l G μX9_find sw_E0 (sw_Zq G μX9_find (sw_q0 G Zq)) 106 [(0, .ref (sw_al G 0)), (1, sw_i k), (2, sw_i table), (3, .ref (sw_al G (100 + 5 * k.toNat))), (4, sw_i x)] [] M1 0 0 := by
    intro M1 sg' kp en Rw Nw Nx x N hI1 f1 hT1 hen hX
    have e0 : fdB (sl s k) (qB s) table 0 = qB s := by
      funext x
      unfold fdB
      rw [if_neg (by omega)]
    have hI2 : InvC G M1 (sB s (fdB (sl s k) (qB s) table 0)) := by rw [e0]; exact hI1
    rw [hen] at fin
    refine v_iconst dX9_find_106 ?_
    refine v_istore dX9_find_107 (Nat.le_of_ble_eq_true rfl) ?_
    exact v_to (fin (sSg (sl s k)).toNat 0 M1 sg' kp Rw Nw Nx (by omega) (by omega) hI2 f1 hT1 hX) rfl (sw_h1 rfl (sw_h1 rfl (sw_h1 rfl (sw_h1 rfl (sw_h1 rfl sw_h0)))))
  have over : ∀ (n : Nat) (M1 : sw_M) (kp en : Int) (Rw Nw Nx : Int → Int) (N : Nat), n ≤ 20 → InvC G M1 s → frC M M1 → (0 ≤ en ∧ en ≤ 2) → en ≠ 2 → sw_hold M1 (cNs G m kp en Rw Nw Nx) → Wq = (en, N) → (∀ j : Nat, j < m → Nx j = rhF (sl s k) N j) → V l G μX9_find sw_E0 (sw_Zq G μX9_find (sw_q0 G Zq)) 71 [(0, .ref (sw_al G 0)), (1, sw_i k), (2, sw_i table), (3, .ref (sw_al G (100 + 5 * k.toNat))), (4, sw_i (n : Int))] [] M1 0 0 := by
    intro n M1 kp en Rw Nw Nx N hn hI1 f1 hb hne hT1 hen hX
    refine v_iload dX9_find_71 rfl ?_
    refine v_bipush dX9_find_73 (by decide +kernel) ?_
    refine v_icmp_ge (tgt := 106) dX9_find_75 (by decide) ⟨by omega, by omega⟩ ⟨by omega, by omega⟩ (fun h75 => ?_) (fun h75 => ?_)
    · skip
      exact v_to (fin0 _ m kp en Rw Nw Nx n N hI1 f1 hT1 hen hX) rfl (sw_h1 rfl (sw_h1 rfl (sw_h1 rfl (sw_h1 rfl (sw_h1 rfl sw_h0)))))
    · skip
      refine v_aload_n dX9_find_78 rfl ?_
      refine v_getfH 10 hI1.1 fl_X9_67 rfl dX9_find_79 ?_
      refine v_callV (ci := 8) (K8_goesOn (sg := (m : Int)) (kp := kp) (en := en) hT1.hd hb) ⟨rfl, rfl⟩ (Nat.le_refl _) (Nat.le_refl _) (hT1.hd) rfl ⟨ml_X9_237, mm_X8_goesOn⟩ ⟨(Nat.le_of_ble_eq_true rfl), (Nat.le_of_ble_eq_true rfl)⟩ mp_X8_goesOn rfl rfl (Nat.le_of_ble_eq_true rfl) dX9_find_82 (fun r M' h => ?_)
      obtain ⟨rfl, rfl⟩ := h
      refine v_ifb_eq (tgt := 106) dX9_find_85 (by decide) (fun h85 => ?_) (fun h85 => ?_)
      · skip
        exact v_to (fin0 _ m kp en Rw Nw Nx n N hI1 f1 hT1 hen hX) rfl (sw_h1 rfl (sw_h1 rfl (sw_h1 rfl (sw_h1 rfl (sw_h1 rfl sw_h0)))))
      · skip
        exact absurd h85 hne
  have rwE : ∀ (i j : Nat), j < m → rhF (sl s k) ((((i : Int) * 5 + (j : Int)) / 5).toNat) (((i : Int) * 5 + (j : Int)) % 5) = rhF (sl s k) i j := fun i j hj => by
    rw [show ((i : Int) * 5 + (j : Int)) / 5 = (i : Int) by omega, show ((i : Int) * 5 + (j : Int)) % 5 = (j : Int) by omega, Int.toNat_natCast]
  have loop : ∀ (f n : Nat) (M1 : sw_M) (Rw Nw Nx : Int → Int), n + f = 20 → InvC G M1 s → frC M M1 → sw_hold M1 (cNs G m (((n + 1 : Nat) : Int)) 2 Rw Nw Nx) → (∀ i j : Nat, i ≤ n → j < m → Rw ((i : Int) * 5 + j) = rhF (sl s k) i j) → (∀ j : Nat, j < m → Nw j = rhF (sl s k) n j) → (∀ j : Nat, j < m → Nx j = rhF (sl s k) n j) → Wq = fnd (sl s k) f n → V l G μX9_find sw_E0 (sw_Zq G μX9_find (sw_q0 G Zq)) 71 [(0, .ref (sw_al G 0)), (1, sw_i k), (2, sw_i table), (3, .ref (sw_al G (100 + 5 * k.toNat))), (4, sw_i (n : Int))] [] M1 0 0 := by
    intro f
    induction f with
    | zero =>
      intro n M1 Rw Nw Nx hn hI1 f1 hT1 hR hN hX hW
      refine v_iload dX9_find_71 rfl ?_
      refine v_bipush dX9_find_73 (by decide +kernel) ?_
      refine v_icmp_ge (tgt := 106) dX9_find_75 (by decide) ⟨by omega, by omega⟩ ⟨by omega, by omega⟩ (fun h75 => ?_) (fun h75 => ?_)
      · skip
        exact v_to (fin0 _ m _ 2 Rw Nw Nx n n hI1 f1 hT1 hW hX) rfl (sw_h1 rfl (sw_h1 rfl (sw_h1 rfl (sw_h1 rfl (sw_h1 rfl sw_h0)))))
      · skip
        exfalso; omega
    | succ f ih =>
      intro n M1 Rw Nw Nx hn hI1 f1 hT1 hR hN hX hW
      refine v_iload dX9_find_71 rfl ?_
      refine v_bipush dX9_find_73 (by decide +kernel) ?_
      refine v_icmp_ge (tgt := 106) dX9_find_75 (by decide) ⟨by omega, by omega⟩ ⟨by omega, by omega⟩ (fun h75 => ?_) (fun h75 => ?_)
      · skip
        exfalso; omega
      · skip
        refine v_aload_n dX9_find_78 rfl ?_
        refine v_getfH 10 hI1.1 fl_X9_67 rfl dX9_find_79 ?_
        refine v_callV (ci := 8) (K8_goesOn (sg := (m : Int)) (kp := ((n + 1 : Nat) : Int)) (en := 2) hT1.hd ⟨by omega, by omega⟩) ⟨rfl, rfl⟩ (Nat.le_refl _) (Nat.le_refl _) (hT1.hd) rfl ⟨ml_X9_237, mm_X8_goesOn⟩ ⟨(Nat.le_of_ble_eq_true rfl), (Nat.le_of_ble_eq_true rfl)⟩ mp_X8_goesOn rfl rfl (Nat.le_of_ble_eq_true rfl) dX9_find_82 (fun r M' h => ?_)
        obtain ⟨rfl, rfl⟩ := h
        refine v_ifb_eq (tgt := 106) dX9_find_85 (by decide) (fun h85 => ?_) (fun h85 => ?_)
        · skip
          exact absurd rfl h85
        · skip
          refine v_aload_n dX9_find_88 rfl ?_
          refine v_aload_n dX9_find_89 rfl ?_
          refine v_callV (ci := 9) (W_turnOf hI1 hs hk hT1 (fun i i0 i1 => by
            have := hN i.toNat (by omega)
            rw [show ((i.toNat : Nat) : Int) = i by omega] at this
            rw [this]; exact rhF_bd hw n i)) ⟨rfl, rfl⟩ (Nat.le_refl _) (Nat.le_refl _) hI1.1 rfl ⟨ml_X9_241, mm_X9_turnOf⟩ ⟨(Nat.le_of_ble_eq_true rfl), (Nat.le_of_ble_eq_true rfl)⟩ mp_X9_turnOf rfl rfl (Nat.le_of_ble_eq_true rfl) dX9_find_90 (fun r M2 h => ?_)
          obtain ⟨rfl, hI2, f2, Nx2, hT2, hX2⟩ := h
          have eX : ∀ j : Nat, j < m → Nx2 j = rhF (sl s k) (n + 1) j := fun j hj => by
            rw [hX2 j (by omega) (by omega)]
            exact trF_congr hw (fun i i0 i1 => by
              have := hN i.toNat (by omega)
              rwa [show ((i.toNat : Nat) : Int) = i by omega] at this) j
          refine v_aload_n dX9_find_93 rfl ?_
          refine v_getfH 10 hI2.1 fl_X9_67 rfl dX9_find_94 ?_
          refine v_callV (ci := 8) (W_close (sg := m) (kp := n + 1) hI2 hT2 (by omega) (by omega) (fun i j hi hj => by rw [hR i j (by omega) hj]; have := rhF_bd hw i j; exact ⟨by omega, by omega⟩) (fun j hj => by rw [eX j hj]; have := rhF_bd hw (n + 1) j; exact ⟨by omega, by omega⟩)) ⟨rfl, rfl⟩ (Nat.le_refl _) (Nat.le_refl _) hT2.hd rfl ⟨ml_X9_244, mm_X8_close⟩ ⟨(Nat.le_of_ble_eq_true rfl), (Nat.le_of_ble_eq_true rfl)⟩ mp_X8_close rfl rfl (Nat.le_of_ble_eq_true rfl) dX9_find_97 (fun r M3 h => ?_)
          obtain ⟨rfl, hI3, f3, Rw3, Nw3, e1, e2, e3, hT3⟩ := h
          have eE : enN Rw Nx2 m (n + 1) (n + 1) = enT (sl s k) (n + 1) := by
            unfold enT
            rw [← hm, Int.toNat_natCast]
            exact enN_congr (n + 1) (fun i j hi hj => by
              rw [hR i j (by omega) hj]; exact (rwE i j hj).symm) eX
          rw [eE] at hT3
          have hW2 : Wq = if enT (sl s k) (n + 1) = 2 then fnd (sl s k) f (n + 1) else (enT (sl s k) (n + 1), n + 1) := hW
          refine v_iinc dX9_find_100 rfl (Nat.le_of_ble_eq_true rfl) ?_
          refine v_goto (tgt := 71) dX9_find_103 (by decide) ?_
          by_cases c : enT (sl s k) (n + 1) = 2
          · rw [c] at hT3
            rw [if_pos c] at hW2
            exact v_to (ih (n + 1) M3 Rw3 Nw3 Nx2 (by omega) hI3 ((f1.trk f2 (by decide)).trk f3 (by decide)) hT3 (fun i j hi hj => by
              by_cases ci : i = n + 1
              · subst ci; rw [e2 j hj]; exact eX j hj
              · rw [e1 _ (by omega)]; exact hR i j (by omega) hj) (fun j hj => by rw [e3 j hj]; exact eX j hj) eX hW2) rfl (sw_h1 rfl (sw_h1 rfl (sw_h1 rfl (sw_h1 rfl (sw_h1 rfl sw_h0)))))
          · rw [if_neg c] at hW2
            exact v_to (over (n + 1) M3 _ _ Rw3 Nw3 Nx2 (n + 1) (by omega) hI3 ((f1.trk f2 (by decide)).trk f3 (by decide)) (enN_bd _ _ _ _ _) c hT3 hW2 eX) rfl (sw_h1 rfl (sw_h1 rfl (sw_h1 rfl (sw_h1 rfl (sw_h1 rfl sw_h0)))))
  have first : ∀ (n : Nat) (i : Int) (M1 : sw_M) (sg' kp en : Int) (Rw Nw Nx : Int → Int), 0 ≤ i → i + n = sSg (sl s k) → InvC G M1 s → frC M M1 → sw_hold M1 (cNs G sg' kp en Rw Nw Nx) → (∀ j, 0 ≤ j → j < i → Nx j = rhF (sl s k) 0 j) → V l G μX9_find sw_E0 (sw_Zq G μX9_find (sw_q0 G Zq)) 23 [(0, .ref (sw_al G 0)), (1, sw_i k), (2, sw_i table), (3, .ref (sw_al G (100 + 5 * k.toNat))), (4, sw_i i)] [] M1 0 0 := by
    intro n
    induction n with
    | zero =>
      intro i M1 sg' kp en Rw Nw Nx i0 i1 hI1 f1 hT1 hX
      have e : i = sSg (sl s k) := by omega
      subst e
      obtain ⟨u1, d1, h51⟩ := hI1.sale hk
      refine v_iload dX9_find_23 rfl ?_
      refine v_aload_n dX9_find_25 rfl ?_
      refine v_getfH 4 h51.hd fl_X9_108 rfl dX9_find_26 ?_
      refine v_icmp_ge (tgt := 57) dX9_find_29 (by decide) ⟨by omega, by omega⟩ ⟨by omega, by omega⟩ (fun h29 => ?_) (fun h29 => ?_)
      · skip
        refine v_aload_n dX9_find_57 rfl ?_
        refine v_getfH 10 hI1.1 fl_X9_67 rfl dX9_find_58 ?_
        refine v_aload_n dX9_find_61 rfl ?_
        refine v_getfH 4 h51.hd fl_X9_108 rfl dX9_find_62 ?_
        rw [← hm]
        refine v_callV (ci := 8) (W_begin (sg := m) hI1 hT1 (by omega)) ⟨rfl, rfl⟩ (Nat.le_refl _) (Nat.le_refl _) hT1.hd rfl ⟨ml_X9_234, mm_X8_begin⟩ ⟨(Nat.le_of_ble_eq_true rfl), (Nat.le_of_ble_eq_true rfl)⟩ mp_X8_begin rfl rfl (Nat.le_of_ble_eq_true rfl) dX9_find_65 (fun r M2 h => ?_)
        obtain ⟨rfl, hI2, f2, Rw2, Nw2, e1, e2, hT2⟩ := h
        refine v_iconst dX9_find_68 ?_
        refine v_istore dX9_find_69 (Nat.le_of_ble_eq_true rfl) ?_
        refine v_to (loop 20 0 M2 Rw2 Nw2 Nx rfl hI2 (f1.trk f2 (by decide)) hT2 (fun i j hi hj => ?_) (fun j hj => ?_) (fun j hj => hX j (by omega) (by omega)) hWq.symm) rfl (sw_h1 rfl (sw_h1 rfl (sw_h1 rfl (sw_h1 rfl (sw_h1 rfl sw_h0)))))
        · have : i = 0 := by omega
          subst this
          rw [show ((0 : Nat) : Int) * 5 + (j : Int) = (j : Int) by omega, e1 j hj]
          exact hX j (by omega) (by omega)
        · rw [e2 j hj]; exact hX j (by omega) (by omega)
      · skip
        exfalso; omega
    | succ n ih =>
      intro i M1 sg' kp en Rw Nw Nx i0 i1 hI1 f1 hT1 hX
      obtain ⟨u1, d1, h51⟩ := hI1.sale hk
      refine v_iload dX9_find_23 rfl ?_
      refine v_aload_n dX9_find_25 rfl ?_
      refine v_getfH 4 h51.hd fl_X9_108 rfl dX9_find_26 ?_
      refine v_icmp_ge (tgt := 57) dX9_find_29 (by decide) ⟨by omega, by omega⟩ ⟨by omega, by omega⟩ (fun h29 => ?_) (fun h29 => ?_)
      · skip
        exfalso; omega
      · skip
        refine v_aload_n dX9_find_32 rfl ?_
        refine v_getfH 10 hI1.1 fl_X9_67 rfl dX9_find_33 ?_
        refine v_getfH 2 hT1.hd fl_X9_227 rfl dX9_find_36 ?_
        refine v_iload dX9_find_39 rfl ?_
        refine v_aload_n dX9_find_41 rfl ?_
        refine v_iload dX9_find_42 rfl ?_
        refine v_iconst dX9_find_44 ?_
        refine v_iconst dX9_find_45 ?_
        refine v_iconst dX9_find_46 ?_
        refine v_callV (ci := 5) (W_held0 hI1 hs hk (j := i) ⟨by omega, by omega⟩) ⟨rfl, rfl⟩ (Nat.le_refl _) (Nat.le_refl _) h51.hd rfl ⟨ml_X9_230, mm_X5_held⟩ ⟨(Nat.le_of_ble_eq_true rfl), (Nat.le_of_ble_eq_true rfl)⟩ mp_X5_held rfl rfl (Nat.le_of_ble_eq_true rfl) dX9_find_47 (fun r M2 h => ?_)
        obtain ⟨rfl, hI2, f2⟩ := h
        have hT2 := cNs_fr hT1 f2 (by decide)
        refine v_iastH hT2.tl.tl.tl.hd (Nat.le_of_ble_eq_true rfl) (by omega) (by omega) dX9_find_50 ?_
        refine v_iinc dX9_find_51 rfl (Nat.le_of_ble_eq_true rfl) ?_
        refine v_goto (tgt := 23) dX9_find_54 (by decide) ?_
        refine v_to (ih (i + 1) _ sg' kp en Rw Nw _ (by omega) (by omega) (hI2.up24 _) ((f1.trk f2 (by decide)).trk (frK.up (L := [24]) (by decide)) (by decide)) (cNs_up hT2) ?_) rfl (sw_h1 rfl (sw_h1 rfl (sw_h1 rfl (sw_h1 rfl (sw_h1 rfl sw_h0)))))
        intro j j0 j1
        show (if j = i then _ else Nx j) = _
        by_cases c : j = i
        · subst c; rw [if_pos rfl]; rfl
        · rw [if_neg c]; exact hX j j0 (by omega)
  obtain ⟨sg0, kp0, en0, Rw0, Nw0, Nx0, xN⟩ := hI.xN
  refine v_aload_n dX9_find_0 rfl ?_
  refine v_iload_n dX9_find_1 rfl ?_
  refine v_callV (ci := 9) (K9_saleAt (ns := qN s) (nt := qT s) (k := k) i0 hI.2.1 hns hk) ⟨rfl, rfl⟩ (Nat.le_refl _) (Nat.le_refl _) i0 rfl ⟨ml_X9_104, mm_X9_saleAt⟩ ⟨(Nat.le_of_ble_eq_true rfl), (Nat.le_of_ble_eq_true rfl)⟩ mp_X9_saleAt rfl rfl (Nat.le_of_ble_eq_true rfl) dX9_find_2 (fun r M' h => ?_)
  obtain ⟨rfl, rfl⟩ := h
  refine v_astore_n dX9_find_5 (Nat.le_of_ble_eq_true rfl) ?_
  refine v_aload_n dX9_find_6 rfl ?_
  refine v_ifnull dX9_find_7 ?_
  refine v_aload_n dX9_find_10 rfl ?_
  refine v_iload_n dX9_find_11 rfl ?_
  refine v_callV (ci := 9) (K9_hasTable (ns := qN s) (nt := qT s) (k := table) i0 hnt ⟨by omega, by omega⟩) ⟨rfl, rfl⟩ (Nat.le_refl _) (Nat.le_refl _) i0 rfl ⟨ml_X9_171, mm_X9_hasTable⟩ ⟨(Nat.le_of_ble_eq_true rfl), (Nat.le_of_ble_eq_true rfl)⟩ mp_X9_hasTable rfl rfl (Nat.le_of_ble_eq_true rfl) dX9_find_12 (fun r M' h => ?_)
  obtain ⟨rfl, rfl⟩ := h
  refine v_ifb_ne (tgt := 20) dX9_find_15 (by decide) (fun h15 => ?_) (fun h15 => ?_)
  · skip
    refine v_iconst dX9_find_20 ?_
    refine v_istore dX9_find_21 (Nat.le_of_ble_eq_true rfl) ?_
    exact v_to (first (sSg (sl s k)).toNat 0 _ sg0 kp0 en0 Rw0 Nw0 Nx0 (by omega) (by omega) hI frC.rf xN (fun j j0 j1 => by omega)) rfl (sw_h1 rfl (sw_h1 rfl (sw_h1 rfl (sw_h1 rfl (sw_h1 rfl sw_h0)))))
  · skip
    exact absurd ht h15
theorem F9_findX {table : Int} (hI : InvC G M s) (hs : stOK s) (hk : isS s k) (ht : ¬ (0 ≤ table ∧ table < qT s)) (hg : sw_rg table) : Kt l G μX9_find [.ref (sw_al G 0), sw_i k, sw_i table] M (fun r M' => r = some (sw_i (-1)) ∧ InvC G M' s ∧ frC M M') := by
  refine KtA.of (by decide +kernel) (Nat.le_of_ble_eq_true rfl) ?_
  have i0 := hI.1
  have hns : qN s ≤ 8 := hs.2.1
  have hnt := hs.c.1
  refine v_aload_n dX9_find_0 rfl ?_
  refine v_iload_n dX9_find_1 rfl ?_
  refine v_callV (ci := 9) (K9_saleAt (ns := qN s) (nt := qT s) (k := k) i0 hI.2.1 hns hk) ⟨rfl, rfl⟩ (Nat.le_refl _) (Nat.le_refl _) i0 rfl ⟨ml_X9_104, mm_X9_saleAt⟩ ⟨(Nat.le_of_ble_eq_true rfl), (Nat.le_of_ble_eq_true rfl)⟩ mp_X9_saleAt rfl rfl (Nat.le_of_ble_eq_true rfl) dX9_find_2 (fun r M' h => ?_)
  obtain ⟨rfl, rfl⟩ := h
  refine v_astore_n dX9_find_5 (Nat.le_of_ble_eq_true rfl) ?_
  refine v_aload_n dX9_find_6 rfl ?_
  refine v_ifnull dX9_find_7 ?_
  refine v_aload_n dX9_find_10 rfl ?_
  refine v_iload_n dX9_find_11 rfl ?_
  refine v_callV (ci := 9) (K9_hasTable (ns := qN s) (nt := qT s) (k := table) i0 hnt hg) ⟨rfl, rfl⟩ (Nat.le_refl _) (Nat.le_refl _) i0 rfl ⟨ml_X9_171, mm_X9_hasTable⟩ ⟨(Nat.le_of_ble_eq_true rfl), (Nat.le_of_ble_eq_true rfl)⟩ mp_X9_hasTable rfl rfl (Nat.le_of_ble_eq_true rfl) dX9_find_12 (fun r M' h => ?_)
  obtain ⟨rfl, rfl⟩ := h
  refine v_ifb_ne (tgt := 20) dX9_find_15 (by decide) (fun h15 => ?_) (fun h15 => ?_)
  · skip
    exact absurd h15 ht
  · skip
    refine v_iconst dX9_find_18 ?_
    exact v_iret dX9_find_19 rfl (Nat.le_refl _) (Nat.le_refl _) (⟨rfl, hI, frC.rf⟩)
theorem F9_findN {table : Int} (hI : InvC G M s) (hs : stOK s) (hk : ¬ isS s k) (hg : sw_rg k) : Kt l G μX9_find [.ref (sw_al G 0), sw_i k, sw_i table] M (fun r M' => r = some (sw_i (-1)) ∧ InvC G M' s ∧ frC M M') := by
  refine KtA.of (by decide +kernel) (Nat.le_of_ble_eq_true rfl) ?_
  have i0 := hI.1
  have hns : qN s ≤ 8 := hs.2.1
  refine v_aload_n dX9_find_0 rfl ?_
  refine v_iload_n dX9_find_1 rfl ?_
  refine v_callV (ci := 9) (K9_saleAtN (ns := qN s) (nt := qT s) (k := k) i0 hns hk hg) ⟨rfl, rfl⟩ (Nat.le_refl _) (Nat.le_refl _) i0 rfl ⟨ml_X9_104, mm_X9_saleAt⟩ ⟨(Nat.le_of_ble_eq_true rfl), (Nat.le_of_ble_eq_true rfl)⟩ mp_X9_saleAt rfl rfl (Nat.le_of_ble_eq_true rfl) dX9_find_2 (fun r M' h => ?_)
  obtain ⟨rfl, rfl⟩ := h
  refine v_astore_nN dX9_find_5 (Nat.le_of_ble_eq_true rfl) ?_
  refine v_aload_nN dX9_find_6 rfl ?_
  refine v_ifnullN (tgt := 18) dX9_find_7 (by decide) ?_
  refine v_iconst dX9_find_18 ?_
  exact v_iret dX9_find_19 rfl (Nat.le_refl _) (Nat.le_refl _) (⟨rfl, hI, frC.rf⟩)
end

