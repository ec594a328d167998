/-! the face: learn -/
abbrev sL (s : CSt) (m K : Int) (R Gd : Int → Int) : CSt := (qF s, qL s, qN s, qS s, qT s, qB s, qD s, m, K, R, Gd)
theorem InvC.setL {G : sw_G} {M M' : sw_M} {s : CSt} (hI : InvC G M s) (hf : ∀ t, t < 30 ∨ 34 ≤ t → M' t = M t) {b : Nat} {x m K so : Int} {R Gd Sg : Int → Int} (hL : sw_hold M' (cLs G b x m K so R Gd Sg)) : InvC G M' (sL s m K R Gd) := by
  obtain ⟨i0, i3, i4, i5, i2, ⟨a, wr, i1⟩, ⟨sg, tr, nb, le, wy, Va, Wa, Oa, St, u, d, id'⟩, is', -, ic⟩ := hI
  have fx : ∀ (t : Nat) (ob : sw_Ob), t < 30 ∨ 34 ≤ t → M t = some ob → M' t = some ob := fun t ob h hm => (hf t h).trans hm
  have fxH : ∀ l, sw_hold M l → (∀ c ∈ l, c.1 < 30 ∨ 34 ≤ c.1) → sw_hold M' l := fun l hl hx c hc => fx _ _ (hx c hc) (hl c hc)
  refine ⟨fx _ _ (by omega) i0, fx _ _ (by omega) i3, fx _ _ (by omega) i4, fx _ _ (by omega) i5, fx _ _ (by omega) i2, ⟨a, wr, fx _ _ (by omega) i1⟩, ⟨sg, tr, nb, le, wy, Va, Wa, Oa, St, u, d, fxH _ id' ?_⟩, fun k hk => ?_, ⟨b, x, so, Sg, hL⟩, fun t h1 h2 => ?_⟩
  · intro c hcl
    simp only [List.mem_cons, List.not_mem_nil, or_false] at hcl
    rcases hcl with rfl | rfl | rfl | rfl | rfl <;> (dsimp only; omega)
  · obtain ⟨u', d', hu⟩ := is' k hk
    refine ⟨u', d', fxH _ hu ?_⟩
    intro c hcl
    simp only [List.mem_cons, List.not_mem_nil, or_false] at hcl
    rcases hcl with rfl | rfl | rfl | rfl | rfl <;> (dsimp only; omega)
  · obtain ⟨ob, g1, g2⟩ := ic t h1 h2
    exact ⟨ob, fx _ _ (by omega) g1, g2⟩
/-- what a call of LEARN's own leaves: all but 30 to 33 -/
def rndN (σ : SaleT) (m : Nat) (q : LsT) : Nat → LsT
  | 0 => q
  | n + 1 => rnd σ m (rndN σ m q n)
theorem mvR_in {Rw Sg : Int → Int} {i by' : Int} (h : ∀ j, 0 ≤ j → j < 20 → 0 ≤ Rw j ∧ Rw j ≤ 60) : ∀ j, 0 ≤ j → j < 20 → 0 ≤ mvR Rw Sg i by' j ∧ mvR Rw Sg i by' j ≤ 60 := by
  intro j h0 h1
  show 0 ≤ (if j = i * 5 + Sg i then clp (Rw (i * 5 + Sg i) + by') else Rw j) ∧ (if j = i * 5 + Sg i then clp (Rw (i * 5 + Sg i) + by') else Rw j) ≤ 60
  split
  · unfold clp; split <;> (split at * <;> omega)
  · exact h j h0 h1
theorem mvA_in {Rw Sg : Int → Int} (h : ∀ j, 0 ≤ j → j < 20 → 0 ≤ Rw j ∧ Rw j ≤ 60) : ∀ k : Nat, ∀ j, 0 ≤ j → j < 20 → 0 ≤ mvA Rw Sg k j ∧ mvA Rw Sg k j ≤ 60
  | 0 => h
  | k + 1 => mvR_in (mvA_in h k)
theorem mvO_in {Rw Sg : Int → Int} (w : Int) (h : ∀ j, 0 ≤ j → j < 20 → 0 ≤ Rw j ∧ Rw j ≤ 60) : ∀ k : Nat, ∀ j, 0 ≤ j → j < 20 → 0 ≤ mvO Rw Sg w k j ∧ mvO Rw Sg w k j ≤ 60
  | 0 => h
  | k + 1 => by
    unfold mvO
    split
    · exact mvO_in w h k
    · exact mvR_in (mvO_in w h k)
theorem rnd_in (σ : SaleT) (m : Nat) {q : LsT} (h : ∀ j, 0 ≤ j → j < 20 → 0 ≤ q.2.2.2.1 j ∧ q.2.2.2.1 j ≤ 60) : ∀ j, 0 ≤ j → j < 20 → 0 ≤ (rnd σ m q).2.2.2.1 j ∧ (rnd σ m q).2.2.2.1 j ≤ 60 := by
  unfold rnd rnE
  split
  · show ∀ j, 0 ≤ j → j < 20 → 0 ≤ (if _ ≤ _ then _ else _ : Int → Int) j ∧ (if _ ≤ _ then _ else _ : Int → Int) j ≤ 60
    split
    · exact mvA_in h m
    · exact h
  · show ∀ j, 0 ≤ j → j < 20 → 0 ≤ rwL _ _ _ _ _ _ j ∧ rwL _ _ _ _ _ _ j ≤ 60
    unfold rwL
    split
    · exact mvR_in h
    · split
      · exact mvO_in _ h m
      · exact h
theorem rndN_in (σ : SaleT) (m : Nat) {q : LsT} (h : ∀ j, 0 ≤ j → j < 20 → 0 ≤ q.2.2.2.1 j ∧ q.2.2.2.1 j ≤ 60) : ∀ n : Nat, ∀ j, 0 ≤ j → j < 20 → 0 ≤ (rndN σ m q n).2.2.2.1 j ∧ (rndN σ m q n).2.2.2.1 j ≤ 60
  | 0 => h
  | n + 1 => rnd_in σ m (rndN_in σ m h n)
/-- rows filled up to a seat and a sign -/
def lrR (σ : SaleT) (nt : Int) (T : Int → Int) (R : Int → Int) (p i : Int) : Prop := ∀ x, 0 ≤ x → x < 20 → R x = if (x / 5 < p ∨ x / 5 = p ∧ x % 5 < i) ∧ x % 5 < sSg σ then bdF σ nt T (x / 5) (x % 5) (-1) else 0
theorem lrR_in {σ : SaleT} (hw : wfS σ) {nt : Int} {T R : Int → Int} (hc : wfC nt T) {p i : Int} (h : lrR σ nt T R p i) : ∀ j, 0 ≤ j → j < 20 → 0 ≤ R j ∧ R j ≤ 60 := by
  intro j h0 h1
  rw [h j h0 h1]
  split
  · exact bdF_bd hw hc (-1) ⟨by omega, by omega⟩
  · omega
theorem lrR_up {σ : SaleT} {nt : Int} {T R : Int → Int} {p i : Int} (h : lrR σ nt T R p i) (hp : 0 ≤ p) (hi : 0 ≤ i ∧ i < sSg σ) (h5 : sSg σ ≤ 5) : lrR σ nt T (up R (p * 5 + i) (bdF σ nt T p i (-1))) p (i + 1) := by
  intro x x0 x1
  show (if x = p * 5 + i then bdF σ nt T p i (-1) else R x) = _
  by_cases c : x = p * 5 + i
  · subst c
    rw [if_pos rfl, if_pos (by omega), show (p * 5 + i) / 5 = p by omega, show (p * 5 + i) % 5 = i by omega]
  · rw [if_neg c, h x x0 x1]
    by_cases c2 : (x / 5 < p ∨ x / 5 = p ∧ x % 5 < i) ∧ x % 5 < sSg σ
    · rw [if_pos c2, if_pos (by omega)]
    · rw [if_neg c2, if_neg (by omega)]
theorem lrR_nx {σ : SaleT} {nt : Int} {T R : Int → Int} {p : Int} (h : lrR σ nt T R p (sSg σ)) : lrR σ nt T R (p + 1) 0 := by
  intro x x0 x1
  rw [h x x0 x1]
  by_cases c2 : (x / 5 < p ∨ x / 5 = p ∧ x % 5 < sSg σ) ∧ x % 5 < sSg σ
  · rw [if_pos c2, if_pos (by omega)]
  · rw [if_neg c2, if_neg (by omega)]
theorem stOK.sL {s : CSt} (hs : stOK s) {m K : Int} {R Gd : Int → Int} (hm : 0 ≤ m ∧ m ≤ 4) (hR : ∀ i, 0 ≤ i → i < 20 → 0 ≤ R i ∧ R i ≤ 60) : stOK (sL s m K R Gd) := ⟨hs.1, hs.2.1, hs.2.2.1, hs.2.2.2.1, hs.2.2.2.2.1, hm, hR⟩
section
variable {l : Launch} {G : sw_G} {M : sw_M} {s : CSt} {k : Int}
theorem cLs_fr {L : List Nat} {M M' : sw_M} {b : Nat} {x m tk so : Int} {Rw Gd Sg : Int → Int} (h : sw_hold M (cLs G b x m tk so Rw Gd Sg)) (f : frK L M M') (hx : ∀ t ∈ [30, 31, 32, 33], t ∉ L) : sw_hold M' (cLs G b x m tk so Rw Gd Sg) :=
  sw_hold1 ((f 30 (by omega) (hx 30 (by simp))).trans h.hd) (sw_hold1 ((f 31 (by omega) (hx 31 (by simp))).trans h.tl.hd) (sw_hold1 ((f 32 (by omega) (hx 32 (by simp))).trans h.tl.tl.hd) (sw_hold1 ((f 33 (by omega) (hx 33 (by simp))).trans h.tl.tl.tl.hd) sw_hold0)))
theorem cLs_self {b : Nat} {x m tk so : Int} {Rw Gd Sg : Int → Int} : sw_hold (sw_ov M (cLs G b x m tk so Rw Gd Sg)) (cLs G b x m tk so Rw Gd Sg) := sw_hold1 rfl (sw_hold1 rfl (sw_hold1 rfl (sw_hold1 rfl sw_hold0)))
theorem cLs_out {b : Nat} {x m tk so : Int} {Rw Gd Sg : Int → Int} : ∀ t, t < 30 ∨ 34 ≤ t → sw_ov M (cLs G b x m tk so Rw Gd Sg) t = M t := fun t h => sw_ov_out (by simp; omega)
theorem cLs_frK {b : Nat} {x m tk so : Int} {Rw Gd Sg : Int → Int} : frK [30, 31, 32, 33] M (sw_ov M (cLs G b x m tk so Rw Gd Sg)) := frK.ov (fun t ht => Or.inl ht)
theorem cLs_up {b : Nat} {x m tk so : Int} {Rw Gd Sg f : Int → Int} (h : sw_hold M (cLs G b x m tk so Rw Gd Sg)) : sw_hold (sw_ov M [(31, sw_ia 20 f)]) (cLs G b x m tk so f Gd Sg) := sw_hold1 h.hd (sw_hold1 rfl (sw_hold1 h.tl.tl.hd (sw_hold1 h.tl.tl.tl.hd sw_hold0)))
theorem F9_learn {seed rounds : Int} (hI : InvC G M s) (hs : stOK s) (hk : isS s k) (hr : 1 ≤ rounds ∧ rounds ≤ 400) : Kt l G μX9_learn [.ref (sw_al G 0), sw_i k, sw_j seed, sw_i rounds] M (fun r M' => ∃ R0 Gd0 Sg0, lrR (sl s k) (qT s) (qB s) R0 (sNb (sl s k)) 0 ∧ (∀ i, 0 ≤ i → i < 4 → Gd0 i = 0) ∧ r = some (sw_i (rndN (sl s k) (sNb (sl s k)).toNat (seed, 0, 0, R0, Gd0, Sg0) rounds.toNat).2.2.1) ∧ InvC G M' (sL s (sNb (sl s k)) (rndN (sl s k) (sNb (sl s k)).toNat (seed, 0, 0, R0, Gd0, Sg0) rounds.toNat).2.1 (rndN (sl s k) (sNb (sl s k)).toNat (seed, 0, 0, R0, Gd0, Sg0) rounds.toNat).2.2.2.1 (rndN (sl s k) (sNb (sl s k)).toNat (seed, 0, 0, R0, Gd0, Sg0) rounds.toNat).2.2.2.2.1) ∧ frC M M') := by
  refine KtA.of (by decide +kernel) (Nat.le_of_ble_eq_true rfl) ?_
  have i0 := hI.1
  obtain ⟨hk0, hk1⟩ := id hk
  have hw := hs.sale hk
  have hsg := hw.1
  have hnb := hw.2.2.1
  have hns : qN s ≤ 8 := hs.2.1
  obtain ⟨u, d, h5⟩ := hI.sale hk
  obtain ⟨r1, r2⟩ := hr
  obtain ⟨N, hN⟩ : ∃ N : Nat, rounds = (N : Int) := ⟨rounds.toNat, by omega⟩
  obtain ⟨m, hm⟩ : ∃ m : Nat, (m : Int) = sNb (sl s k) := ⟨(sNb (sl s k)).toNat, by omega⟩
  have hmN : (sNb (sl s k)).toNat = m := by omega
  rw [hmN]
  obtain ⟨Zq, hZ⟩ : ∃ Zq : Option Value → sw_M → Prop, Zq = (fun r M' => ∃ R0 Gd0 Sg0, lrR (sl s k) (qT s) (qB s) R0 (sNb (sl s k)) 0 ∧ (∀ i, 0 ≤ i → i < 4 → Gd0 i = 0) ∧ r = some (sw_i (rndN (sl s k) m (seed, 0, 0, R0, Gd0, Sg0) rounds.toNat).2.2.1) ∧ InvC G M' (sL s (sNb (sl s k)) (rndN (sl s k) m (seed, 0, 0, R0, Gd0, Sg0) rounds.toNat).2.1 (rndN (sl s k) m (seed, 0, 0, R0, Gd0, Sg0) rounds.toNat).2.2.2.1 (rndN (sl s k) m (seed, 0, 0, R0, Gd0, Sg0) rounds.toNat).2.2.2.2.1) ∧ frC M M') := ⟨_, rfl⟩
  rw [← hZ]
  have runs : ∀ (q0 : LsT), lrR (sl s k) (qT s) (qB s) q0.2.2.2.1 (sNb (sl s k)) 0 → (∀ i, 0 ≤ i → i < 4 → q0.2.2.2.2.1 i = 0) → q0 = (seed, 0, 0, q0.2.2.2.1, q0.2.2.2.2.1, q0.2.2.2.2.2) → ∀ (f n : Nat) (M1 : sw_M), n + f = N → InvC G M1 (sL s (sNb (sl s k)) (rndN (sl s k) m q0 n).2.1 (rndN (sl s k) m q0 n).2.2.2.1 (rndN (sl s k) m q0 n).2.2.2.2.1) → frC M M1 → sw_hold M1 (cLs G (100 + 5 * k.toNat) (rndN (sl s k) m q0 n).1 m (rndN (sl s k) m q0 n).2.1 (rndN (sl s k) m q0 n).2.2.1 (rndN (sl s k) m q0 n).2.2.2.1 (rndN (sl s k) m q0 n).2.2.2.2.1 (rndN (sl s k) m q0 n).2.2.2.2.2) → V l G μX9_learn sw_E0 (sw_Zq G μX9_learn (sw_q0 G Zq)) 105 [(0, .ref (sw_al G 0)), (1, sw_i k), (2, sw_j seed), (4, sw_i rounds), (5, .ref (sw_al G (100 + 5 * k.toNat))), (6, sw_i (n : Int))] [] M1 0 0 := by
    intro q0 hR0 hG0 hq0 f
    induction f with
    | zero =>
      intro n M1 hn hI1 f1 hL1
      have e : n = N := by omega
      subst e
      refine v_iload dX9_learn_105 rfl ?_
      refine v_iload dX9_learn_107 rfl ?_
      refine v_icmp_ge (tgt := 125) dX9_learn_109 (by decide) ⟨by omega, by omega⟩ ⟨by omega, by omega⟩ (fun h109 => ?_) (fun h109 => ?_)
      · skip
        refine v_aload_n dX9_learn_125 rfl ?_
        refine v_getfH 12 hI1.1 fl_X9_81 rfl dX9_learn_126 ?_
        refine v_getfH 7 hL1.hd fl_X9_313 rfl dX9_learn_129 ?_
        refine v_iret dX9_learn_132 rfl (Nat.le_refl _) (Nat.le_refl _) ?_
        skip
        rw [hZ]
        refine ⟨q0.2.2.2.1, q0.2.2.2.2.1, q0.2.2.2.2.2, hR0, hG0, ?_⟩
        rw [← hq0, hN, Int.toNat_natCast]
        exact ⟨rfl, hI1, f1⟩
      · skip
        exfalso; omega
    | succ f ih =>
      intro n M1 hn hI1 f1 hL1
      obtain ⟨u1, d1, h51⟩ := hI1.sale (k := k) hk
      refine v_iload dX9_learn_105 rfl ?_
      refine v_iload dX9_learn_107 rfl ?_
      refine v_icmp_ge (tgt := 125) dX9_learn_109 (by decide) ⟨by omega, by omega⟩ ⟨by omega, by omega⟩ (fun h109 => ?_) (fun h109 => ?_)
      · skip
        exfalso; omega
      · skip
        refine v_aload_n dX9_learn_112 rfl ?_
        refine v_getfH 12 hI1.1 fl_X9_81 rfl dX9_learn_113 ?_
        refine v_callV (ci := 2) (K2_round (b := 100 + 5 * k.toNat) (by omega) hL1 h51 hw (by omega) (by omega) (rndN_in _ _ (lrR_in hw hs.c hR0) n)) ⟨rfl, rfl⟩ (Nat.le_refl _) (Nat.le_refl _) hL1.hd rfl ⟨ml_X9_310, mm_X2_round⟩ ⟨(Nat.le_of_ble_eq_true rfl), (Nat.le_of_ble_eq_true rfl)⟩ mp_X2_round rfl rfl (Nat.le_of_ble_eq_true rfl) dX9_learn_116 (fun r M2 h => ?_)
        obtain ⟨rfl, rfl⟩ := h
        refine v_iinc dX9_learn_119 rfl (Nat.le_of_ble_eq_true rfl) ?_
        refine v_goto (tgt := 105) dX9_learn_122 (by decide) ?_
        exact v_to (ih (n + 1) _ (by omega) (hm ▸ InvC.setL (s := sL s (sNb (sl s k)) (rndN (sl s k) m q0 n).2.1 (rndN (sl s k) m q0 n).2.2.2.1 (rndN (sl s k) m q0 n).2.2.2.2.1) hI1 cLs_out cLs_self) (f1.trk cLs_frK (by decide)) cLs_self) rfl (sw_h1 rfl (sw_h1 rfl (sw_h1 rfl (sw_h1 rfl (sw_h1 rfl (sw_h1 rfl sw_h0))))))
  have outer : ∀ (n : Nat) (p : Int) (M1 : sw_M) (R Gd Sg : Int → Int), 0 ≤ p → p + n = sNb (sl s k) → InvC G M1 (sL s (sNb (sl s k)) 0 R Gd) → frC M M1 → sw_hold M1 (cLs G (100 + 5 * k.toNat) seed (sNb (sl s k)) 0 0 R Gd Sg) → lrR (sl s k) (qT s) (qB s) R p 0 → (∀ i, 0 ≤ i → i < 4 → Gd i = 0) → V l G μX9_learn sw_E0 (sw_Zq G μX9_learn (sw_q0 G Zq)) 41 [(0, .ref (sw_al G 0)), (1, sw_i k), (2, sw_j seed), (4, sw_i rounds), (5, .ref (sw_al G (100 + 5 * k.toNat))), (6, sw_i p)] [] M1 0 0 := by
    intro n
    induction n with
    | zero =>
      intro p M1 R Gd Sg p0 p1 hI1 f1 hL1 hR hG
      have e : p = sNb (sl s k) := by omega
      subst e
      obtain ⟨u1, d1, h51⟩ := hI1.sale (k := k) hk
      refine v_iload dX9_learn_41 rfl ?_
      refine v_aload dX9_learn_43 rfl ?_
      refine v_getfH 6 h51.hd fl_X9_114 rfl dX9_learn_45 ?_
      refine v_icmp_ge (tgt := 102) dX9_learn_48 (by decide) ⟨by omega, by omega⟩ ⟨by show (-2147483648 : Int) ≤ sNb (sl s k); omega, by show sNb (sl s k) < 2147483648; omega⟩ (fun h48 => ?_) (fun h48 => ?_)
      · skip
        refine v_iconst dX9_learn_102 ?_
        refine v_istore dX9_learn_103 (Nat.le_of_ble_eq_true rfl) ?_
        rw [← hm] at hL1
        exact v_to (runs (seed, 0, 0, R, Gd, Sg) hR hG rfl N 0 M1 (by omega) hI1 f1 hL1) rfl (sw_h1 rfl (sw_h1 rfl (sw_h1 rfl (sw_h1 rfl (sw_h1 rfl (sw_h1 rfl sw_h0))))))
      · skip
        exact absurd (Int.le_refl _) h48
    | succ n ih =>
      intro p M1 R Gd Sg p0 p1 hI1 f1 hL1 hR hG
      have inner : ∀ (n2 : Nat) (i : Int) (M2 : sw_M) (R : Int → Int), 0 ≤ i → i + n2 = sSg (sl s k) → InvC G M2 (sL s (sNb (sl s k)) 0 R Gd) → frC M M2 → sw_hold M2 (cLs G (100 + 5 * k.toNat) seed (sNb (sl s k)) 0 0 R Gd Sg) → lrR (sl s k) (qT s) (qB s) R p i → V l G μX9_learn sw_E0 (sw_Zq G μX9_learn (sw_q0 G Zq)) 54 [(0, .ref (sw_al G 0)), (1, sw_i k), (2, sw_j seed), (4, sw_i rounds), (5, .ref (sw_al G (100 + 5 * k.toNat))), (6, sw_i p), (7, sw_i i)] [] M2 0 0 := by
        intro n2
        induction n2 with
        | zero =>
          intro i M2 R i0 i1 hI2 f2 hL2 hR
          have e : i = sSg (sl s k) := by omega
          subst e
          obtain ⟨u1, d1, h51⟩ := hI2.sale (k := k) hk
          refine v_iload dX9_learn_54 rfl ?_
          refine v_aload dX9_learn_56 rfl ?_
          refine v_getfH 4 h51.hd fl_X9_108 rfl dX9_learn_58 ?_
          refine v_icmp_ge (tgt := 96) dX9_learn_61 (by decide) ⟨by omega, by omega⟩ ⟨by show (-2147483648 : Int) ≤ sSg (sl s k); omega, by show sSg (sl s k) < 2147483648; omega⟩ (fun h61 => ?_) (fun h61 => ?_)
          · skip
            refine v_iinc dX9_learn_96 rfl (Nat.le_of_ble_eq_true rfl) ?_
            refine v_goto (tgt := 41) dX9_learn_99 (by decide) ?_
            exact v_to (ih (p + 1) M2 R Gd Sg (by omega) (by omega) hI2 f2 hL2 (lrR_nx hR) hG) rfl (sw_h1 rfl (sw_h1 rfl (sw_h1 rfl (sw_h1 rfl (sw_h1 rfl (sw_h1 rfl sw_h0))))))
          · skip
            exact absurd (Int.le_refl _) h61
        | succ n2 ih2 =>
          intro i M2 R i0 i1 hI2 f2 hL2 hR
          obtain ⟨u1, d1, h51⟩ := hI2.sale (k := k) hk
          refine v_iload dX9_learn_54 rfl ?_
          refine v_aload dX9_learn_56 rfl ?_
          refine v_getfH 4 h51.hd fl_X9_108 rfl dX9_learn_58 ?_
          refine v_icmp_ge (tgt := 96) dX9_learn_61 (by decide) ⟨by omega, by omega⟩ ⟨by show (-2147483648 : Int) ≤ sSg (sl s k); omega, by show sSg (sl s k) < 2147483648; omega⟩ (fun h61 => ?_) (fun h61 => ?_)
          · skip
            exact absurd (show sSg (sl s k) ≤ i from h61) (by omega)
          · skip
            refine v_aload_n dX9_learn_64 rfl ?_
            refine v_getfH 12 hI2.1 fl_X9_81 rfl dX9_learn_65 ?_
            refine v_getfH 0 hL2.hd fl_X9_307 rfl dX9_learn_68 ?_
            refine v_iload dX9_learn_71 rfl ?_
            refine v_iconst dX9_learn_73 ?_
            refine v_imul dX9_learn_74 ?_
            refine v_iload dX9_learn_75 rfl ?_
            refine v_iadd dX9_learn_77 ?_
            refine v_aload_n dX9_learn_78 rfl ?_
            refine v_aload dX9_learn_79 rfl ?_
            refine v_iload dX9_learn_81 rfl ?_
            refine v_iload dX9_learn_83 rfl ?_
            refine v_iconst dX9_learn_85 ?_
            refine v_callV (ci := 9) (W_bidOf (s := sL s (sNb (sl s k)) 0 R Gd) hI2 (stOK.sL hs ⟨by omega, by omega⟩ (lrR_in hw hs.c hR)) hk (seat := p) (j := i) (his := -1) ⟨by omega, by omega⟩ ⟨by omega, by omega⟩ ⟨by omega, by omega⟩) ⟨rfl, rfl⟩ (Nat.le_refl _) (Nat.le_refl _) hI2.1 rfl ⟨ml_X9_180, mm_X9_bidOf⟩ ⟨(Nat.le_of_ble_eq_true rfl), (Nat.le_of_ble_eq_true rfl)⟩ mp_X9_bidOf rfl rfl (Nat.le_of_ble_eq_true rfl) dX9_learn_86 (fun r M3 h => ?_)
            obtain ⟨rfl, hI3, f3⟩ := h
            have hL3 := cLs_fr hL2 f3 (by decide)
            refine v_iastH hL3.tl.hd (Nat.le_of_ble_eq_true rfl) (by omega) (by omega) dX9_learn_89 ?_
            refine v_iinc dX9_learn_90 rfl (Nat.le_of_ble_eq_true rfl) ?_
            refine v_goto (tgt := 54) dX9_learn_93 (by decide) ?_
            exact v_to (ih2 (i + 1) _ _ (by omega) (by omega) (InvC.setL (s := sL s (sNb (sl s k)) 0 R Gd) hI3 (fun t ht => if_neg (by omega)) (cLs_up hL3)) ((f2.trk f3 (by decide)).trk (frK.up (L := [31]) (by decide)) (by decide)) (cLs_up hL3) (lrR_up hR p0 ⟨i0, by omega⟩ (by omega))) rfl (sw_h1 rfl (sw_h1 rfl (sw_h1 rfl (sw_h1 rfl (sw_h1 rfl (sw_h1 rfl (sw_h1 rfl sw_h0)))))))
      obtain ⟨u1, d1, h51⟩ := hI1.sale (k := k) hk
      refine v_iload dX9_learn_41 rfl ?_
      refine v_aload dX9_learn_43 rfl ?_
      refine v_getfH 6 h51.hd fl_X9_114 rfl dX9_learn_45 ?_
      refine v_icmp_ge (tgt := 102) dX9_learn_48 (by decide) ⟨by omega, by omega⟩ ⟨by show (-2147483648 : Int) ≤ sNb (sl s k); omega, by show sNb (sl s k) < 2147483648; omega⟩ (fun h48 => ?_) (fun h48 => ?_)
      · skip
        exact absurd (show sNb (sl s k) ≤ p from h48) (by omega)
      · skip
        refine v_iconst dX9_learn_51 ?_
        refine v_istore dX9_learn_52 (Nat.le_of_ble_eq_true rfl) ?_
        exact v_to (inner (sSg (sl s k)).toNat 0 M1 R (by omega) (by omega) hI1 f1 hL1 hR) rfl (sw_h1 rfl (sw_h1 rfl (sw_h1 rfl (sw_h1 rfl (sw_h1 rfl (sw_h1 rfl (sw_h1 rfl sw_h0)))))))
  obtain ⟨b0, x0, so0, Sg0, il⟩ := hI.2.2.2.2.2.2.2.2.1
  refine v_aload_n dX9_learn_0 rfl ?_
  refine v_iload_n dX9_learn_1 rfl ?_
  refine v_callV (ci := 9) (K9_saleAt (ns := qN s) (nt := qT s) (k := k) i0 hI.2.1 hns hk) ⟨rfl, rfl⟩ (Nat.le_refl _) (Nat.le_refl _) i0 rfl ⟨ml_X9_104, mm_X9_saleAt⟩ ⟨(Nat.le_of_ble_eq_true rfl), (Nat.le_of_ble_eq_true rfl)⟩ mp_X9_saleAt rfl rfl (Nat.le_of_ble_eq_true rfl) dX9_learn_2 (fun r M' h => ?_)
  obtain ⟨rfl, rfl⟩ := h
  refine v_astore dX9_learn_5 (Nat.le_of_ble_eq_true rfl) ?_
  refine v_aload dX9_learn_7 rfl ?_
  refine v_ifnull dX9_learn_9 ?_
  refine v_iload dX9_learn_12 rfl ?_
  refine v_iconst dX9_learn_14 ?_
  refine v_icmp_lt (tgt := 26) dX9_learn_15 (by decide) ⟨by omega, by omega⟩ ⟨by omega, by omega⟩ (fun h15 => ?_) (fun h15 => ?_)
  · skip
    exfalso; omega
  · skip
    refine v_iload dX9_learn_18 rfl ?_
    refine v_sipush dX9_learn_20 (by decide +kernel) ?_
    refine v_icmp_le (tgt := 28) dX9_learn_23 (by decide) ⟨by omega, by omega⟩ ⟨by omega, by omega⟩ (fun h23 => ?_) (fun h23 => ?_)
    · skip
      refine v_aload_n dX9_learn_28 rfl ?_
      refine v_getfH 12 i0 fl_X9_81 rfl dX9_learn_29 ?_
      refine v_aload dX9_learn_32 rfl ?_
      refine v_lload_n dX9_learn_34 rfl ?_
      refine v_callV (ci := 2) (K2_begin (b := 100 + 5 * k.toNat) (by omega) il h5.hd) ⟨rfl, rfl⟩ (Nat.le_refl _) (Nat.le_refl _) il.hd rfl ⟨ml_X9_304, mm_X2_begin⟩ ⟨(Nat.le_of_ble_eq_true rfl), (Nat.le_of_ble_eq_true rfl)⟩ mp_X2_begin rfl rfl (Nat.le_of_ble_eq_true rfl) dX9_learn_35 (fun r M1 h => ?_)
      obtain ⟨rfl, rfl⟩ := h
      refine v_iconst dX9_learn_38 ?_
      refine v_istore dX9_learn_39 (Nat.le_of_ble_eq_true rfl) ?_
      exact v_to (outer (sNb (sl s k)).toNat 0 _ _ _ _ (by omega) (by omega) (InvC.setL hI cLs_out cLs_self) (cLs_frK.c (by decide)) cLs_self (fun x x0 x1 => by rw [if_neg (by omega), fl_at, if_pos ⟨x0, by omega⟩]) (fun i i0 i1 => by rw [fl_at, if_pos ⟨i0, by omega⟩])) rfl (sw_h1 rfl (sw_h1 rfl (sw_h1 rfl (sw_h1 rfl (sw_h1 rfl (sw_h1 rfl sw_h0))))))
    · skip
      exfalso; omega
theorem F9_learnX {seed rounds : Int} (hI : InvC G M s) (hs : stOK s) (hk : isS s k) (hr : ¬ (1 ≤ rounds ∧ rounds ≤ 400)) (hg : sw_rg rounds) : Kt l G μX9_learn [.ref (sw_al G 0), sw_i k, sw_j seed, sw_i rounds] M (fun r M' => r = some (sw_i (-1)) ∧ InvC G M' s ∧ frC M M') := by
  refine KtA.of (by decide +kernel) (Nat.le_of_ble_eq_true rfl) ?_
  have i0 := hI.1
  have hns : qN s ≤ 8 := hs.2.1
  obtain ⟨g1, g2⟩ := hg
  refine v_aload_n dX9_learn_0 rfl ?_
  refine v_iload_n dX9_learn_1 rfl ?_
  refine v_callV (ci := 9) (K9_saleAt (ns := qN s) (nt := qT s) (k := k) i0 hI.2.1 hns hk) ⟨rfl, rfl⟩ (Nat.le_refl _) (Nat.le_refl _) i0 rfl ⟨ml_X9_104, mm_X9_saleAt⟩ ⟨(Nat.le_of_ble_eq_true rfl), (Nat.le_of_ble_eq_true rfl)⟩ mp_X9_saleAt rfl rfl (Nat.le_of_ble_eq_true rfl) dX9_learn_2 (fun r M' h => ?_)
  obtain ⟨rfl, rfl⟩ := h
  refine v_astore dX9_learn_5 (Nat.le_of_ble_eq_true rfl) ?_
  refine v_aload dX9_learn_7 rfl ?_
  refine v_ifnull dX9_learn_9 ?_
  refine v_iload dX9_learn_12 rfl ?_
  refine v_iconst dX9_learn_14 ?_
  refine v_icmp_lt (tgt := 26) dX9_learn_15 (by decide) ⟨by omega, by omega⟩ ⟨by omega, by omega⟩ (fun h15 => ?_) (fun h15 => ?_)
  · skip
    refine v_iconst dX9_learn_26 ?_
    exact v_iret dX9_learn_27 rfl (Nat.le_refl _) (Nat.le_refl _) (⟨rfl, hI, frC.rf⟩)
  · skip
    refine v_iload dX9_learn_18 rfl ?_
    refine v_sipush dX9_learn_20 (by decide +kernel) ?_
    refine v_icmp_le (tgt := 28) dX9_learn_23 (by decide) ⟨by omega, by omega⟩ ⟨by omega, by omega⟩ (fun h23 => ?_) (fun h23 => ?_)
    · skip
      exfalso; omega
    · skip
      refine v_iconst dX9_learn_26 ?_
      exact v_iret dX9_learn_27 rfl (Nat.le_refl _) (Nat.le_refl _) (⟨rfl, hI, frC.rf⟩)
theorem F9_learnN {seed rounds : Int} (hI : InvC G M s) (hs : stOK s) (hk : ¬ isS s k) (hg : sw_rg k) : Kt l G μX9_learn [.ref (sw_al G 0), sw_i k, sw_j seed, sw_i rounds] M (fun r M' => r = some (sw_i (-1)) ∧ InvC G M' s ∧ frC M M') := by
  refine KtA.of (by decide +kernel) (Nat.le_of_ble_eq_true rfl) ?_
  have i0 := hI.1
  have hns : qN s ≤ 8 := hs.2.1
  refine v_aload_n dX9_learn_0 rfl ?_
  refine v_iload_n dX9_learn_1 rfl ?_
  refine v_callV (ci := 9) (K9_saleAtN (ns := qN s) (nt := qT s) (k := k) i0 hns hk hg) ⟨rfl, rfl⟩ (Nat.le_refl _) (Nat.le_refl _) i0 rfl ⟨ml_X9_104, mm_X9_saleAt⟩ ⟨(Nat.le_of_ble_eq_true rfl), (Nat.le_of_ble_eq_true rfl)⟩ mp_X9_saleAt rfl rfl (Nat.le_of_ble_eq_true rfl) dX9_learn_2 (fun r M' h => ?_)
  obtain ⟨rfl, rfl⟩ := h
  refine v_astoreN dX9_learn_5 (Nat.le_of_ble_eq_true rfl) ?_
  refine v_aloadN dX9_learn_7 rfl ?_
  refine v_ifnullN (tgt := 26) dX9_learn_9 (by decide) ?_
  refine v_iconst dX9_learn_26 ?_
  exact v_iret dX9_learn_27 rfl (Nat.le_refl _) (Nat.le_refl _) (⟨rfl, hI, frC.rf⟩)
end

