/-! the reference's face: learn -/
theorem mvA_fr {Rw Sg : Int → Int} : ∀ (k : Nat) (z : Int), (∀ i : Nat, i < k → z ≠ (i : Int) * 5 + Sg i) → mvA Rw Sg k z = Rw z
  | 0, _, _ => rfl
  | k + 1, z, h => by
    show (if z = (k : Int) * 5 + Sg k then _ else mvA Rw Sg k z) = Rw z
    rw [if_neg (h k (by omega))]
    exact mvA_fr k z (fun i hi => h i (by omega))
theorem rnd_fr {σ : SaleT} (hw : wfS σ) {m : Nat} (hm : 1 ≤ m ∧ m ≤ 4) (q : LsT) {p j : Int} (hj : sSg σ ≤ j ∧ j < 5) : (rnd σ m q).2.2.2.1 (p * 5 + j) = q.2.2.2.1 (p * 5 + j) := by
  have hsg := hw.1
  have hS : ∀ i : Nat, i < m → 0 ≤ sgD σ (rdT σ q.1) (nxX q.1) q.2.2.2.2.2 m i ∧ sgD σ (rdT σ q.1) (nxX q.1) q.2.2.2.2.2 m i < sSg σ := fun i hi => sgD_bd hw _ _ _ m i hi
  unfold rnd
  generalize sgD σ (rdT σ q.1) (nxX q.1) q.2.2.2.2.2 m = S at *
  generalize xsN (nxX q.1) m = Y
  generalize rdT σ q.1 = t
  unfold rnE
  have hz : ∀ i : Nat, i < m → p * 5 + j ≠ (i : Int) * 5 + S i := fun i hi => by have := hS i hi; omega
  by_cases c : hg q.2.2.2.1 S (sLe σ) (-1) m = -1
  · rw [if_pos c]
    show (if sLe σ ≤ sV σ t then mvA q.2.2.2.1 S m else q.2.2.2.1) (p * 5 + j) = _
    by_cases d : sLe σ ≤ sV σ t
    · rw [if_pos d]; exact mvA_fr m _ hz
    · rw [if_neg d]
  · rw [if_neg c]
    obtain ⟨w, hw2⟩ : ∃ w, pkW q.2.2.2.1 S (hg q.2.2.2.1 S (sLe σ) (-1) m) m 0 (drw (nxX Y) (ctH q.2.2.2.1 S (hg q.2.2.2.1 S (sLe σ) (-1) m) m)) = w := ⟨_, rfl⟩
    rw [hw2]
    have hwb : 0 ≤ w ∧ w < (m : Int) := by
      have := pkW_bd q.2.2.2.1 S (hg q.2.2.2.1 S (sLe σ) (-1) m) m 0 (drw (nxX Y) (ctH q.2.2.2.1 S (hg q.2.2.2.1 S (sLe σ) (-1) m) m)) (Int.le_refl 0)
      rw [hw2] at this
      omega
    show rwL q.2.2.2.1 S m (sV σ t) w (prL σ q.2.2.2.1 S m w) (p * 5 + j) = _
    unfold rwL
    have hzw := hz w.toNat (by omega)
    rw [show ((w.toNat : Nat) : Int) = w by omega] at hzw
    by_cases d : sV σ t < prL σ q.2.2.2.1 S m w
    · rw [if_pos d]
      show (if p * 5 + j = w * 5 + S w then _ else q.2.2.2.1 (p * 5 + j)) = _
      rw [if_neg hzw]
    · rw [if_neg d]
      by_cases e : prL σ q.2.2.2.1 S m w < sV σ t
      · rw [if_pos e]; exact mvO_fr m _ hz
      · rw [if_neg e]
theorem rndN_fr {σ : SaleT} (hw : wfS σ) {m : Nat} (hm : 1 ≤ m ∧ m ≤ 4) (q : LsT) {p j : Int} (hj : sSg σ ≤ j ∧ j < 5) : ∀ n : Nat, (rndN σ m q n).2.2.2.1 (p * 5 + j) = q.2.2.2.1 (p * 5 + j)
  | 0 => rfl
  | n + 1 => (rnd_fr hw hm (rndN σ m q n) hj).trans (rndN_fr hw hm q hj n)
abbrev XM : List Nat := 50 :: 51 :: 52 :: XL
abbrev AM : List Nat := 48 :: 49 :: AL
theorem RI.fl {s : CSt} {x x' : Nat → Int} {a a' : Nat → Int → Int} (h : RI s x a) (hx : xfr XM x x') (ha : afr AM a a') {m K : Int} {R Gd : Int → Int} (e1 : x' 50 = m) (e2 : x' 52 = K) (e3 : ∀ i, 0 ≤ i → i < m → a' 49 i = Gd i) (e4 : ∀ p j, 0 ≤ p → p < m → 0 ≤ j → j < 5 → (if j < x' 51 then a' 48 (5 * p + j) else 0) = R (p * 5 + j)) (e5 : 0 ≤ x' 51 ∧ x' 51 ≤ 5) : RI (sL s m K R Gd) x' a' := by
  obtain ⟨h1, h2, h3, h4, h5, h6, h7, h8, h9, h10, h11, h12⟩ := h
  refine ⟨(hx 2 (by decide)).trans h1, ?_, (hx 14 (by decide)).trans h3, (hx 19 (by decide)).trans h4, ?_, ?_, fun k hk => ⟨(h7 k hk).1.fr ha (by decide), ?_⟩, ?_, e1, e2, e3, e4, e5⟩
  · rw [ha 1 (by decide)]; exact h2
  · rw [ha 18 (by decide)]; exact h5
  · rw [ha 42 (by decide)]; exact h6
  · rw [ha 13 (by decide)]; exact (h7 k hk).2
  · rw [ha 13 (by decide)]; exact h8
section
variable {l : Launch} {G : sw_G} {M : sw_M} {s : CSt} {k : Int} {x : Nat → Int} {a : Nat → Int → Int}
theorem R9_learn {seed rounds : Int} {R0 Gd0 Sg0 : Int → Int} (hI : InvR G M s) (hs : stOK s) (hk : isS s k) (hr : 1 ≤ rounds ∧ rounds ≤ 400) (hR0 : lrR (sl s k) (qT s) (qB s) R0 (sNb (sl s k)) 0) (hG0 : ∀ i, 0 ≤ i → i < 4 → Gd0 i = 0) : Kt l G μX10_learn [.ref (sw_al G 70), sw_i k, sw_j seed, sw_i rounds] M (fun r M' => r = some (sw_i (rndN (sl s k) (sNb (sl s k)).toNat (seed, 0, 0, R0, Gd0, Sg0) rounds.toNat).2.2.1) ∧ InvR G M' (sL s (sNb (sl s k)) (rndN (sl s k) (sNb (sl s k)).toNat (seed, 0, 0, R0, Gd0, Sg0) rounds.toNat).2.1 (rndN (sl s k) (sNb (sl s k)).toNat (seed, 0, 0, R0, Gd0, Sg0) rounds.toNat).2.2.2.1 (rndN (sl s k) (sNb (sl s k)).toNat (seed, 0, 0, R0, Gd0, Sg0) rounds.toNat).2.2.2.2.1) ∧ frR M M') := by
  refine KtA.of (by decide +kernel) (Nat.le_of_ble_eq_true rfl) ?_
  have hF : frR M M := frR.rf
  obtain ⟨x, a, hM, hRI⟩ := hI
  have hw := hs.sale hk
  have hnb := hw.2.2.1
  have hsg := hw.1
  have hns : qN s ≤ 8 := hs.2.1
  obtain ⟨hk0, hk1⟩ := id hk
  have hX : xfr XL x x := xfr.rf
  have hA : afr AL a a := afr.rf
  obtain ⟨N, hN⟩ : ∃ N : Nat, rounds = (N : Int) := ⟨rounds.toNat, by omega⟩
  subst hN
  rw [Int.toNat_natCast]
  obtain ⟨m, hm⟩ : ∃ m, (sNb (sl s k)).toNat = m := ⟨_, rfl⟩
  have hmI : sNb (sl s k) = (m : Int) := by omega
  rw [hm]
  have hm14 : 1 ≤ m ∧ m ≤ 4 := by omega
  have hRin := lrR_in hw hs.c hR0
  obtain ⟨q0, hq0⟩ : ∃ q0 : LsT, (seed, 0, 0, R0, Gd0, Sg0) = q0 := ⟨_, rfl⟩
  have q1 : q0.1 = seed := by rw [← hq0]
  have q2 : q0.2.1 = 0 := by rw [← hq0]
  have q3 : q0.2.2.1 = 0 := by rw [← hq0]
  have q4 : q0.2.2.2.1 = R0 := by rw [← hq0]
  have q5 : q0.2.2.2.2.1 = Gd0 := by rw [← hq0]
  rw [hq0]
  obtain ⟨σ, hσ⟩ : ∃ σ, sl s k = σ := ⟨_, rfl⟩
  obtain ⟨Zq, hZ⟩ : ∃ Zq : Option Value → sw_M → Prop, Zq = (fun r M' => r = some (sw_i (rndN (sl s k) m q0 N).2.2.1) ∧ InvR G M' (sL s (sNb (sl s k)) (rndN (sl s k) m q0 N).2.1 (rndN (sl s k) m q0 N).2.2.2.1 (rndN (sl s k) m q0 N).2.2.2.2.1) ∧ frR M M') := ⟨_, rfl⟩
  rw [← hZ]
  rw [hσ] at hw hnb hsg hZ hm hmI hR0
  have hqin : ∀ j, 0 ≤ j → j < 20 → 0 ≤ q0.2.2.2.1 j ∧ q0.2.2.2.1 j ≤ 60 := by rw [q4]; exact hRin
  have runs : ∀ (c n : Nat) (x1 : Nat → Int) (a1 : Nat → Int → Int) (M1 : sw_M), n + c = N → RS G M1 x1 a1 → frR M M1 → xfr XM x x1 → afr AM a a1 → rowR a1 k σ → x1 21 = (m : Int) → x1 22 = sLe σ → x1 23 = sWy σ → x1 50 = (m : Int) → x1 51 = sSg σ → LR σ m (rndN σ m q0 n) x1 a1 → V l G μX10_learn sw_E0 (sw_Zq G μX10_learn (sw_q0 G Zq)) 114 [(0, .ref (sw_al G 70)), (1, sw_i k), (2, sw_j seed), (4, sw_i (N : Int)), (5, sw_i (rndN σ m q0 n).2.2.1), (6, sw_i (n : Int))] [] M1 0 0 := by
    intro c
    induction c with
    | zero =>
      intro n x1 a1 M1 hn hM hF hx ha hrw h21 h22 h23 h50 h51 hL
      have e : n = N := by omega
      subst e
      refine v_iload dX10_learn_114 rfl ?_
      refine v_iload dX10_learn_116 rfl ?_
      refine v_icmp_ge (tgt := 145) dX10_learn_118 (by decide) ⟨by omega, by omega⟩ ⟨by omega, by omega⟩ (fun h118 => ?_) (fun h118 => ?_)
      · skip
        refine v_iload dX10_learn_145 rfl ?_
        refine v_iret dX10_learn_147 rfl (Nat.le_refl _) (Nat.le_refl _) ?_
        skip
        rw [hZ]
        refine ⟨rfl, ⟨x1, a1, hM, ?_⟩, hF⟩
        rw [hmI]
        refine hRI.fl hx ha h50 hL.2.1 hL.2.2.2 (fun p j p0 p1 j0 j1 => ?_) ⟨by omega, by omega⟩
        rw [h51]
        by_cases d : j < sSg σ
        · rw [if_pos d]; exact hL.2.2.1 p j p0 p1 j0 d
        · rw [if_neg d, rndN_fr hw hm14 q0 ⟨by omega, j1⟩ n, q4, hR0 (p * 5 + j) (by omega) (by omega), if_neg (by omega)]
      · skip
        exfalso; omega
    | succ c ih =>
      intro n x1 a1 M1 hn hM hF hx ha hrw h21 h22 h23 h50 h51 hL
      refine v_iload dX10_learn_114 rfl ?_
      refine v_iload dX10_learn_116 rfl ?_
      refine v_icmp_ge (tgt := 145) dX10_learn_118 (by decide) ⟨by omega, by omega⟩ ⟨by omega, by omega⟩ (fun h118 => ?_) (fun h118 => ?_)
      · skip
        exfalso; omega
      · skip
        refine v_iload dX10_learn_121 rfl ?_
        refine v_aload_n dX10_learn_123 rfl ?_
        refine v_iload_n dX10_learn_124 rfl ?_
        refine v_callV (ci := 10) (K10_round hM ⟨hk0, by omega⟩ hw hrw hm14 h21 h22 h23 hL (rndN_in σ m hqin n)) ⟨rfl, rfl⟩ (Nat.le_refl _) (Nat.le_refl _) hM.1 rfl ⟨ml_X10_355, mm_X10_round⟩ ⟨(Nat.le_of_ble_eq_true rfl), (Nat.le_of_ble_eq_true rfl)⟩ mp_X10_round rfl rfl (Nat.le_of_ble_eq_true rfl) dX10_learn_125 (fun r M' h => ?_)
        obtain ⟨z, x2, a2, rfl, hz, hso, hM2, hF2, hx2, ha2, hL2⟩ := h
        have hstep : (rndN σ m q0 (n + 1)).2.2.1 = (rndN σ m q0 n).2.2.1 + z := hso
        refine v_if_eq (tgt := 135) dX10_learn_128 (by decide) ⟨by omega, by omega⟩ (fun h128 => ?_) (fun h128 => ?_)
        · skip
          refine v_iconst dX10_learn_135 ?_
          refine v_iadd dX10_learn_136 ?_
          refine v_istore dX10_learn_137 (Nat.le_of_ble_eq_true rfl) ?_
          refine v_iinc dX10_learn_139 rfl (Nat.le_of_ble_eq_true rfl) ?_
          refine v_goto (tgt := 114) dX10_learn_142 (by decide) ?_
          refine v_to (ih (n + 1) x2 a2 _ (by omega) hM2 (hF.tr hF2) (hx.tr hx2 (fun t h => h) (by decide)) (ha.tr ha2 (fun t h => h) (by decide)) (hrw.fr ha2 (by decide)) ((hx2 21 (by decide)).trans h21) ((hx2 22 (by decide)).trans h22) ((hx2 23 (by decide)).trans h23) ((hx2 50 (by decide)).trans h50) ((hx2 51 (by decide)).trans h51) hL2) rfl ?_
          rw [hstep]
          first
            | (rw [show z = 0 by omega]; exact sw_h1 rfl (sw_h1 rfl (sw_h1 rfl (sw_h1 rfl (sw_h1 rfl (sw_h1 rfl sw_h0))))))
            | (rw [show z = 1 by omega]; exact sw_h1 rfl (sw_h1 rfl (sw_h1 rfl (sw_h1 rfl (sw_h1 rfl (sw_h1 rfl sw_h0))))))
        · skip
          refine v_iconst dX10_learn_131 ?_
          refine v_goto (tgt := 136) dX10_learn_132 (by decide) ?_
          refine v_iadd dX10_learn_136 ?_
          refine v_istore dX10_learn_137 (Nat.le_of_ble_eq_true rfl) ?_
          refine v_iinc dX10_learn_139 rfl (Nat.le_of_ble_eq_true rfl) ?_
          refine v_goto (tgt := 114) dX10_learn_142 (by decide) ?_
          refine v_to (ih (n + 1) x2 a2 _ (by omega) hM2 (hF.tr hF2) (hx.tr hx2 (fun t h => h) (by decide)) (ha.tr ha2 (fun t h => h) (by decide)) (hrw.fr ha2 (by decide)) ((hx2 21 (by decide)).trans h21) ((hx2 22 (by decide)).trans h22) ((hx2 23 (by decide)).trans h23) ((hx2 50 (by decide)).trans h50) ((hx2 51 (by decide)).trans h51) hL2) rfl ?_
          rw [hstep]
          first
            | (rw [show z = 0 by omega]; exact sw_h1 rfl (sw_h1 rfl (sw_h1 rfl (sw_h1 rfl (sw_h1 rfl (sw_h1 rfl sw_h0))))))
            | (rw [show z = 1 by omega]; exact sw_h1 rfl (sw_h1 rfl (sw_h1 rfl (sw_h1 rfl (sw_h1 rfl (sw_h1 rfl sw_h0))))))
  have zeros : ∀ (c : Nat) (j : Int) (x1 : Nat → Int) (a1 : Nat → Int → Int) (M1 : sw_M), 0 ≤ j → j + c = 4 → RS G M1 x1 a1 → frR M M1 → xfr XM x x1 → afr AM a a1 → rowR a1 k σ → x1 21 = (m : Int) → x1 22 = sLe σ → x1 23 = sWy σ → x1 50 = (m : Int) → x1 51 = sSg σ → x1 52 = 0 → x1 53 = seed → (∀ p j, 0 ≤ p → p < (m : Int) → 0 ≤ j → j < sSg σ → a1 48 (5 * p + j) = R0 (p * 5 + j)) → (∀ i, 0 ≤ i → i < j → a1 49 i = 0) → V l G μX10_learn sw_E0 (sw_Zq G μX10_learn (sw_q0 G Zq)) 88 [(0, .ref (sw_al G 70)), (1, sw_i k), (2, sw_j seed), (4, sw_i (N : Int)), (5, sw_i j)] [] M1 0 0 := by
    intro c
    induction c with
    | zero =>
      intro j x1 a1 M1 j0 jc hM hF hx ha hrw h21 h22 h23 h50 h51 h52 h53 h48 h49
      refine v_iload dX10_learn_88 rfl ?_
      refine v_iconst dX10_learn_90 ?_
      refine v_icmp_ge (tgt := 108) dX10_learn_91 (by decide) ⟨by omega, by omega⟩ ⟨by omega, by omega⟩ (fun h91 => ?_) (fun h91 => ?_)
      · skip
        refine v_iconst dX10_learn_108 ?_
        refine v_istore dX10_learn_109 (Nat.le_of_ble_eq_true rfl) ?_
        refine v_iconst dX10_learn_111 ?_
        refine v_istore dX10_learn_112 (Nat.le_of_ble_eq_true rfl) ?_
        refine v_to (runs N 0 x1 a1 _ (by omega) hM hF hx ha hrw h21 h22 h23 h50 h51 ⟨h53.trans q1.symm, h52.trans q2.symm, fun p j p0 p1 j0 j1 => by rw [h48 p j p0 p1 j0 j1]; show _ = q0.2.2.2.1 (p * 5 + j); rw [q4], fun i i0 i1 => by rw [h49 i i0 (by omega)]; show _ = q0.2.2.2.2.1 i; rw [q5, hG0 i i0 (by omega)]⟩) rfl ?_
        rw [show (rndN σ m q0 0).2.2.1 = 0 from q3]
        exact sw_h1 rfl (sw_h1 rfl (sw_h1 rfl (sw_h1 rfl (sw_h1 rfl (sw_h1 rfl sw_h0)))))
      · skip
        exfalso; omega
    | succ c ih =>
      intro j x1 a1 M1 j0 jc hM hF hx ha hrw h21 h22 h23 h50 h51 h52 h53 h48 h49
      refine v_iload dX10_learn_88 rfl ?_
      refine v_iconst dX10_learn_90 ?_
      refine v_icmp_ge (tgt := 108) dX10_learn_91 (by decide) ⟨by omega, by omega⟩ ⟨by omega, by omega⟩ (fun h91 => ?_) (fun h91 => ?_)
      · skip
        exfalso; omega
      · skip
        refine v_aload_n dX10_learn_94 rfl ?_
        refine v_getfH 49 hM.1 fl_X10_73 rfl dX10_learn_95 ?_
        refine v_iload dX10_learn_98 rfl ?_
        refine v_iconst dX10_learn_100 ?_
        refine v_ris hM hF ar_49 (by omega) (by omega) dX10_learn_101 (fun M hM hF => ?_)
        refine v_iinc dX10_learn_102 rfl (Nat.le_of_ble_eq_true rfl) ?_
        refine v_goto (tgt := 88) dX10_learn_105 (by decide) ?_
        refine v_to (ih (j + 1) x1 _ _ (by omega) (by omega) hM hF hx (ha.up (k := 49) (by decide)) (hrw.fr (afr.rf.up (L := [49]) (k := 49) (by decide)) (by decide)) h21 h22 h23 h50 h51 h52 h53 h48 (fun i i0 i1 => ?_)) rfl (sw_h1 rfl (sw_h1 rfl (sw_h1 rfl (sw_h1 rfl (sw_h1 rfl sw_h0)))))
        show up (a1 49) j 0 i = 0
        by_cases e : i = j
        · subst e; rw [up_eq]
        · rw [up_ne e]; exact h49 i i0 (by omega)
  have copy : ∀ (c : Nat) (j : Int) (x1 : Nat → Int) (a1 : Nat → Int → Int) (M1 : sw_M), 0 ≤ j → j + c = 20 → RS G M1 x1 a1 → frR M M1 → xfr XM x x1 → afr AM a a1 → rowR a1 k σ → x1 21 = (m : Int) → x1 22 = sLe σ → x1 23 = sWy σ → x1 50 = (m : Int) → x1 51 = sSg σ → x1 52 = 0 → x1 53 = seed → (∀ p j, 0 ≤ p → p < (m : Int) → 0 ≤ j → j < sSg σ → a1 20 (5 * p + j) = R0 (p * 5 + j)) → (∀ i, 0 ≤ i → i < j → a1 48 i = a1 20 i) → V l G μX10_learn sw_E0 (sw_Zq G μX10_learn (sw_q0 G Zq)) 58 [(0, .ref (sw_al G 70)), (1, sw_i k), (2, sw_j seed), (4, sw_i (N : Int)), (5, sw_i j)] [] M1 0 0 := by
    intro c
    induction c with
    | zero =>
      intro j x1 a1 M1 j0 jc hM hF hx ha hrw h21 h22 h23 h50 h51 h52 h53 h20 h48
      refine v_iload dX10_learn_58 rfl ?_
      refine v_bipush dX10_learn_60 (by decide +kernel) ?_
      refine v_icmp_ge (tgt := 85) dX10_learn_62 (by decide) ⟨by omega, by omega⟩ ⟨by omega, by omega⟩ (fun h62 => ?_) (fun h62 => ?_)
      · skip
        refine v_iconst dX10_learn_85 ?_
        refine v_istore dX10_learn_86 (Nat.le_of_ble_eq_true rfl) ?_
        exact v_to (zeros 4 0 x1 a1 _ (by omega) (by omega) hM hF hx ha hrw h21 h22 h23 h50 h51 h52 h53 (fun p q p0 p1 z0 z1 => by rw [h48 _ (by omega) (by omega)]; exact h20 p q p0 p1 z0 z1) (fun i i0 i1 => by omega)) rfl (sw_h1 rfl (sw_h1 rfl (sw_h1 rfl (sw_h1 rfl (sw_h1 rfl sw_h0)))))
      · skip
        exfalso; omega
    | succ c ih =>
      intro j x1 a1 M1 j0 jc hM hF hx ha hrw h21 h22 h23 h50 h51 h52 h53 h20 h48
      refine v_iload dX10_learn_58 rfl ?_
      refine v_bipush dX10_learn_60 (by decide +kernel) ?_
      refine v_icmp_ge (tgt := 85) dX10_learn_62 (by decide) ⟨by omega, by omega⟩ ⟨by omega, by omega⟩ (fun h62 => ?_) (fun h62 => ?_)
      · skip
        exfalso; omega
      · skip
        refine v_aload_n dX10_learn_65 rfl ?_
        refine v_getfH 48 hM.1 fl_X10_70 rfl dX10_learn_66 ?_
        refine v_iload dX10_learn_69 rfl ?_
        refine v_aload_n dX10_learn_71 rfl ?_
        refine v_getfH 20 hM.1 fl_X10_46 rfl dX10_learn_72 ?_
        refine v_iload dX10_learn_75 rfl ?_
        refine v_ria hM ar_20 (by omega) (by omega) rfl dX10_learn_77 ?_
        refine v_ris hM hF ar_48 (by omega) (by omega) dX10_learn_78 (fun M hM hF => ?_)
        refine v_iinc dX10_learn_79 rfl (Nat.le_of_ble_eq_true rfl) ?_
        refine v_goto (tgt := 58) dX10_learn_82 (by decide) ?_
        refine v_to (ih (j + 1) x1 _ _ (by omega) (by omega) hM hF hx (ha.up (k := 48) (by decide)) (hrw.fr (afr.rf.up (L := [48]) (k := 48) (by decide)) (by decide)) h21 h22 h23 h50 h51 h52 h53 h20 (fun i i0 i1 => ?_)) rfl (sw_h1 rfl (sw_h1 rfl (sw_h1 rfl (sw_h1 rfl (sw_h1 rfl sw_h0)))))
        show up (a1 48) j (a1 20 j) i = a1 20 i
        by_cases e : i = j
        · subst e; rw [up_eq]
        · rw [up_ne e]; exact h48 i i0 (by omega)
  have hRI0 := hRI
  refine v_aload_n dX10_learn_0 rfl ?_
  refine v_iload_n dX10_learn_1 rfl ?_
  refine v_callV (ci := 10) (K10_isSale hM hRI.2.2.1 ⟨by omega, by omega⟩ ⟨by omega, by omega⟩) ⟨rfl, rfl⟩ (Nat.le_refl _) (Nat.le_refl _) hM.1 rfl ⟨ml_X10_129, mm_X10_isSale⟩ ⟨(Nat.le_of_ble_eq_true rfl), (Nat.le_of_ble_eq_true rfl)⟩ mp_X10_isSale rfl rfl (Nat.le_of_ble_eq_true rfl) dX10_learn_2 (fun r M' h => ?_)
  obtain ⟨rfl, rfl⟩ := h
  refine v_ifb_eq (tgt := 20) dX10_learn_5 (by decide) (fun h5 => ?_) (fun h5 => ?_)
  · skip
    exact absurd hk (by assumption)
  · skip
    refine v_iload dX10_learn_8 rfl ?_
    refine v_iconst dX10_learn_10 ?_
    refine v_sipush dX10_learn_11 (by decide +kernel) ?_
    refine v_callS (K10_in (v := (N : Int)) (lo := 1) (hi := 400) ⟨by omega, by omega⟩ ⟨by omega, by omega⟩ ⟨by omega, by omega⟩) ⟨rfl, rfl⟩ (Nat.le_refl _) (Nat.le_refl _) ⟨ml_X10_107, mm_X10_in⟩ ⟨(Nat.le_of_ble_eq_true rfl), (Nat.le_of_ble_eq_true rfl)⟩ mp_X10_in rfl rfl (Nat.le_of_ble_eq_true rfl) dX10_learn_14 (fun r M' h => ?_)
    obtain ⟨rfl, rfl⟩ := h
    refine v_ifb_ne (tgt := 22) dX10_learn_17 (by decide) (fun h17 => ?_) (fun h17 => ?_)
    · skip
      refine v_aload_n dX10_learn_22 rfl ?_
      refine v_iload_n dX10_learn_23 rfl ?_
      refine v_callV (ci := 10) (K10_bg hM (hRI.fr hX hA) hs hk) ⟨rfl, rfl⟩ (Nat.le_refl _) (Nat.le_refl _) hM.1 rfl ⟨ml_X10_199, mm_X10_begin⟩ ⟨(Nat.le_of_ble_eq_true rfl), (Nat.le_of_ble_eq_true rfl)⟩ mp_X10_begin rfl rfl (Nat.le_of_ble_eq_true rfl) dX10_learn_24 (fun r M' h => ?_)
      obtain ⟨x2, a2, rfl, hM2, hF2, hx2, ha2, hBG⟩ := h
      replace hM := hM2
      replace hF := hF.tr hF2
      replace hX := hX.tr hx2 (fun t h => h) (by decide)
      replace hA := hA.tr ha2 (fun t h => h) (by decide)
      rw [hσ, hm] at hBG
      obtain ⟨b1, b2, b3, b4, b5⟩ := hBG
      have hX' : xfr XM x x2 := fun t h => hX t (fun h2 => h (List.mem_cons_of_mem _ (List.mem_cons_of_mem _ (List.mem_cons_of_mem _ h2))))
      have hA' : afr AM a a2 := fun t h => hA t (fun h2 => h (List.mem_cons_of_mem _ (List.mem_cons_of_mem _ h2)))
      have g5 : a2 5 k = sSg σ := b1.1
      refine v_aload_n dX10_learn_27 rfl ?_
      refine v_aload_n dX10_learn_28 rfl ?_
      refine v_rgi 21 hM b2 fl_X10_176 rfl dX10_learn_29 ?_
      refine v_rp 50 hM hF (flS_50 G _ _) fp_X10_346 rfl rfl (Nat.le_of_ble_eq_true rfl) dX10_learn_32 (fun M hM hF => ?_)
      refine v_aload_n dX10_learn_35 rfl ?_
      refine v_aload_n dX10_learn_36 rfl ?_
      refine v_getfH 5 hM.1 fl_X10_13 rfl dX10_learn_37 ?_
      refine v_iload_n dX10_learn_40 rfl ?_
      refine v_ria hM ar_5 (by omega) (by omega) g5 dX10_learn_41 ?_
      refine v_rp 51 hM hF (flS_51 G _ _) fp_X10_349 rfl rfl (Nat.le_of_ble_eq_true rfl) dX10_learn_42 (fun M hM hF => ?_)
      refine v_aload_n dX10_learn_45 rfl ?_
      refine v_iconst dX10_learn_46 ?_
      refine v_rp 52 hM hF (flS_52 G _ _) fp_X10_352 rfl rfl (Nat.le_of_ble_eq_true rfl) dX10_learn_47 (fun M hM hF => ?_)
      refine v_aload_n dX10_learn_50 rfl ?_
      refine v_lload_n dX10_learn_51 rfl ?_
      refine v_rp 53 hM hF (flS_53 G _ _) fp_X10_336 rfl rfl (Nat.le_of_ble_eq_true rfl) dX10_learn_52 (fun M hM hF => ?_)
      refine v_iconst dX10_learn_55 ?_
      refine v_istore dX10_learn_56 (Nat.le_of_ble_eq_true rfl) ?_
      exact v_to (copy 20 0 _ a2 _ (by omega) (by omega) hM hF ((((hX'.up (k := 50) (by decide)).up (k := 51) (by decide)).up (k := 52) (by decide)).up (k := 53) (by decide)) hA' b1 b2 b3 b4 rfl rfl rfl rfl (fun p j p0 p1 j0 j1 => by rw [b5 p j p0 p1 j0 j1, hR0 (p * 5 + j) (by omega) (by omega), if_pos (by omega), show (p * 5 + j) / 5 = p by omega, show (p * 5 + j) % 5 = j by omega]; rfl) (fun i i0 i1 => by omega)) rfl (sw_h1 rfl (sw_h1 rfl (sw_h1 rfl (sw_h1 rfl (sw_h1 rfl sw_h0)))))
    · skip
      exfalso; omega
theorem R9_learnX {seed rounds : Int} (hI : InvR G M s) (hs : stOK s) (hk : isS s k) (hr : ¬ (1 ≤ rounds ∧ rounds ≤ 400)) (hg : sw_rg rounds) : Kt l G μX10_learn [.ref (sw_al G 70), sw_i k, sw_j seed, sw_i rounds] M (fun r M' => r = some (sw_i (-1)) ∧ InvR G M' s ∧ frR M M') := by
  refine KtA.of (by decide +kernel) (Nat.le_of_ble_eq_true rfl) ?_
  obtain ⟨x, a, hM, hRI⟩ := hI
  have hns : qN s ≤ 8 := hs.2.1
  obtain ⟨hk0, hk1⟩ := id hk
  refine v_aload_n dX10_learn_0 rfl ?_
  refine v_iload_n dX10_learn_1 rfl ?_
  refine v_callV (ci := 10) (K10_isSale hM hRI.2.2.1 ⟨by omega, by omega⟩ ⟨by omega, by omega⟩) ⟨rfl, rfl⟩ (Nat.le_refl _) (Nat.le_refl _) hM.1 rfl ⟨ml_X10_129, mm_X10_isSale⟩ ⟨(Nat.le_of_ble_eq_true rfl), (Nat.le_of_ble_eq_true rfl)⟩ mp_X10_isSale rfl rfl (Nat.le_of_ble_eq_true rfl) dX10_learn_2 (fun r M' h => ?_)
  obtain ⟨rfl, rfl⟩ := h
  refine v_ifb_eq (tgt := 20) dX10_learn_5 (by decide) (fun h5 => ?_) (fun h5 => ?_)
  · skip
    exact absurd hk (by assumption)
  · skip
    refine v_iload dX10_learn_8 rfl ?_
    refine v_iconst dX10_learn_10 ?_
    refine v_sipush dX10_learn_11 (by decide +kernel) ?_
    refine v_callS (K10_in (v := rounds) (lo := 1) (hi := 400) hg ⟨by omega, by omega⟩ ⟨by omega, by omega⟩) ⟨rfl, rfl⟩ (Nat.le_refl _) (Nat.le_refl _) ⟨ml_X10_107, mm_X10_in⟩ ⟨(Nat.le_of_ble_eq_true rfl), (Nat.le_of_ble_eq_true rfl)⟩ mp_X10_in rfl rfl (Nat.le_of_ble_eq_true rfl) dX10_learn_14 (fun r M' h => ?_)
    obtain ⟨rfl, rfl⟩ := h
    refine v_ifb_ne (tgt := 22) dX10_learn_17 (by decide) (fun h17 => ?_) (fun h17 => ?_)
    · skip
      exfalso; omega
    · skip
      refine v_iconst dX10_learn_20 ?_
      exact v_iret dX10_learn_21 rfl (Nat.le_refl _) (Nat.le_refl _) (⟨rfl, ⟨_, _, hM, hRI⟩, frR.rf⟩)
theorem R9_learnN {seed rounds : Int} (hI : InvR G M s) (hs : stOK s) (hk : ¬ isS s k) (hg : sw_rg k) : Kt l G μX10_learn [.ref (sw_al G 70), sw_i k, sw_j seed, sw_i rounds] M (fun r M' => r = some (sw_i (-1)) ∧ InvR G M' s ∧ frR M M') := by
  refine KtA.of (by decide +kernel) (Nat.le_of_ble_eq_true rfl) ?_
  obtain ⟨x, a, hM, hRI⟩ := hI
  have hns : qN s ≤ 8 := hs.2.1
  refine v_aload_n dX10_learn_0 rfl ?_
  refine v_iload_n dX10_learn_1 rfl ?_
  refine v_callV (ci := 10) (K10_isSale hM hRI.2.2.1 ⟨by omega, by omega⟩ hg) ⟨rfl, rfl⟩ (Nat.le_refl _) (Nat.le_refl _) hM.1 rfl ⟨ml_X10_129, mm_X10_isSale⟩ ⟨(Nat.le_of_ble_eq_true rfl), (Nat.le_of_ble_eq_true rfl)⟩ mp_X10_isSale rfl rfl (Nat.le_of_ble_eq_true rfl) dX10_learn_2 (fun r M' h => ?_)
  obtain ⟨rfl, rfl⟩ := h
  refine v_ifb_eq (tgt := 20) dX10_learn_5 (by decide) (fun h5 => ?_) (fun h5 => ?_)
  · skip
    refine v_iconst dX10_learn_20 ?_
    exact v_iret dX10_learn_21 rfl (Nat.le_refl _) (Nat.le_refl _) (⟨rfl, ⟨_, _, hM, hRI⟩, frR.rf⟩)
  · skip
    exact absurd (by assumption) hk
end

