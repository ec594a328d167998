/-! the reference's reader: a truth, a statement, a SALE -/
/-- row s of the reference is a SALE (its seats apart) -/
def rowR (a : Nat → Int → Int) (s : Int) (σ : SaleT) : Prop := a 5 s = sSg σ ∧ a 6 s = sTr σ ∧ a 10 s = sNb σ ∧ a 11 s = sLe σ ∧ a 12 s = sWy σ ∧ ∀ t, 0 ≤ t → t < sTr σ → a 7 (8 * s + t) = sV σ t ∧ a 8 (8 * s + t) = sW σ t ∧ ∀ j, 0 ≤ j → j < sSg σ → a 9 (5 * (8 * s + t) + j) = sO σ (t * 5 + j)
/-- nothing but row s is another -/
def frA (s : Int) (a a' : Nat → Int → Int) : Prop := (∀ q, (q < 5 ∨ 12 < q) → a' q = a q) ∧ (∀ i, i ≠ s → a' 5 i = a 5 i ∧ a' 6 i = a 6 i ∧ a' 10 i = a 10 i ∧ a' 11 i = a 11 i ∧ a' 12 i = a 12 i) ∧ (∀ i, i < 8 * s ∨ 8 * s + 8 ≤ i → a' 7 i = a 7 i ∧ a' 8 i = a 8 i) ∧ ∀ i, i < 40 * s ∨ 40 * s + 40 ≤ i → a' 9 i = a 9 i
theorem frA.rf {s : Int} {a : Nat → Int → Int} : frA s a a := ⟨fun _ _ => rfl, fun _ _ => ⟨rfl, rfl, rfl, rfl, rfl⟩, fun _ _ => ⟨rfl, rfl⟩, fun _ _ => rfl⟩
theorem frA.tr {s : Int} {a b c : Nat → Int → Int} (h : frA s a b) (k : frA s b c) : frA s a c := ⟨fun q hq => (k.1 q hq).trans (h.1 q hq), fun i hi => by
  obtain ⟨h1, h2, h3, h4, h5⟩ := h.2.1 i hi
  obtain ⟨k1, k2, k3, k4, k5⟩ := k.2.1 i hi
  exact ⟨k1.trans h1, k2.trans h2, k3.trans h3, k4.trans h4, k5.trans h5⟩, fun i hi => ⟨(k.2.2.1 i hi).1.trans (h.2.2.1 i hi).1, (k.2.2.1 i hi).2.trans (h.2.2.1 i hi).2⟩, fun i hi => (k.2.2.2 i hi).trans (h.2.2.2 i hi)⟩
theorem up_ne {f : Int → Int} {i v j : Int} (h : j ≠ i) : up f i v j = f j := if_neg h
theorem up_eq {f : Int → Int} {i v : Int} : up f i v i = v := if_pos rfl
/-- one place of row s -/
theorem frA.s1 {s : Int} {a : Nat → Int → Int} {q : Nat} (hq : q = 5 ∨ q = 6 ∨ q = 10 ∨ q = 11 ∨ q = 12) (v : Int) : frA s a (upa a q (up (a q) s v)) := by
  refine ⟨fun p hp => upa_o (by omega), fun i hi => ?_, fun i _ => ⟨?_, ?_⟩, fun i _ => ?_⟩
  · rcases hq with rfl | rfl | rfl | rfl | rfl
    · exact ⟨up_ne hi, rfl, rfl, rfl, rfl⟩
    · exact ⟨rfl, up_ne hi, rfl, rfl, rfl⟩
    · exact ⟨rfl, rfl, up_ne hi, rfl, rfl⟩
    · exact ⟨rfl, rfl, rfl, up_ne hi, rfl⟩
    · exact ⟨rfl, rfl, rfl, rfl, up_ne hi⟩
  · rw [upa_o (by omega)]
  · rw [upa_o (by omega)]
  · rw [upa_o (by omega)]
theorem frA.s7 {s t : Int} {a : Nat → Int → Int} (v : Int) (ht : 8 * s ≤ t ∧ t < 8 * s + 8) : frA s a (upa a 7 (up (a 7) t v)) := ⟨fun p hp => upa_o (by omega), fun i _ => ⟨rfl, rfl, rfl, rfl, rfl⟩, fun i hi => ⟨up_ne (by omega), rfl⟩, fun i _ => rfl⟩
theorem frA.s8 {s t : Int} {a : Nat → Int → Int} (v : Int) (ht : 8 * s ≤ t ∧ t < 8 * s + 8) : frA s a (upa a 8 (up (a 8) t v)) := ⟨fun p hp => upa_o (by omega), fun i _ => ⟨rfl, rfl, rfl, rfl, rfl⟩, fun i hi => ⟨rfl, up_ne (by omega)⟩, fun i _ => rfl⟩
theorem frA.s9 {s t : Int} {a : Nat → Int → Int} (v : Int) (ht : 40 * s ≤ t ∧ t < 40 * s + 40) : frA s a (upa a 9 (up (a 9) t v)) := ⟨fun p hp => upa_o (by omega), fun i _ => ⟨rfl, rfl, rfl, rfl, rfl⟩, fun i hi => ⟨rfl, rfl⟩, fun i hi => up_ne (by omega)⟩
theorem nmx_wr {f : Int → Int} {len a wr lo hi : Int} (h : 0 ≤ a ∧ a ≤ 600) (hw : -1 ≤ wr ∧ wr ≤ 600) (hl : 0 ≤ len ∧ len ≤ 240 := by omega) : -1 ≤ (nmx f len a wr lo hi).2.2 ∧ (nmx f len a wr lo hi).2.2 ≤ 600 := by
  unfold nmx
  split
  · have := nmb_ok (f := f) (len := len) (a := a) (lo := lo) (hi := hi)
    omega
  · exact hw
section
variable {l : Launch} {G : sw_G} {M : sw_M} {x : Nat → Int} {a : Nat → Int → Int}
theorem K10_readTruth {s at' len : Int} {σ : SaleT} (hM : RS G M x a) (h3 : x 3 = at') (h2 : x 2 = len) (h4 : x 4 = -1) (hw : wfT (a 1) len) (hb : 0 ≤ at' ∧ at' ≤ 290) (hs : 0 ≤ s ∧ s ≤ 8) (hr : rowR a s σ) (ht : 0 ≤ sTr σ ∧ sTr σ < 8) (hsg : 2 ≤ sSg σ ∧ sSg σ ≤ 5) : Kt l G μX10_readTruth [.ref (sw_al G 70), sw_i s] M (fun r M' => ∃ a' b w, r = none ∧ RS G M' (upn (upn x 3 b) 4 w) a' ∧ frR M M' ∧ frA s a a' ∧ w = (tcl (a 1) len at' σ).2.1 ∧ (w = -1 → b = (tcl (a 1) len at' σ).1 ∧ rowR a' s (tcl (a 1) len at' σ).2.2) ∧ 0 ≤ b ∧ b ≤ 600) := by
  refine KtA.of (by decide +kernel) (Nat.le_of_ble_eq_true rfl) ?_
  have hF : frR M M := frR.rf
  obtain ⟨l0, l1, -⟩ := id hw
  obtain ⟨f, hf⟩ : ∃ f, a 1 = f := ⟨_, rfl⟩
  obtain ⟨tr, htr⟩ : ∃ tr, sTr σ = tr := ⟨_, rfl⟩
  obtain ⟨sg, hsgg⟩ : ∃ sg, sSg σ = sg := ⟨_, rfl⟩
  obtain ⟨q5, q6, q10, q11, q12, qr⟩ := hr
  rw [htr] at ht q6 qr
  rw [hsgg] at hsg q5 qr
  obtain ⟨r1, hr1⟩ : ∃ r1, nmx f len at' (-1) 0 60 = r1 := ⟨_, rfl⟩
  obtain ⟨r2, hr2⟩ : ∃ r2, nmx f len r1.2.1 r1.2.2 1 9 = r2 := ⟨_, rfl⟩
  obtain ⟨TOT, hT⟩ : ∃ TOT, sgl f len sg tr sg.toNat 0 10 r2.2.1 r2.2.2 (sO σ) = TOT := ⟨_, rfl⟩
  have htc : tcl f len at' σ = (TOT.1, TOT.2.1, (sg, tr + 1, sNb σ, sLe σ, sWy σ, up (sV σ) tr r1.1, up (sW σ) tr r2.1, TOT.2.2, sSt σ)) := by
    unfold tcl
    simp only [hr1, hr2, htr, hsgg, hT]
  rw [hf] at hw ⊢
  rw [htc]
  obtain ⟨Zq, hZ⟩ : ∃ Zq : Option Value → sw_M → Prop, Zq = (fun r M' => ∃ a' b w, r = none ∧ RS G M' (upn (upn x 3 b) 4 w) a' ∧ frR M M' ∧ frA s a a' ∧ w = ((TOT.1, TOT.2.1, ((sg, tr + 1, sNb σ, sLe σ, sWy σ, up (sV σ) tr r1.1, up (sW σ) tr r2.1, TOT.2.2, sSt σ) : SaleT)) : Int × Int × SaleT).2.1 ∧ (w = -1 → b = ((TOT.1, TOT.2.1, ((sg, tr + 1, sNb σ, sLe σ, sWy σ, up (sV σ) tr r1.1, up (sW σ) tr r2.1, TOT.2.2, sSt σ) : SaleT)) : Int × Int × SaleT).1 ∧ rowR a' s ((TOT.1, TOT.2.1, ((sg, tr + 1, sNb σ, sLe σ, sWy σ, up (sV σ) tr r1.1, up (sW σ) tr r2.1, TOT.2.2, sSt σ) : SaleT)) : Int × Int × SaleT).2.2) ∧ 0 ≤ b ∧ b ≤ 600) := ⟨_, rfl⟩
  rw [← hZ]
  have nle : ∀ {at0 wr lo hi : Int}, (0 ≤ at0 ∧ at0 ≤ 600) → (wr = -1 → at0 ≤ 290) → (nmx f len at0 wr lo hi).2.2 = -1 → wr = -1 ∧ ((nmx f len at0 wr lo hi).2.1 ≤ 240 ∧ lo ≤ (nmx f len at0 wr lo hi).1 ∧ (nmx f len at0 wr lo hi).1 ≤ hi) := by
    intro at0 wr lo hi h1 h2 h3
    by_cases c : wr = -1
    · refine ⟨c, ?_⟩
      have e : nmx f len at0 wr lo hi = nmb f len at0 lo hi := if_pos c
      rw [e] at h3 ⊢
      have := nmb_ok (f := f) (len := len) (a := at0) (lo := lo) (hi := hi)
      omega
    · have e : nmx f len at0 wr lo hi = (0, at0, wr) := if_neg c
      rw [e] at h3
      exact absurd h3 c
  have loop : ∀ (n : Nat) (k left b wr : Int) (O : Int → Int) (a1 : Nat → Int → Int) (M1 : sw_M), 0 ≤ k → k + n = sg → RS G M1 (upn (upn x 3 b) 4 wr) a1 → frR M M1 → frA s a a1 → a1 5 s = sg → a1 6 s = tr → a1 10 s = sNb σ → a1 11 s = sLe σ → a1 12 s = sWy σ → (∀ t, 0 ≤ t → t < tr → a1 7 (8 * s + t) = sV σ t ∧ a1 8 (8 * s + t) = sW σ t ∧ ∀ j, 0 ≤ j → j < sg → a1 9 (5 * (8 * s + t) + j) = sO σ (t * 5 + j)) → (wr = -1 → a1 7 (8 * s + tr) = r1.1 ∧ a1 8 (8 * s + tr) = r2.1) → (0 ≤ b ∧ b ≤ 600) → (-1 ≤ wr ∧ wr ≤ 600) →
      (wr = -1 → b ≤ 240 ∧ (0 ≤ left ∧ left ≤ 10) ∧ TOT = sgl f len sg tr n k left b (-1) O ∧ (∀ j, 0 ≤ j → j < k → a1 9 (5 * (8 * s + tr) + j) = O (tr * 5 + j)) ∧ ∀ i, i < tr * 5 ∨ tr * 5 + 5 ≤ i → O i = sO σ i) → (wr ≠ -1 → TOT.2.1 = wr) →
      V l G μX10_readTruth sw_E0 (sw_Zq G μX10_readTruth (sw_q0 G Zq)) 44 [(0, .ref (sw_al G 70)), (1, sw_i s), (2, sw_i (8 * s + tr)), (3, sw_i left), (4, sw_i k)] [] M1 0 0 := by
    intro n
    induction n with
    | zero =>
      intro k left b wr O a1 M1 k0 k1 hM hF hA p5 p6 p10 p11 p12 pr pv hb1 hwr c1 c2
      have ek : k = sg := by omega
      have fin : ∀ M2, RS G M2 (upn (upn x 3 b) 4 wr) (upa a1 6 (up (a1 6) s (tr + 1))) → frR M M2 → Zq none M2 := by
        intro M2 g1 g2
        rw [hZ]
        refine ⟨_, b, wr, rfl, g1, g2, hA.tr (frA.s1 (by omega) _), ?_, fun h => ?_, hb1.1, hb1.2⟩
        · by_cases c : wr = -1
          · obtain ⟨-, -, e, -, -⟩ := c1 c
            rw [e, c]; rfl
          · exact (c2 c).symm
        · obtain ⟨-, -, e, eO, eU⟩ := c1 h
          obtain ⟨v1, v2⟩ := pv h
          have e' : TOT = (b, -1, O) := e
          rw [e']
          refine ⟨rfl, p5, up_eq, p10, p11, p12, fun t t0 t1 => ?_⟩
          have t1 : t < tr + 1 := t1
          by_cases ct : t = tr
          · subst ct
            refine ⟨v1.trans up_eq.symm, v2.trans up_eq.symm, fun j j0 j1 => ?_⟩
            have j1 : j < sg := j1
            exact eO j j0 (by omega)
          · obtain ⟨u1, u2, u3⟩ := pr t t0 (by omega)
            refine ⟨u1.trans (up_ne ct).symm, u2.trans (up_ne ct).symm, fun j j0 j1 => ?_⟩
            have j1 : j < sg := j1
            exact (u3 j j0 j1).trans (eU _ (by omega)).symm
      refine v_iload dX10_readTruth_44 rfl ?_
      refine v_aload_n dX10_readTruth_46 rfl ?_
      refine v_getfH 5 hM.1 fl_X10_13 rfl dX10_readTruth_47 ?_
      refine v_iload_n dX10_readTruth_50 rfl ?_
      refine v_ria hM ar_5 (by omega) (by omega) p5 dX10_readTruth_51 ?_
      refine v_icmp_ge (tgt := 112) dX10_readTruth_52 (by decide) ⟨by omega, by omega⟩ ⟨by omega, by omega⟩ (fun h52 => ?_) (fun h52 => ?_)
      · skip
        refine v_aload_n dX10_readTruth_112 rfl ?_
        refine v_getfH 6 hM.1 fl_X10_16 rfl dX10_readTruth_113 ?_
        refine v_iload_n dX10_readTruth_116 rfl ?_
        refine v_dup2 dX10_readTruth_117 rfl rfl ?_
        refine v_ria hM ar_6 (by omega) (by omega) p6 dX10_readTruth_118 ?_
        refine v_iconst dX10_readTruth_119 ?_
        refine v_iadd dX10_readTruth_120 ?_
        refine v_ris hM hF ar_6 (by omega) (by omega) dX10_readTruth_121 (fun M hM hF => ?_)
        exact v_vret dX10_readTruth_122 rfl (Nat.le_refl _) (Nat.le_refl _) (fin _ hM hF)
      · skip
        exfalso; omega
    | succ n ih =>
      intro k left b wr O a1 M1 k0 k1 hM hF hA p5 p6 p10 p11 p12 pr pv hb1 hwr c1 c2
      by_cases cw : wr = -1
      · subst cw
        obtain ⟨d1, d2, d3, d4, d5⟩ := c1 rfl
        obtain ⟨v1, v2⟩ := pv rfl
        have hw1 : wfT (a1 1) len := by rw [hA.1 1 (by omega), hf]; exact hw
        have ef : a1 1 = f := by rw [hA.1 1 (by omega), hf]
        have call : ∀ (lo : Int) (M2 : sw_M) (hM : RS G M2 (upn (upn x 3 b) 4 (-1)) a1) (hF : frR M M2), lo = (if k = sg - 1 then left else 0) → V l G μX10_readTruth sw_E0 (sw_Zq G μX10_readTruth (sw_q0 G Zq)) 82 [(0, .ref (sw_al G 70)), (1, sw_i s), (2, sw_i (8 * s + tr)), (3, sw_i left), (4, sw_i k)] [sw_i lo, .ref (sw_al G 70)] M2 0 0 := by
          intro lo M2 hM hF hlo
          have hlob : 0 ≤ lo ∧ lo ≤ 10 := by rw [hlo]; split <;> omega
          refine v_iload_n dX10_readTruth_82 rfl ?_
          refine v_callV (ci := 10) (K10_number hM (at' := b) (len := len) (wr := -1) ((upn_o (by decide)).trans upn_s) ((upn_o (by decide)).trans ((upn_o (by decide)).trans h2)) upn_s hw1 hb1 (fun _ => by omega) ⟨by omega, by omega⟩ ⟨by omega, by omega⟩ ⟨by omega, by omega⟩) ⟨rfl, rfl⟩ (Nat.le_refl _) (Nat.le_refl _) hM.1 rfl ⟨ml_X10_111, mm_X10_number⟩ ⟨(Nat.le_of_ble_eq_true rfl), (Nat.le_of_ble_eq_true rfl)⟩ mp_X10_number rfl rfl (Nat.le_of_ble_eq_true rfl) dX10_readTruth_83 (fun r M' h => ?_)
          obtain ⟨v, b2, w, rfl, hM1, hF1, n1, n2, n3, n4⟩ := h
          replace hM := hM1.xe (x' := upn (upn x 3 b2) 4 w) (by rw [upn_comm (show (4 : Nat) ≠ 3 by decide), upn_upn, upn_upn])
          replace hF := hF.tr hF1
          rw [ef] at n1 n2
          have e83 : nmx f len b (-1) lo left = nmb f len b (if k = sg - 1 then left else 0) left := by rw [← hlo]; exact if_pos rfl
          rw [e83] at n1 n2
          have nok := nmb_ok (f := f) (len := len) (a := b) (lo := if k = sg - 1 then left else 0) (hi := left)
          refine v_istore dX10_readTruth_86 (Nat.le_of_ble_eq_true rfl) ?_
          refine v_aload_n dX10_readTruth_88 rfl ?_
          refine v_getfH 9 hM.1 fl_X10_25 rfl dX10_readTruth_89 ?_
          refine v_iconst dX10_readTruth_92 ?_
          refine v_iload_n dX10_readTruth_93 rfl ?_
          refine v_imul dX10_readTruth_94 ?_
          refine v_iload dX10_readTruth_95 rfl ?_
          refine v_iadd dX10_readTruth_97 ?_
          refine v_iload dX10_readTruth_98 rfl ?_
          refine v_ris hM hF ar_9 (by omega) (by omega) dX10_readTruth_100 (fun M hM hF => ?_)
          refine v_iload_n dX10_readTruth_101 rfl ?_
          refine v_iload dX10_readTruth_102 rfl ?_
          refine v_isub dX10_readTruth_104 ?_
          refine v_istore_n dX10_readTruth_105 (Nat.le_of_ble_eq_true rfl) ?_
          refine v_iinc dX10_readTruth_106 rfl (Nat.le_of_ble_eq_true rfl) ?_
          refine v_goto (tgt := 44) dX10_readTruth_109 (by decide) ?_
          refine v_to (ih (k + 1) (left - v) b2 w (up O (tr * 5 + k) v) (upa a1 9 (up (a1 9) (5 * (8 * s + tr) + k) v)) _ (by omega) (by omega) hM hF (hA.tr (frA.s9 _ (by omega))) p5 p6 p10 p11 p12 (fun t t0 t1 => ?_) (fun _ => ⟨v1, v2⟩) n3 (by omega) (fun hw0 => ?_) (fun hw0 => ?_)) rfl (sw_h1 rfl (sw_h1 rfl (sw_h1 rfl (sw_h1 rfl (sw_h1 rfl sw_h0)))))
          · obtain ⟨u1, u2, u3⟩ := pr t t0 t1
            exact ⟨u1, u2, fun j j0 j1 => (up_ne (by omega)).trans (u3 j j0 j1)⟩
          · obtain ⟨e1, e2⟩ := n2 hw0
            have hst : sgl f len sg tr (n + 1) k left b (-1) O = sgl f len sg tr n (k + 1) (left - (nmb f len b (if k = sg - 1 then left else 0) left).1) (nmb f len b (if k = sg - 1 then left else 0) left).2.1 (nmb f len b (if k = sg - 1 then left else 0) left).2.2 (up O (tr * 5 + k) (nmb f len b (if k = sg - 1 then left else 0) left).1) := if_pos rfl
            refine ⟨by omega, ?_, ?_, fun j j0 j1 => ?_, fun i hi => ?_⟩
            · rw [← hlo] at nok e1
              rw [← hlo] at n1
              omega
            · rw [d3, hst, ← e1, ← e2, ← n1, hw0]
            · show up (a1 9) (5 * (8 * s + tr) + k) v (5 * (8 * s + tr) + j) = up O (tr * 5 + k) v (tr * 5 + j)
              by_cases cj : j = k
              · subst cj; rw [up_eq, up_eq]
              · rw [up_ne (by omega), up_ne (by omega)]; exact d4 j j0 (by omega)
            · rw [up_ne (by omega)]; exact d5 i hi
          · have hst : sgl f len sg tr (n + 1) k left b (-1) O = sgl f len sg tr n (k + 1) (left - (nmb f len b (if k = sg - 1 then left else 0) left).1) (nmb f len b (if k = sg - 1 then left else 0) left).2.1 (nmb f len b (if k = sg - 1 then left else 0) left).2.2 (up O (tr * 5 + k) (nmb f len b (if k = sg - 1 then left else 0) left).1) := if_pos rfl
            rw [d3, hst, ← n1, sgl_wr n hw0]
        refine v_iload dX10_readTruth_44 rfl ?_
        refine v_aload_n dX10_readTruth_46 rfl ?_
        refine v_getfH 5 hM.1 fl_X10_13 rfl dX10_readTruth_47 ?_
        refine v_iload_n dX10_readTruth_50 rfl ?_
        refine v_ria hM ar_5 (by omega) (by omega) p5 dX10_readTruth_51 ?_
        refine v_icmp_ge (tgt := 112) dX10_readTruth_52 (by decide) ⟨by omega, by omega⟩ ⟨by omega, by omega⟩ (fun h52 => ?_) (fun h52 => ?_)
        · skip
          exfalso; omega
        · skip
          refine v_aload_n dX10_readTruth_55 rfl ?_
          refine v_rgi 4 hM upn_s fl_X10_94 rfl dX10_readTruth_56 ?_
          refine v_iconst dX10_readTruth_59 ?_
          refine v_icmp_ne (tgt := 112) dX10_readTruth_60 (by decide) ⟨by omega, by omega⟩ ⟨by omega, by omega⟩ (fun h60 => ?_) (fun h60 => ?_)
          · skip
            exact absurd rfl h60
          · skip
            refine v_aload_n dX10_readTruth_63 rfl ?_
            refine v_iload dX10_readTruth_64 rfl ?_
            refine v_aload_n dX10_readTruth_66 rfl ?_
            refine v_getfH 5 hM.1 fl_X10_13 rfl dX10_readTruth_67 ?_
            refine v_iload_n dX10_readTruth_70 rfl ?_
            refine v_ria hM ar_5 (by omega) (by omega) p5 dX10_readTruth_71 ?_
            refine v_iconst dX10_readTruth_72 ?_
            refine v_isub dX10_readTruth_73 ?_
            refine v_icmp_ne (tgt := 81) dX10_readTruth_74 (by decide) ⟨by omega, by omega⟩ ⟨by omega, by omega⟩ (fun h74 => ?_) (fun h74 => ?_)
            · skip
              refine v_iconst dX10_readTruth_81 ?_
              exact call 0 _ hM hF (by rw [if_neg (by omega)])
            · skip
              refine v_iload_n dX10_readTruth_77 rfl ?_
              refine v_goto (tgt := 82) dX10_readTruth_78 (by decide) ?_
              exact call left _ hM hF (by rw [if_pos (by omega)])
      · have fin : ∀ M2, RS G M2 (upn (upn x 3 b) 4 wr) (upa a1 6 (up (a1 6) s (tr + 1))) → frR M M2 → Zq none M2 := by
          intro M2 g1 g2
          rw [hZ]
          exact ⟨_, b, wr, rfl, g1, g2, hA.tr (frA.s1 (by omega) _), (c2 cw).symm, fun h => absurd h cw, hb1.1, hb1.2⟩
        refine v_iload dX10_readTruth_44 rfl ?_
        refine v_aload_n dX10_readTruth_46 rfl ?_
        refine v_getfH 5 hM.1 fl_X10_13 rfl dX10_readTruth_47 ?_
        refine v_iload_n dX10_readTruth_50 rfl ?_
        refine v_ria hM ar_5 (by omega) (by omega) p5 dX10_readTruth_51 ?_
        refine v_icmp_ge (tgt := 112) dX10_readTruth_52 (by decide) ⟨by omega, by omega⟩ ⟨by omega, by omega⟩ (fun h52 => ?_) (fun h52 => ?_)
        · skip
          exfalso; omega
        · skip
          refine v_aload_n dX10_readTruth_55 rfl ?_
          refine v_rgi 4 hM upn_s fl_X10_94 rfl dX10_readTruth_56 ?_
          refine v_iconst dX10_readTruth_59 ?_
          refine v_icmp_ne (tgt := 112) dX10_readTruth_60 (by decide) ⟨by omega, by omega⟩ ⟨by omega, by omega⟩ (fun h60 => ?_) (fun h60 => ?_)
          · skip
            refine v_aload_n dX10_readTruth_112 rfl ?_
            refine v_getfH 6 hM.1 fl_X10_16 rfl dX10_readTruth_113 ?_
            refine v_iload_n dX10_readTruth_116 rfl ?_
            refine v_dup2 dX10_readTruth_117 rfl rfl ?_
            refine v_ria hM ar_6 (by omega) (by omega) p6 dX10_readTruth_118 ?_
            refine v_iconst dX10_readTruth_119 ?_
            refine v_iadd dX10_readTruth_120 ?_
            refine v_ris hM hF ar_6 (by omega) (by omega) dX10_readTruth_121 (fun M hM hF => ?_)
            exact v_vret dX10_readTruth_122 rfl (Nat.le_refl _) (Nat.le_refl _) (fin _ hM hF)
          · skip
            exact absurd (by omega) cw
  refine v_bipush dX10_readTruth_0 (by decide +kernel) ?_
  refine v_iload_n dX10_readTruth_2 rfl ?_
  refine v_imul dX10_readTruth_3 ?_
  refine v_aload_n dX10_readTruth_4 rfl ?_
  refine v_getfH 6 hM.1 fl_X10_16 rfl dX10_readTruth_5 ?_
  refine v_iload_n dX10_readTruth_8 rfl ?_
  refine v_ria hM ar_6 (by omega) (by omega) q6 dX10_readTruth_9 ?_
  refine v_iadd dX10_readTruth_10 ?_
  refine v_istore_n dX10_readTruth_11 (Nat.le_of_ble_eq_true rfl) ?_
  refine v_aload_n dX10_readTruth_12 rfl ?_
  refine v_getfH 7 hM.1 fl_X10_19 rfl dX10_readTruth_13 ?_
  refine v_iload_n dX10_readTruth_16 rfl ?_
  refine v_aload_n dX10_readTruth_17 rfl ?_
  refine v_iconst dX10_readTruth_18 ?_
  refine v_bipush dX10_readTruth_19 (by decide +kernel) ?_
  refine v_callV (ci := 10) (K10_number hM (at' := at') (len := len) (wr := -1) h3 h2 h4 (by rw [hf]; exact hw) ⟨by omega, by omega⟩ (fun _ => by omega) ⟨by omega, by omega⟩ ⟨by omega, by omega⟩ ⟨by omega, by omega⟩) ⟨rfl, rfl⟩ (Nat.le_refl _) (Nat.le_refl _) hM.1 rfl ⟨ml_X10_111, mm_X10_number⟩ ⟨(Nat.le_of_ble_eq_true rfl), (Nat.le_of_ble_eq_true rfl)⟩ mp_X10_number rfl rfl (Nat.le_of_ble_eq_true rfl) dX10_readTruth_21 (fun r M' h => ?_)
  obtain ⟨v1, b1, w1, rfl, hM1, hF1, n1, n2, n3, n4⟩ := h
  replace hM := hM1
  replace hF := hF.tr hF1
  rw [hf, hr1] at n1 n2
  refine v_ris hM hF ar_7 (by omega) (by omega) dX10_readTruth_24 (fun M hM hF => ?_)
  refine v_aload_n dX10_readTruth_25 rfl ?_
  refine v_getfH 8 hM.1 fl_X10_22 rfl dX10_readTruth_26 ?_
  refine v_iload_n dX10_readTruth_29 rfl ?_
  refine v_aload_n dX10_readTruth_30 rfl ?_
  refine v_iconst dX10_readTruth_31 ?_
  refine v_bipush dX10_readTruth_32 (by decide +kernel) ?_
  refine v_callV (ci := 10) (K10_number hM (at' := b1) (len := len) (wr := w1) ((upn_o (by decide)).trans upn_s) ((upn_o (by decide)).trans ((upn_o (by decide)).trans h2)) upn_s (show wfT (a 1) len by rw [hf]; exact hw) n3 (fun h => by have := nle (wr := -1) (lo := 0) (hi := 60) ⟨hb.1, by omega⟩ (fun _ => hb.2) (by rw [hr1]; omega); rw [hr1] at this; have := n2 h; omega) (by have hq := nmx_wr (f := f) (len := len) (a := at') (wr := -1) (lo := 0) (hi := 60) ⟨by omega, by omega⟩ ⟨by omega, by omega⟩; rw [hr1] at hq; omega) ⟨by omega, by omega⟩ ⟨by omega, by omega⟩) ⟨rfl, rfl⟩ (Nat.le_refl _) (Nat.le_refl _) hM.1 rfl ⟨ml_X10_111, mm_X10_number⟩ ⟨(Nat.le_of_ble_eq_true rfl), (Nat.le_of_ble_eq_true rfl)⟩ mp_X10_number rfl rfl (Nat.le_of_ble_eq_true rfl) dX10_readTruth_34 (fun r M' h => ?_)
  obtain ⟨v2, b2, w2, rfl, hM1, hF1, m1, m2, m3, m4⟩ := h
  replace hM := hM1.xe (x' := upn (upn x 3 b2) 4 w2) (by rw [upn_comm (show (4 : Nat) ≠ 3 by decide), upn_upn, upn_upn])
  replace hF := hF.tr hF1
  rw [show (upa a 7 (up (a 7) (8 * s + tr) v1)) 1 = f from hf] at m1 m2
  refine v_ris hM hF ar_8 (by omega) (by omega) dX10_readTruth_37 (fun M hM hF => ?_)
  refine v_bipush dX10_readTruth_38 (by decide +kernel) ?_
  refine v_istore_n dX10_readTruth_40 (Nat.le_of_ble_eq_true rfl) ?_
  refine v_iconst dX10_readTruth_41 ?_
  refine v_istore dX10_readTruth_42 (Nat.le_of_ble_eq_true rfl) ?_
  have hq1 := nmx_wr (f := f) (len := len) (a := at') (wr := -1) (lo := 0) (hi := 60) ⟨by omega, by omega⟩ ⟨by omega, by omega⟩
  rw [hr1] at hq1
  have hq2 := nmx_wr (f := f) (len := len) (a := b1) (wr := w1) (lo := 1) (hi := 9) n3 (by omega)
  -- the second number by the class's own
  have e2 : w2 = r2.2.2 ∧ (w2 = -1 → w1 = -1 ∧ v2 = r2.1 ∧ b2 = r2.2.1) := by
    by_cases c : w1 = -1
    · obtain ⟨-, e⟩ := n2 c
      rw [e, n1, hr2] at m1 m2
      exact ⟨m1, fun h => ⟨c, m2 h⟩⟩
    · have e3 : r2 = (0, r1.2.1, r1.2.2) := by rw [← hr2]; exact if_neg (by rw [← n1]; exact c)
      have e4 : w2 = w1 := by rw [m1]; exact congrArg (fun q : Int × Int × Int => q.2.2) (if_neg c)
      refine ⟨by rw [e4, e3]; exact n1, fun h => absurd (e4.symm.trans h) c⟩
  obtain ⟨e2, e3⟩ := e2
  refine v_to (loop sg.toNat 0 10 b2 w2 (sO σ) (upa (upa a 7 (up (a 7) (8 * s + tr) v1)) 8 (up (a 8) (8 * s + tr) v2)) _ (by omega) (by omega) hM hF ((frA.s7 _ (by omega)).tr (frA.s8 (a := upa a 7 (up (a 7) (8 * s + tr) v1)) _ (by omega))) q5 q6 q10 q11 q12 (fun t t0 t1 => ?_) (fun h => ?_) m3 (by omega) (fun h => ?_) (fun h => ?_)) rfl (sw_h1 rfl (sw_h1 rfl (sw_h1 rfl (sw_h1 rfl (sw_h1 rfl sw_h0)))))
  · obtain ⟨u1, u2, u3⟩ := qr t t0 t1
    exact ⟨(up_ne (by omega)).trans u1, (up_ne (by omega)).trans u2, u3⟩
  · obtain ⟨c, ev, -⟩ := e3 h
    exact ⟨up_eq.trans (n2 c).1, up_eq.trans ev⟩
  · obtain ⟨c, ev, eb⟩ := e3 h
    have h0 := nle (wr := -1) (lo := 0) (hi := 60) ⟨hb.1, by omega⟩ (fun _ => hb.2) (by rw [hr1]; omega)
    rw [hr1] at h0
    have hb1 := (n2 c).2
    have h9 := nle (at0 := b1) (wr := w1) (lo := 1) (hi := 9) n3 (fun _ => by omega) (by rw [hb1, n1, hr2]; omega)
    rw [hb1, n1, hr2] at h9
    refine ⟨by omega, by omega, ?_, fun j j0 j1 => by omega, fun i _ => rfl⟩
    rw [← hT, ← e2, h, eb]
  · rw [← hT, ← e2, sgl_wr _ h]
end

