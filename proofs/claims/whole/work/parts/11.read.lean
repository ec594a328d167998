/-! the TAPE's reader: clauses -/
theorem dg_lt {f : Int → Int} {len x : Int} (h : dg (lk f len x) ≠ -1) : x < len := by
  by_cases q : x < len
  · exact q
  · have e : lk f len x = -1 := if_neg q
    rw [e] at h
    exact absurd rfl h
theorem nmb_ok {f : Int → Int} {len a lo hi : Int} : (a ≤ (nmb f len a lo hi).2.1 ∧ ((nmb f len a lo hi).2.1 ≤ len ∨ (nmb f len a lo hi).2.1 = a)) ∧ (0 ≤ a → -1 ≤ (nmb f len a lo hi).2.2 ∧ (nmb f len a lo hi).2.2 ≤ (nmb f len a lo hi).2.1) ∧
    ((nmb f len a lo hi).2.2 = -1 ∧ a < (nmb f len a lo hi).2.1 ∧ (nmb f len a lo hi).2.1 ≤ len ∧ lo ≤ (nmb f len a lo hi).1 ∧ (nmb f len a lo hi).1 ≤ hi ∨ (a < 0 ∨ (nmb f len a lo hi).2.2 ≠ -1) ∧ (nmb f len a lo hi).1 = 0) := by
  obtain ⟨a1, ha1⟩ : ∃ a1, sk f len 240 a = a1 := ⟨_, rfl⟩
  have hs := sk_le f len 240 a
  rw [ha1] at hs
  obtain ⟨d1, hd1⟩ : ∃ d1, dg (lk f len a1) = d1 := ⟨_, rfl⟩
  obtain ⟨d2, hd2⟩ : ∃ d1, dg (lk f len (a1 + 1)) = d1 := ⟨_, rfl⟩
  obtain ⟨d3, hd3⟩ : ∃ d1, dg (lk f len (a1 + 2)) = d1 := ⟨_, rfl⟩
  have l1 : d1 ≠ -1 → a1 < len := fun h => dg_lt (by rw [hd1]; exact h)
  have l2 : d2 ≠ -1 → a1 + 1 < len := fun h => dg_lt (by rw [hd2]; exact h)
  by_cases c1 : a1 = a ∨ d1 = -1
  · rw [nmb1 ha1 hd1 hd2 hd3 c1 rfl rfl rfl]; dsimp only; omega
  · have l1 := l1 (by omega)
    by_cases c2 : d2 = -1
    · by_cases c3 : d1 < lo ∨ hi < d1
      · rw [nmb2 ha1 hd1 hd2 hd3 c1 c2 c3 rfl rfl rfl]; dsimp only; omega
      · rw [nmb3 ha1 hd1 hd2 hd3 c1 c2 c3 rfl rfl rfl]; dsimp only; omega
    · have l2 := l2 c2
      by_cases c3 : d1 * 10 + d2 < lo ∨ hi < d1 * 10 + d2
      · rw [nmb4 ha1 hd1 hd2 hd3 c1 c2 c3 rfl rfl rfl]; dsimp only; omega
      · by_cases c4 : d3 = -1
        · rw [nmb5 ha1 hd1 hd2 hd3 c1 c2 c3 c4 rfl rfl rfl]; dsimp only; omega
        · rw [nmb6 ha1 hd1 hd2 hd3 c1 c2 c3 c4 rfl rfl rfl]; dsimp only; omega
def nmx (f : Int → Int) (len a wr lo hi : Int) : Int × Int × Int := if wr = -1 then nmb f len a lo hi else (0, a, wr)
/-- the signs of a TRUTH: where the reading stands then, what is wrong, of ten -/
def sgl (f : Int → Int) (len sg t : Int) : Nat → Int → Int → Int → Int → (Int → Int) → Int × Int × (Int → Int)
  | 0, _, _, a, wr, O => (a, wr, O)
  | n + 1, k, left, a, wr, O => if wr = -1 then sgl f len sg t n (k + 1) (left - (nmb f len a (if k = sg - 1 then left else 0) left).1) (nmb f len a (if k = sg - 1 then left else 0) left).2.1 (nmb f len a (if k = sg - 1 then left else 0) left).2.2 (up O (t * 5 + k) (nmb f len a (if k = sg - 1 then left else 0) left).1) else (a, wr, O)
def tcl (f : Int → Int) (len a : Int) (σ : SaleT) : Int × Int × SaleT :=
  let r1 := nmx f len a (-1) 0 60
  let r2 := nmx f len r1.2.1 r1.2.2 1 9
  let r3 := sgl f len (sSg σ) (sTr σ) (sSg σ).toNat 0 10 r2.2.1 r2.2.2 (sO σ)
  (r3.1, r3.2.1, (sSg σ, sTr σ + 1, sNb σ, sLe σ, sWy σ, up (sV σ) (sTr σ) r1.1, up (sW σ) (sTr σ) r2.1, r3.2.2, sSt σ))
/-! .. as the class reads them -/
theorem nmq_ok {f : Int → Int} {len a lo hi : Int} : (a ≤ (nmq f len a lo hi).2.1 ∧ ((nmq f len a lo hi).2.1 ≤ len ∨ (nmq f len a lo hi).2.1 = a)) ∧ (0 ≤ a → -1 ≤ (nmq f len a lo hi).2.2 ∧ (nmq f len a lo hi).2.2 ≤ (nmq f len a lo hi).2.1) ∧
    ((nmq f len a lo hi).2.2 = -1 ∧ a < (nmq f len a lo hi).2.1 ∧ (nmq f len a lo hi).2.1 ≤ len ∧ lo ≤ (nmq f len a lo hi).1 ∧ (nmq f len a lo hi).1 ≤ hi ∨ (a < 0 ∨ (nmq f len a lo hi).2.2 ≠ -1) ∧ (nmq f len a lo hi).1 = 0) := by
  obtain ⟨a1, ha1⟩ : ∃ a1, sk f len 240 a = a1 := ⟨_, rfl⟩
  have hs := sk_le f len 240 a
  rw [ha1] at hs
  obtain ⟨d1, hd1⟩ : ∃ d1, dg (lk f len a1) = d1 := ⟨_, rfl⟩
  obtain ⟨d2, hd2⟩ : ∃ d1, dg (lk f len (a1 + 1)) = d1 := ⟨_, rfl⟩
  have l1 : d1 ≠ -1 → a1 < len := fun h => dg_lt (by rw [hd1]; exact h)
  have l2 : d2 ≠ -1 → a1 + 1 < len := fun h => dg_lt (by rw [hd2]; exact h)
  by_cases c1 : a1 = a ∨ d1 = -1
  · rw [nmq1 ha1 hd1 hd2 c1 rfl rfl rfl]; dsimp only; omega
  · have l1 := l1 (by omega)
    by_cases c2 : d2 = -1
    · by_cases c3 : d1 < lo ∨ hi < d1
      · rw [nmq2 ha1 hd1 hd2 c1 c2 c3 rfl rfl rfl]; dsimp only; omega
      · rw [nmq3 ha1 hd1 hd2 c1 c2 c3 rfl rfl rfl]; dsimp only; omega
    · have l2 := l2 c2
      by_cases c3 : d1 * 10 + d2 < lo ∨ hi < d1 * 10 + d2
      · rw [nmq4 ha1 hd1 hd2 c1 c2 c3 rfl rfl rfl]; dsimp only; omega
      · rw [nmq5 ha1 hd1 hd2 c1 c2 c3 rfl rfl rfl]; dsimp only; omega
def nxq (f : Int → Int) (len a wr lo hi : Int) : Int × Int × Int := if wr = -1 then nmq f len a lo hi else (0, a, wr)
def sgq (f : Int → Int) (len sg t : Int) : Nat → Int → Int → Int → Int → (Int → Int) → Int × Int × (Int → Int)
  | 0, _, _, a, wr, O => (a, wr, O)
  | n + 1, k, left, a, wr, O => if wr = -1 then sgq f len sg t n (k + 1) (left - (nmq f len a (if k = sg - 1 then left else 0) left).1) (nmq f len a (if k = sg - 1 then left else 0) left).2.1 (nmq f len a (if k = sg - 1 then left else 0) left).2.2 (up O (t * 5 + k) (nmq f len a (if k = sg - 1 then left else 0) left).1) else (a, wr, O)
def tcq (f : Int → Int) (len a : Int) (σ : SaleT) : Int × Int × SaleT :=
  let r1 := nxq f len a (-1) 0 60
  let r2 := nxq f len r1.2.1 r1.2.2 1 9
  let r3 := sgq f len (sSg σ) (sTr σ) (sSg σ).toNat 0 10 r2.2.1 r2.2.2 (sO σ)
  (r3.1, r3.2.1, (sSg σ, sTr σ + 1, sNb σ, sLe σ, sWy σ, up (sV σ) (sTr σ) r1.1, up (sW σ) (sTr σ) r2.1, r3.2.2, sSt σ))
abbrev cSf (G : sw_G) (b : Nat) (sg tr nb le wy : Int) (V W O St : Int → Int) (u d : Int) : List sw_Ce := [(b, sw_o 5 [.ref (sw_al G (b + 1)), .ref (sw_al G (b + 2)), .ref (sw_al G (b + 3)), .ref (sw_al G (b + 4)), sw_i sg, sw_i tr, sw_i nb, sw_i le, sw_i wy, sw_j u, sw_j d]), (b + 1, sw_ia 8 V), (b + 2, sw_ia 8 W), (b + 3, sw_ia 40 O), (b + 4, sw_ia 4 St)]
abbrev cTS (G : sw_G) (b : Nat) (len a wr : Int) (f : Int → Int) (sg tr nb le wy : Int) (V W O St : Int → Int) (u d : Int) : List sw_Ce := cT G b len a wr :: cB f :: cSf G b sg tr nb le wy V W O St u d
theorem cTS_nd {b : Nat} (h : 50 ≤ b) : sw_nd [1, 2, b, b + 1, b + 2, b + 3, b + 4] := sw_nd_of (by simp; omega)
abbrev cTPf (G : sw_G) (b : Nat) (len a wr : Int) (sg tr nb le wy : Int) (V W O St : Int → Int) (u d : Int) : List sw_Ce := cT G b len a wr :: cSf G b sg tr nb le wy V W O St u d
abbrev cTP (G : sw_G) (b : Nat) (len a wr : Int) (σ : SaleT) (u d : Int) : List sw_Ce := cT G b len a wr :: cS G b σ u d
/-- the bytes are there already -/
theorem cTS_back {G : sw_G} {M : sw_M} {b : Nat} (hb : 50 ≤ b) {len a wr sg tr nb le wy : Int} {f V W O St : Int → Int} {u d : Int} (h2 : M 2 = some (cB f).2) : sw_ov M (cTS G b len a wr f sg tr nb le wy V W O St u d) = sw_ov M (cTPf G b len a wr sg tr nb le wy V W O St u d) := by
  funext q
  show (if q = 1 then _ else if q = 2 then some (cB f).2 else sw_ov M (cSf G b sg tr nb le wy V W O St u d) q) = (if q = 1 then _ else sw_ov M (cSf G b sg tr nb le wy V W O St u d) q)
  by_cases e : q = 1
  · rw [if_pos e, if_pos e]
  · rw [if_neg e, if_neg e]
    by_cases e2 : q = 2
    · rw [if_pos e2, e2, sw_ov_out, h2]
      simp; omega
    · rw [if_neg e2]
theorem cTS_h {G : sw_G} {M : sw_M} {b : Nat} (hb : 50 ≤ b) {len a wr sg tr nb le wy : Int} {f V W O St : Int → Int} {u d : Int} : sw_hold (sw_ov M (cTS G b len a wr f sg tr nb le wy V W O St u d)) (cTS G b len a wr f sg tr nb le wy V W O St u d) := sw_hold_all (cs := cTS G b len a wr f sg tr nb le wy V W O St u d) (cTS_nd hb)
section
variable {l : Launch} {G : sw_G} {M : sw_M}
theorem K7_numG {b : Nat} {len a wr : Int} {f : Int → Int} (h1 : M 1 = some (cT G b len a wr).2) (h2 : M 2 = some (cB f).2) (hw : wfT f len) (h0 : 0 ≤ a ∧ a ≤ 290) (hwr : -1 ≤ wr ∧ wr ≤ 300) {lo hi : Int} (hlo : -100 ≤ lo ∧ lo ≤ 100) (hhi : -100 ≤ hi ∧ hi ≤ 100) : Kt l G μX7_number [.ref (sw_al G 1), sw_i lo, sw_i hi] M (fun r M' => r = some (sw_i (nxq f len a wr lo hi).1) ∧ M' = sw_ov M [cT G b len (nxq f len a wr lo hi).2.1 (nxq f len a wr lo hi).2.2]) := by
  by_cases c : wr = -1
  · subst c
    exact K7_number h1 h2 hw h0 hlo hhi
  · have e : nxq f len a wr lo hi = (0, a, wr) := if_neg c
    rw [e]
    have hk := K7_numberX (l := l) h1 ⟨c, by omega, by omega⟩ (lo := lo) (hi := hi)
    have e2 : sw_ov M [cT G b len a wr] = M := sw_ov_self (sw_hold1 h1 sw_hold0)
    dsimp only
    rw [e2]
    exact hk
theorem K7_truthClause {b : Nat} (hb : 50 ≤ b) {len a : Int} {f : Int → Int} {σ : SaleT} {u d : Int} (hM : sw_hold M (cTS G b len a (-1) f (sSg σ) (sTr σ) (sNb σ) (sLe σ) (sWy σ) (sV σ) (sW σ) (sO σ) (sSt σ) u d)) (hw : wfT f len) (h0 : 0 ≤ a ∧ a ≤ 241) (hsg : 2 ≤ sSg σ ∧ sSg σ ≤ 5) (htr : 0 ≤ sTr σ ∧ sTr σ < 8) : Kt l G μX7_truthClause [.ref (sw_al G 1), sw_i (sTr σ)] M (fun r M' => r = none ∧ M' = sw_ov M (cTP G b len (tcq f len a σ).1 (tcq f len a σ).2.1 (tcq f len a σ).2.2 u d)) := by
  refine KtA.of (by decide +kernel) (Nat.le_of_ble_eq_true rfl) ?_
  refine v_mem (sw_ov_self hM).symm ?_
  have hn := cTS_nd hb
  have hM2 := hM.tl.hd
  have hlen := hw.1
  have hlen2 := hw.2.1
  obtain ⟨r1, hr1⟩ : ∃ r1, nxq f len a (-1) 0 60 = r1 := ⟨_, rfl⟩
  have k1 := nmq_ok (f := f) (len := len) (a := a) (lo := 0) (hi := 60)
  have hr1' : nmq f len a 0 60 = r1 := by rw [← hr1]; exact (if_pos rfl).symm
  rw [hr1'] at k1
  obtain ⟨v1, a1, w1⟩ := r1
  obtain ⟨r2, hr2⟩ : ∃ r2, nxq f len a1 w1 1 9 = r2 := ⟨_, rfl⟩
  dsimp only at k1
  have k2 : (0 ≤ r2.2.1 ∧ r2.2.1 ≤ 241) ∧ -1 ≤ r2.2.2 ∧ r2.2.2 ≤ 300 := by
    by_cases c : w1 = -1
    · have k := nmq_ok (f := f) (len := len) (a := a1) (lo := 1) (hi := 9)
      have e : nmq f len a1 1 9 = r2 := by rw [← hr2]; exact (if_pos c).symm
      rw [e] at k
      omega
    · have e : r2 = (0, a1, w1) := by rw [← hr2]; exact if_neg c
      rw [e]; dsimp only; omega
  obtain ⟨v2, a2, w2⟩ := r2
  dsimp only at k2
  have ht : tcq f len a σ = ((sgq f len (sSg σ) (sTr σ) (sSg σ).toNat 0 10 a2 w2 (sO σ)).1, (sgq f len (sSg σ) (sTr σ) (sSg σ).toNat 0 10 a2 w2 (sO σ)).2.1, (sSg σ, sTr σ + 1, sNb σ, sLe σ, sWy σ, up (sV σ) (sTr σ) v1, up (sW σ) (sTr σ) v2, (sgq f len (sSg σ) (sTr σ) (sSg σ).toNat 0 10 a2 w2 (sO σ)).2.2, sSt σ)) := by
    unfold tcq
    simp only [hr1, hr2]
  have loop : ∀ (n : Nat) (k left a' w' : Int) (O' : Int → Int), 0 ≤ k → k + n = sSg σ → 0 ≤ left ∧ left ≤ 10 → 0 ≤ a' ∧ a' ≤ 241 → -1 ≤ w' ∧ w' ≤ 300 → sgq f len (sSg σ) (sTr σ) n k left a' w' O' = sgq f len (sSg σ) (sTr σ) (sSg σ).toNat 0 10 a2 w2 (sO σ) →
      V l G μX7_truthClause sw_E0 (sw_Zq G μX7_truthClause (sw_q0 G (fun r M' => r = none ∧ M' = sw_ov M (cTP G b len (tcq f len a σ).1 (tcq f len a σ).2.1 (tcq f len a σ).2.2 u d)))) 37 [(0, .ref (sw_al G 1)), (1, sw_i (sTr σ)), (2, sw_i left), (3, sw_i k)] [] (sw_ov M (cTS G b len a' w' f (sSg σ) (sTr σ) (sNb σ) (sLe σ) (sWy σ) (up (sV σ) (sTr σ) v1) (up (sW σ) (sTr σ) v2) O' (sSt σ) u d)) 0 0 := by
    intro n
    induction n with
    | zero =>
      intro k left a' w' O' hk0 hkn hl ha' hw' hs
      have hs : (a', w', O') = sgq f len (sSg σ) (sTr σ) (sSg σ).toNat 0 10 a2 w2 (sO σ) := hs
      rw [ht, ← hs]
      refine v_iload_n dX7_truthClause_37 rfl ?_
      refine v_aload_n dX7_truthClause_38 rfl ?_
      refine v_getf 0 2 fl_X7_22 hn rfl rfl dX7_truthClause_39 ?_
      refine v_getf 2 4 fl_X7_46 hn rfl rfl dX7_truthClause_42 ?_
      refine v_icmp_ge (tgt := 111) dX7_truthClause_45 (by decide) ⟨by omega, by omega⟩ ⟨by omega, by omega⟩ (fun h45 => ?_) (fun h45 => ?_)
      · skip
        refine v_aload_n dX7_truthClause_111 rfl ?_
        refine v_getf 0 2 fl_X7_22 hn rfl rfl dX7_truthClause_112 ?_
        refine v_dup dX7_truthClause_115 rfl ?_
        refine v_getf 2 5 fl_X7_49 hn rfl rfl dX7_truthClause_116 ?_
        refine v_iconst dX7_truthClause_119 ?_
        refine v_iadd dX7_truthClause_120 ?_
        refine v_putf 2 5 fp_X7_49 hn rfl rfl rfl (Nat.le_of_ble_eq_true rfl) dX7_truthClause_121 ?_
        exact v_vret dX7_truthClause_124 rfl (Nat.le_refl _) (Nat.le_refl _) (⟨rfl, cTS_back hb hM2⟩)
      · skip
        exfalso; omega
    | succ n ih =>
      intro k left a' w' O' hk0 hkn hl ha' hw' hs
      obtain ⟨lo, hlo⟩ : ∃ lo, (if k = sSg σ - 1 then left else 0) = lo := ⟨_, rfl⟩
      have hlo2 : 0 ≤ lo ∧ lo ≤ 10 := by rw [← hlo]; split <;> omega
      obtain ⟨r, hr⟩ : ∃ r, nmq f len a' lo left = r := ⟨_, rfl⟩
      have kr := nmq_ok (f := f) (len := len) (a := a') (lo := lo) (hi := left)
      rw [hr] at kr
      have go : w' = -1 → V l G μX7_truthClause sw_E0 (sw_Zq G μX7_truthClause (sw_q0 G (fun r M' => r = none ∧ M' = sw_ov M (cTP G b len (tcq f len a σ).1 (tcq f len a σ).2.1 (tcq f len a σ).2.2 u d)))) 76 [(0, .ref (sw_al G 1)), (1, sw_i (sTr σ)), (2, sw_i left), (3, sw_i k), (4, sw_i lo)] [] (sw_ov M (cTS G b len a' w' f (sSg σ) (sTr σ) (sNb σ) (sLe σ) (sWy σ) (up (sV σ) (sTr σ) v1) (up (sW σ) (sTr σ) v2) O' (sSt σ) u d)) 0 0 := by
        intro hw1
        subst hw1
        have e : sgq f len (sSg σ) (sTr σ) (n + 1) k left a' (-1) O' = sgq f len (sSg σ) (sTr σ) n (k + 1) (left - r.1) r.2.1 r.2.2 (up O' (sTr σ * 5 + k) r.1) := by
          refine (if_pos rfl).trans ?_
          rw [hlo, hr]
        rw [e] at hs
        refine v_aload_n dX7_truthClause_76 rfl ?_
        refine v_iload dX7_truthClause_77 rfl ?_
        refine v_iload_n dX7_truthClause_79 rfl ?_
        refine v_callV (ci := 7) (K7_number (b := b) (len := len) (a := a') (f := f) (cTS_h hb).hd (cTS_h hb).tl.hd hw ⟨by omega, by omega⟩ (lo := lo) (hi := left) ⟨by omega, by omega⟩ ⟨by omega, by omega⟩) ⟨rfl, rfl⟩ (Nat.le_refl _) (Nat.le_refl _) ((cTS_h hb).hd) rfl ⟨ml_X7_42, mm_X7_number⟩ ⟨(Nat.le_of_ble_eq_true rfl), (Nat.le_of_ble_eq_true rfl)⟩ mp_X7_number rfl rfl (Nat.le_of_ble_eq_true rfl) dX7_truthClause_80 (fun r M' h => ?_)
        obtain ⟨rfl, rfl⟩ := h
        rw [hr]
        refine v_ovp [0] rfl rfl hn ?_
        refine v_istore dX7_truthClause_83 (Nat.le_of_ble_eq_true rfl) ?_
        refine v_aload_n dX7_truthClause_85 rfl ?_
        refine v_getf 0 2 fl_X7_22 hn rfl rfl dX7_truthClause_86 ?_
        refine v_getf 2 2 fl_X7_74 hn rfl rfl dX7_truthClause_89 ?_
        refine v_iload_n dX7_truthClause_92 rfl ?_
        refine v_iconst dX7_truthClause_93 ?_
        refine v_imul dX7_truthClause_94 ?_
        refine v_iload_n dX7_truthClause_95 rfl ?_
        refine v_iadd dX7_truthClause_96 ?_
        refine v_iload dX7_truthClause_97 rfl ?_
        refine v_iast 5 hn rfl (Nat.le_of_ble_eq_true rfl) (by omega) (by omega) dX7_truthClause_99 ?_
        refine v_iload_n dX7_truthClause_100 rfl ?_
        refine v_iload dX7_truthClause_101 rfl ?_
        refine v_isub dX7_truthClause_103 ?_
        refine v_istore_n dX7_truthClause_104 (Nat.le_of_ble_eq_true rfl) ?_
        refine v_iinc dX7_truthClause_105 rfl (Nat.le_of_ble_eq_true rfl) ?_
        refine v_goto (tgt := 37) dX7_truthClause_108 (by decide) ?_
        exact v_to (ih (k + 1) (left - r.1) r.2.1 r.2.2 (up O' (sTr σ * 5 + k) r.1) (by omega) (by omega) (by omega) (by omega) (by omega) hs) rfl (sw_h1 rfl (sw_h1 rfl (sw_h1 rfl (sw_h1 rfl sw_h0))))
      refine v_iload_n dX7_truthClause_37 rfl ?_
      refine v_aload_n dX7_truthClause_38 rfl ?_
      refine v_getf 0 2 fl_X7_22 hn rfl rfl dX7_truthClause_39 ?_
      refine v_getf 2 4 fl_X7_46 hn rfl rfl dX7_truthClause_42 ?_
      refine v_icmp_ge (tgt := 111) dX7_truthClause_45 (by decide) ⟨by omega, by omega⟩ ⟨by omega, by omega⟩ (fun h45 => ?_) (fun h45 => ?_)
      · skip
        exfalso; omega
      · skip
        refine v_aload_n dX7_truthClause_48 rfl ?_
        refine v_getf 0 4 fl_X7_29 hn rfl rfl dX7_truthClause_49 ?_
        refine v_iconst dX7_truthClause_52 ?_
        refine v_icmp_ne (tgt := 111) dX7_truthClause_53 (by decide) ⟨by omega, by omega⟩ ⟨by omega, by omega⟩ (fun h53 => ?_) (fun h53 => ?_)
        · skip
          have e : sgq f len (sSg σ) (sTr σ) (n + 1) k left a' w' O' = (a', w', O') := if_neg h53
          rw [e] at hs
          rw [ht, ← hs]
          refine v_aload_n dX7_truthClause_111 rfl ?_
          refine v_getf 0 2 fl_X7_22 hn rfl rfl dX7_truthClause_112 ?_
          refine v_dup dX7_truthClause_115 rfl ?_
          refine v_getf 2 5 fl_X7_49 hn rfl rfl dX7_truthClause_116 ?_
          refine v_iconst dX7_truthClause_119 ?_
          refine v_iadd dX7_truthClause_120 ?_
          refine v_putf 2 5 fp_X7_49 hn rfl rfl rfl (Nat.le_of_ble_eq_true rfl) dX7_truthClause_121 ?_
          exact v_vret dX7_truthClause_124 rfl (Nat.le_refl _) (Nat.le_refl _) (⟨rfl, cTS_back hb hM2⟩)
        · skip
          refine v_iload_n dX7_truthClause_56 rfl ?_
          refine v_aload_n dX7_truthClause_57 rfl ?_
          refine v_getf 0 2 fl_X7_22 hn rfl rfl dX7_truthClause_58 ?_
          refine v_getf 2 4 fl_X7_46 hn rfl rfl dX7_truthClause_61 ?_
          refine v_iconst dX7_truthClause_64 ?_
          refine v_isub dX7_truthClause_65 ?_
          refine v_icmp_ne (tgt := 73) dX7_truthClause_66 (by decide) ⟨by omega, by omega⟩ ⟨by omega, by omega⟩ (fun h66 => ?_) (fun h66 => ?_)
          · skip
            have hlo := hlo
            rw [if_neg h66] at hlo
            subst hlo
            refine v_iconst dX7_truthClause_73 ?_
            refine v_istore dX7_truthClause_74 (Nat.le_of_ble_eq_true rfl) ?_
            exact v_to (go (by omega)) rfl (sw_h1 rfl (sw_h1 rfl (sw_h1 rfl (sw_h1 rfl (sw_h1 rfl sw_h0)))))
          · skip
            have hlo := hlo
            rw [if_pos (by omega)] at hlo
            subst hlo
            refine v_iload_n dX7_truthClause_69 rfl ?_
            refine v_goto (tgt := 74) dX7_truthClause_70 (by decide) ?_
            refine v_istore dX7_truthClause_74 (Nat.le_of_ble_eq_true rfl) ?_
            exact v_to (go (by omega)) rfl (sw_h1 rfl (sw_h1 rfl (sw_h1 rfl (sw_h1 rfl (sw_h1 rfl sw_h0)))))
  refine v_aload_n dX7_truthClause_0 rfl ?_
  refine v_getf 0 2 fl_X7_22 hn rfl rfl dX7_truthClause_1 ?_
  refine v_getf 2 0 fl_X7_68 hn rfl rfl dX7_truthClause_4 ?_
  refine v_iload_n dX7_truthClause_7 rfl ?_
  refine v_aload_n dX7_truthClause_8 rfl ?_
  refine v_iconst dX7_truthClause_9 ?_
  refine v_bipush dX7_truthClause_10 (by decide +kernel) ?_
  refine v_callV (ci := 7) (K7_numG (b := b) (len := len) (a := a) (wr := -1) (f := f) (cTS_h hb).hd (cTS_h hb).tl.hd hw ⟨by omega, by omega⟩ ⟨by omega, by omega⟩ (lo := 0) (hi := 60) ⟨by omega, by omega⟩ ⟨by omega, by omega⟩) ⟨rfl, rfl⟩ (Nat.le_refl _) (Nat.le_refl _) ((cTS_h hb).hd) rfl ⟨ml_X7_42, mm_X7_number⟩ ⟨(Nat.le_of_ble_eq_true rfl), (Nat.le_of_ble_eq_true rfl)⟩ mp_X7_number rfl rfl (Nat.le_of_ble_eq_true rfl) dX7_truthClause_12 (fun r M' h => ?_)
  obtain ⟨rfl, rfl⟩ := h
  rw [hr1]
  refine v_ovp [0] rfl rfl hn ?_
  refine v_iast 3 hn rfl (Nat.le_of_ble_eq_true rfl) (by omega) (by omega) dX7_truthClause_15 ?_
  refine v_aload_n dX7_truthClause_16 rfl ?_
  refine v_getf 0 2 fl_X7_22 hn rfl rfl dX7_truthClause_17 ?_
  refine v_getf 2 1 fl_X7_71 hn rfl rfl dX7_truthClause_20 ?_
  refine v_iload_n dX7_truthClause_23 rfl ?_
  refine v_aload_n dX7_truthClause_24 rfl ?_
  refine v_iconst dX7_truthClause_25 ?_
  refine v_bipush dX7_truthClause_26 (by decide +kernel) ?_
  refine v_callV (ci := 7) (K7_numG (b := b) (len := len) (a := a1) (wr := w1) (f := f) (cTS_h hb).hd (cTS_h hb).tl.hd hw ⟨by omega, by omega⟩ ⟨by omega, by omega⟩ (lo := 1) (hi := 9) ⟨by omega, by omega⟩ ⟨by omega, by omega⟩) ⟨rfl, rfl⟩ (Nat.le_refl _) (Nat.le_refl _) ((cTS_h hb).hd) rfl ⟨ml_X7_42, mm_X7_number⟩ ⟨(Nat.le_of_ble_eq_true rfl), (Nat.le_of_ble_eq_true rfl)⟩ mp_X7_number rfl rfl (Nat.le_of_ble_eq_true rfl) dX7_truthClause_28 (fun r M' h => ?_)
  obtain ⟨rfl, rfl⟩ := h
  rw [hr2]
  refine v_ovp [0] rfl rfl hn ?_
  refine v_iast 4 hn rfl (Nat.le_of_ble_eq_true rfl) (by omega) (by omega) dX7_truthClause_31 ?_
  refine v_bipush dX7_truthClause_32 (by decide +kernel) ?_
  refine v_istore_n dX7_truthClause_34 (Nat.le_of_ble_eq_true rfl) ?_
  refine v_iconst dX7_truthClause_35 ?_
  refine v_istore_n dX7_truthClause_36 (Nat.le_of_ble_eq_true rfl) ?_
  exact v_to (loop (sSg σ).toNat 0 10 a2 w2 (sO σ) (by omega) (by omega) (by omega) (by omega) (by omega) rfl) rfl (sw_h1 rfl (sw_h1 rfl (sw_h1 rfl (sw_h1 rfl sw_h0))))
end

