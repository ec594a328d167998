/-! what the face is made of: rows alike, the tally, the rivals, a turn -/
/-- what is laid over again needn't be there before -/
theorem sw_ov_abs {M : sw_M} {cs1 : List sw_Ce} : ∀ {cs2 : List sw_Ce}, (∀ t ∈ cs1.map Prod.fst, t ∈ cs2.map Prod.fst) → sw_ov (sw_ov M cs1) cs2 = sw_ov M cs2 := by
  intro cs2 h
  have key : ∀ (cs : List sw_Ce) (q : Nat), (q ∈ cs.map Prod.fst ∨ q ∉ cs1.map Prod.fst) → sw_ov (sw_ov M cs1) cs q = sw_ov M cs q := by
    intro cs q
    induction cs with
    | nil =>
      intro hq
      rcases hq with hq | hq
      · exact absurd hq List.not_mem_nil
      · exact sw_ov_out hq
    | cons c cs ih =>
      intro hq
      show (if q = c.1 then some c.2 else sw_ov (sw_ov M cs1) cs q) = (if q = c.1 then some c.2 else sw_ov M cs q)
      by_cases e : q = c.1
      · rw [if_pos e, if_pos e]
      · rw [if_neg e, if_neg e]
        refine ih ?_
        rcases hq with hq | hq
        · rcases List.mem_cons.mp hq with hq | hq
          · exact absurd hq e
          · exact Or.inl hq
        · exact Or.inr hq
  funext q
  refine key cs2 q ?_
  by_cases c : q ∈ cs1.map Prod.fst
  · exact Or.inl (h q c)
  · exact Or.inr c
/-- what a tally is over all signs, from rows R and base weights P0 -/
def tlOK (σ : SaleT) (R P0 : Int → Int) (m : Nat) (S0 : Int → Int) (g ww wc g' ww' wc' : Int → Int) : Prop :=
  (∀ i : Nat, i < m → g' i = g i + sn (fun n => tG σ R P0 m (sLe σ) (decide (sWy σ = 2)) i (sq (sSg σ) m S0 n)) (pwi (sSg σ) m).toNat) ∧ (∀ (i : Nat) (k : Int), i < m → 0 ≤ k → k < 5 → ww' ((i : Int) * 5 + k) = ww ((i : Int) * 5 + k) + sn (fun n => tX R m (sLe σ) i k (fun S => crV σ S P0 m) (sq (sSg σ) m S0 n)) (pwi (sSg σ) m).toNat) ∧
  (∀ (i : Nat) (k : Int), i < m → 0 ≤ k → k < 5 → wc' ((i : Int) * 5 + k) = wc ((i : Int) * 5 + k) + sn (fun n => tX R m (sLe σ) i k (fun S => crW σ S P0 m) (sq (sSg σ) m S0 n)) (pwi (sSg σ) m).toNat)
abbrev cYn (G : sw_G) (σ : SaleT) (R P0 : Int → Int) (m : Nat) (S0 : Int → Int) (a tk so un : Int) (g ww wc : Int → Int) : List sw_Ce :=
  cYs G (a + sn (fun n => tW σ P0 m (sq (sSg σ) m S0 n)) (pwi (sSg σ) m).toNat) (tk + sn (fun n => tT σ R P0 m (sLe σ) (decide (sWy σ = 2)) (sq (sSg σ) m S0 n)) (pwi (sSg σ) m).toNat) (so + sn (fun n => tS σ R P0 m (sLe σ) (sq (sSg σ) m S0 n)) (pwi (sSg σ) m).toNat) (un + sn (fun n => tU σ R P0 m (sLe σ) (sq (sSg σ) m S0 n)) (pwi (sSg σ) m).toNat) g ww wc
section
variable {l : Launch} {G : sw_G} {M : sw_M}
theorem K9_rowsAlike {b ns b0 : Nat} (hb : 50 ≤ b) {σ : SaleT} {u d nt m le wt wo hi al nx' su : Int} {many : Nat} {wise : Prop} [Decidable wise] {R : Int → Int} (h0 : M 0 = some (c0 G ns nt).2) (h6 : M 6 = some (cC G b0 m le wt wo hi al nx' su).2) (h7 : M 7 = some (cR R).2) (h5 : sw_hold M (cS G b σ u d)) (hw : wfS σ) (hmn : many ≤ 4) :
    Kt l G μX9_rowsAlike [.ref (sw_al G 0), .ref (sw_al G b), sw_i (many : Int), sw_i (bI wise)] M (fun r M' => ∃ R' u' d', r = none ∧ (∀ p k, 0 ≤ p → p < (many : Int) → 0 ≤ k → k < sSg σ → R' (p * 5 + k) = hld σ k (if wise ∧ 1 < (many : Int) then k else -1) (-1) (-1)) ∧ M' = sw_ov M [cR R', cO G b σ u' d']) := by
  refine KtA.of (by decide +kernel) (Nat.le_of_ble_eq_true rfl) ?_
  have hn : sw_nd [0, 6, 7, b] := sw_nd_of (by simp; omega)
  refine v_mem (sw_ov_self (cs := [c0 G ns nt, cC G b0 m le wt wo hi al nx' su, cR R, cO G b σ u d]) (sw_hold1 h0 (sw_hold1 h6 (sw_hold1 h7 (sw_hold1 h5.hd sw_hold0))))).symm ?_
  have hsg := hw.1
  have hback : ∀ (R' : Int → Int) (u' d' : Int), sw_ov M [c0 G ns nt, cC G b0 m le wt wo hi al nx' su, cR R', cO G b σ u' d'] = sw_ov M [cR R', cO G b σ u' d'] := by
    intro R' u' d'
    funext q
    show (if q = 0 then some (c0 G ns nt).2 else if q = 6 then some (cC G b0 m le wt wo hi al nx' su).2 else if q = 7 then _ else if q = b then _ else M q) = (if q = 7 then _ else if q = b then _ else M q)
    by_cases e1 : q = 0
    · rw [if_pos e1, if_neg (by omega), if_neg (by omega), e1, h0]
    · rw [if_neg e1]
      by_cases e2 : q = 6
      · rw [if_pos e2, if_neg (by omega), if_neg (by omega), e2, h6]
      · rw [if_neg e2]
  obtain ⟨Zq, hZ⟩ : ∃ Zq : Option Value → sw_M → Prop, Zq = (fun r M' => ∃ R' u' d', r = none ∧ (∀ p k, 0 ≤ p → p < (many : Int) → 0 ≤ k → k < sSg σ → R' (p * 5 + k) = hld σ k (if wise ∧ 1 < (many : Int) then k else -1) (-1) (-1)) ∧ M' = sw_ov M [cR R', cO G b σ u' d']) := ⟨_, rfl⟩
  rw [← hZ]
  have one : ∀ (p k : Int) (R' : Int → Int) (u' d' : Int), 0 ≤ p → p < many → 0 ≤ k → k < sSg σ →
      (∀ u2 d2, V l G μX9_rowsAlike sw_E0 (sw_Zq G μX9_rowsAlike (sw_q0 G Zq)) 12 [(0, .ref (sw_al G 0)), (1, .ref (sw_al G b)), (2, sw_i (many : Int)), (3, sw_i (bI wise)), (4, sw_i p), (5, sw_i (k + 1))] [] (sw_ov M [c0 G ns nt, cC G b0 m le wt wo hi al nx' su, cR (up R' (p * 5 + k) (hld σ k (if wise ∧ 1 < (many : Int) then k else -1) (-1) (-1))), cO G b σ u2 d2]) 0 0) →
      ∀ (e : Int) (lv : List (Nat × Value)), e = (if wise ∧ 1 < (many : Int) then k else -1) → (∀ q ∈ [(0, Value.ref (sw_al G 0)), (1, .ref (sw_al G b)), (2, sw_i (many : Int)), (3, sw_i (bI wise)), (4, sw_i p), (5, sw_i k)], sw_lk lv q.1 = some q.2) →
      V l G μX9_rowsAlike sw_E0 (sw_Zq G μX9_rowsAlike (sw_q0 G Zq)) 47 lv [sw_i e, sw_i k, .ref (sw_al G b), sw_i k, sw_i p, .ref (sw_al G 6)] (sw_ov M [c0 G ns nt, cC G b0 m le wt wo hi al nx' su, cR R', cO G b σ u' d']) 0 0 := by
    intro p k R' u' d' hp0 hp1 hk0 hk1 kk e lv e1 hlv
    have he : sw_rg e := by
      rw [e1]
      split
      · exact ⟨by omega, by omega⟩
      · exact ⟨by omega, by omega⟩
    refine v_sub hlv ?_
    refine v_iconst dX9_rowsAlike_47 ?_
    refine v_iconst dX9_rowsAlike_48 ?_
    refine v_callV (ci := 5) (K5_held (u0 := u') (d0 := d') (σ := σ) (a := k) (e := e) (c := -1) (d := -1) (sw_hold1 (sw_ov_at (cs := [c0 G ns nt, cC G b0 m le wt wo hi al nx' su, cR R', cO G b σ u' d']) (q := 3) (t := b) hn rfl) (h5.tl.out (by simp; omega))) hw ⟨by omega, by omega⟩ he ⟨by omega, by omega⟩ ⟨by omega, by omega⟩) ⟨rfl, rfl⟩ (Nat.le_refl _) (Nat.le_refl _) (sw_ov_at (cs := [c0 G ns nt, cC G b0 m le wt wo hi al nx' su, cR R', cO G b σ u' d']) (q := 3) (t := b) hn rfl) rfl ⟨ml_X9_230, mm_X5_held⟩ ⟨(Nat.le_of_ble_eq_true rfl), (Nat.le_of_ble_eq_true rfl)⟩ mp_X5_held rfl rfl (Nat.le_of_ble_eq_true rfl) dX9_rowsAlike_49 (fun r M' h => ?_)
    obtain ⟨rfl, rfl⟩ := h
    generalize upS σ k e (-1) (-1) (sTr σ).toNat = u2
    generalize dnS σ k e (-1) (-1) (sTr σ).toNat = d2
    refine v_ovp [3] rfl rfl hn ?_
    rw [e1]
    refine v_callV (ci := 1) (K1_bidBy (b := b0) (m := m) (le := le) (wt := wt) (wo := wo) (hi := hi) (al := al) (nx := nx') (su := su) (R := R') (sw_ov_at (cs := [c0 G ns nt, cC G b0 m le wt wo hi al nx' su, cR R', cO G b σ u2 d2]) (q := 1) (t := 6) hn rfl) (sw_ov_at (cs := [c0 G ns nt, cC G b0 m le wt wo hi al nx' su, cR R', cO G b σ u2 d2]) (q := 2) (t := 7) hn rfl) (i := p) (k := k) (v := hld σ k (if wise ∧ 1 < (many : Int) then k else -1) (-1) (-1)) ⟨by omega, by omega⟩ ⟨by omega, by omega⟩) ⟨rfl, rfl⟩ (Nat.le_refl _) (Nat.le_refl _) (sw_ov_at (cs := [c0 G ns nt, cC G b0 m le wt wo hi al nx' su, cR R', cO G b σ u2 d2]) (q := 1) (t := 6) hn rfl) rfl ⟨ml_X9_280, mm_X1_bidBy⟩ ⟨(Nat.le_of_ble_eq_true rfl), (Nat.le_of_ble_eq_true rfl)⟩ mp_X1_bidBy rfl rfl (Nat.le_of_ble_eq_true rfl) dX9_rowsAlike_52 (fun r M' h => ?_)
    obtain ⟨rfl, rfl⟩ := h
    refine v_ovp [2] rfl rfl hn ?_
    refine v_iinc dX9_rowsAlike_55 rfl (Nat.le_of_ble_eq_true rfl) ?_
    refine v_goto (tgt := 12) dX9_rowsAlike_58 (by decide) ?_
    exact v_to (kk u2 d2) rfl (sw_h1 rfl (sw_h1 rfl (sw_h1 rfl (sw_h1 rfl (sw_h1 rfl (sw_h1 rfl sw_h0))))))
  have outer : ∀ (n p : Nat) (R' : Int → Int) (u' d' : Int), p + n = many → (∀ q k, 0 ≤ q → q < (p : Int) → 0 ≤ k → k < sSg σ → R' (q * 5 + k) = hld σ k (if wise ∧ 1 < (many : Int) then k else -1) (-1) (-1)) → V l G μX9_rowsAlike sw_E0 (sw_Zq G μX9_rowsAlike (sw_q0 G Zq)) 3 [(0, .ref (sw_al G 0)), (1, .ref (sw_al G b)), (2, sw_i (many : Int)), (3, sw_i (bI wise)), (4, sw_i (p : Int))] [] (sw_ov M [c0 G ns nt, cC G b0 m le wt wo hi al nx' su, cR R', cO G b σ u' d']) 0 0 := by
    intro n
    induction n with
    | zero =>
      intro p R' u' d' hp e1
      have e : p = many := by omega
      subst e
      refine v_iload dX9_rowsAlike_3 rfl ?_
      refine v_iload_n dX9_rowsAlike_5 rfl ?_
      refine v_icmp_ge (tgt := 67) dX9_rowsAlike_6 (by decide) ⟨by omega, by omega⟩ ⟨by omega, by omega⟩ (fun h6 => ?_) (fun h6 => ?_)
      · skip
        exact v_vret dX9_rowsAlike_67 rfl (Nat.le_refl _) (Nat.le_refl _) (by rw [hZ]; exact ⟨R', u', d', rfl, e1, hback _ _ _⟩)
      · skip
        exfalso; omega
    | succ n ih =>
      intro p R' u' d' hp e1
      have inner : ∀ (n2 : Nat) (k : Int) (R' : Int → Int) (u' d' : Int), 0 ≤ k → k + n2 = sSg σ → (∀ q k, 0 ≤ q → q < (p : Int) → 0 ≤ k → k < sSg σ → R' (q * 5 + k) = hld σ k (if wise ∧ 1 < (many : Int) then k else -1) (-1) (-1)) → (∀ j, 0 ≤ j → j < k → R' ((p : Int) * 5 + j) = hld σ j (if wise ∧ 1 < (many : Int) then j else -1) (-1) (-1)) → V l G μX9_rowsAlike sw_E0 (sw_Zq G μX9_rowsAlike (sw_q0 G Zq)) 12 [(0, .ref (sw_al G 0)), (1, .ref (sw_al G b)), (2, sw_i (many : Int)), (3, sw_i (bI wise)), (4, sw_i (p : Int)), (5, sw_i k)] [] (sw_ov M [c0 G ns nt, cC G b0 m le wt wo hi al nx' su, cR R', cO G b σ u' d']) 0 0 := by
        intro n2
        induction n2 with
        | zero =>
          intro k R' u' d' hk0 hk e1 e2
          refine v_iload dX9_rowsAlike_12 rfl ?_
          refine v_aload_n dX9_rowsAlike_14 rfl ?_
          refine v_getf 3 4 fl_X9_108 hn rfl rfl dX9_rowsAlike_15 ?_
          refine v_icmp_ge (tgt := 61) dX9_rowsAlike_18 (by decide) ⟨by omega, by omega⟩ ⟨by omega, by omega⟩ (fun h18 => ?_) (fun h18 => ?_)
          · skip
            refine v_iinc dX9_rowsAlike_61 rfl (Nat.le_of_ble_eq_true rfl) ?_
            refine v_goto (tgt := 3) dX9_rowsAlike_64 (by decide) ?_
            refine v_to (ih (p + 1) R' u' d' (by omega) ?_) rfl (sw_h1 rfl (sw_h1 rfl (sw_h1 rfl (sw_h1 rfl (sw_h1 rfl sw_h0)))))
            intro q k' q0 q1 k0 k1
            by_cases e : q = (p : Int)
            · subst e; exact e2 k' k0 (by omega)
            · exact e1 q k' q0 (by omega) k0 k1
          · skip
            exfalso; omega
        | succ n2 ih2 =>
          intro k R' u' d' hk0 hk e1 e2
          have go := one (p : Int) k R' u' d' (by omega) (by omega) hk0 (by omega) (fun u2 d2 => ih2 (k + 1) _ u2 d2 (by omega) (by omega) (fun q k' q0 q1 k0 k1 => by
            show (if (q * 5 + k' : Int) = (p : Int) * 5 + k then _ else R' _) = _
            rw [if_neg (by omega)]; exact e1 q k' q0 q1 k0 k1) (fun j j0 j1 => by
            show (if ((p : Int) * 5 + j : Int) = (p : Int) * 5 + k then _ else R' _) = _
            by_cases e : j = k
            · subst e; rw [if_pos rfl]
            · rw [if_neg (by omega)]; exact e2 j j0 (by omega)))
          refine v_iload dX9_rowsAlike_12 rfl ?_
          refine v_aload_n dX9_rowsAlike_14 rfl ?_
          refine v_getf 3 4 fl_X9_108 hn rfl rfl dX9_rowsAlike_15 ?_
          refine v_icmp_ge (tgt := 61) dX9_rowsAlike_18 (by decide) ⟨by omega, by omega⟩ ⟨by omega, by omega⟩ (fun h18 => ?_) (fun h18 => ?_)
          · skip
            exfalso; omega
          · skip
            refine v_aload_n dX9_rowsAlike_21 rfl ?_
            refine v_getf 0 6 fl_X9_39 hn rfl rfl dX9_rowsAlike_22 ?_
            refine v_iload dX9_rowsAlike_25 rfl ?_
            refine v_iload dX9_rowsAlike_27 rfl ?_
            refine v_aload_n dX9_rowsAlike_29 rfl ?_
            refine v_iload dX9_rowsAlike_30 rfl ?_
            refine v_iload_n dX9_rowsAlike_32 rfl ?_
            refine v_ifb_eq (tgt := 46) dX9_rowsAlike_33 (by decide) (fun h33 => ?_) (fun h33 => ?_)
            · refine v_iconst dX9_rowsAlike_46 ?_
              exact go (-1) _ (if_neg (fun h => h33 h.1)).symm (sw_h1 rfl (sw_h1 rfl (sw_h1 rfl (sw_h1 rfl (sw_h1 rfl (sw_h1 rfl sw_h0))))))
            · refine v_iload_n dX9_rowsAlike_36 rfl ?_
              refine v_iconst dX9_rowsAlike_37 ?_
              refine v_icmp_le (tgt := 46) dX9_rowsAlike_38 (by decide) ⟨by omega, by omega⟩ ⟨by omega, by omega⟩ (fun h38 => ?_) (fun h38 => ?_)
              · refine v_iconst dX9_rowsAlike_46 ?_
                exact go (-1) _ (if_neg (fun h => by omega)).symm (sw_h1 rfl (sw_h1 rfl (sw_h1 rfl (sw_h1 rfl (sw_h1 rfl (sw_h1 rfl sw_h0))))))
              · refine v_iload dX9_rowsAlike_41 rfl ?_
                refine v_goto (tgt := 47) dX9_rowsAlike_43 (by decide) ?_
                exact go k _ (if_pos ⟨h33, by omega⟩).symm (sw_h1 rfl (sw_h1 rfl (sw_h1 rfl (sw_h1 rfl (sw_h1 rfl (sw_h1 rfl sw_h0))))))
            skip
      refine v_iload dX9_rowsAlike_3 rfl ?_
      refine v_iload_n dX9_rowsAlike_5 rfl ?_
      refine v_icmp_ge (tgt := 67) dX9_rowsAlike_6 (by decide) ⟨by omega, by omega⟩ ⟨by omega, by omega⟩ (fun h6 => ?_) (fun h6 => ?_)
      · skip
        exfalso; omega
      · skip
        refine v_iconst dX9_rowsAlike_9 ?_
        refine v_istore dX9_rowsAlike_10 (Nat.le_of_ble_eq_true rfl) ?_
        exact v_to (inner (sSg σ).toNat 0 R' u' d' (by omega) (by omega) e1 (fun j j0 j1 => by omega)) rfl (sw_h1 rfl (sw_h1 rfl (sw_h1 rfl (sw_h1 rfl (sw_h1 rfl (sw_h1 rfl sw_h0))))))
  refine v_iconst dX9_rowsAlike_0 ?_
  refine v_istore dX9_rowsAlike_1 (Nat.le_of_ble_eq_true rfl) ?_
  exact v_to (outer many 0 R u d (by omega) (fun q k q0 q1 => by omega)) rfl (sw_h1 rfl (sw_h1 rfl (sw_h1 rfl (sw_h1 rfl (sw_h1 rfl sw_h0)))))
theorem K9_rivalsBySign {b ns b0 : Nat} (hb : 50 ≤ b) {σ : SaleT} {u d nt m le wt wo hi al nx' su fw fo k : Int} {R S P Wt Wo g : Int → Int} (h0 : M 0 = some (c0 G ns nt).2) (h6 : M 6 = some (cC G b0 m le wt wo hi al nx' su).2) (h7 : M 7 = some (cR R).2) (h8 : M 8 = some (cG S).2) (h9 : M 9 = some (cP P).2) (hV : sw_hold M (cVs G fw fo Wt Wo g)) (h5 : sw_hold M (cS G b σ u d)) (hw : wfS σ) (hk : sw_rg k) {n : Nat} (hm : (n : Int) = sNb σ - 1) (hR : rOK σ R n) :
    Kt l G μX9_rivalsBySign [.ref (sw_al G 0), .ref (sw_al G b), sw_i k] M (fun r M' => ∃ wt' wo' hi' al' nx' su' S' P' fw fo Wt Wo g, r = none ∧ fw = sn (fun i => gF R n (sLe σ) (fun S => crW σ S (fun t => sW σ t * see σ t k) n) (sq (sSg σ) n S i)) (pwi (sSg σ) n).toNat ∧ fo = sn (fun i => gF R n (sLe σ) (fun S => crV σ S (fun t => sW σ t * see σ t k) n) (sq (sSg σ) n S i)) (pwi (sSg σ) n).toNat ∧
      (∀ a, 0 ≤ a → a < 244 → Wt a = sn (fun i => gX R n (sLe σ) (fun S => crW σ S (fun t => sW σ t * see σ t k) n) a (sq (sSg σ) n S i)) (pwi (sSg σ) n).toNat) ∧ (∀ a, 0 ≤ a → a < 244 → Wo a = sn (fun i => gX R n (sLe σ) (fun S => crV σ S (fun t => sW σ t * see σ t k) n) a (sq (sSg σ) n S i)) (pwi (sSg σ) n).toNat) ∧ (∀ j : Nat, j ≤ 60 → g j = gn4 Wt Wo fw fo (sLe σ) (sWy σ) j) ∧
      M' = sw_ov M (cVs G fw fo Wt Wo g ++ [cC G b n (sLe σ) wt' wo' hi' al' nx' su', cG S', cP P'])) := by
  refine KtA.of (by decide +kernel) (Nat.le_of_ble_eq_true rfl) ?_
  have hn : sw_nd [0, b, 9] := sw_nd_of (by simp; omega)
  have hnb := hw.2.2.1
  refine v_mem (sw_ov_self (cs := [c0 G ns nt, cO G b σ u d, cP P]) (sw_hold1 h0 (sw_hold1 h5.hd (sw_hold1 h9 sw_hold0)))).symm ?_
  have hself : ∀ P', sw_ov M [c0 G ns nt, cO G b σ u d, cP P'] = sw_ov M [cP P'] := by
    intro P'
    funext q
    show (if q = 0 then some (c0 G ns nt).2 else if q = b then some (cO G b σ u d).2 else if q = 9 then _ else M q) = (if q = 9 then _ else M q)
    by_cases e1 : q = 0
    · rw [if_pos e1, if_neg (by omega), e1, h0]
    · rw [if_neg e1]
      by_cases e2 : q = b
      · rw [if_pos e2, if_neg (by omega), e2, h5.hd]
      · rw [if_neg e2]
  have o1 : ∀ P', sw_hold (sw_ov M [c0 G ns nt, cO G b σ u d, cP P']) (cS G b σ u d) := fun P' => sw_hold1 (sw_ov_at (cs := [c0 G ns nt, cO G b σ u d, cP P']) (q := 1) (t := b) hn rfl) (h5.tl.out (by simp; omega))
  refine v_aload_n dX9_rivalsBySign_0 rfl ?_
  refine v_getf 0 6 fl_X9_39 hn rfl rfl dX9_rivalsBySign_1 ?_
  refine v_aload_n dX9_rivalsBySign_4 rfl ?_
  refine v_iload_n dX9_rivalsBySign_5 rfl ?_
  refine v_callV (ci := 1) (K1_withSign hb (σ := σ) (u := u) (d := d) (b0 := b0) (m := m) (le := le) (wt := wt) (wo := wo) (hi := hi) (al := al) (nx := nx') (su := su) (P := P) (k := k) (by rw [hself, sw_ov_out (by simp)]; exact h6) (sw_ov_at (cs := [c0 G ns nt, cO G b σ u d, cP P]) (q := 2) (t := 9) hn rfl) (o1 P) hw hk) ⟨rfl, rfl⟩ (Nat.le_refl _) (Nat.le_refl _) (t := 6) (by rw [hself, sw_ov_out (by simp)]; exact h6) rfl ⟨ml_X9_254, mm_X1_withSign⟩ ⟨(Nat.le_of_ble_eq_true rfl), (Nat.le_of_ble_eq_true rfl)⟩ mp_X1_withSign rfl rfl (Nat.le_of_ble_eq_true rfl) dX9_rivalsBySign_6 (fun r M' h => ?_)
  obtain ⟨P', rfl, hP', rfl⟩ := h
  refine v_ovp [2] rfl rfl hn ?_
  refine v_aload_n dX9_rivalsBySign_9 rfl ?_
  refine v_getf 0 8 fl_X9_53 hn rfl rfl dX9_rivalsBySign_10 ?_
  refine v_aload_n dX9_rivalsBySign_13 rfl ?_
  refine v_getf 0 6 fl_X9_39 hn rfl rfl dX9_rivalsBySign_14 ?_
  refine v_aload_n dX9_rivalsBySign_17 rfl ?_
  refine v_aload_n dX9_rivalsBySign_18 rfl ?_
  refine v_getf 1 6 fl_X9_114 hn rfl rfl dX9_rivalsBySign_19 ?_
  refine v_iconst dX9_rivalsBySign_22 ?_
  refine v_isub dX9_rivalsBySign_23 ?_
  rw [← hm]
  refine v_callV (ci := 4) (K4_gather hb (σ := σ) (u := u) (d := d) (b0 := b0) (m := n) (m0 := m) (le0 := le) (wt := wt) (wo := wo) (hi := hi) (al := al) (nx' := nx') (su := su) (fw0 := fw) (fo0 := fo) (R := R) (S0 := S) (P0 := fun t => sW σ t * see σ t k) (P := P') (Wt0 := Wt) (Wo0 := Wo) (g0 := g) (M := sw_ov M [c0 G ns nt, cO G b σ u d, cP P']) (by rw [hself]; exact hV.out (by simp)) (by rw [hself, sw_ov_out (by simp)]; exact h6) (by rw [hself, sw_ov_out (by simp)]; exact h7) (by rw [hself, sw_ov_out (by simp)]; exact h8) (sw_ov_at (cs := [c0 G ns nt, cO G b σ u d, cP P']) (q := 2) (t := 9) hn rfl) (o1 P') hw (by omega) hR hP') ⟨rfl, rfl⟩ (Nat.le_refl _) (Nat.le_refl _) (t := 14) (by show (sw_ov M [c0 G ns nt, cO G b σ u d, cP P']) 14 = _; rw [hself, sw_ov_out (by simp)]; exact hV.hd) rfl ⟨ml_X9_323, mm_X4_gather⟩ ⟨(Nat.le_of_ble_eq_true rfl), (Nat.le_of_ble_eq_true rfl)⟩ mp_X4_gather rfl rfl (Nat.le_of_ble_eq_true rfl) dX9_rivalsBySign_24 (fun r M' h => ?_)
  obtain ⟨wt2, wo2, hi2, al2, nx2, su2, S2, P2, fw2, fo2, Wt2, Wo2, g2, rfl, q1, q2, q3, q4, q5, rfl⟩ := h
  refine v_vret dX9_rivalsBySign_27 rfl (Nat.le_refl _) (Nat.le_refl _) ?_
  skip
  refine ⟨wt2, wo2, hi2, al2, nx2, su2, S2, P2, fw2, fo2, Wt2, Wo2, g2, rfl, q1, q2, q3, q4, q5, ?_⟩
  show sw_ov (sw_ov M [c0 G ns nt, cO G b σ u d, cP P']) _ = _
  rw [hself]
  exact sw_ov_abs (by simp)
theorem K9_rivalsByTruth {b ns b0 : Nat} (hb : 50 ≤ b) {σ : SaleT} {u d nt m le wt wo hi al nx' su fw fo k : Int} {R S P Wt Wo g : Int → Int} (h0 : M 0 = some (c0 G ns nt).2) (h6 : M 6 = some (cC G b0 m le wt wo hi al nx' su).2) (h7 : M 7 = some (cR R).2) (h8 : M 8 = some (cG S).2) (h9 : M 9 = some (cP P).2) (hV : sw_hold M (cVs G fw fo Wt Wo g)) (h5 : sw_hold M (cS G b σ u d)) (hw : wfS σ) (hk : sw_rg k) {n : Nat} (hm : (n : Int) = sNb σ - 1) (hR : rOK σ R n) :
    Kt l G μX9_rivalsByTruth [.ref (sw_al G 0), .ref (sw_al G b), sw_i k] M (fun r M' => ∃ wt' wo' hi' al' nx' su' S' P' fw fo Wt Wo g, r = none ∧ fw = sn (fun i => gF R n (sLe σ) (fun S => crW σ S (fun t => if t = k then sW σ t else 0) n) (sq (sSg σ) n S i)) (pwi (sSg σ) n).toNat ∧ fo = sn (fun i => gF R n (sLe σ) (fun S => crV σ S (fun t => if t = k then sW σ t else 0) n) (sq (sSg σ) n S i)) (pwi (sSg σ) n).toNat ∧
      (∀ a, 0 ≤ a → a < 244 → Wt a = sn (fun i => gX R n (sLe σ) (fun S => crW σ S (fun t => if t = k then sW σ t else 0) n) a (sq (sSg σ) n S i)) (pwi (sSg σ) n).toNat) ∧ (∀ a, 0 ≤ a → a < 244 → Wo a = sn (fun i => gX R n (sLe σ) (fun S => crV σ S (fun t => if t = k then sW σ t else 0) n) a (sq (sSg σ) n S i)) (pwi (sSg σ) n).toNat) ∧ (∀ j : Nat, j ≤ 60 → g j = gn4 Wt Wo fw fo (sLe σ) (sWy σ) j) ∧
      M' = sw_ov M (cVs G fw fo Wt Wo g ++ [cC G b n (sLe σ) wt' wo' hi' al' nx' su', cG S', cP P'])) := by
  refine KtA.of (by decide +kernel) (Nat.le_of_ble_eq_true rfl) ?_
  have hn : sw_nd [0, b, 9] := sw_nd_of (by simp; omega)
  have hnb := hw.2.2.1
  refine v_mem (sw_ov_self (cs := [c0 G ns nt, cO G b σ u d, cP P]) (sw_hold1 h0 (sw_hold1 h5.hd (sw_hold1 h9 sw_hold0)))).symm ?_
  have hself : ∀ P', sw_ov M [c0 G ns nt, cO G b σ u d, cP P'] = sw_ov M [cP P'] := by
    intro P'
    funext q
    show (if q = 0 then some (c0 G ns nt).2 else if q = b then some (cO G b σ u d).2 else if q = 9 then _ else M q) = (if q = 9 then _ else M q)
    by_cases e1 : q = 0
    · rw [if_pos e1, if_neg (by omega), e1, h0]
    · rw [if_neg e1]
      by_cases e2 : q = b
      · rw [if_pos e2, if_neg (by omega), e2, h5.hd]
      · rw [if_neg e2]
  have o1 : ∀ P', sw_hold (sw_ov M [c0 G ns nt, cO G b σ u d, cP P']) (cS G b σ u d) := fun P' => sw_hold1 (sw_ov_at (cs := [c0 G ns nt, cO G b σ u d, cP P']) (q := 1) (t := b) hn rfl) (h5.tl.out (by simp; omega))
  refine v_aload_n dX9_rivalsByTruth_0 rfl ?_
  refine v_getf 0 6 fl_X9_39 hn rfl rfl dX9_rivalsByTruth_1 ?_
  refine v_aload_n dX9_rivalsByTruth_4 rfl ?_
  refine v_iload_n dX9_rivalsByTruth_5 rfl ?_
  refine v_callV (ci := 1) (K1_withTruth hb (σ := σ) (u := u) (d := d) (b0 := b0) (m := m) (le := le) (wt := wt) (wo := wo) (hi := hi) (al := al) (nx := nx') (su := su) (P := P) (k := k) (by rw [hself, sw_ov_out (by simp)]; exact h6) (sw_ov_at (cs := [c0 G ns nt, cO G b σ u d, cP P]) (q := 2) (t := 9) hn rfl) (o1 P) hw hk) ⟨rfl, rfl⟩ (Nat.le_refl _) (Nat.le_refl _) (t := 6) (by rw [hself, sw_ov_out (by simp)]; exact h6) rfl ⟨ml_X9_325, mm_X1_withTruth⟩ ⟨(Nat.le_of_ble_eq_true rfl), (Nat.le_of_ble_eq_true rfl)⟩ mp_X1_withTruth rfl rfl (Nat.le_of_ble_eq_true rfl) dX9_rivalsByTruth_6 (fun r M' h => ?_)
  obtain ⟨P', rfl, hP', rfl⟩ := h
  refine v_ovp [2] rfl rfl hn ?_
  refine v_aload_n dX9_rivalsByTruth_9 rfl ?_
  refine v_getf 0 8 fl_X9_53 hn rfl rfl dX9_rivalsByTruth_10 ?_
  refine v_aload_n dX9_rivalsByTruth_13 rfl ?_
  refine v_getf 0 6 fl_X9_39 hn rfl rfl dX9_rivalsByTruth_14 ?_
  refine v_aload_n dX9_rivalsByTruth_17 rfl ?_
  refine v_aload_n dX9_rivalsByTruth_18 rfl ?_
  refine v_getf 1 6 fl_X9_114 hn rfl rfl dX9_rivalsByTruth_19 ?_
  refine v_iconst dX9_rivalsByTruth_22 ?_
  refine v_isub dX9_rivalsByTruth_23 ?_
  rw [← hm]
  refine v_callV (ci := 4) (K4_gather hb (σ := σ) (u := u) (d := d) (b0 := b0) (m := n) (m0 := m) (le0 := le) (wt := wt) (wo := wo) (hi := hi) (al := al) (nx' := nx') (su := su) (fw0 := fw) (fo0 := fo) (R := R) (S0 := S) (P0 := fun t => if t = k then sW σ t else 0) (P := P') (Wt0 := Wt) (Wo0 := Wo) (g0 := g) (M := sw_ov M [c0 G ns nt, cO G b σ u d, cP P']) (by rw [hself]; exact hV.out (by simp)) (by rw [hself, sw_ov_out (by simp)]; exact h6) (by rw [hself, sw_ov_out (by simp)]; exact h7) (by rw [hself, sw_ov_out (by simp)]; exact h8) (sw_ov_at (cs := [c0 G ns nt, cO G b σ u d, cP P']) (q := 2) (t := 9) hn rfl) (o1 P') hw (by omega) hR hP') ⟨rfl, rfl⟩ (Nat.le_refl _) (Nat.le_refl _) (t := 14) (by show (sw_ov M [c0 G ns nt, cO G b σ u d, cP P']) 14 = _; rw [hself, sw_ov_out (by simp)]; exact hV.hd) rfl ⟨ml_X9_323, mm_X4_gather⟩ ⟨(Nat.le_of_ble_eq_true rfl), (Nat.le_of_ble_eq_true rfl)⟩ mp_X4_gather rfl rfl (Nat.le_of_ble_eq_true rfl) dX9_rivalsByTruth_24 (fun r M' h => ?_)
  obtain ⟨wt2, wo2, hi2, al2, nx2, su2, S2, P2, fw2, fo2, Wt2, Wo2, g2, rfl, q1, q2, q3, q4, q5, rfl⟩ := h
  refine v_vret dX9_rivalsByTruth_27 rfl (Nat.le_refl _) (Nat.le_refl _) ?_
  skip
  refine ⟨wt2, wo2, hi2, al2, nx2, su2, S2, P2, fw2, fo2, Wt2, Wo2, g2, rfl, q1, q2, q3, q4, q5, ?_⟩
  show sw_ov (sw_ov M [c0 G ns nt, cO G b σ u d, cP P']) _ = _
  rw [hself]
  exact sw_ov_abs (by simp)
end

