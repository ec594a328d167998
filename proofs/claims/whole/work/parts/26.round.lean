/-! a round of LEARN; bars -/
def xsN (x : Int) : Nat → Int
  | 0 => x
  | k + 1 => nxX (xsN x k)
def sgD (σ : SaleT) (t x : Int) (Sg : Int → Int) : Nat → (Int → Int)
  | 0 => Sg
  | k + 1 => up (sgD σ t x Sg k) k (fd (see σ t) (sSg σ - 1).toNat 0 (drw (xsN x (k + 1)) 10))
def rdT (σ : SaleT) (x : Int) : Int := fd (sW σ) (sTr σ - 1).toNat 0 (drw (nxX x) (sm (sW σ) (sTr σ).toNat))
/-- x, taken, how often SORRY, rows, gained, signs -/
abbrev LsT : Type := Int × Int × Int × (Int → Int) × (Int → Int) × (Int → Int)
def rnE (σ : SaleT) (m : Nat) (t x : Int) (S : Int → Int) (q : LsT) : LsT :=
  if hg q.2.2.2.1 S (sLe σ) (-1) m = -1 then (x, q.2.1, q.2.2.1, if sLe σ ≤ sV σ t then mvA q.2.2.2.1 S m else q.2.2.2.1, q.2.2.2.2.1, S)
  else
    (nxX x, tkL σ q.2.2.2.1 S (pkW q.2.2.2.1 S (hg q.2.2.2.1 S (sLe σ) (-1) m) m 0 (drw (nxX x) (ctH q.2.2.2.1 S (hg q.2.2.2.1 S (sLe σ) (-1) m) m))) (prL σ q.2.2.2.1 S m (pkW q.2.2.2.1 S (hg q.2.2.2.1 S (sLe σ) (-1) m) m 0 (drw (nxX x) (ctH q.2.2.2.1 S (hg q.2.2.2.1 S (sLe σ) (-1) m) m)))) q.2.1 m,
     q.2.2.1 + (if sV σ t < prL σ q.2.2.2.1 S m (pkW q.2.2.2.1 S (hg q.2.2.2.1 S (sLe σ) (-1) m) m 0 (drw (nxX x) (ctH q.2.2.2.1 S (hg q.2.2.2.1 S (sLe σ) (-1) m) m))) then 1 else 0),
     rwL q.2.2.2.1 S m (sV σ t) (pkW q.2.2.2.1 S (hg q.2.2.2.1 S (sLe σ) (-1) m) m 0 (drw (nxX x) (ctH q.2.2.2.1 S (hg q.2.2.2.1 S (sLe σ) (-1) m) m))) (prL σ q.2.2.2.1 S m (pkW q.2.2.2.1 S (hg q.2.2.2.1 S (sLe σ) (-1) m) m 0 (drw (nxX x) (ctH q.2.2.2.1 S (hg q.2.2.2.1 S (sLe σ) (-1) m) m)))),
     gdL σ q.2.2.2.1 S q.2.2.2.2.1 (sV σ t) (pkW q.2.2.2.1 S (hg q.2.2.2.1 S (sLe σ) (-1) m) m 0 (drw (nxX x) (ctH q.2.2.2.1 S (hg q.2.2.2.1 S (sLe σ) (-1) m) m))) (prL σ q.2.2.2.1 S m (pkW q.2.2.2.1 S (hg q.2.2.2.1 S (sLe σ) (-1) m) m 0 (drw (nxX x) (ctH q.2.2.2.1 S (hg q.2.2.2.1 S (sLe σ) (-1) m) m)))) m, S)
def rnd (σ : SaleT) (m : Nat) (q : LsT) : LsT := rnE σ m (rdT σ q.1) (xsN (nxX q.1) m) (sgD σ (rdT σ q.1) (nxX q.1) q.2.2.2.2.2 m) q
theorem hg_ct {Rw Sg : Int → Int} {le but : Int} : ∀ k : Nat, hg Rw Sg le but k ≠ -1 → 0 < ctH Rw Sg (hg Rw Sg le but k) k
  | 0, h => absurd rfl h
  | k + 1, h => by
    have e : hg Rw Sg le but (k + 1) = if (k : Int) ≠ but ∧ le ≤ bdN Rw Sg k ∧ hg Rw Sg le but k < bdN Rw Sg k then bdN Rw Sg k else hg Rw Sg le but k := rfl
    have hb := fun z => ctH_bd Rw Sg z k
    by_cases c : (k : Int) ≠ but ∧ le ≤ bdN Rw Sg k ∧ hg Rw Sg le but k < bdN Rw Sg k
    · rw [if_pos c] at e
      rw [e]
      show 0 < if bdN Rw Sg k = bdN Rw Sg k then ctH Rw Sg (bdN Rw Sg k) k + 1 else ctH Rw Sg (bdN Rw Sg k) k
      rw [if_pos rfl]
      have := hb (bdN Rw Sg k)
      omega
    · rw [if_neg c] at e
      rw [e] at h ⊢
      have ih := hg_ct k h
      show 0 < if bdN Rw Sg k = hg Rw Sg le but k then ctH Rw Sg (hg Rw Sg le but k) k + 1 else ctH Rw Sg (hg Rw Sg le but k) k
      split <;> omega
theorem sgD_bd {σ : SaleT} (hw : wfS σ) (t x : Int) (Sg : Int → Int) : ∀ (k i : Nat), i < k → 0 ≤ sgD σ t x Sg k i ∧ sgD σ t x Sg k i < sSg σ
  | 0, i, h => by omega
  | k + 1, i, h => by
    show 0 ≤ (if (i : Int) = k then _ else sgD σ t x Sg k i) ∧ (if (i : Int) = k then _ else sgD σ t x Sg k i) < sSg σ
    by_cases e : i = k
    · subst e
      rw [if_pos rfl]
      have hb := fd_bd (see σ t) (sSg σ - 1).toNat 0 (drw (xsN x (i + 1)) 10)
      have := hw.1
      omega
    · rw [if_neg (by omega)]
      exact sgD_bd hw t x Sg k i (by omega)
section
variable {l : Launch} {G : sw_G} {M : sw_M}
theorem K2_round {b : Nat} (hb : 50 ≤ b) {σ : SaleT} {u d : Int} {m : Nat} {q : LsT} (hM : sw_hold M (cLs G b q.1 m q.2.1 q.2.2.1 q.2.2.2.1 q.2.2.2.2.1 q.2.2.2.2.2)) (h5 : sw_hold M (cS G b σ u d)) (hw : wfS σ) (hm : m ≤ 4) (hm1 : 1 ≤ m) (hR : ∀ i, 0 ≤ i → i < 20 → 0 ≤ q.2.2.2.1 i ∧ q.2.2.2.1 i ≤ 60) : Kt l G μX2_round [.ref (sw_al G 30)] M (fun r M' => r = none ∧ M' = sw_ov M (cLs G b (rnd σ m q).1 m (rnd σ m q).2.1 (rnd σ m q).2.2.1 (rnd σ m q).2.2.2.1 (rnd σ m q).2.2.2.2.1 (rnd σ m q).2.2.2.2.2)) := by
  refine KtA.of (by decide +kernel) (Nat.le_of_ble_eq_true rfl) ?_
  obtain ⟨x, tk, so, Rw, Gd, Sg⟩ := q
  dsimp only at hR
  refine v_mem (sw_ov_self (cs := cLs G b x m tk so Rw Gd Sg ++ cS G b σ u d) (sw_hold.app hM h5)).symm ?_
  have hn : sw_nd [30, 31, 32, 33, b, b + 1, b + 2, b + 3, b + 4] := sw_nd_of (by simp; omega)
  have hback : ∀ x tk so Rw Gd Sg, sw_ov M (cLs G b x m tk so Rw Gd Sg ++ cS G b σ u d) = sw_ov M (cLs G b x m tk so Rw Gd Sg) := fun x tk so Rw Gd Sg => sw_ov_dr h5 _
  have oL : ∀ x tk so Rw Gd Sg, sw_hold (sw_ov M (cLs G b x m tk so Rw Gd Sg ++ cS G b σ u d)) (cLs G b x m tk so Rw Gd Sg) := fun x tk so Rw Gd Sg => sw_pick (cs := cLs G b x m tk so Rw Gd Sg ++ cS G b σ u d) hn [0, 1, 2, 3] rfl
  have oA : ∀ x tk so Rw Gd Sg, sw_hold (sw_ov M (cLs G b x m tk so Rw Gd Sg ++ cS G b σ u d)) (cS G b σ u d) := fun x tk so Rw Gd Sg => sw_pick (cs := cLs G b x m tk so Rw Gd Sg ++ cS G b σ u d) hn [4, 5, 6, 7, 8] rfl
  obtain ⟨t, ht⟩ : ∃ t, rdT σ x = t := ⟨_, rfl⟩
  have htb : 0 ≤ t ∧ t < sTr σ := by
    have hf := fd_bd (sW σ) (sTr σ - 1).toNat 0 (drw (nxX x) (sm (sW σ) (sTr σ).toNat))
    have := hw.2.1
    rw [← ht]; unfold rdT; omega
  have hv := (hw.2.2.2.2.2.1 t htb.1 htb.2).1
  have htr := hw.2.1
  have hsg := hw.1
  have hdef : rnd σ m (x, tk, so, Rw, Gd, Sg) = rnE σ m t (xsN (nxX x) m) (sgD σ t (nxX x) Sg m) (x, tk, so, Rw, Gd, Sg) := by
    unfold rnd
    dsimp only
    rw [ht]
  rw [hdef]
  have hlo : lOK σ Rw (sgD σ t (nxX x) Sg m) m := ⟨fun i hi => by have := sgD_bd hw t (nxX x) Sg m i hi; omega, hR⟩
  -- behind the signs
  have tail : V l G μX2_round sw_E0 (sw_Zq G μX2_round (sw_q0 G (fun r M' => r = none ∧ M' = sw_ov M (cLs G b (rnE σ m t (xsN (nxX x) m) (sgD σ t (nxX x) Sg m) (x, tk, so, Rw, Gd, Sg)).1 m (rnE σ m t (xsN (nxX x) m) (sgD σ t (nxX x) Sg m) (x, tk, so, Rw, Gd, Sg)).2.1 (rnE σ m t (xsN (nxX x) m) (sgD σ t (nxX x) Sg m) (x, tk, so, Rw, Gd, Sg)).2.2.1 (rnE σ m t (xsN (nxX x) m) (sgD σ t (nxX x) Sg m) (x, tk, so, Rw, Gd, Sg)).2.2.2.1 (rnE σ m t (xsN (nxX x) m) (sgD σ t (nxX x) Sg m) (x, tk, so, Rw, Gd, Sg)).2.2.2.2.1 (rnE σ m t (xsN (nxX x) m) (sgD σ t (nxX x) Sg m) (x, tk, so, Rw, Gd, Sg)).2.2.2.2.2)))) 32 [(0, .ref (sw_al G 30)), (1, sw_i t)] [] (sw_ov M (cLs G b (xsN (nxX x) m) m tk so Rw Gd (sgD σ t (nxX x) Sg m) ++ cS G b σ u d)) 0 0 := by
    generalize sgD σ t (nxX x) Sg m = S at hlo ⊢
    generalize xsN (nxX x) m = xm
    have hgb := hg_bd hm hlo (sLe σ) (-1) m (Nat.le_refl _)
    have hct := hg_ct (Rw := Rw) (Sg := S) (le := sLe σ) (but := -1) m
    have hre : rnE σ m t xm S (x, tk, so, Rw, Gd, Sg) = if hg Rw S (sLe σ) (-1) m = -1 then (xm, tk, so, if sLe σ ≤ sV σ t then mvA Rw S m else Rw, Gd, S) else
        (nxX xm, tkL σ Rw S (pkW Rw S (hg Rw S (sLe σ) (-1) m) m 0 (drw (nxX xm) (ctH Rw S (hg Rw S (sLe σ) (-1) m) m))) (prL σ Rw S m (pkW Rw S (hg Rw S (sLe σ) (-1) m) m 0 (drw (nxX xm) (ctH Rw S (hg Rw S (sLe σ) (-1) m) m)))) tk m,
         so + (if sV σ t < prL σ Rw S m (pkW Rw S (hg Rw S (sLe σ) (-1) m) m 0 (drw (nxX xm) (ctH Rw S (hg Rw S (sLe σ) (-1) m) m))) then 1 else 0),
         rwL Rw S m (sV σ t) (pkW Rw S (hg Rw S (sLe σ) (-1) m) m 0 (drw (nxX xm) (ctH Rw S (hg Rw S (sLe σ) (-1) m) m))) (prL σ Rw S m (pkW Rw S (hg Rw S (sLe σ) (-1) m) m 0 (drw (nxX xm) (ctH Rw S (hg Rw S (sLe σ) (-1) m) m)))),
         gdL σ Rw S Gd (sV σ t) (pkW Rw S (hg Rw S (sLe σ) (-1) m) m 0 (drw (nxX xm) (ctH Rw S (hg Rw S (sLe σ) (-1) m) m))) (prL σ Rw S m (pkW Rw S (hg Rw S (sLe σ) (-1) m) m 0 (drw (nxX xm) (ctH Rw S (hg Rw S (sLe σ) (-1) m) m)))) m, S) := rfl
    obtain ⟨hi, hhi⟩ : ∃ hi, hg Rw S (sLe σ) (-1) m = hi := ⟨_, rfl⟩
    rw [hhi] at hgb hct hre
    refine v_aload_n dX2_round_32 rfl ?_
    refine v_iconst dX2_round_33 ?_
    refine v_callV (ci := 2) (K2_highest hb (σ := σ) (u := u) (d := d) (m := m) (Rw := Rw) (Gd := Gd) (Sg := S) (oL _ _ _ _ _ _) (oA _ _ _ _ _ _).hd hw hm hlo (but := -1) ⟨by omega, by omega⟩) ⟨rfl, rfl⟩ (Nat.le_refl _) (Nat.le_refl _) (oL _ _ _ _ _ _).hd rfl ⟨ml_X2_51, mm_X2_highest⟩ ⟨(Nat.le_of_ble_eq_true rfl), (Nat.le_of_ble_eq_true rfl)⟩ mp_X2_highest rfl rfl (Nat.le_of_ble_eq_true rfl) dX2_round_34 (fun r M' h => ?_)
    obtain ⟨rfl, rfl⟩ := h
    rw [show hg Rw S (sLe σ) (-1) m = hi from hhi]
    refine v_istore_n dX2_round_37 (Nat.le_of_ble_eq_true rfl) ?_
    refine v_iload_n dX2_round_38 rfl ?_
    refine v_iconst dX2_round_39 ?_
    refine v_icmp_ne (tgt := 59) dX2_round_40 (by decide) ⟨by omega, by omega⟩ ⟨by omega, by omega⟩ (fun h40 => ?_) (fun h40 => ?_)
    · skip
      rw [if_neg (by omega)] at hre
      have hct := hct (by omega)
      have hpk := pkW_bd Rw S hi m 0 (drw (nxX xm) (ctH Rw S hi m)) (Int.le_refl _)
      refine v_aload_n dX2_round_59 rfl ?_
      refine v_aload_n dX2_round_60 rfl ?_
      refine v_getf 0 3 fl_X2_24 hn rfl rfl dX2_round_61 ?_
      refine v_getf 4 0 fl_X2_54 hn rfl rfl dX2_round_64 ?_
      refine v_iload_n dX2_round_67 rfl ?_
      refine v_iald 5 hn rfl (Nat.le_of_ble_eq_true rfl) (by omega) (by omega) dX2_round_68 ?_
      refine v_aload_n dX2_round_69 rfl ?_
      refine v_iload_n dX2_round_70 rfl ?_
      refine v_callV (ci := 2) (K2_drawWinner (σ := σ) (m := m) (Rw := Rw) (Gd := Gd) (Sg := S) (hi := hi) (oL _ _ _ _ _ _) hm hlo ⟨by omega, by omega⟩ hct) ⟨rfl, rfl⟩ (Nat.le_refl _) (Nat.le_refl _) (oL _ _ _ _ _ _).hd rfl ⟨ml_X2_61, mm_X2_drawWinner⟩ ⟨(Nat.le_of_ble_eq_true rfl), (Nat.le_of_ble_eq_true rfl)⟩ mp_X2_drawWinner rfl rfl (Nat.le_of_ble_eq_true rfl) dX2_round_71 (fun r M' h => ?_)
      obtain ⟨rfl, rfl⟩ := h
      refine v_ovp [0] rfl rfl hn ?_
      refine v_callV (ci := 2) (K2_oneWins hb (σ := σ) (u := u) (d := d) (m := m) (Rw := Rw) (Gd := Gd) (Sg := S) (oL _ _ _ _ _ _) (oA _ _ _ _ _ _).hd hw hm hlo (v := sV σ t) (w := pkW Rw S hi m 0 (drw (nxX xm) (ctH Rw S hi m))) hv ⟨by omega, by omega⟩) ⟨rfl, rfl⟩ (Nat.le_refl _) (Nat.le_refl _) (oL _ _ _ _ _ _).hd rfl ⟨ml_X2_64, mm_X2_oneWins⟩ ⟨(Nat.le_of_ble_eq_true rfl), (Nat.le_of_ble_eq_true rfl)⟩ mp_X2_oneWins rfl rfl (Nat.le_of_ble_eq_true rfl) dX2_round_74 (fun r M' h => ?_)
      obtain ⟨rfl, rfl⟩ := h
      refine v_ovp [0, 1, 2, 3] rfl rfl hn ?_
      exact v_vret dX2_round_77 rfl (Nat.le_refl _) (Nat.le_refl _) (⟨rfl, by rw [hre]; exact hback _ _ _ _ _ _⟩)
    · skip
      rw [if_pos (by omega)] at hre
      refine v_aload_n dX2_round_43 rfl ?_
      refine v_aload_n dX2_round_44 rfl ?_
      refine v_getf 0 3 fl_X2_24 hn rfl rfl dX2_round_45 ?_
      refine v_getf 4 0 fl_X2_54 hn rfl rfl dX2_round_48 ?_
      refine v_iload_n dX2_round_51 rfl ?_
      refine v_iald 5 hn rfl (Nat.le_of_ble_eq_true rfl) (by omega) (by omega) dX2_round_52 ?_
      refine v_callV (ci := 2) (K2_noneBids hb (σ := σ) (u := u) (d := d) (m := m) (Rw := Rw) (Gd := Gd) (Sg := S) (oL _ _ _ _ _ _) (oA _ _ _ _ _ _).hd hw hm hlo (v := sV σ t) hv) ⟨rfl, rfl⟩ (Nat.le_refl _) (Nat.le_refl _) (oL _ _ _ _ _ _).hd rfl ⟨ml_X2_57, mm_X2_noneBids⟩ ⟨(Nat.le_of_ble_eq_true rfl), (Nat.le_of_ble_eq_true rfl)⟩ mp_X2_noneBids rfl rfl (Nat.le_of_ble_eq_true rfl) dX2_round_53 (fun r M' h => ?_)
      obtain ⟨rfl, rfl⟩ := h
      refine v_ovp [0, 1, 2, 3] rfl rfl hn ?_
      refine v_goto (tgt := 77) dX2_round_56 (by decide) ?_
      exact v_vret dX2_round_77 rfl (Nat.le_refl _) (Nat.le_refl _) (⟨rfl, by rw [hre]; exact hback _ _ _ _ _ _⟩)
  have loop : ∀ (n k : Nat), k + n = m → V l G μX2_round sw_E0 (sw_Zq G μX2_round (sw_q0 G (fun r M' => r = none ∧ M' = sw_ov M (cLs G b (rnE σ m t (xsN (nxX x) m) (sgD σ t (nxX x) Sg m) (x, tk, so, Rw, Gd, Sg)).1 m (rnE σ m t (xsN (nxX x) m) (sgD σ t (nxX x) Sg m) (x, tk, so, Rw, Gd, Sg)).2.1 (rnE σ m t (xsN (nxX x) m) (sgD σ t (nxX x) Sg m) (x, tk, so, Rw, Gd, Sg)).2.2.1 (rnE σ m t (xsN (nxX x) m) (sgD σ t (nxX x) Sg m) (x, tk, so, Rw, Gd, Sg)).2.2.2.1 (rnE σ m t (xsN (nxX x) m) (sgD σ t (nxX x) Sg m) (x, tk, so, Rw, Gd, Sg)).2.2.2.2.1 (rnE σ m t (xsN (nxX x) m) (sgD σ t (nxX x) Sg m) (x, tk, so, Rw, Gd, Sg)).2.2.2.2.2)))) 7 [(0, .ref (sw_al G 30)), (1, sw_i t), (2, sw_i (k : Int))] [] (sw_ov M (cLs G b (xsN (nxX x) k) m tk so Rw Gd (sgD σ t (nxX x) Sg k) ++ cS G b σ u d)) 0 0 := by
    intro n
    induction n with
    | zero =>
      intro k hk
      have e : k = m := by omega
      subst e
      refine v_iload_n dX2_round_7 rfl ?_
      refine v_aload_n dX2_round_8 rfl ?_
      refine v_getf 0 5 fl_X2_32 hn rfl rfl dX2_round_9 ?_
      refine v_icmp_ge (tgt := 32) dX2_round_12 (by decide) ⟨by omega, by omega⟩ ⟨by omega, by omega⟩ (fun h12 => ?_) (fun h12 => ?_)
      · skip
        exact v_to tail rfl (sw_h1 rfl (sw_h1 rfl sw_h0))
      · skip
        exfalso; omega
    | succ n ih =>
      intro k hk
      refine v_iload_n dX2_round_7 rfl ?_
      refine v_aload_n dX2_round_8 rfl ?_
      refine v_getf 0 5 fl_X2_32 hn rfl rfl dX2_round_9 ?_
      refine v_icmp_ge (tgt := 32) dX2_round_12 (by decide) ⟨by omega, by omega⟩ ⟨by omega, by omega⟩ (fun h12 => ?_) (fun h12 => ?_)
      · skip
        exfalso; omega
      · skip
        refine v_aload_n dX2_round_15 rfl ?_
        refine v_getf 0 2 fl_X2_18 hn rfl rfl dX2_round_16 ?_
        refine v_iload_n dX2_round_19 rfl ?_
        refine v_aload_n dX2_round_20 rfl ?_
        refine v_iload_n dX2_round_21 rfl ?_
        refine v_callV (ci := 2) (K2_drawSign hb (σ := σ) (u := u) (d := d) (m := m) (tr := t) (oL _ _ _ _ _ _).hd (oA _ _ _ _ _ _) hw htb) ⟨rfl, rfl⟩ (Nat.le_refl _) (Nat.le_refl _) (oL _ _ _ _ _ _).hd rfl ⟨ml_X2_47, mm_X2_drawSign⟩ ⟨(Nat.le_of_ble_eq_true rfl), (Nat.le_of_ble_eq_true rfl)⟩ mp_X2_drawSign rfl rfl (Nat.le_of_ble_eq_true rfl) dX2_round_22 (fun r M' h => ?_)
        obtain ⟨rfl, rfl⟩ := h
        refine v_ovp [0] rfl rfl hn ?_
        refine v_iast 3 hn rfl (Nat.le_of_ble_eq_true rfl) (by omega) (by omega) dX2_round_25 ?_
        refine v_iinc dX2_round_26 rfl (Nat.le_of_ble_eq_true rfl) ?_
        refine v_goto (tgt := 7) dX2_round_29 (by decide) ?_
        exact v_to (ih (k + 1) (by omega)) rfl (sw_h1 rfl (sw_h1 rfl (sw_h1 rfl sw_h0)))
  refine v_aload_n dX2_round_0 rfl ?_
  refine v_callV (ci := 2) (K2_drawTruth hb (σ := σ) (u := u) (d := d) (m := m) (oL _ _ _ _ _ _).hd (oA _ _ _ _ _ _) hw) ⟨rfl, rfl⟩ (Nat.le_refl _) (Nat.le_refl _) (oL _ _ _ _ _ _).hd rfl ⟨ml_X2_43, mm_X2_drawTruth⟩ ⟨(Nat.le_of_ble_eq_true rfl), (Nat.le_of_ble_eq_true rfl)⟩ mp_X2_drawTruth rfl rfl (Nat.le_of_ble_eq_true rfl) dX2_round_1 (fun r M' h => ?_)
  obtain ⟨rfl, rfl⟩ := h
  refine v_ovp [0] rfl rfl hn ?_
  rw [show fd (sW σ) (sTr σ - 1).toNat 0 (drw (nxX x) (sm (sW σ) (sTr σ).toNat)) = t from ht]
  refine v_istore_n dX2_round_4 (Nat.le_of_ble_eq_true rfl) ?_
  refine v_iconst dX2_round_5 ?_
  refine v_istore_n dX2_round_6 (Nat.le_of_ble_eq_true rfl) ?_
  exact v_to (loop m 0 (by omega)) rfl (sw_h1 rfl (sw_h1 rfl (sw_h1 rfl sw_h0)))
end

