/-! bars -/
abbrev cH (G : sw_G) : sw_Ce := (18, sw_o 0 [.ref (sw_al G 19), .ref (sw_al G 20)])
abbrev cHs (G : sw_G) (Hi Nx : Int → Int) : List sw_Ce := [cH G, (19, sw_la 61 Hi), (20, sw_la 61 Nx)]
theorem cHs_nd : sw_nd [18, 19, 20] := sw_nd_of (by simp)
def adT (X : Int → Int) (b w : Int) : Int → Int := if 0 ≤ b ∧ b < 61 then up X b (X b + w) else X
/-- best, most, sold, with a next, paid by it -/
def bsS (Hi Nx : Int → Int) (k : Int) (q : Int × Int × Int × Int × Int) : Int × Int × Int × Int × Int :=
  if q.2.1 ≤ q.2.2.2.2 + k * Nx k + k * (q.2.2.1 + Hi k - (q.2.2.2.1 + Nx k)) then (k, q.2.2.2.2 + k * Nx k + k * (q.2.2.1 + Hi k - (q.2.2.2.1 + Nx k)), q.2.2.1 + Hi k, q.2.2.2.1 + Nx k, q.2.2.2.2 + k * Nx k)
  else (q.1, q.2.1, q.2.2.1 + Hi k, q.2.2.2.1 + Nx k, q.2.2.2.2 + k * Nx k)
def bsN (Hi Nx : Int → Int) : Nat → Int × Int × Int × Int × Int
  | 0 => (60, 0, 0, 0, 0)
  | n + 1 => bsS Hi Nx (60 - (n : Int)) (bsN Hi Nx n)
theorem bsN_bd {Hi Nx : Int → Int} (h1 : ∀ i, 0 ≤ i → i ≤ 60 → 0 ≤ Hi i ∧ Hi i ≤ 1000000000000) (h2 : ∀ i, 0 ≤ i → i ≤ 60 → 0 ≤ Nx i ∧ Nx i ≤ 1000000000000) : ∀ n : Nat, n ≤ 61 → (0 ≤ (bsN Hi Nx n).2.2.1 ∧ (bsN Hi Nx n).2.2.1 ≤ 1000000000000 * n) ∧ (0 ≤ (bsN Hi Nx n).2.2.2.1 ∧ (bsN Hi Nx n).2.2.2.1 ≤ 1000000000000 * n) ∧ (0 ≤ (bsN Hi Nx n).2.2.2.2 ∧ (bsN Hi Nx n).2.2.2.2 ≤ 60000000000000 * n) ∧ (-10000000000000000 ≤ (bsN Hi Nx n).2.1 ∧ (bsN Hi Nx n).2.1 ≤ 10000000000000000) ∧ (0 ≤ (bsN Hi Nx n).1 ∧ (bsN Hi Nx n).1 ≤ 60)
  | 0, _ => by
    show (0 ≤ (0 : Int) ∧ (0 : Int) ≤ 1000000000000 * 0) ∧ (0 ≤ (0 : Int) ∧ (0 : Int) ≤ 1000000000000 * 0) ∧ (0 ≤ (0 : Int) ∧ (0 : Int) ≤ 60000000000000 * 0) ∧ (-10000000000000000 ≤ (0 : Int) ∧ (0 : Int) ≤ 10000000000000000) ∧ (0 ≤ (60 : Int) ∧ (60 : Int) ≤ 60)
    omega
  | n + 1, hn => by
    have ih := bsN_bd h1 h2 n (by omega)
    have a1 := h1 (60 - (n : Int)) (by omega) (by omega)
    have a2 := h2 (60 - (n : Int)) (by omega) (by omega)
    have a3 := mul_bd (x := 60 - (n : Int)) (A := 60) ⟨by omega, by omega⟩ a2
    have b1 : 0 ≤ (60 - (n : Int)) * ((bsN Hi Nx n).2.2.1 + Hi (60 - (n : Int))) ∧ (60 - (n : Int)) * ((bsN Hi Nx n).2.2.1 + Hi (60 - (n : Int))) ≤ 60 * 61000000000000 := mul_bd ⟨by omega, by omega⟩ ⟨by omega, by omega⟩
    have b2 : 0 ≤ (60 - (n : Int)) * ((bsN Hi Nx n).2.2.2.1 + Nx (60 - (n : Int))) ∧ (60 - (n : Int)) * ((bsN Hi Nx n).2.2.2.1 + Nx (60 - (n : Int))) ≤ 60 * 61000000000000 := mul_bd ⟨by omega, by omega⟩ ⟨by omega, by omega⟩
    have b3 : (60 - (n : Int)) * ((bsN Hi Nx n).2.2.1 + Hi (60 - (n : Int)) - ((bsN Hi Nx n).2.2.2.1 + Nx (60 - (n : Int)))) = (60 - (n : Int)) * ((bsN Hi Nx n).2.2.1 + Hi (60 - (n : Int))) - (60 - (n : Int)) * ((bsN Hi Nx n).2.2.2.1 + Nx (60 - (n : Int))) := Int.mul_sub _ _ _
    show (0 ≤ (bsS Hi Nx (60 - (n : Int)) (bsN Hi Nx n)).2.2.1 ∧ (bsS Hi Nx (60 - (n : Int)) (bsN Hi Nx n)).2.2.1 ≤ _) ∧ (0 ≤ (bsS Hi Nx (60 - (n : Int)) (bsN Hi Nx n)).2.2.2.1 ∧ (bsS Hi Nx (60 - (n : Int)) (bsN Hi Nx n)).2.2.2.1 ≤ _) ∧ (0 ≤ (bsS Hi Nx (60 - (n : Int)) (bsN Hi Nx n)).2.2.2.2 ∧ (bsS Hi Nx (60 - (n : Int)) (bsN Hi Nx n)).2.2.2.2 ≤ _) ∧ (_ ≤ (bsS Hi Nx (60 - (n : Int)) (bsN Hi Nx n)).2.1 ∧ (bsS Hi Nx (60 - (n : Int)) (bsN Hi Nx n)).2.1 ≤ _) ∧ (0 ≤ (bsS Hi Nx (60 - (n : Int)) (bsN Hi Nx n)).1 ∧ (bsS Hi Nx (60 - (n : Int)) (bsN Hi Nx n)).1 ≤ 60)
    unfold bsS
    rw [b3]
    generalize (60 - (n : Int)) * ((bsN Hi Nx n).2.2.1 + Hi (60 - (n : Int))) = z1 at b1 ⊢
    generalize (60 - (n : Int)) * ((bsN Hi Nx n).2.2.2.1 + Nx (60 - (n : Int))) = z2 at b2 ⊢
    generalize (60 - (n : Int)) * Nx (60 - (n : Int)) = z3 at a3 ⊢
    split <;> (dsimp only; omega)
section
variable {l : Launch} {G : sw_G} {M : sw_M}
theorem K0_addTo {t : Nat} {X : Int → Int} (h1 : M t = some (sw_la 61 X)) {b w : Int} (hb : -1 ≤ b ∧ b ≤ 60) : Kt l G μX0_addTo [.ref (sw_al G t), sw_i b, sw_j w] M (fun r M' => r = none ∧ M' = sw_ov M [(t, sw_la 61 (adT X b w))]) := by
  refine KtA.of (by decide +kernel) (Nat.le_of_ble_eq_true rfl) ?_
  refine v_mem (sw_ov_self (cs := [(t, sw_la 61 X)]) (sw_hold1 h1 sw_hold0)).symm ?_
  have hn : sw_nd [t] := sw_nd_of (by simp)
  refine v_iload_n dX0_addTo_0 rfl ?_
  refine v_if_lt (tgt := 17) dX0_addTo_1 (by decide) ⟨by omega, by omega⟩ (fun h1 => ?_) (fun h1 => ?_)
  · skip
    exact v_vret dX0_addTo_17 rfl (Nat.le_refl _) (Nat.le_refl _) (⟨rfl, by unfold adT; rw [if_neg (by omega)]⟩)
  · skip
    refine v_iload_n dX0_addTo_4 rfl ?_
    refine v_aload_n dX0_addTo_5 rfl ?_
    refine v_alen 0 (z := 61) (Nat.le_of_ble_eq_true rfl) hn rfl (by exact (by decide +kernel : Int32.ofNat 61 = iN 61)) dX0_addTo_6 ?_
    refine v_icmp_ge (tgt := 17) dX0_addTo_7 (by decide) ⟨by omega, by omega⟩ ⟨by omega, by omega⟩ (fun h7 => ?_) (fun h7 => ?_)
    · skip
      exfalso; omega
    · skip
      refine v_aload_n dX0_addTo_10 rfl ?_
      refine v_iload_n dX0_addTo_11 rfl ?_
      refine v_dup2 dX0_addTo_12 rfl rfl ?_
      refine v_lald 0 hn rfl (Nat.le_of_ble_eq_true rfl) (by omega) (by omega) dX0_addTo_13 ?_
      refine v_lload_n dX0_addTo_14 rfl ?_
      refine v_ladd dX0_addTo_15 ?_
      refine v_last 0 hn rfl (Nat.le_of_ble_eq_true rfl) (by omega) (by omega) dX0_addTo_16 ?_
      exact v_vret dX0_addTo_17 rfl (Nat.le_refl _) (Nat.le_refl _) (⟨rfl, by unfold adT; rw [if_pos (by omega)]; rfl⟩)
theorem K0_gather {b b0 : Nat} (hb : 50 ≤ b) {σ : SaleT} {u d : Int} {m : Nat} {m0 le0 wt wo hi al nx' su : Int} {R S0 P0 P Hi0 Nx0 : Int → Int} (hH : sw_hold M (cHs G Hi0 Nx0)) (h1 : M 6 = some (cC G b0 m0 le0 wt wo hi al nx' su).2) (h2 : M 7 = some (cR R).2) (h3 : M 8 = some (cG S0).2) (h4 : M 9 = some (cP P).2) (h5 : sw_hold M (cS G b σ u d)) (hw : wfS σ) (hm : (m : Int) = sNb σ) (hR : rOK σ R m) (hP : ∀ t, 0 ≤ t → t < sTr σ → P t = P0 t) :
    Kt l G μX0_gather [.ref (sw_al G 18), .ref (sw_al G 6), .ref (sw_al G b)] M (fun r M' => ∃ wt' wo' hi' al' nx' su' S' P' Hi Nx, r = none ∧
      (∀ a, 0 ≤ a → a ≤ 60 → Hi a = sn (fun n => if (rk R (sq (sSg σ) m S0 n) 0 m).1 = a then crW σ (sq (sSg σ) m S0 n) P0 m else 0) (pwi (sSg σ) m).toNat) ∧ (∀ a, 0 ≤ a → a ≤ 60 → Nx a = sn (fun n => if (rk R (sq (sSg σ) m S0 n) 0 m).2.2.1 = a then crW σ (sq (sSg σ) m S0 n) P0 m else 0) (pwi (sSg σ) m).toNat) ∧
      M' = sw_ov M (cHs G Hi Nx ++ [cC G b m 0 wt' wo' hi' al' nx' su', cG S', cP P'])) := by
  refine KtA.of (by decide +kernel) (Nat.le_of_ble_eq_true rfl) ?_
  have hnb := hw.2.2.1
  have hback : ∀ (m0 le0 wt wo hi al nx' su : Int) (Hi Nx S P : Int → Int) (b0 : Nat), sw_ov M (cHs G Hi Nx ++ [cC G b0 m0 le0 wt wo hi al nx' su, cG S, cP P, cO G b σ u d]) = sw_ov M (cHs G Hi Nx ++ [cC G b0 m0 le0 wt wo hi al nx' su, cG S, cP P]) := fun m0 le0 wt wo hi al nx' su Hi Nx S P b0 => sw_ov_dr (sw_hold1 h5.hd sw_hold0) (cHs G Hi Nx ++ [cC G b0 m0 le0 wt wo hi al nx' su, cG S, cP P])
  refine v_mem (sw_ov_self (cs := cHs G Hi0 Nx0 ++ [cC G b0 m0 le0 wt wo hi al nx' su, cG S0, cP P, cO G b σ u d]) (sw_hold.app hH (sw_hold1 h1 (sw_hold1 h3 (sw_hold1 h4 (sw_hold1 h5.hd sw_hold0)))))).symm ?_
  have hn : sw_nd [18, 19, 20, 6, 8, 9, b] := sw_nd_of (by simp; omega)
  have hws := hw.1
  have hpb := pwi_bd (sg := sSg σ) (by omega) (by omega) (k := m) (by omega)
  have oR : ∀ (m0 le0 wt wo hi al nx' su : Int) (Hi Nx S P : Int → Int) (b0 : Nat), (sw_ov M (cHs G Hi Nx ++ [cC G b0 m0 le0 wt wo hi al nx' su, cG S, cP P, cO G b σ u d])) 7 = some (cR R).2 := fun m0 le0 wt wo hi al nx' su Hi Nx S P b0 => by rw [sw_ov_out (by simp; omega)]; exact h2
  have oS : ∀ (m0 le0 wt wo hi al nx' su : Int) (Hi Nx S P : Int → Int) (b0 : Nat), sw_hold (sw_ov M (cHs G Hi Nx ++ [cC G b0 m0 le0 wt wo hi al nx' su, cG S, cP P, cO G b σ u d])) (cS G b σ u d) := fun m0 le0 wt wo hi al nx' su Hi Nx S P b0 => sw_hold1 (sw_ov_at (q := 6) (t := b) hn rfl) (h5.tl.out (by simp; omega))
  have oC : ∀ (q t : Nat) (x : sw_Ob) (m0 le0 wt wo hi al nx' su : Int) (Hi Nx S P : Int → Int) (b0 : Nat), (cHs G Hi Nx ++ [cC G b0 m0 le0 wt wo hi al nx' su, cG S, cP P, cO G b σ u d])[q]? = some (t, x) → (sw_ov M (cHs G Hi Nx ++ [cC G b0 m0 le0 wt wo hi al nx' su, cG S, cP P, cO G b σ u d])) t = some x := fun q t x m0 le0 wt wo hi al nx' su Hi Nx S P b0 h => sw_ov_at (cs := cHs G Hi Nx ++ [cC G b0 m0 le0 wt wo hi al nx' su, cG S, cP P, cO G b σ u d]) (q := q) hn h
  obtain ⟨Zq, hZ⟩ : ∃ Zq : Option Value → sw_M → Prop, Zq = (fun r M' => ∃ wt' wo' hi' al' nx' su' S' P' Hi Nx, r = none ∧
      (∀ a, 0 ≤ a → a ≤ 60 → Hi a = sn (fun n => if (rk R (sq (sSg σ) m S0 n) 0 m).1 = a then crW σ (sq (sSg σ) m S0 n) P0 m else 0) (pwi (sSg σ) m).toNat) ∧ (∀ a, 0 ≤ a → a ≤ 60 → Nx a = sn (fun n => if (rk R (sq (sSg σ) m S0 n) 0 m).2.2.1 = a then crW σ (sq (sSg σ) m S0 n) P0 m else 0) (pwi (sSg σ) m).toNat) ∧
      M' = sw_ov M (cHs G Hi Nx ++ [cC G b m 0 wt' wo' hi' al' nx' su', cG S', cP P'])) := ⟨_, rfl⟩
  rw [← hZ]
  have loop : ∀ (n i : Nat) (wt wo hi al nx' su : Int) (S' P' Hi Nx : Int → Int), i + n = (pwi (sSg σ) m).toNat → (0 < n → cC G b m 0 wt wo hi al nx' su = cCd G b σ m 0 R (sq (sSg σ) m S0 i) P0 ∧ S' = sq (sSg σ) m S0 i ∧ pOK σ (sq (sSg σ) m S0 i) P0 P' m) →
      (∀ a, 0 ≤ a → a ≤ 60 → Hi a = sn (fun n => if (rk R (sq (sSg σ) m S0 n) 0 m).1 = a then crW σ (sq (sSg σ) m S0 n) P0 m else 0) i) → (∀ a, 0 ≤ a → a ≤ 60 → Nx a = sn (fun n => if (rk R (sq (sSg σ) m S0 n) 0 m).2.2.1 = a then crW σ (sq (sSg σ) m S0 n) P0 m else 0) i) →
      V l G μX0_gather sw_E0 (sw_Zq G μX0_gather (sw_q0 G Zq)) 42 [(0, .ref (sw_al G 18)), (1, .ref (sw_al G 6)), (2, .ref (sw_al G b)), (3, sw_i (pwi (sSg σ) m)), (4, sw_i (i : Int))] [] (sw_ov M (cHs G Hi Nx ++ [cC G b m 0 wt wo hi al nx' su, cG S', cP P', cO G b σ u d])) 0 0 := by
    intro n
    induction n with
    | zero =>
      intro i wt wo hi al nx' su S' P' Hi Nx hi' hc e1 e2
      have e : i = (pwi (sSg σ) m).toNat := by omega
      subst e
      refine v_iload dX0_gather_42 rfl ?_
      refine v_iload_n dX0_gather_44 rfl ?_
      refine v_icmp_ge (tgt := 88) dX0_gather_45 (by decide) ⟨by omega, by omega⟩ ⟨by omega, by omega⟩ (fun h45 => ?_) (fun h45 => ?_)
      · skip
        exact v_vret dX0_gather_88 rfl (Nat.le_refl _) (Nat.le_refl _) (by rw [hZ]; exact ⟨wt, wo, hi, al, nx', su, S', P', Hi, Nx, rfl, e1, e2, hback _ _ _ _ _ _ _ _ _ _ _ _ _⟩)
      · skip
        exfalso; omega
    | succ n ih =>
      intro i wt wo hi al nx' su S' P' Hi Nx hi' hc e1 e2
      obtain ⟨hc1, rfl, hpk⟩ := hc (by omega)
      rw [hc1]
      have hsk : sOK σ (sq (sSg σ) m S0 i) m := fun j hj => sq_ok (by omega) m S0 i j hj
      have hq := rk_bd (le := 0) (hR.b hsk)
      have f1 : ∀ (X : Int → Int) (z : Nat → Int), (∀ a, 0 ≤ a → a ≤ 60 → X a = sn (fun n => if z n = a then crW σ (sq (sSg σ) m S0 n) P0 m else 0) i) → ∀ a, 0 ≤ a → a ≤ 60 → adT X (z i) (crW σ (sq (sSg σ) m S0 i) P0 m) a = sn (fun n => if z n = a then crW σ (sq (sSg σ) m S0 n) P0 m else 0) (i + 1) := by
        intro X z hX a h0 h1
        show _ = sn _ i + (if z i = a then crW σ (sq (sSg σ) m S0 i) P0 m else 0)
        rw [← hX a h0 h1]
        unfold adT
        by_cases c : 0 ≤ z i ∧ z i < 61
        · rw [if_pos c]
          show (if a = z i then _ else X a) = _
          by_cases e : z i = a
          · rw [if_pos e.symm, if_pos e, e]
          · rw [if_neg (fun h => e h.symm), if_neg e, Int.add_zero]
        · rw [if_neg c, if_neg (by omega), Int.add_zero]
      refine v_iload dX0_gather_42 rfl ?_
      refine v_iload_n dX0_gather_44 rfl ?_
      refine v_icmp_ge (tgt := 88) dX0_gather_45 (by decide) ⟨by omega, by omega⟩ ⟨by omega, by omega⟩ (fun h45 => ?_) (fun h45 => ?_)
      · skip
        exfalso; omega
      · skip
        refine v_aload_n dX0_gather_48 rfl ?_
        refine v_getf 0 0 fl_X0_9 hn rfl rfl dX0_gather_49 ?_
        refine v_aload_n dX0_gather_52 rfl ?_
        refine v_getf 3 8 fl_X0_30 hn rfl rfl dX0_gather_53 ?_
        refine v_aload_n dX0_gather_56 rfl ?_
        refine v_getf 3 6 fl_X0_32 hn rfl rfl dX0_gather_57 ?_
        refine v_callS (K0_addTo (t := 19) (X := Hi) (oC 1 19 _ _ _ _ _ _ _ _ _ Hi Nx _ _ _ rfl) ⟨hq.1.1, hq.1.2⟩) ⟨rfl, rfl⟩ (Nat.le_refl _) (Nat.le_refl _) ⟨ml_X0_36, mm_X0_addTo⟩ ⟨(Nat.le_of_ble_eq_true rfl), (Nat.le_of_ble_eq_true rfl)⟩ mp_X0_addTo rfl rfl (Nat.le_of_ble_eq_true rfl) dX0_gather_60 (fun r M' h => ?_)
        obtain ⟨rfl, rfl⟩ := h
        refine v_ovp [1] rfl rfl hn ?_
        refine v_aload_n dX0_gather_63 rfl ?_
        refine v_getf 0 1 fl_X0_15 hn rfl rfl dX0_gather_64 ?_
        refine v_aload_n dX0_gather_67 rfl ?_
        refine v_getf 3 10 fl_X0_40 hn rfl rfl dX0_gather_68 ?_
        refine v_aload_n dX0_gather_71 rfl ?_
        refine v_getf 3 6 fl_X0_32 hn rfl rfl dX0_gather_72 ?_
        refine v_callS (K0_addTo (t := 20) (X := Nx) (oC 2 20 _ _ _ _ _ _ _ _ _ _ Nx _ _ _ rfl) ⟨hq.2.1.1, hq.2.1.2⟩) ⟨rfl, rfl⟩ (Nat.le_refl _) (Nat.le_refl _) ⟨ml_X0_36, mm_X0_addTo⟩ ⟨(Nat.le_of_ble_eq_true rfl), (Nat.le_of_ble_eq_true rfl)⟩ mp_X0_addTo rfl rfl (Nat.le_of_ble_eq_true rfl) dX0_gather_75 (fun r M' h => ?_)
        obtain ⟨rfl, rfl⟩ := h
        refine v_ovp [2] rfl rfl hn ?_
        refine v_aload_n dX0_gather_78 rfl ?_
        refine v_callV (ci := 1) (K1_step hb (m := m) (σ := σ) (u := u) (d := d) (R := R) (S := sq (sSg σ) m S0 i) (P0 := P0) (P := P') (oC 3 6 _ _ _ _ _ _ _ _ _ (adT Hi (rk R (sq (sSg σ) m S0 i) 0 m).1 (crW σ (sq (sSg σ) m S0 i) P0 m)) (adT Nx (rk R (sq (sSg σ) m S0 i) 0 m).2.2.1 (crW σ (sq (sSg σ) m S0 i) P0 m)) _ _ _ rfl) (oR _ _ _ _ _ _ _ _ _ _ _ _ _) (oC 4 8 _ _ _ _ _ _ _ _ _ _ _ _ _ _ rfl) (oC 5 9 _ _ _ _ _ _ _ _ _ _ _ _ _ _ rfl) (oS _ _ _ _ _ _ _ _ _ _ _ _ _) hw (by omega) hsk hR ⟨by omega, by omega⟩ hpk) ⟨rfl, rfl⟩ (Nat.le_refl _) (Nat.le_refl _) (oC 3 6 _ _ _ _ _ _ _ _ _ _ _ _ _ _ rfl) rfl ⟨ml_X0_42, mm_X1_step⟩ ⟨(Nat.le_of_ble_eq_true rfl), (Nat.le_of_ble_eq_true rfl)⟩ mp_X1_step rfl rfl (Nat.le_of_ble_eq_true rfl) dX0_gather_79 (fun r M' h => ?_)
        obtain ⟨rfl, h⟩ := h
        rcases h with ⟨P2, hp2, rfl⟩ | ⟨hfull, S2, rfl⟩
        · refine v_ovp [3, 4, 5] rfl rfl hn ?_
          refine v_iinc dX0_gather_82 rfl (Nat.le_of_ble_eq_true rfl) ?_
          refine v_goto (tgt := 42) dX0_gather_85 (by decide) ?_
          exact v_to (ih (i + 1) _ _ _ _ _ _ _ P2 _ _ (by omega) (fun _ => ⟨rfl, rfl, hp2⟩) (f1 _ _ e1) (f1 Nx (fun n => (rk R (sq (sSg σ) m S0 n) 0 m).2.2.1) e2)) rfl (sw_h1 rfl (sw_h1 rfl (sw_h1 rfl (sw_h1 rfl (sw_h1 rfl sw_h0)))))
        · refine v_ovp [3, 4, 5] rfl rfl hn ?_
          refine v_iinc dX0_gather_82 rfl (Nat.le_of_ble_eq_true rfl) ?_
          refine v_goto (tgt := 42) dX0_gather_85 (by decide) ?_
          exact v_to (ih (i + 1) _ _ _ _ _ _ _ P' _ _ (by omega) (fun h => absurd hfull (sq_has (by omega) m S0 i (by omega))) (f1 _ _ e1) (f1 Nx (fun n => (rk R (sq (sSg σ) m S0 n) 0 m).2.2.1) e2)) rfl (sw_h1 rfl (sw_h1 rfl (sw_h1 rfl (sw_h1 rfl (sw_h1 rfl sw_h0)))))
        skip
  have zero : ∀ (n : Nat) (k : Int), 0 ≤ k → k + n = 61 → V l G μX0_gather sw_E0 (sw_Zq G μX0_gather (sw_q0 G Zq)) 2 [(0, .ref (sw_al G 18)), (1, .ref (sw_al G 6)), (2, .ref (sw_al G b)), (3, sw_i k)] [] (sw_ov M (cHs G (fl Hi0 0 k.toNat) (fl Nx0 0 k.toNat) ++ [cC G b0 m0 le0 wt wo hi al nx' su, cG S0, cP P, cO G b σ u d])) 0 0 := by
    intro n
    induction n with
    | zero =>
      intro k h0 hk
      have e : k = 61 := by omega
      subst e
      refine v_iload_n dX0_gather_2 rfl ?_
      refine v_bipush dX0_gather_3 (by decide +kernel) ?_
      refine v_icmp_gt (tgt := 28) dX0_gather_5 (by decide) ⟨by omega, by omega⟩ ⟨by omega, by omega⟩ (fun h5 => ?_) (fun h5 => ?_)
      · skip
        refine v_aload_n dX0_gather_28 rfl ?_
        refine v_aload_n dX0_gather_29 rfl ?_
        refine v_aload_n dX0_gather_30 rfl ?_
        refine v_getf 6 6 fl_X0_18 hn rfl rfl dX0_gather_31 ?_
        refine v_iconst dX0_gather_34 ?_
        rw [← hm]
        refine v_callV (ci := 1) (K1_begin hb (m := m) (σ := σ) (u := u) (d := d) (P0 := P0) (P := P) (R := R) (le := 0) (oC 3 6 _ _ _ _ _ _ _ _ _ (fl Hi0 0 61) (fl Nx0 0 61) _ _ _ rfl) (oR _ _ _ _ _ _ _ _ _ _ _ _ _) (oC 4 8 _ _ _ _ _ _ _ _ _ _ _ _ _ _ rfl) (oC 5 9 _ _ _ _ _ _ _ _ _ _ _ _ _ _ rfl) (oS _ _ _ _ _ _ _ _ _ _ _ _ _) hw (by omega) hR ⟨by omega, by omega⟩ hP) ⟨rfl, rfl⟩ (Nat.le_refl _) (Nat.le_refl _) (oC 3 6 _ _ _ _ _ _ _ _ _ _ _ _ _ _ rfl) rfl ⟨ml_X0_24, mm_X1_begin⟩ ⟨(Nat.le_of_ble_eq_true rfl), (Nat.le_of_ble_eq_true rfl)⟩ mp_X1_begin rfl rfl (Nat.le_of_ble_eq_true rfl) dX0_gather_35 (fun r M' h => ?_)
        obtain ⟨P2, rfl, hp2, rfl⟩ := h
        refine v_ovp [3, 4, 5] rfl rfl hn ?_
        refine v_istore_n dX0_gather_38 (Nat.le_of_ble_eq_true rfl) ?_
        refine v_iconst dX0_gather_39 ?_
        refine v_istore dX0_gather_40 (Nat.le_of_ble_eq_true rfl) ?_
        exact v_to (loop (pwi (sSg σ) m).toNat 0 _ _ _ _ _ _ _ P2 (fl Hi0 0 61) (fl Nx0 0 61) (by omega) (fun _ => ⟨rfl, rfl, hp2⟩) (fun a h0 h1 => by rw [fl_at, if_pos (by omega)]; rfl) (fun a h0 h1 => by rw [fl_at, if_pos (by omega)]; rfl)) rfl (sw_h1 rfl (sw_h1 rfl (sw_h1 rfl (sw_h1 rfl (sw_h1 rfl sw_h0)))))
      · skip
        exfalso; omega
    | succ n ih =>
      intro k h0 hk
      have f1 := fl_s Hi0 0 h0
      have f2 := fl_s Nx0 0 h0
      refine v_iload_n dX0_gather_2 rfl ?_
      refine v_bipush dX0_gather_3 (by decide +kernel) ?_
      refine v_icmp_gt (tgt := 28) dX0_gather_5 (by decide) ⟨by omega, by omega⟩ ⟨by omega, by omega⟩ (fun h5 => ?_) (fun h5 => ?_)
      · skip
        exfalso; omega
      · skip
        refine v_aload_n dX0_gather_8 rfl ?_
        refine v_getf 0 0 fl_X0_9 hn rfl rfl dX0_gather_9 ?_
        refine v_iload_n dX0_gather_12 rfl ?_
        refine v_lconst (z := 0) dX0_gather_13 (by decide +kernel) ?_
        refine v_last 1 hn rfl (Nat.le_of_ble_eq_true rfl) (by omega) (by omega) dX0_gather_14 ?_
        refine v_aload_n dX0_gather_15 rfl ?_
        refine v_getf 0 1 fl_X0_15 hn rfl rfl dX0_gather_16 ?_
        refine v_iload_n dX0_gather_19 rfl ?_
        refine v_lconst (z := 0) dX0_gather_20 (by decide +kernel) ?_
        refine v_last 2 hn rfl (Nat.le_of_ble_eq_true rfl) (by omega) (by omega) dX0_gather_21 ?_
        refine v_iinc dX0_gather_22 rfl (Nat.le_of_ble_eq_true rfl) ?_
        refine v_goto (tgt := 2) dX0_gather_25 (by decide) ?_
        exact v_to (ih (k + 1) (by omega) (by omega)) (by rw [f1, f2]; rfl) (sw_h1 rfl (sw_h1 rfl (sw_h1 rfl (sw_h1 rfl sw_h0))))
  refine v_iconst dX0_gather_0 ?_
  refine v_istore_n dX0_gather_1 (Nat.le_of_ble_eq_true rfl) ?_
  exact v_to (zero 61 0 (by omega) (by omega)) rfl (sw_h1 rfl (sw_h1 rfl (sw_h1 rfl (sw_h1 rfl sw_h0))))
theorem K0_pick {Hi Nx : Int → Int} (hH : sw_hold M (cHs G Hi Nx)) (h1 : ∀ i, 0 ≤ i → i ≤ 60 → 0 ≤ Hi i ∧ Hi i ≤ 1000000000000) (h2 : ∀ i, 0 ≤ i → i ≤ 60 → 0 ≤ Nx i ∧ Nx i ≤ 1000000000000) : Kt l G μX0_pick [.ref (sw_al G 18)] M (fun r M' => r = some (sw_i (bsN Hi Nx 61).1) ∧ M' = M) := by
  refine KtA.of (by decide +kernel) (Nat.le_of_ble_eq_true rfl) ?_
  have hback : sw_ov M (cHs G Hi Nx) = M := sw_ov_self hH
  refine v_mem hback.symm ?_
  have hn := cHs_nd
  have loop : ∀ (n k : Nat), k + n = 61 → V l G μX0_pick sw_E0 (sw_Zq G μX0_pick (sw_q0 G (fun r M' => r = some (sw_i (bsN Hi Nx 61).1) ∧ M' = M))) 18 [(0, .ref (sw_al G 18)), (1, sw_i (bsN Hi Nx k).1), (2, sw_j (bsN Hi Nx k).2.1), (4, sw_j (bsN Hi Nx k).2.2.1), (6, sw_j (bsN Hi Nx k).2.2.2.1), (8, sw_j (bsN Hi Nx k).2.2.2.2), (10, sw_i (60 - (k : Int)))] [] (sw_ov M (cHs G Hi Nx)) 0 0 := by
    intro n
    induction n with
    | zero =>
      intro k hk
      have e : k = 61 := by omega
      subst e
      refine v_iload dX0_pick_18 rfl ?_
      refine v_if_lt (tgt := 96) dX0_pick_20 (by decide) ⟨by omega, by omega⟩ (fun h20 => ?_) (fun h20 => ?_)
      · skip
        refine v_iload_n dX0_pick_96 rfl ?_
        exact v_iret dX0_pick_97 rfl (Nat.le_refl _) (Nat.le_refl _) (⟨rfl, hback⟩)
      · skip
        exfalso; omega
    | succ n ih =>
      intro k hk
      have b0 := bsN_bd h1 h2 k (by omega)
      have b1 := bsN_bd h1 h2 (k + 1) (by omega)
      have ih := ih (k + 1) (by omega)
      have a1 := h1 (60 - (k : Int)) (by omega) (by omega)
      have a2 := h2 (60 - (k : Int)) (by omega) (by omega)
      have a3 := mul_bd (x := 60 - (k : Int)) (A := 60) ⟨by omega, by omega⟩ a2
      have c1 : 0 ≤ (60 - (k : Int)) * ((bsN Hi Nx k).2.2.1 + Hi (60 - (k : Int))) ∧ (60 - (k : Int)) * ((bsN Hi Nx k).2.2.1 + Hi (60 - (k : Int))) ≤ 60 * 61000000000000 := mul_bd ⟨by omega, by omega⟩ ⟨by omega, by omega⟩
      have c2 : 0 ≤ (60 - (k : Int)) * ((bsN Hi Nx k).2.2.2.1 + Nx (60 - (k : Int))) ∧ (60 - (k : Int)) * ((bsN Hi Nx k).2.2.2.1 + Nx (60 - (k : Int))) ≤ 60 * 61000000000000 := mul_bd ⟨by omega, by omega⟩ ⟨by omega, by omega⟩
      have c3 : (60 - (k : Int)) * ((bsN Hi Nx k).2.2.1 + Hi (60 - (k : Int)) - ((bsN Hi Nx k).2.2.2.1 + Nx (60 - (k : Int)))) = (60 - (k : Int)) * ((bsN Hi Nx k).2.2.1 + Hi (60 - (k : Int))) - (60 - (k : Int)) * ((bsN Hi Nx k).2.2.2.1 + Nx (60 - (k : Int))) := Int.mul_sub _ _ _
      have e0 : (60 - (k : Int)) + -1 = 60 - ((k + 1 : Nat) : Int) := by omega
      have e1 : bsN Hi Nx (k + 1) = bsS Hi Nx (60 - (k : Int)) (bsN Hi Nx k) := rfl
      rw [e1, ← e0] at ih
      unfold bsS at ih
      refine v_iload dX0_pick_18 rfl ?_
      refine v_if_lt (tgt := 96) dX0_pick_20 (by decide) ⟨by omega, by omega⟩ (fun h20 => ?_) (fun h20 => ?_)
      · skip
        exfalso; omega
      · skip
        refine v_lload dX0_pick_23 rfl ?_
        refine v_aload_n dX0_pick_25 rfl ?_
        refine v_getf 0 0 fl_X0_9 hn rfl rfl dX0_pick_26 ?_
        refine v_iload dX0_pick_29 rfl ?_
        refine v_lald 1 hn rfl (Nat.le_of_ble_eq_true rfl) (by omega) (by omega) dX0_pick_31 ?_
        refine v_ladd dX0_pick_32 ?_
        refine v_lstore dX0_pick_33 (Nat.le_of_ble_eq_true rfl) ?_
        refine v_lload dX0_pick_35 rfl ?_
        refine v_aload_n dX0_pick_37 rfl ?_
        refine v_getf 0 1 fl_X0_15 hn rfl rfl dX0_pick_38 ?_
        refine v_iload dX0_pick_41 rfl ?_
        refine v_lald 2 hn rfl (Nat.le_of_ble_eq_true rfl) (by omega) (by omega) dX0_pick_43 ?_
        refine v_ladd dX0_pick_44 ?_
        refine v_lstore dX0_pick_45 (Nat.le_of_ble_eq_true rfl) ?_
        refine v_lload dX0_pick_47 rfl ?_
        refine v_iload dX0_pick_49 rfl ?_
        refine v_i2l dX0_pick_51 ⟨by omega, by omega⟩ ?_
        refine v_aload_n dX0_pick_52 rfl ?_
        refine v_getf 0 1 fl_X0_15 hn rfl rfl dX0_pick_53 ?_
        refine v_iload dX0_pick_56 rfl ?_
        refine v_lald 2 hn rfl (Nat.le_of_ble_eq_true rfl) (by omega) (by omega) dX0_pick_58 ?_
        refine v_lmul dX0_pick_59 ?_
        refine v_ladd dX0_pick_60 ?_
        refine v_lstore dX0_pick_61 (Nat.le_of_ble_eq_true rfl) ?_
        refine v_lload dX0_pick_63 rfl ?_
        refine v_iload dX0_pick_65 rfl ?_
        refine v_i2l dX0_pick_67 ⟨by omega, by omega⟩ ?_
        refine v_lload dX0_pick_68 rfl ?_
        refine v_lload dX0_pick_70 rfl ?_
        refine v_lsub dX0_pick_72 ?_
        refine v_lmul dX0_pick_73 ?_
        refine v_ladd dX0_pick_74 ?_
        refine v_lstore dX0_pick_75 (Nat.le_of_ble_eq_true rfl) ?_
        refine v_lload dX0_pick_77 rfl ?_
        refine v_lload_n dX0_pick_79 rfl ?_
        refine v_lcmp_lt (tgt := 90) dX0_pick_80 dX0_pick_81 (by decide) ⟨by omega, by omega⟩ ⟨by omega, by omega⟩ (fun h80 => ?_) (fun h80 => ?_)
        · skip
          rw [if_neg (by omega)] at ih
          refine v_iinc dX0_pick_90 rfl (Nat.le_of_ble_eq_true rfl) ?_
          refine v_goto (tgt := 18) dX0_pick_93 (by decide) ?_
          exact v_to ih rfl (sw_h1 rfl (sw_h1 rfl (sw_h1 rfl (sw_h1 rfl (sw_h1 rfl (sw_h1 rfl (sw_h1 rfl sw_h0)))))))
        · skip
          rw [if_pos (by omega)] at ih
          refine v_lload dX0_pick_84 rfl ?_
          refine v_lstore_n dX0_pick_86 (Nat.le_of_ble_eq_true rfl) ?_
          refine v_iload dX0_pick_87 rfl ?_
          refine v_istore_n dX0_pick_89 (Nat.le_of_ble_eq_true rfl) ?_
          refine v_iinc dX0_pick_90 rfl (Nat.le_of_ble_eq_true rfl) ?_
          refine v_goto (tgt := 18) dX0_pick_93 (by decide) ?_
          exact v_to ih rfl (sw_h1 rfl (sw_h1 rfl (sw_h1 rfl (sw_h1 rfl (sw_h1 rfl (sw_h1 rfl (sw_h1 rfl sw_h0)))))))
  refine v_bipush dX0_pick_0 (by decide +kernel) ?_
  refine v_istore_n dX0_pick_2 (Nat.le_of_ble_eq_true rfl) ?_
  refine v_lconst (z := 0) dX0_pick_3 (by decide +kernel) ?_
  refine v_lstore_n dX0_pick_4 (Nat.le_of_ble_eq_true rfl) ?_
  refine v_lconst (z := 0) dX0_pick_5 (by decide +kernel) ?_
  refine v_lstore dX0_pick_6 (Nat.le_of_ble_eq_true rfl) ?_
  refine v_lconst (z := 0) dX0_pick_8 (by decide +kernel) ?_
  refine v_lstore dX0_pick_9 (Nat.le_of_ble_eq_true rfl) ?_
  refine v_lconst (z := 0) dX0_pick_11 (by decide +kernel) ?_
  refine v_lstore dX0_pick_12 (Nat.le_of_ble_eq_true rfl) ?_
  refine v_bipush dX0_pick_14 (by decide +kernel) ?_
  refine v_istore dX0_pick_16 (Nat.le_of_ble_eq_true rfl) ?_
  exact v_to (loop 61 0 (by omega)) rfl (sw_h1 rfl (sw_h1 rfl (sw_h1 rfl (sw_h1 rfl (sw_h1 rfl (sw_h1 rfl (sw_h1 rfl sw_h0)))))))
end

