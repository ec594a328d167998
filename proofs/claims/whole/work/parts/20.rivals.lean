/-! the rivals: what one bidder gains by each bid -/
def pr3 (X : Int → Int) (b : Int) : Nat → Int
  | 0 => 0
  | j + 1 => pr3 X b j + X (b * 4 + ((j : Int) + 1))
def ps3 (X : Int → Int) (b : Int) : Nat → Int
  | 0 => 0
  | j + 1 => ps3 X b j + 12 / ((j : Int) + 1 + 1) * X (b * 4 + ((j : Int) + 1))
def pt3 (X : Int → Int) (b : Int) : Nat → Int
  | 0 => 0
  | j + 1 => pt3 X b j + 12 / ((j : Int) + 1 + 1) * X (b * 4 + ((j : Int) + 1)) * b
def pq3 (X : Int → Int) (b : Int) : Nat → Int
  | 0 => 0
  | j + 1 => pq3 X b j + X (b * 4 + ((j : Int) + 1)) * b
def bt4 (X : Int → Int) (f le : Int) : Nat → Int
  | 0 => f
  | k + 1 => if (k : Int) < le then bt4 X f le k else bt4 X f le k + pr3 X k 3
def nt4 (X : Int → Int) (f le : Int) : Nat → Int
  | 0 => f * le
  | k + 1 => if (k : Int) < le then nt4 X f le k else nt4 X f le k + pq3 X k 3
def gn4 (Wt Wo : Int → Int) (fw fo le wy : Int) (k : Nat) : Int :=
  if (k : Int) < le then 0 else 12 * bt4 Wo fo le k + ps3 Wo k 3 - (if wy = 2 then 12 * (fw + sm Wt 244) * k else 12 * (if wy = 1 then nt4 Wt fw le k else bt4 Wt fw le k * k) + pt3 Wt k 3)
/-- the lowest of the best -/
def pk (g : Int → Int) : Nat → Int
  | 0 => 0
  | k + 1 => if g (pk g k) < g ((k : Int) + 1) then (k : Int) + 1 else pk g k
theorem pk_bd (g : Int → Int) : ∀ k : Nat, 0 ≤ pk g k ∧ pk g k ≤ k
  | 0 => ⟨Int.le_refl _, Int.le_refl _⟩
  | k + 1 => by
    have ih := pk_bd g k
    unfold pk
    split <;> omega
abbrev cV (G : sw_G) (fw fo : Int) : sw_Ce := (14, sw_o 4 [.ref (sw_al G 15), .ref (sw_al G 16), sw_j fw, sw_j fo, .ref (sw_al G 17)])
abbrev cVs (G : sw_G) (fw fo : Int) (Wt Wo g : Int → Int) : List sw_Ce := [cV G fw fo, (15, sw_la 244 Wt), (16, sw_la 244 Wo), (17, sw_la 61 g)]
theorem cVs_nd : sw_nd [14, 15, 16, 17] := sw_nd_of (by simp)
section
variable {l : Launch} {G : sw_G} {M : sw_M}
theorem K4_addCases {b : Nat} {m le wt wo hi al nx su fw fo : Int} {Wt Wo g : Int → Int} (hV : sw_hold M (cVs G fw fo Wt Wo g)) (h1 : M 6 = some (cC G b m le wt wo hi al nx su).2) (hal : 0 ≤ al ∧ al ≤ 3) (hhi : al = 0 ∨ 0 ≤ hi ∧ hi ≤ 60) :
    Kt l G μX4_addCases [.ref (sw_al G 14), .ref (sw_al G 6)] M (fun r M' => r = none ∧ M' = sw_ov M [cV G (if al = 0 then fw + wt else fw) (if al = 0 then fo + wo else fo), (15, sw_la 244 (if al = 0 then Wt else up Wt (hi * 4 + al) (Wt (hi * 4 + al) + wt))), (16, sw_la 244 (if al = 0 then Wo else up Wo (hi * 4 + al) (Wo (hi * 4 + al) + wo)))]) := by
  refine KtA.of (by decide +kernel) (Nat.le_of_ble_eq_true rfl) ?_
  have hback : ∀ cs, sw_ov M (cs ++ [cC G b m le wt wo hi al nx su]) = sw_ov M cs := fun cs => sw_ov_dr (sw_hold1 h1 sw_hold0) cs
  refine v_mem (sw_ov_self (cs := [cV G fw fo, (15, sw_la 244 Wt), (16, sw_la 244 Wo)] ++ [cC G b m le wt wo hi al nx su]) (sw_hold1 hV.hd (sw_hold1 hV.tl.hd (sw_hold1 hV.tl.tl.hd (sw_hold1 h1 sw_hold0))))).symm ?_
  have hn : sw_nd [14, 15, 16, 6] := sw_nd_of (by simp)
  refine v_aload_n dX4_addCases_0 rfl ?_
  refine v_getf 3 9 fl_X4_54 hn rfl rfl dX4_addCases_1 ?_
  refine v_if_ne (tgt := 34) dX4_addCases_4 (by decide) ⟨by omega, by omega⟩ (fun h4 => ?_) (fun h4 => ?_)
  · skip
    refine v_aload_n dX4_addCases_34 rfl ?_
    refine v_getf 3 8 fl_X4_61 hn rfl rfl dX4_addCases_35 ?_
    refine v_iconst dX4_addCases_38 ?_
    refine v_imul dX4_addCases_39 ?_
    refine v_aload_n dX4_addCases_40 rfl ?_
    refine v_getf 3 9 fl_X4_54 hn rfl rfl dX4_addCases_41 ?_
    refine v_iadd dX4_addCases_44 ?_
    refine v_istore_n dX4_addCases_45 (Nat.le_of_ble_eq_true rfl) ?_
    refine v_iload_n dX4_addCases_46 rfl ?_
    refine v_if_lt (tgt := 83) dX4_addCases_47 (by decide) ⟨by omega, by omega⟩ (fun h47 => ?_) (fun h47 => ?_)
    · skip
      exfalso; omega
    · skip
      refine v_iload_n dX4_addCases_50 rfl ?_
      refine v_sipush dX4_addCases_51 (by decide +kernel) ?_
      refine v_icmp_ge (tgt := 83) dX4_addCases_54 (by decide) ⟨by omega, by omega⟩ ⟨by omega, by omega⟩ (fun h54 => ?_) (fun h54 => ?_)
      · skip
        exfalso; omega
      · skip
        refine v_aload_n dX4_addCases_57 rfl ?_
        refine v_getf 0 0 fl_X4_9 hn rfl rfl dX4_addCases_58 ?_
        refine v_iload_n dX4_addCases_61 rfl ?_
        refine v_dup2 dX4_addCases_62 rfl rfl ?_
        refine v_lald 1 hn rfl (Nat.le_of_ble_eq_true rfl) (by omega) (by omega) dX4_addCases_63 ?_
        refine v_aload_n dX4_addCases_64 rfl ?_
        refine v_getf 3 6 fl_X4_57 hn rfl rfl dX4_addCases_65 ?_
        refine v_ladd dX4_addCases_68 ?_
        refine v_last 1 hn rfl (Nat.le_of_ble_eq_true rfl) (by omega) (by omega) dX4_addCases_69 ?_
        refine v_aload_n dX4_addCases_70 rfl ?_
        refine v_getf 0 1 fl_X4_15 hn rfl rfl dX4_addCases_71 ?_
        refine v_iload_n dX4_addCases_74 rfl ?_
        refine v_dup2 dX4_addCases_75 rfl rfl ?_
        refine v_lald 2 hn rfl (Nat.le_of_ble_eq_true rfl) (by omega) (by omega) dX4_addCases_76 ?_
        refine v_aload_n dX4_addCases_77 rfl ?_
        refine v_getf 3 7 fl_X4_59 hn rfl rfl dX4_addCases_78 ?_
        refine v_ladd dX4_addCases_81 ?_
        refine v_last 2 hn rfl (Nat.le_of_ble_eq_true rfl) (by omega) (by omega) dX4_addCases_82 ?_
        exact v_vret dX4_addCases_83 rfl (Nat.le_refl _) (Nat.le_refl _) (⟨rfl, by rw [if_neg (by omega), if_neg (by omega), if_neg (by omega), if_neg (by omega)]; exact hback [cV G fw fo, (15, sw_la 244 (up Wt (hi * 4 + al) (Wt (hi * 4 + al) + wt))), (16, sw_la 244 (up Wo (hi * 4 + al) (Wo (hi * 4 + al) + wo)))]⟩)
  · skip
    refine v_aload_n dX4_addCases_7 rfl ?_
    refine v_dup dX4_addCases_8 rfl ?_
    refine v_getf 0 2 fl_X4_18 hn rfl rfl dX4_addCases_9 ?_
    refine v_aload_n dX4_addCases_12 rfl ?_
    refine v_getf 3 6 fl_X4_57 hn rfl rfl dX4_addCases_13 ?_
    refine v_ladd dX4_addCases_16 ?_
    refine v_putf 0 2 fp_X4_18 hn rfl rfl rfl (Nat.le_of_ble_eq_true rfl) dX4_addCases_17 ?_
    refine v_aload_n dX4_addCases_20 rfl ?_
    refine v_dup dX4_addCases_21 rfl ?_
    refine v_getf 0 3 fl_X4_22 hn rfl rfl dX4_addCases_22 ?_
    refine v_aload_n dX4_addCases_25 rfl ?_
    refine v_getf 3 7 fl_X4_59 hn rfl rfl dX4_addCases_26 ?_
    refine v_ladd dX4_addCases_29 ?_
    refine v_putf 0 3 fp_X4_22 hn rfl rfl rfl (Nat.le_of_ble_eq_true rfl) dX4_addCases_30 ?_
    exact v_vret dX4_addCases_33 rfl (Nat.le_refl _) (Nat.le_refl _) (⟨rfl, by rw [if_pos (by omega), if_pos (by omega), if_pos (by omega), if_pos (by omega)]; exact hback [cV G (fw + wt) (fo + wo), (15, sw_la 244 Wt), (16, sw_la 244 Wo)]⟩)
theorem K4_pick {fw fo : Int} {g : Int → Int} (h1 : M 14 = some (cV G fw fo).2) (h2 : M 17 = some (sw_la 61 g)) (hg : ∀ i, 0 ≤ i → i ≤ 60 → sw_rl (g i)) : Kt l G μX4_pick [.ref (sw_al G 14)] M (fun r M' => r = some (sw_i (pk g 60)) ∧ M' = M) := by
  refine KtA.of (by decide +kernel) (Nat.le_of_ble_eq_true rfl) ?_
  have hback : sw_ov M [cV G fw fo, (17, sw_la 61 g)] = M := sw_ov_self (sw_hold1 h1 (sw_hold1 h2 sw_hold0))
  refine v_mem hback.symm ?_
  have hn : sw_nd [14, 17] := sw_nd_of (by simp)
  have loop : ∀ (n k : Nat), k + n = 60 → V l G μX4_pick sw_E0 (sw_Zq G μX4_pick (sw_q0 G (fun r M' => r = some (sw_i (pk g 60)) ∧ M' = M))) 4 [(0, .ref (sw_al G 14)), (1, sw_i (pk g k)), (2, sw_i ((k : Int) + 1))] [] (sw_ov M [cV G fw fo, (17, sw_la 61 g)]) 0 0 := by
    intro n
    induction n with
    | zero =>
      intro k hk
      have e : k = 60 := by omega
      subst e
      refine v_iload_n dX4_pick_4 rfl ?_
      refine v_bipush dX4_pick_5 (by decide +kernel) ?_
      refine v_icmp_gt (tgt := 34) dX4_pick_7 (by decide) ⟨by omega, by omega⟩ ⟨by omega, by omega⟩ (fun h7 => ?_) (fun h7 => ?_)
      · skip
        refine v_iload_n dX4_pick_34 rfl ?_
        exact v_iret dX4_pick_35 rfl (Nat.le_refl _) (Nat.le_refl _) (⟨rfl, hback⟩)
      · skip
        exfalso; omega
    | succ n ih =>
      intro k hk
      have hp := pk_bd g k
      have e1 : pk g (k + 1) = if g (pk g k) < g ((k : Int) + 1) then (k : Int) + 1 else pk g k := rfl
      refine v_iload_n dX4_pick_4 rfl ?_
      refine v_bipush dX4_pick_5 (by decide +kernel) ?_
      refine v_icmp_gt (tgt := 34) dX4_pick_7 (by decide) ⟨by omega, by omega⟩ ⟨by omega, by omega⟩ (fun h7 => ?_) (fun h7 => ?_)
      · skip
        exfalso; omega
      · skip
        refine v_aload_n dX4_pick_10 rfl ?_
        refine v_getf 0 4 fl_X4_25 hn rfl rfl dX4_pick_11 ?_
        refine v_iload_n dX4_pick_14 rfl ?_
        refine v_lald 1 hn rfl (Nat.le_of_ble_eq_true rfl) (by omega) (by omega) dX4_pick_15 ?_
        refine v_aload_n dX4_pick_16 rfl ?_
        refine v_getf 0 4 fl_X4_25 hn rfl rfl dX4_pick_17 ?_
        refine v_iload_n dX4_pick_20 rfl ?_
        refine v_lald 1 hn rfl (Nat.le_of_ble_eq_true rfl) (by omega) (by omega) dX4_pick_21 ?_
        refine v_lcmp_le (tgt := 28) dX4_pick_22 dX4_pick_23 (by decide) (hg _ (by omega) (by omega)) (hg _ (by omega) (by omega)) (fun h22 => ?_) (fun h22 => ?_)
        · skip
          rw [if_neg (by omega)] at e1
          refine v_iinc dX4_pick_28 rfl (Nat.le_of_ble_eq_true rfl) ?_
          refine v_goto (tgt := 4) dX4_pick_31 (by decide) ?_
          exact v_to (ih (k + 1) (by omega)) rfl (sw_h1 rfl (sw_h1 (by rw [e1]; rfl) (sw_h1 rfl sw_h0)))
        · skip
          rw [if_pos (by omega)] at e1
          refine v_iload_n dX4_pick_26 rfl ?_
          refine v_istore_n dX4_pick_27 (Nat.le_of_ble_eq_true rfl) ?_
          refine v_iinc dX4_pick_28 rfl (Nat.le_of_ble_eq_true rfl) ?_
          refine v_goto (tgt := 4) dX4_pick_31 (by decide) ?_
          exact v_to (ih (k + 1) (by omega)) rfl (sw_h1 rfl (sw_h1 (by rw [e1]; rfl) (sw_h1 rfl sw_h0)))
  refine v_iconst dX4_pick_0 ?_
  refine v_istore_n dX4_pick_1 (Nat.le_of_ble_eq_true rfl) ?_
  refine v_iconst dX4_pick_2 ?_
  refine v_istore_n dX4_pick_3 (Nat.le_of_ble_eq_true rfl) ?_
  exact v_to (loop 60 0 (by omega)) rfl (sw_h1 rfl (sw_h1 rfl (sw_h1 rfl sw_h0)))
theorem K4_most {fw fo : Int} {g : Int → Int} (h1 : M 14 = some (cV G fw fo).2) (h2 : M 17 = some (sw_la 61 g)) (hg : ∀ i, 0 ≤ i → i ≤ 60 → sw_rl (g i)) : Kt l G μX4_most [.ref (sw_al G 14)] M (fun r M' => r = some (sw_j (g (pk g 60))) ∧ M' = M) := by
  refine KtA.of (by decide +kernel) (Nat.le_of_ble_eq_true rfl) ?_
  have hback : sw_ov M [cV G fw fo, (17, sw_la 61 g)] = M := sw_ov_self (sw_hold1 h1 (sw_hold1 h2 sw_hold0))
  refine v_mem hback.symm ?_
  have hn : sw_nd [14, 17] := sw_nd_of (by simp)
  have hp := pk_bd g 60
  refine v_aload_n dX4_most_0 rfl ?_
  refine v_getf 0 4 fl_X4_25 hn rfl rfl dX4_most_1 ?_
  refine v_aload_n dX4_most_4 rfl ?_
  refine v_callV (ci := 4) (K4_pick (fw := fw) (fo := fo) (g := g) (sw_hold_all (cs := [cV G fw fo, (17, sw_la 61 g)]) hn).hd (sw_hold_all (cs := [cV G fw fo, (17, sw_la 61 g)]) hn).tl.hd hg) ⟨rfl, rfl⟩ (Nat.le_refl _) (Nat.le_refl _) ((sw_hold_all (cs := [cV G fw fo, (17, sw_la 61 g)]) hn).hd) rfl ⟨ml_X4_66, mm_X4_pick⟩ ⟨(Nat.le_of_ble_eq_true rfl), (Nat.le_of_ble_eq_true rfl)⟩ mp_X4_pick rfl rfl (Nat.le_of_ble_eq_true rfl) dX4_most_5 (fun r M' h => ?_)
  obtain ⟨rfl, rfl⟩ := h
  refine v_lald 1 hn rfl (Nat.le_of_ble_eq_true rfl) (by omega) (by omega) dX4_most_8 ?_
  exact v_lret dX4_most_9 rfl (Nat.le_refl _) (Nat.le_refl _) (⟨rfl, hback⟩)
theorem K4_isMost {fw fo bid : Int} {g : Int → Int} (h1 : M 14 = some (cV G fw fo).2) (h2 : M 17 = some (sw_la 61 g)) (hg : ∀ i, 0 ≤ i → i ≤ 60 → sw_rl (g i)) (hb : 0 ≤ bid ∧ bid ≤ 60) : Kt l G μX4_isMost [.ref (sw_al G 14), sw_i bid] M (fun r M' => r = some (sw_i (bI (g bid = g (pk g 60)))) ∧ M' = M) := by
  refine KtA.of (by decide +kernel) (Nat.le_of_ble_eq_true rfl) ?_
  have hback : sw_ov M [cV G fw fo, (17, sw_la 61 g)] = M := sw_ov_self (sw_hold1 h1 (sw_hold1 h2 sw_hold0))
  refine v_mem hback.symm ?_
  have hn : sw_nd [14, 17] := sw_nd_of (by simp)
  have hp := pk_bd g 60
  refine v_iload_n dX4_isMost_0 rfl ?_
  refine v_if_lt (tgt := 28) dX4_isMost_1 (by decide) ⟨by omega, by omega⟩ (fun h1 => ?_) (fun h1 => ?_)
  · skip
    exfalso; omega
  · skip
    refine v_iload_n dX4_isMost_4 rfl ?_
    refine v_bipush dX4_isMost_5 (by decide +kernel) ?_
    refine v_icmp_gt (tgt := 28) dX4_isMost_7 (by decide) ⟨by omega, by omega⟩ ⟨by omega, by omega⟩ (fun h7 => ?_) (fun h7 => ?_)
    · skip
      exfalso; omega
    · skip
      refine v_aload_n dX4_isMost_10 rfl ?_
      refine v_getf 0 4 fl_X4_25 hn rfl rfl dX4_isMost_11 ?_
      refine v_iload_n dX4_isMost_14 rfl ?_
      refine v_lald 1 hn rfl (Nat.le_of_ble_eq_true rfl) (by omega) (by omega) dX4_isMost_15 ?_
      refine v_aload_n dX4_isMost_16 rfl ?_
      refine v_callV (ci := 4) (K4_most (fw := fw) (fo := fo) (g := g) (sw_hold_all (cs := [cV G fw fo, (17, sw_la 61 g)]) hn).hd (sw_hold_all (cs := [cV G fw fo, (17, sw_la 61 g)]) hn).tl.hd hg) ⟨rfl, rfl⟩ (Nat.le_refl _) (Nat.le_refl _) ((sw_hold_all (cs := [cV G fw fo, (17, sw_la 61 g)]) hn).hd) rfl ⟨ml_X4_70, mm_X4_most⟩ ⟨(Nat.le_of_ble_eq_true rfl), (Nat.le_of_ble_eq_true rfl)⟩ mp_X4_most rfl rfl (Nat.le_of_ble_eq_true rfl) dX4_isMost_17 (fun r M' h => ?_)
      obtain ⟨rfl, rfl⟩ := h
      refine v_lcmp_ne (tgt := 28) dX4_isMost_20 dX4_isMost_21 (by decide) (hg _ (by omega) (by omega)) (hg _ (by omega) (by omega)) (fun h20 => ?_) (fun h20 => ?_)
      · skip
        refine v_iconst dX4_isMost_28 ?_
        exact v_zret rfl dX4_isMost_29 rfl (Nat.le_refl _) (Nat.le_refl _) (⟨by rw [bI_f h20], hback⟩)
      · skip
        refine v_iconst dX4_isMost_24 ?_
        refine v_goto (tgt := 29) dX4_isMost_25 (by decide) ?_
        exact v_zret rfl dX4_isMost_29 rfl (Nat.le_refl _) (Nat.le_refl _) (⟨by rw [bI_t h20], hback⟩)
theorem K4_reckon {fw fo le wy : Int} {Wt Wo g : Int → Int} (hV : sw_hold M (cVs G fw fo Wt Wo g)) (hle : 0 ≤ le ∧ le ≤ 60) (hwy : 0 ≤ wy ∧ wy ≤ 2) :
    Kt l G μX4_reckon [.ref (sw_al G 14), sw_i le, sw_i wy] M (fun r M' => ∃ g', r = none ∧ (∀ k : Nat, k ≤ 60 → g' k = gn4 Wt Wo fw fo le wy k) ∧ M' = sw_ov M (cVs G fw fo Wt Wo g')) := by
  refine KtA.of (by decide +kernel) (Nat.le_of_ble_eq_true rfl) ?_
  refine v_mem (sw_ov_self hV).symm ?_
  have hn := cVs_nd
  have main : ∀ (n k : Nat) (g' : Int → Int), k + n = 61 → (∀ j : Nat, j < k → g' j = gn4 Wt Wo fw fo le wy j) → V l G μX4_reckon sw_E0 (sw_Zq G μX4_reckon (sw_q0 G (fun r M' => ∃ g', r = none ∧ (∀ k : Nat, k ≤ 60 → g' k = gn4 Wt Wo fw fo le wy k) ∧ M' = sw_ov M (cVs G fw fo Wt Wo g')))) 56 [(0, .ref (sw_al G 14)), (1, sw_i le), (2, sw_i wy), (3, sw_j (fw + sm Wt 244)), (5, sw_j (bt4 Wt fw le k)), (7, sw_j (bt4 Wo fo le k)), (9, sw_j (nt4 Wt fw le k)), (11, sw_i (k : Int))] [] (sw_ov M (cVs G fw fo Wt Wo g')) 0 0 := by
    intro n
    induction n with
    | zero =>
      intro k g' hk hg
      refine v_iload dX4_reckon_56 rfl ?_
      refine v_bipush dX4_reckon_58 (by decide +kernel) ?_
      refine v_icmp_gt (tgt := 253) dX4_reckon_60 (by decide) ⟨by omega, by omega⟩ ⟨by omega, by omega⟩ (fun h60 => ?_) (fun h60 => ?_)
      · skip
        exact v_vret dX4_reckon_253 rfl (Nat.le_refl _) (Nat.le_refl _) (⟨g', rfl, fun j hj => hg j (by omega), rfl⟩)
      · skip
        exfalso; omega
    | succ n ih =>
      intro k g' hk hg
      have hup : ∀ v, v = gn4 Wt Wo fw fo le wy k → ∀ j : Nat, j < k + 1 → up g' k v j = gn4 Wt Wo fw fo le wy j := by
        intro v hv j hj
        show (if (j : Int) = k then v else g' j) = _
        by_cases e : j = k
        · subst e; rw [if_pos rfl, hv]
        · rw [if_neg (by omega)]; exact hg j (by omega)
      have hgn : gn4 Wt Wo fw fo le wy k = if (k : Int) < le then 0 else 12 * bt4 Wo fo le k + ps3 Wo k 3 - (if wy = 2 then 12 * (fw + sm Wt 244) * k else 12 * (if wy = 1 then nt4 Wt fw le k else bt4 Wt fw le k * k) + pt3 Wt k 3) := rfl
      have e1 : bt4 Wt fw le (k + 1) = if (k : Int) < le then bt4 Wt fw le k else bt4 Wt fw le k + pr3 Wt k 3 := rfl
      have e2 : bt4 Wo fo le (k + 1) = if (k : Int) < le then bt4 Wo fo le k else bt4 Wo fo le k + pr3 Wo k 3 := rfl
      have e3 : nt4 Wt fw le (k + 1) = if (k : Int) < le then nt4 Wt fw le k else nt4 Wt fw le k + pq3 Wt k 3 := rfl
      have inner : ¬ (k : Int) < le → ∀ (n2 j : Nat), j + n2 = 3 → V l G μX4_reckon sw_E0 (sw_Zq G μX4_reckon (sw_q0 G (fun r M' => ∃ g', r = none ∧ (∀ k : Nat, k ≤ 60 → g' k = gn4 Wt Wo fw fo le wy k) ∧ M' = sw_ov M (cVs G fw fo Wt Wo g')))) 113 [(0, .ref (sw_al G 14)), (1, sw_i le), (2, sw_i wy), (3, sw_j (fw + sm Wt 244)), (5, sw_j (bt4 Wt fw le k + pr3 Wt k j)), (7, sw_j (bt4 Wo fo le k + pr3 Wo k j)), (9, sw_j (nt4 Wt fw le k + pq3 Wt k j)), (11, sw_i (k : Int)), (12, sw_j (12 * bt4 Wo fo le k + ps3 Wo k j)), (14, sw_j (12 * (if wy = 1 then nt4 Wt fw le k else bt4 Wt fw le k * k) + pt3 Wt k j)), (16, sw_i ((j : Int) + 1))] [] (sw_ov M (cVs G fw fo Wt Wo g')) 0 0 := by
        intro hkl n2
        rw [if_neg hkl] at hgn e1 e2 e3
        induction n2 with
        | zero =>
          intro j hj
          have e : j = 3 := by omega
          subst e
          refine v_iload dX4_reckon_113 rfl ?_
          refine v_iconst dX4_reckon_115 ?_
          refine v_icmp_ge (tgt := 218) dX4_reckon_116 (by decide) ⟨by omega, by omega⟩ ⟨by omega, by omega⟩ (fun h116 => ?_) (fun h116 => ?_)
          · skip
            refine v_aload_n dX4_reckon_218 rfl ?_
            refine v_getf 0 4 fl_X4_25 hn rfl rfl dX4_reckon_219 ?_
            refine v_iload dX4_reckon_222 rfl ?_
            refine v_lload dX4_reckon_224 rfl ?_
            refine v_iload_n dX4_reckon_226 rfl ?_
            refine v_iconst dX4_reckon_227 ?_
            refine v_icmp_ne (tgt := 243) dX4_reckon_228 (by decide) ⟨by omega, by omega⟩ ⟨by omega, by omega⟩ (fun h228 => ?_) (fun h228 => ?_)
            · skip
              rw [if_neg h228] at hgn
              refine v_lload dX4_reckon_243 rfl ?_
              refine v_lsub dX4_reckon_245 ?_
              refine v_last 3 hn rfl (Nat.le_of_ble_eq_true rfl) (by omega) (by omega) dX4_reckon_246 ?_
              refine v_iinc dX4_reckon_247 rfl (Nat.le_of_ble_eq_true rfl) ?_
              refine v_goto (tgt := 56) dX4_reckon_250 (by decide) ?_
              exact v_to (ih (k + 1) _ (by omega) (hup _ hgn.symm)) rfl (sw_h1 rfl (sw_h1 rfl (sw_h1 rfl (sw_h1 rfl (sw_h1 (by rw [e1]; rfl) (sw_h1 (by rw [e2]; rfl) (sw_h1 (by rw [e3]; rfl) (sw_h1 rfl sw_h0))))))))
            · skip
              rw [if_pos (by omega)] at hgn
              refine v_ldc2 (z := 12) kl_X4_64 (by decide +kernel) dX4_reckon_231 ?_
              refine v_lload_n dX4_reckon_234 rfl ?_
              refine v_lmul dX4_reckon_235 ?_
              refine v_iload dX4_reckon_236 rfl ?_
              refine v_i2l dX4_reckon_238 ⟨by omega, by omega⟩ ?_
              refine v_lmul dX4_reckon_239 ?_
              refine v_goto (tgt := 245) dX4_reckon_240 (by decide) ?_
              refine v_lsub dX4_reckon_245 ?_
              refine v_last 3 hn rfl (Nat.le_of_ble_eq_true rfl) (by omega) (by omega) dX4_reckon_246 ?_
              refine v_iinc dX4_reckon_247 rfl (Nat.le_of_ble_eq_true rfl) ?_
              refine v_goto (tgt := 56) dX4_reckon_250 (by decide) ?_
              exact v_to (ih (k + 1) _ (by omega) (hup _ hgn.symm)) rfl (sw_h1 rfl (sw_h1 rfl (sw_h1 rfl (sw_h1 rfl (sw_h1 (by rw [e1]; rfl) (sw_h1 (by rw [e2]; rfl) (sw_h1 (by rw [e3]; rfl) (sw_h1 rfl sw_h0))))))))
          · skip
            exfalso; omega
        | succ n2 ih2 =>
          intro j hj
          have hsh := sh_bd (al := (j : Int) + 1 + 1) (by omega)
          have f1 : bt4 Wt fw le k + pr3 Wt k (j + 1) = bt4 Wt fw le k + pr3 Wt k j + Wt ((k : Int) * 4 + ((j : Int) + 1)) := by
            show bt4 Wt fw le k + (pr3 Wt k j + Wt ((k : Int) * 4 + ((j : Int) + 1))) = _
            exact (Int.add_assoc _ _ _).symm
          have f2 : bt4 Wo fo le k + pr3 Wo k (j + 1) = bt4 Wo fo le k + pr3 Wo k j + Wo ((k : Int) * 4 + ((j : Int) + 1)) := by
            show bt4 Wo fo le k + (pr3 Wo k j + Wo ((k : Int) * 4 + ((j : Int) + 1))) = _
            exact (Int.add_assoc _ _ _).symm
          have f3 : nt4 Wt fw le k + pq3 Wt k (j + 1) = nt4 Wt fw le k + pq3 Wt k j + Wt ((k : Int) * 4 + ((j : Int) + 1)) * k := by
            show nt4 Wt fw le k + (pq3 Wt k j + Wt ((k : Int) * 4 + ((j : Int) + 1)) * k) = _
            exact (Int.add_assoc _ _ _).symm
          have f4 : 12 * bt4 Wo fo le k + ps3 Wo k (j + 1) = 12 * bt4 Wo fo le k + ps3 Wo k j + 12 / ((j : Int) + 1 + 1) * Wo ((k : Int) * 4 + ((j : Int) + 1)) := by
            show 12 * bt4 Wo fo le k + (ps3 Wo k j + 12 / ((j : Int) + 1 + 1) * Wo ((k : Int) * 4 + ((j : Int) + 1))) = _
            exact (Int.add_assoc _ _ _).symm
          have f5 : 12 * (if wy = 1 then nt4 Wt fw le k else bt4 Wt fw le k * k) + pt3 Wt k (j + 1) = 12 * (if wy = 1 then nt4 Wt fw le k else bt4 Wt fw le k * k) + pt3 Wt k j + 12 / ((j : Int) + 1 + 1) * Wt ((k : Int) * 4 + ((j : Int) + 1)) * k := by
            show 12 * (if wy = 1 then nt4 Wt fw le k else bt4 Wt fw le k * k) + (pt3 Wt k j + 12 / ((j : Int) + 1 + 1) * Wt ((k : Int) * 4 + ((j : Int) + 1)) * k) = _
            exact (Int.add_assoc _ _ _).symm
          refine v_iload dX4_reckon_113 rfl ?_
          refine v_iconst dX4_reckon_115 ?_
          refine v_icmp_ge (tgt := 218) dX4_reckon_116 (by decide) ⟨by omega, by omega⟩ ⟨by omega, by omega⟩ (fun h116 => ?_) (fun h116 => ?_)
          · skip
            exfalso; omega
          · skip
            refine v_iload dX4_reckon_119 rfl ?_
            refine v_iconst dX4_reckon_121 ?_
            refine v_imul dX4_reckon_122 ?_
            refine v_iload dX4_reckon_123 rfl ?_
            refine v_iadd dX4_reckon_125 ?_
            refine v_istore dX4_reckon_126 (Nat.le_of_ble_eq_true rfl) ?_
            refine v_bipush dX4_reckon_128 (by decide +kernel) ?_
            refine v_iload dX4_reckon_130 rfl ?_
            refine v_iconst dX4_reckon_132 ?_
            refine v_iadd dX4_reckon_133 ?_
            refine v_idiv dX4_reckon_134 ⟨by omega, by omega⟩ (by omega) ⟨by omega, by omega⟩ (by omega) ?_
            refine v_i2l dX4_reckon_135 ⟨by omega, by omega⟩ ?_
            refine v_lstore dX4_reckon_136 (Nat.le_of_ble_eq_true rfl) ?_
            refine v_lload dX4_reckon_138 rfl ?_
            refine v_lload dX4_reckon_140 rfl ?_
            refine v_aload_n dX4_reckon_142 rfl ?_
            refine v_getf 0 1 fl_X4_15 hn rfl rfl dX4_reckon_143 ?_
            refine v_iload dX4_reckon_146 rfl ?_
            refine v_lald 2 hn rfl (Nat.le_of_ble_eq_true rfl) (by omega) (by omega) dX4_reckon_148 ?_
            refine v_lmul dX4_reckon_149 ?_
            refine v_ladd dX4_reckon_150 ?_
            refine v_lstore dX4_reckon_151 (Nat.le_of_ble_eq_true rfl) ?_
            refine v_lload dX4_reckon_153 rfl ?_
            refine v_lload dX4_reckon_155 rfl ?_
            refine v_aload_n dX4_reckon_157 rfl ?_
            refine v_getf 0 0 fl_X4_9 hn rfl rfl dX4_reckon_158 ?_
            refine v_iload dX4_reckon_161 rfl ?_
            refine v_lald 1 hn rfl (Nat.le_of_ble_eq_true rfl) (by omega) (by omega) dX4_reckon_163 ?_
            refine v_lmul dX4_reckon_164 ?_
            refine v_iload dX4_reckon_165 rfl ?_
            refine v_i2l dX4_reckon_167 ⟨by omega, by omega⟩ ?_
            refine v_lmul dX4_reckon_168 ?_
            refine v_ladd dX4_reckon_169 ?_
            refine v_lstore dX4_reckon_170 (Nat.le_of_ble_eq_true rfl) ?_
            refine v_lload dX4_reckon_172 rfl ?_
            refine v_aload_n dX4_reckon_174 rfl ?_
            refine v_getf 0 0 fl_X4_9 hn rfl rfl dX4_reckon_175 ?_
            refine v_iload dX4_reckon_178 rfl ?_
            refine v_lald 1 hn rfl (Nat.le_of_ble_eq_true rfl) (by omega) (by omega) dX4_reckon_180 ?_
            refine v_ladd dX4_reckon_181 ?_
            refine v_lstore dX4_reckon_182 (Nat.le_of_ble_eq_true rfl) ?_
            refine v_lload dX4_reckon_184 rfl ?_
            refine v_aload_n dX4_reckon_186 rfl ?_
            refine v_getf 0 1 fl_X4_15 hn rfl rfl dX4_reckon_187 ?_
            refine v_iload dX4_reckon_190 rfl ?_
            refine v_lald 2 hn rfl (Nat.le_of_ble_eq_true rfl) (by omega) (by omega) dX4_reckon_192 ?_
            refine v_ladd dX4_reckon_193 ?_
            refine v_lstore dX4_reckon_194 (Nat.le_of_ble_eq_true rfl) ?_
            refine v_lload dX4_reckon_196 rfl ?_
            refine v_aload_n dX4_reckon_198 rfl ?_
            refine v_getf 0 0 fl_X4_9 hn rfl rfl dX4_reckon_199 ?_
            refine v_iload dX4_reckon_202 rfl ?_
            refine v_lald 1 hn rfl (Nat.le_of_ble_eq_true rfl) (by omega) (by omega) dX4_reckon_204 ?_
            refine v_iload dX4_reckon_205 rfl ?_
            refine v_i2l dX4_reckon_207 ⟨by omega, by omega⟩ ?_
            refine v_lmul dX4_reckon_208 ?_
            refine v_ladd dX4_reckon_209 ?_
            refine v_lstore dX4_reckon_210 (Nat.le_of_ble_eq_true rfl) ?_
            refine v_iinc dX4_reckon_212 rfl (Nat.le_of_ble_eq_true rfl) ?_
            refine v_goto (tgt := 113) dX4_reckon_215 (by decide) ?_
            exact v_to (ih2 (j + 1) (by omega)) rfl (sw_h1 rfl (sw_h1 rfl (sw_h1 rfl (sw_h1 rfl (sw_h1 (by rw [f1]; rfl) (sw_h1 (by rw [f2]; rfl) (sw_h1 (by rw [f3]; rfl) (sw_h1 rfl (sw_h1 (by rw [f4]; rfl) (sw_h1 (by rw [f5]; rfl) (sw_h1 rfl sw_h0)))))))))))
      refine v_iload dX4_reckon_56 rfl ?_
      refine v_bipush dX4_reckon_58 (by decide +kernel) ?_
      refine v_icmp_gt (tgt := 253) dX4_reckon_60 (by decide) ⟨by omega, by omega⟩ ⟨by omega, by omega⟩ (fun h60 => ?_) (fun h60 => ?_)
      · skip
        exfalso; omega
      · skip
        refine v_iload dX4_reckon_63 rfl ?_
        refine v_iload_n dX4_reckon_65 rfl ?_
        refine v_icmp_ge (tgt := 80) dX4_reckon_66 (by decide) ⟨by omega, by omega⟩ ⟨by omega, by omega⟩ (fun h66 => ?_) (fun h66 => ?_)
        · skip
          have inner := inner (by omega) 3 0 (by omega)
          refine v_ldc2 (z := 12) kl_X4_64 (by decide +kernel) dX4_reckon_80 ?_
          refine v_lload dX4_reckon_83 rfl ?_
          refine v_lmul dX4_reckon_85 ?_
          refine v_lstore dX4_reckon_86 (Nat.le_of_ble_eq_true rfl) ?_
          refine v_ldc2 (z := 12) kl_X4_64 (by decide +kernel) dX4_reckon_88 ?_
          refine v_iload_n dX4_reckon_91 rfl ?_
          refine v_iconst dX4_reckon_92 ?_
          refine v_icmp_ne (tgt := 101) dX4_reckon_93 (by decide) ⟨by omega, by omega⟩ ⟨by omega, by omega⟩ (fun h93 => ?_) (fun h93 => ?_)
          · skip
            rw [if_neg (by omega)] at inner
            refine v_lload dX4_reckon_101 rfl ?_
            refine v_iload dX4_reckon_103 rfl ?_
            refine v_i2l dX4_reckon_105 ⟨by omega, by omega⟩ ?_
            refine v_lmul dX4_reckon_106 ?_
            refine v_lmul dX4_reckon_107 ?_
            refine v_lstore dX4_reckon_108 (Nat.le_of_ble_eq_true rfl) ?_
            refine v_iconst dX4_reckon_110 ?_
            refine v_istore dX4_reckon_111 (Nat.le_of_ble_eq_true rfl) ?_
            exact v_to inner rfl (sw_h1 rfl (sw_h1 rfl (sw_h1 rfl (sw_h1 rfl (sw_h1 (by rw [show pr3 Wt k 0 = 0 from rfl, Int.add_zero]; rfl) (sw_h1 (by rw [show pr3 Wo k 0 = 0 from rfl, Int.add_zero]; rfl) (sw_h1 (by rw [show pq3 Wt k 0 = 0 from rfl, Int.add_zero]; rfl) (sw_h1 rfl (sw_h1 (by rw [show ps3 Wo k 0 = 0 from rfl, Int.add_zero]; rfl) (sw_h1 (by rw [show pt3 Wt k 0 = 0 from rfl, Int.add_zero]; rfl) (sw_h1 rfl sw_h0)))))))))))
          · skip
            rw [if_pos (by omega)] at inner
            refine v_lload dX4_reckon_96 rfl ?_
            refine v_goto (tgt := 107) dX4_reckon_98 (by decide) ?_
            refine v_lmul dX4_reckon_107 ?_
            refine v_lstore dX4_reckon_108 (Nat.le_of_ble_eq_true rfl) ?_
            refine v_iconst dX4_reckon_110 ?_
            refine v_istore dX4_reckon_111 (Nat.le_of_ble_eq_true rfl) ?_
            exact v_to inner rfl (sw_h1 rfl (sw_h1 rfl (sw_h1 rfl (sw_h1 rfl (sw_h1 (by rw [show pr3 Wt k 0 = 0 from rfl, Int.add_zero]; rfl) (sw_h1 (by rw [show pr3 Wo k 0 = 0 from rfl, Int.add_zero]; rfl) (sw_h1 (by rw [show pq3 Wt k 0 = 0 from rfl, Int.add_zero]; rfl) (sw_h1 rfl (sw_h1 (by rw [show ps3 Wo k 0 = 0 from rfl, Int.add_zero]; rfl) (sw_h1 (by rw [show pt3 Wt k 0 = 0 from rfl, Int.add_zero]; rfl) (sw_h1 rfl sw_h0)))))))))))
        · skip
          rw [if_pos (by omega)] at hgn e1 e2 e3
          refine v_aload_n dX4_reckon_69 rfl ?_
          refine v_getf 0 4 fl_X4_25 hn rfl rfl dX4_reckon_70 ?_
          refine v_iload dX4_reckon_73 rfl ?_
          refine v_lconst (z := 0) dX4_reckon_75 (by decide +kernel) ?_
          refine v_last 3 hn rfl (Nat.le_of_ble_eq_true rfl) (by omega) (by omega) dX4_reckon_76 ?_
          refine v_goto (tgt := 247) dX4_reckon_77 (by decide) ?_
          refine v_iinc dX4_reckon_247 rfl (Nat.le_of_ble_eq_true rfl) ?_
          refine v_goto (tgt := 56) dX4_reckon_250 (by decide) ?_
          exact v_to (ih (k + 1) _ (by omega) (hup _ hgn.symm)) rfl (sw_h1 rfl (sw_h1 rfl (sw_h1 rfl (sw_h1 rfl (sw_h1 (by rw [e1]; rfl) (sw_h1 (by rw [e2]; rfl) (sw_h1 (by rw [e3]; rfl) (sw_h1 rfl sw_h0))))))))
  have first : ∀ (n : Nat) (k : Int), 0 ≤ k → k + n = 244 → V l G μX4_reckon sw_E0 (sw_Zq G μX4_reckon (sw_q0 G (fun r M' => ∃ g', r = none ∧ (∀ k : Nat, k ≤ 60 → g' k = gn4 Wt Wo fw fo le wy k) ∧ M' = sw_ov M (cVs G fw fo Wt Wo g')))) 8 [(0, .ref (sw_al G 14)), (1, sw_i le), (2, sw_i wy), (3, sw_j (fw + sm Wt k.toNat)), (5, sw_i k)] [] (sw_ov M (cVs G fw fo Wt Wo g)) 0 0 := by
    intro n
    induction n with
    | zero =>
      intro k h0 hk
      have e : k = 244 := by omega
      subst e
      refine v_iload dX4_reckon_8 rfl ?_
      refine v_sipush dX4_reckon_10 (by decide +kernel) ?_
      refine v_icmp_ge (tgt := 32) dX4_reckon_13 (by decide) ⟨by omega, by omega⟩ ⟨by omega, by omega⟩ (fun h13 => ?_) (fun h13 => ?_)
      · skip
        refine v_aload_n dX4_reckon_32 rfl ?_
        refine v_getf 0 2 fl_X4_18 hn rfl rfl dX4_reckon_33 ?_
        refine v_lstore dX4_reckon_36 (Nat.le_of_ble_eq_true rfl) ?_
        refine v_aload_n dX4_reckon_38 rfl ?_
        refine v_getf 0 3 fl_X4_22 hn rfl rfl dX4_reckon_39 ?_
        refine v_lstore dX4_reckon_42 (Nat.le_of_ble_eq_true rfl) ?_
        refine v_aload_n dX4_reckon_44 rfl ?_
        refine v_getf 0 2 fl_X4_18 hn rfl rfl dX4_reckon_45 ?_
        refine v_iload_n dX4_reckon_48 rfl ?_
        refine v_i2l dX4_reckon_49 ⟨by omega, by omega⟩ ?_
        refine v_lmul dX4_reckon_50 ?_
        refine v_lstore dX4_reckon_51 (Nat.le_of_ble_eq_true rfl) ?_
        refine v_iconst dX4_reckon_53 ?_
        refine v_istore dX4_reckon_54 (Nat.le_of_ble_eq_true rfl) ?_
        exact v_to (main 61 0 g (by omega) (fun j hj => by omega)) rfl (sw_h1 rfl (sw_h1 rfl (sw_h1 rfl (sw_h1 rfl (sw_h1 rfl (sw_h1 rfl (sw_h1 rfl (sw_h1 rfl sw_h0))))))))
      · skip
        exfalso; omega
    | succ n ih =>
      intro k h0 hk
      have e1 := sm_step Wt h0
      refine v_iload dX4_reckon_8 rfl ?_
      refine v_sipush dX4_reckon_10 (by decide +kernel) ?_
      refine v_icmp_ge (tgt := 32) dX4_reckon_13 (by decide) ⟨by omega, by omega⟩ ⟨by omega, by omega⟩ (fun h13 => ?_) (fun h13 => ?_)
      · skip
        exfalso; omega
      · skip
        refine v_lload_n dX4_reckon_16 rfl ?_
        refine v_aload_n dX4_reckon_17 rfl ?_
        refine v_getf 0 0 fl_X4_9 hn rfl rfl dX4_reckon_18 ?_
        refine v_iload dX4_reckon_21 rfl ?_
        refine v_lald 1 hn rfl (Nat.le_of_ble_eq_true rfl) (by omega) (by omega) dX4_reckon_23 ?_
        refine v_ladd dX4_reckon_24 ?_
        refine v_lstore_n dX4_reckon_25 (Nat.le_of_ble_eq_true rfl) ?_
        refine v_iinc dX4_reckon_26 rfl (Nat.le_of_ble_eq_true rfl) ?_
        refine v_goto (tgt := 8) dX4_reckon_29 (by decide) ?_
        exact v_to (ih (k + 1) (by omega) (by omega)) rfl (sw_h1 rfl (sw_h1 rfl (sw_h1 rfl (sw_h1 (by rw [e1, ← Int.add_assoc]; rfl) (sw_h1 rfl sw_h0)))))
  refine v_aload_n dX4_reckon_0 rfl ?_
  refine v_getf 0 2 fl_X4_18 hn rfl rfl dX4_reckon_1 ?_
  refine v_lstore_n dX4_reckon_4 (Nat.le_of_ble_eq_true rfl) ?_
  refine v_iconst dX4_reckon_5 ?_
  refine v_istore dX4_reckon_6 (Nat.le_of_ble_eq_true rfl) ?_
  exact v_to (first 244 0 (by omega) (by omega)) rfl (sw_h1 rfl (sw_h1 rfl (sw_h1 rfl (sw_h1 (by show _ = some (sw_j (fw + 0)); rw [Int.add_zero]; rfl) (sw_h1 rfl sw_h0)))))
end

