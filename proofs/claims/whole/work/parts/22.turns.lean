/-! Math.max, min; the turns of FIND; bids in the OPEN -/
section
variable {l : Launch} {G : sw_G} {μ : sw_Mt} {E : State → (Nat → Prop) → Prop} {Z : sw_Z} {pc ix : Nat} {lv : List (Nat × Value)} {st : List Value} {M : sw_M} {uc us : Nat}
theorem v_max {a b : Int} (ha : sw_rg a) (hb : sw_rg b) (hl : Cond.methodLink (mY μ).cls ix Lib.Math.max.name ∈ sw_U) (hF : 1 ≤ mF μ ∧ (st.map fun v => v.category).sum + 13 ≤ 64 * mF μ) (hu : uc ≤ mK μ) (hv : us ≤ mS μ) (hd : decode (mC μ) pc = .ok (.invokestatic ix, 3)) (k : V l G μ E Z (pc + 3) lv (sw_i (if a < b then b else a) :: st) M uc us) : V l G μ E Z pc lv (sw_i b :: sw_i a :: st) M uc us := by
  intro p e R s m args below meth c A H locs ws ls C hP hD hS hR hl'
  refine va_mmax C.1 C.2.1 (C.2.2.1.trans hl'.1.symm) C.2.2.2.1 (C.2.2.2.2.1 _ (List.mem_cons_of_mem _ hl)) (C.2.2.2.2.1 _ (List.mem_cons_of_mem _ uq_max_s)) (C.2.2.2.2.1 _ (List.mem_cons_of_mem _ uq_ini)) (C.2.2.2.2.1 _ (List.mem_cons_of_mem _ uq_max_c)) (Nat.le_trans hF.1 C.2.2.2.2.2.2.2.1) (Nat.le_trans hF.2 C.2.2.2.2.2.2.2.2.1) (Nat.le_trans hu C.2.2.2.2.2.2.2.2.2.1) (Nat.le_trans hv C.2.2.2.2.2.2.2.2.2.2.1) hd ?_
  have e1 : (if iN a < iN b then iN b else iN a) = iN (if a < b then b else a) := by
    by_cases c : a < b
    · rw [if_pos c, if_pos ((iN_lt ha hb).mpr c)]
    · rw [if_neg c, if_neg (fun h => c ((iN_lt ha hb).mp h))]
  rw [e1]
  exact k p e R s m args below meth c A H locs ws ls C hP hD hS hR hl'
theorem v_min {a b : Int} (ha : sw_rg a) (hb : sw_rg b) (hl : Cond.methodLink (mY μ).cls ix Lib.Math.min.name ∈ sw_U) (hF : 1 ≤ mF μ ∧ (st.map fun v => v.category).sum + 13 ≤ 64 * mF μ) (hu : uc ≤ mK μ) (hv : us ≤ mS μ) (hd : decode (mC μ) pc = .ok (.invokestatic ix, 3)) (k : V l G μ E Z (pc + 3) lv (sw_i (if b < a then b else a) :: st) M uc us) : V l G μ E Z pc lv (sw_i b :: sw_i a :: st) M uc us := by
  intro p e R s m args below meth c A H locs ws ls C hP hD hS hR hl'
  refine va_mmin C.1 C.2.1 (C.2.2.1.trans hl'.1.symm) C.2.2.2.1 (C.2.2.2.2.1 _ (List.mem_cons_of_mem _ hl)) (C.2.2.2.2.1 _ (List.mem_cons_of_mem _ uq_min_s)) (C.2.2.2.2.1 _ (List.mem_cons_of_mem _ uq_ini)) (C.2.2.2.2.1 _ (List.mem_cons_of_mem _ uq_min_c)) (Nat.le_trans hF.1 C.2.2.2.2.2.2.2.1) (Nat.le_trans hF.2 C.2.2.2.2.2.2.2.2.1) (Nat.le_trans hu C.2.2.2.2.2.2.2.2.2.1) (Nat.le_trans hv C.2.2.2.2.2.2.2.2.2.2.1) hd ?_
  have e1 : (if iN b < iN a then iN b else iN a) = iN (if b < a then b else a) := by
    by_cases c : b < a
    · rw [if_pos c, if_pos ((iN_lt hb ha).mpr c)]
    · rw [if_neg c, if_neg (fun h => c ((iN_lt hb ha).mp h))]
  rw [e1]
  exact k p e R s m args below meth c A H locs ws ls C hP hD hS hR hl'
end
abbrev cN (G : sw_G) (sg kp en : Int) : sw_Ce := (21, sw_o 8 [.ref (sw_al G 22), .ref (sw_al G 23), .ref (sw_al G 24), sw_i sg, sw_i kp, sw_i en])
abbrev cNs (G : sw_G) (sg kp en : Int) (Rw Nw Nx : Int → Int) : List sw_Ce := [cN G sg kp en, (22, sw_ia 105 Rw), (23, sw_ia 5 Nw), (24, sw_ia 5 Nx)]
theorem cNs_nd : sw_nd [21, 22, 23, 24] := sw_nd_of (by simp)
abbrev eqP (f g : Int → Int) (n : Nat) : Prop := ∀ k : Nat, k < n → f k = g k
/-- how a look through the kept rows ends -/
def enN (Rw Nx : Int → Int) (sg kp : Nat) : Nat → Int
  | 0 => 2
  | n + 1 => if enN Rw Nx sg kp n = 2 then (if eqP (fun k => Rw ((n : Int) * 5 + k)) Nx sg then (if (n : Int) = (kp : Int) - 1 then 0 else 1) else 2) else enN Rw Nx sg kp n
theorem enN_bd (Rw Nx : Int → Int) (sg kp : Nat) : ∀ n, 0 ≤ enN Rw Nx sg kp n ∧ enN Rw Nx sg kp n ≤ 2
  | 0 => by show 0 ≤ (2 : Int) ∧ (2 : Int) ≤ 2; omega
  | n + 1 => by
    have ih := enN_bd Rw Nx sg kp n
    unfold enN
    split
    · split
      · split <;> omega
      · omega
    · exact ih
theorem enN_stay {Rw Nx : Int → Int} {sg kp : Nat} : ∀ {n m : Nat}, n ≤ m → enN Rw Nx sg kp n ≠ 2 → enN Rw Nx sg kp m = enN Rw Nx sg kp n := by
  intro n m h
  induction h with
  | refl => intro _; rfl
  | step _ ih =>
    intro hne
    have e := ih hne
    show (if _ = 2 then _ else _) = _
    rw [e, if_neg hne]
section
variable {l : Launch} {G : sw_G} {M : sw_M}
theorem K8_keep {sg kp : Nat} {en : Int} {Rw Nw Nx : Int → Int} (hM : sw_hold M (cNs G sg kp en Rw Nw Nx)) (hsg : sg ≤ 5) (hkp : kp ≤ 20) : Kt l G μX8_keep [.ref (sw_al G 21)] M (fun r M' => ∃ Rw' Nw', r = none ∧ (∀ i : Int, i < (kp : Int) * 5 → Rw' i = Rw i) ∧ (∀ k : Nat, k < sg → Rw' ((kp : Int) * 5 + k) = Nx k) ∧ (∀ k : Nat, k < sg → Nw' k = Nx k) ∧ M' = sw_ov M (cNs G sg ((kp : Int) + 1) en Rw' Nw' Nx)) := by
  refine KtA.of (by decide +kernel) (Nat.le_of_ble_eq_true rfl) ?_
  refine v_mem (sw_ov_self hM).symm ?_
  have hn := cNs_nd
  have loop : ∀ (n k : Nat) (Rw' Nw' : Int → Int), k + n = sg → (∀ i : Int, i < (kp : Int) * 5 → Rw' i = Rw i) → (∀ j : Nat, j < k → Rw' ((kp : Int) * 5 + j) = Nx j) → (∀ j : Nat, j < k → Nw' j = Nx j) → V l G μX8_keep sw_E0 (sw_Zq G μX8_keep (sw_q0 G (fun r M' => ∃ Rw' Nw', r = none ∧ (∀ i : Int, i < (kp : Int) * 5 → Rw' i = Rw i) ∧ (∀ k : Nat, k < sg → Rw' ((kp : Int) * 5 + k) = Nx k) ∧ (∀ k : Nat, k < sg → Nw' k = Nx k) ∧ M' = sw_ov M (cNs G sg ((kp : Int) + 1) en Rw' Nw' Nx)))) 2 [(0, .ref (sw_al G 21)), (1, sw_i (k : Int))] [] (sw_ov M (cNs G sg kp en Rw' Nw' Nx)) 0 0 := by
    intro n
    induction n with
    | zero =>
      intro k Rw' Nw' hk e1 e2 e3
      have e : k = sg := by omega
      subst e
      refine v_iload_n dX8_keep_2 rfl ?_
      refine v_aload_n dX8_keep_3 rfl ?_
      refine v_getf 0 3 fl_X8_21 hn rfl rfl dX8_keep_4 ?_
      refine v_icmp_ge (tgt := 56) dX8_keep_7 (by decide) ⟨by omega, by omega⟩ ⟨by omega, by omega⟩ (fun h7 => ?_) (fun h7 => ?_)
      · skip
        refine v_aload_n dX8_keep_56 rfl ?_
        refine v_dup dX8_keep_57 rfl ?_
        refine v_getf 0 4 fl_X8_25 hn rfl rfl dX8_keep_58 ?_
        refine v_iconst dX8_keep_61 ?_
        refine v_iadd dX8_keep_62 ?_
        refine v_putf 0 4 fp_X8_25 hn rfl rfl rfl (Nat.le_of_ble_eq_true rfl) dX8_keep_63 ?_
        exact v_vret dX8_keep_66 rfl (Nat.le_refl _) (Nat.le_refl _) (⟨Rw', Nw', rfl, e1, e2, e3, rfl⟩)
      · skip
        exfalso; omega
    | succ n ih =>
      intro k Rw' Nw' hk e1 e2 e3
      refine v_iload_n dX8_keep_2 rfl ?_
      refine v_aload_n dX8_keep_3 rfl ?_
      refine v_getf 0 3 fl_X8_21 hn rfl rfl dX8_keep_4 ?_
      refine v_icmp_ge (tgt := 56) dX8_keep_7 (by decide) ⟨by omega, by omega⟩ ⟨by omega, by omega⟩ (fun h7 => ?_) (fun h7 => ?_)
      · skip
        exfalso; omega
      · skip
        refine v_aload_n dX8_keep_10 rfl ?_
        refine v_getf 0 4 fl_X8_25 hn rfl rfl dX8_keep_11 ?_
        refine v_bipush dX8_keep_14 (by decide +kernel) ?_
        refine v_icmp_gt (tgt := 56) dX8_keep_16 (by decide) ⟨by omega, by omega⟩ ⟨by omega, by omega⟩ (fun h16 => ?_) (fun h16 => ?_)
        · skip
          exfalso; omega
        · skip
          refine v_aload_n dX8_keep_19 rfl ?_
          refine v_getf 0 0 fl_X8_9 hn rfl rfl dX8_keep_20 ?_
          refine v_aload_n dX8_keep_23 rfl ?_
          refine v_getf 0 4 fl_X8_25 hn rfl rfl dX8_keep_24 ?_
          refine v_iconst dX8_keep_27 ?_
          refine v_imul dX8_keep_28 ?_
          refine v_iload_n dX8_keep_29 rfl ?_
          refine v_iadd dX8_keep_30 ?_
          refine v_aload_n dX8_keep_31 rfl ?_
          refine v_getf 0 2 fl_X8_18 hn rfl rfl dX8_keep_32 ?_
          refine v_iload_n dX8_keep_35 rfl ?_
          refine v_iald 3 hn rfl (Nat.le_of_ble_eq_true rfl) (by omega) (by omega) dX8_keep_36 ?_
          refine v_iast 1 hn rfl (Nat.le_of_ble_eq_true rfl) (by omega) (by omega) dX8_keep_37 ?_
          refine v_aload_n dX8_keep_38 rfl ?_
          refine v_getf 0 1 fl_X8_15 hn rfl rfl dX8_keep_39 ?_
          refine v_iload_n dX8_keep_42 rfl ?_
          refine v_aload_n dX8_keep_43 rfl ?_
          refine v_getf 0 2 fl_X8_18 hn rfl rfl dX8_keep_44 ?_
          refine v_iload_n dX8_keep_47 rfl ?_
          refine v_iald 3 hn rfl (Nat.le_of_ble_eq_true rfl) (by omega) (by omega) dX8_keep_48 ?_
          refine v_iast 2 hn rfl (Nat.le_of_ble_eq_true rfl) (by omega) (by omega) dX8_keep_49 ?_
          refine v_iinc dX8_keep_50 rfl (Nat.le_of_ble_eq_true rfl) ?_
          refine v_goto (tgt := 2) dX8_keep_53 (by decide) ?_
          refine v_to (ih (k + 1) (up Rw' ((kp : Int) * 5 + k) (Nx k)) (up Nw' k (Nx k)) (by omega) ?_ ?_ ?_) rfl (sw_h1 rfl (sw_h1 rfl sw_h0))
          · intro i hi
            show (if i = _ then _ else Rw' i) = _
            rw [if_neg (by omega)]; exact e1 i hi
          · intro j hj
            show (if ((kp : Int) * 5 + j : Int) = (kp : Int) * 5 + k then _ else Rw' _) = _
            by_cases e : j = k
            · subst e; rw [if_pos rfl]
            · rw [if_neg (by omega)]; exact e2 j (by omega)
          · intro j hj
            show (if (j : Int) = k then _ else Nw' j) = _
            by_cases e : j = k
            · subst e; rw [if_pos rfl]
            · rw [if_neg (by omega)]; exact e3 j (by omega)
  refine v_iconst dX8_keep_0 ?_
  refine v_istore_n dX8_keep_1 (Nat.le_of_ble_eq_true rfl) ?_
  exact v_to (loop sg 0 Rw Nw (by omega) (fun _ _ => rfl) (fun j hj => by omega) (fun j hj => by omega)) rfl (sw_h1 rfl (sw_h1 rfl sw_h0))
theorem K8_begin {sg : Nat} {sg0 kp0 en0 : Int} {Rw Nw Nx : Int → Int} (hM : sw_hold M (cNs G sg0 kp0 en0 Rw Nw Nx)) (hsg : sg ≤ 5) : Kt l G μX8_begin [.ref (sw_al G 21), sw_i (sg : Int)] M (fun r M' => ∃ Rw' Nw', r = none ∧ (∀ k : Nat, k < sg → Rw' k = Nx k) ∧ (∀ k : Nat, k < sg → Nw' k = Nx k) ∧ M' = sw_ov M (cNs G sg 1 2 Rw' Nw' Nx)) := by
  refine KtA.of (by decide +kernel) (Nat.le_of_ble_eq_true rfl) ?_
  refine v_mem (sw_ov_self hM).symm ?_
  have hn := cNs_nd
  refine v_aload_n dX8_begin_0 rfl ?_
  refine v_iload_n dX8_begin_1 rfl ?_
  refine v_putf 0 3 fp_X8_21 hn rfl rfl rfl (Nat.le_of_ble_eq_true rfl) dX8_begin_2 ?_
  refine v_aload_n dX8_begin_5 rfl ?_
  refine v_iconst dX8_begin_6 ?_
  refine v_putf 0 4 fp_X8_25 hn rfl rfl rfl (Nat.le_of_ble_eq_true rfl) dX8_begin_7 ?_
  refine v_aload_n dX8_begin_10 rfl ?_
  refine v_iconst dX8_begin_11 ?_
  refine v_putf 0 5 fp_X8_28 hn rfl rfl rfl (Nat.le_of_ble_eq_true rfl) dX8_begin_12 ?_
  refine v_aload_n dX8_begin_15 rfl ?_
  refine v_callV (ci := 8) (K8_keep (sg := sg) (kp := 0) (en := 2) (sw_hold_all (cs := cNs G sg 0 2 Rw Nw Nx) hn) hsg (by omega)) ⟨rfl, rfl⟩ (Nat.le_refl _) (Nat.le_refl _) (sw_hold_all (cs := cNs G sg 0 2 Rw Nw Nx) hn).hd rfl ⟨ml_X8_31, mm_X8_keep⟩ ⟨(Nat.le_of_ble_eq_true rfl), (Nat.le_of_ble_eq_true rfl)⟩ mp_X8_keep rfl rfl (Nat.le_of_ble_eq_true rfl) dX8_begin_16 (fun r M' h => ?_)
  obtain ⟨Rw', Nw', rfl, e1, e2, e3, rfl⟩ := h
  refine v_ovp [0, 1, 2, 3] rfl rfl hn ?_
  exact v_vret dX8_begin_19 rfl (Nat.le_refl _) (Nat.le_refl _) (⟨Rw', Nw', rfl, fun k hk => by have := e2 k hk; rw [show ((0 : Nat) : Int) * 5 + (k : Int) = k by omega] at this; exact this, e3, rfl⟩)
theorem K8_goesOn {sg kp en : Int} (h1 : M 21 = some (cN G sg kp en).2) (he : 0 ≤ en ∧ en ≤ 2) : Kt l G μX8_goesOn [.ref (sw_al G 21)] M (fun r M' => r = some (sw_i (bI (en = 2))) ∧ M' = M) := by
  refine KtA.of (by decide +kernel) (Nat.le_of_ble_eq_true rfl) ?_
  have hback : sw_ov M [cN G sg kp en] = M := sw_ov_self (sw_hold1 h1 sw_hold0)
  refine v_mem hback.symm ?_
  have hn : sw_nd [21] := sw_nd_of (by simp)
  refine v_aload_n dX8_goesOn_0 rfl ?_
  refine v_getf 0 5 fl_X8_28 hn rfl rfl dX8_goesOn_1 ?_
  refine v_iconst dX8_goesOn_4 ?_
  refine v_icmp_ne (tgt := 12) dX8_goesOn_5 (by decide) ⟨by omega, by omega⟩ ⟨by omega, by omega⟩ (fun h5 => ?_) (fun h5 => ?_)
  · skip
    refine v_iconst dX8_goesOn_12 ?_
    exact v_zret rfl dX8_goesOn_13 rfl (Nat.le_refl _) (Nat.le_refl _) (⟨by rw [bI_f h5], hback⟩)
  · skip
    refine v_iconst dX8_goesOn_8 ?_
    refine v_goto (tgt := 13) dX8_goesOn_9 (by decide) ?_
    exact v_zret rfl dX8_goesOn_13 rfl (Nat.le_refl _) (Nat.le_refl _) (⟨by rw [bI_t h5], hback⟩)
theorem K8_isRow {sg n : Nat} {kp en : Int} {Rw Nw Nx : Int → Int} (hM : sw_hold M (cNs G sg kp en Rw Nw Nx)) (hsg : sg ≤ 5) (hn' : n ≤ 20) (hr1 : ∀ k : Nat, k < sg → sw_rg (Rw ((n : Int) * 5 + k))) (hr2 : ∀ k : Nat, k < sg → sw_rg (Nx k)) : Kt l G μX8_isRow [.ref (sw_al G 21), sw_i (n : Int)] M (fun r M' => r = some (sw_i (bI (eqP (fun k => Rw ((n : Int) * 5 + k)) Nx sg))) ∧ M' = M) := by
  refine KtA.of (by decide +kernel) (Nat.le_of_ble_eq_true rfl) ?_
  have hback : sw_ov M [cN G sg kp en, (22, sw_ia 105 Rw), (24, sw_ia 5 Nx)] = M := sw_ov_self (sw_hold1 hM.hd (sw_hold1 hM.tl.hd (sw_hold1 hM.tl.tl.tl.hd sw_hold0)))
  refine v_mem hback.symm ?_
  have hn : sw_nd [21, 22, 24] := sw_nd_of (by simp)
  have loop : ∀ (j k : Nat), k + j = sg → (∀ i : Nat, i < k → Rw ((n : Int) * 5 + i) = Nx i) → V l G μX8_isRow sw_E0 (sw_Zq G μX8_isRow (sw_q0 G (fun r M' => r = some (sw_i (bI (eqP (fun k => Rw ((n : Int) * 5 + k)) Nx sg))) ∧ M' = M))) 2 [(0, .ref (sw_al G 21)), (1, sw_i (n : Int)), (2, sw_i (k : Int))] [] (sw_ov M [cN G sg kp en, (22, sw_ia 105 Rw), (24, sw_ia 5 Nx)]) 0 0 := by
    intro j
    induction j with
    | zero =>
      intro k hk hq
      have e : k = sg := by omega
      subst e
      refine v_iload_n dX8_isRow_2 rfl ?_
      refine v_aload_n dX8_isRow_3 rfl ?_
      refine v_getf 0 3 fl_X8_21 hn rfl rfl dX8_isRow_4 ?_
      refine v_icmp_ge (tgt := 37) dX8_isRow_7 (by decide) ⟨by omega, by omega⟩ ⟨by omega, by omega⟩ (fun h7 => ?_) (fun h7 => ?_)
      · skip
        refine v_iconst dX8_isRow_37 ?_
        exact v_zret rfl dX8_isRow_38 rfl (Nat.le_refl _) (Nat.le_refl _) (⟨by rw [bI_t (fun i hi => hq i hi)], hback⟩)
      · skip
        exfalso; omega
    | succ j ih =>
      intro k hk hq
      refine v_iload_n dX8_isRow_2 rfl ?_
      refine v_aload_n dX8_isRow_3 rfl ?_
      refine v_getf 0 3 fl_X8_21 hn rfl rfl dX8_isRow_4 ?_
      refine v_icmp_ge (tgt := 37) dX8_isRow_7 (by decide) ⟨by omega, by omega⟩ ⟨by omega, by omega⟩ (fun h7 => ?_) (fun h7 => ?_)
      · skip
        exfalso; omega
      · skip
        refine v_aload_n dX8_isRow_10 rfl ?_
        refine v_getf 0 0 fl_X8_9 hn rfl rfl dX8_isRow_11 ?_
        refine v_iload_n dX8_isRow_14 rfl ?_
        refine v_iconst dX8_isRow_15 ?_
        refine v_imul dX8_isRow_16 ?_
        refine v_iload_n dX8_isRow_17 rfl ?_
        refine v_iadd dX8_isRow_18 ?_
        refine v_iald 1 hn rfl (Nat.le_of_ble_eq_true rfl) (by omega) (by omega) dX8_isRow_19 ?_
        refine v_aload_n dX8_isRow_20 rfl ?_
        refine v_getf 0 2 fl_X8_18 hn rfl rfl dX8_isRow_21 ?_
        refine v_iload_n dX8_isRow_24 rfl ?_
        refine v_iald 2 hn rfl (Nat.le_of_ble_eq_true rfl) (by omega) (by omega) dX8_isRow_25 ?_
        refine v_icmp_eq (tgt := 31) dX8_isRow_26 (by decide) (hr1 k (by omega)) (hr2 k (by omega)) (fun h26 => ?_) (fun h26 => ?_)
        · skip
          refine v_iinc dX8_isRow_31 rfl (Nat.le_of_ble_eq_true rfl) ?_
          refine v_goto (tgt := 2) dX8_isRow_34 (by decide) ?_
          refine v_to (ih (k + 1) (by omega) (fun i hi => ?_)) rfl (sw_h1 rfl (sw_h1 rfl (sw_h1 rfl sw_h0)))
          by_cases e : i = k
          · subst e; exact h26
          · exact hq i (by omega)
        · skip
          refine v_iconst dX8_isRow_29 ?_
          exact v_zret rfl dX8_isRow_30 rfl (Nat.le_refl _) (Nat.le_refl _) (⟨by rw [bI_f (fun h => h26 (h k (by omega)))], hback⟩)
  refine v_iconst dX8_isRow_0 ?_
  refine v_istore_n dX8_isRow_1 (Nat.le_of_ble_eq_true rfl) ?_
  exact v_to (loop sg 0 (by omega) (fun i hi => by omega)) rfl (sw_h1 rfl (sw_h1 rfl (sw_h1 rfl sw_h0)))
theorem K8_close {sg kp : Nat} {Rw Nw Nx : Int → Int} (hM : sw_hold M (cNs G sg kp 2 Rw Nw Nx)) (hsg : sg ≤ 5) (hkp : kp ≤ 20) (hr1 : ∀ n k : Nat, n < kp → k < sg → sw_rg (Rw ((n : Int) * 5 + k))) (hr2 : ∀ k : Nat, k < sg → sw_rg (Nx k)) : Kt l G μX8_close [.ref (sw_al G 21)] M (fun r M' => ∃ Rw' Nw', r = none ∧ (∀ i : Int, i < (kp : Int) * 5 → Rw' i = Rw i) ∧ (∀ k : Nat, k < sg → Rw' ((kp : Int) * 5 + k) = Nx k) ∧ (∀ k : Nat, k < sg → Nw' k = Nx k) ∧ M' = sw_ov M (cNs G sg ((kp : Int) + 1) (enN Rw Nx sg kp kp) Rw' Nw' Nx)) := by
  refine KtA.of (by decide +kernel) (Nat.le_of_ble_eq_true rfl) ?_
  refine v_mem (sw_ov_self hM).symm ?_
  have hn := cNs_nd
  have fin : ∀ (n : Nat) (lv : List (Nat × Value)), sw_lk lv 0 = some (.ref (sw_al G 21)) → n ≤ kp → (n = kp ∨ enN Rw Nx sg kp n ≠ 2) → V l G μX8_close sw_E0 (sw_Zq G μX8_close (sw_q0 G (fun r M' => ∃ Rw' Nw', r = none ∧ (∀ i : Int, i < (kp : Int) * 5 → Rw' i = Rw i) ∧ (∀ k : Nat, k < sg → Rw' ((kp : Int) * 5 + k) = Nx k) ∧ (∀ k : Nat, k < sg → Nw' k = Nx k) ∧ M' = sw_ov M (cNs G sg ((kp : Int) + 1) (enN Rw Nx sg kp kp) Rw' Nw' Nx)))) 51 lv [] (sw_ov M (cNs G sg kp (enN Rw Nx sg kp n) Rw Nw Nx)) 0 0 := by
    intro n lv hlv hn1 hn2
    have e : enN Rw Nx sg kp kp = enN Rw Nx sg kp n := by
      rcases hn2 with h | h
      · rw [h]
      · exact enN_stay hn1 h
    refine v_aload_n dX8_close_51 hlv ?_
    refine v_callV (ci := 8) (K8_keep (sg := sg) (kp := kp) (sw_hold_all (cs := cNs G sg kp (enN Rw Nx sg kp n) Rw Nw Nx) hn) hsg hkp) ⟨rfl, rfl⟩ (Nat.le_refl _) (Nat.le_refl _) (sw_hold_all (cs := cNs G sg kp (enN Rw Nx sg kp n) Rw Nw Nx) hn).hd rfl ⟨ml_X8_31, mm_X8_keep⟩ ⟨(Nat.le_of_ble_eq_true rfl), (Nat.le_of_ble_eq_true rfl)⟩ mp_X8_keep rfl rfl (Nat.le_of_ble_eq_true rfl) dX8_close_52 (fun r M' h => ?_)
    obtain ⟨Rw', Nw', rfl, e1, e2, e3, rfl⟩ := h
    refine v_ovp [0, 1, 2, 3] rfl rfl hn ?_
    exact v_vret dX8_close_55 rfl (Nat.le_refl _) (Nat.le_refl _) ⟨Rw', Nw', rfl, e1, e2, e3, by rw [e]; rfl⟩
  have loop : ∀ (j n : Nat), n + j = kp → V l G μX8_close sw_E0 (sw_Zq G μX8_close (sw_q0 G (fun r M' => ∃ Rw' Nw', r = none ∧ (∀ i : Int, i < (kp : Int) * 5 → Rw' i = Rw i) ∧ (∀ k : Nat, k < sg → Rw' ((kp : Int) * 5 + k) = Nx k) ∧ (∀ k : Nat, k < sg → Nw' k = Nx k) ∧ M' = sw_ov M (cNs G sg ((kp : Int) + 1) (enN Rw Nx sg kp kp) Rw' Nw' Nx)))) 2 [(0, .ref (sw_al G 21)), (1, sw_i (n : Int))] [] (sw_ov M (cNs G sg kp (enN Rw Nx sg kp n) Rw Nw Nx)) 0 0 := by
    intro j
    induction j with
    | zero =>
      intro n hk
      have e : n = kp := by omega
      subst e
      refine v_iload_n dX8_close_2 rfl ?_
      refine v_aload_n dX8_close_3 rfl ?_
      refine v_getf 0 4 fl_X8_25 hn rfl rfl dX8_close_4 ?_
      refine v_icmp_ge (tgt := 51) dX8_close_7 (by decide) ⟨by omega, by omega⟩ ⟨by omega, by omega⟩ (fun h7 => ?_) (fun h7 => ?_)
      · skip
        exact fin n _ rfl (Nat.le_refl _) (Or.inl rfl)
      · skip
        exfalso; omega
    | succ j ih =>
      intro n hk
      have eb := enN_bd Rw Nx sg kp n
      have e1 : enN Rw Nx sg kp (n + 1) = if enN Rw Nx sg kp n = 2 then (if eqP (fun k => Rw ((n : Int) * 5 + k)) Nx sg then (if (n : Int) = (kp : Int) - 1 then 0 else 1) else 2) else enN Rw Nx sg kp n := rfl
      refine v_iload_n dX8_close_2 rfl ?_
      refine v_aload_n dX8_close_3 rfl ?_
      refine v_getf 0 4 fl_X8_25 hn rfl rfl dX8_close_4 ?_
      refine v_icmp_ge (tgt := 51) dX8_close_7 (by decide) ⟨by omega, by omega⟩ ⟨by omega, by omega⟩ (fun h7 => ?_) (fun h7 => ?_)
      · skip
        exfalso; omega
      · skip
        refine v_aload_n dX8_close_10 rfl ?_
        refine v_getf 0 5 fl_X8_28 hn rfl rfl dX8_close_11 ?_
        refine v_iconst dX8_close_14 ?_
        refine v_icmp_ne (tgt := 51) dX8_close_15 (by decide) ⟨by omega, by omega⟩ ⟨by omega, by omega⟩ (fun h15 => ?_) (fun h15 => ?_)
        · skip
          exact fin n _ rfl (by omega) (Or.inr h15)
        · skip
          rw [if_pos (by omega)] at e1
          refine v_aload_n dX8_close_18 rfl ?_
          refine v_iload_n dX8_close_19 rfl ?_
          refine v_callV (ci := 8) (K8_isRow (sg := sg) (n := n) (sw_hold_all (cs := cNs G sg kp (enN Rw Nx sg kp n) Rw Nw Nx) hn) hsg (by omega) (fun j hj => hr1 n j (by omega) hj) hr2) ⟨rfl, rfl⟩ (Nat.le_refl _) (Nat.le_refl _) ((sw_hold_all (cs := cNs G sg kp (enN Rw Nx sg kp n) Rw Nw Nx) hn).hd) rfl ⟨ml_X8_34, mm_X8_isRow⟩ ⟨(Nat.le_of_ble_eq_true rfl), (Nat.le_of_ble_eq_true rfl)⟩ mp_X8_isRow rfl rfl (Nat.le_of_ble_eq_true rfl) dX8_close_20 (fun r M' h => ?_)
          obtain ⟨rfl, rfl⟩ := h
          refine v_ifb_eq (tgt := 45) dX8_close_23 (by decide) (fun h23 => ?_) (fun h23 => ?_)
          · skip
            rw [if_neg h23] at e1
            refine v_iinc dX8_close_45 rfl (Nat.le_of_ble_eq_true rfl) ?_
            refine v_goto (tgt := 2) dX8_close_48 (by decide) ?_
            exact v_to (ih (n + 1) (by omega)) (by rw [e1, h15]) (sw_h1 rfl (sw_h1 rfl sw_h0))
          · skip
            rw [if_pos h23] at e1
            refine v_aload_n dX8_close_26 rfl ?_
            refine v_iload_n dX8_close_27 rfl ?_
            refine v_aload_n dX8_close_28 rfl ?_
            refine v_getf 0 4 fl_X8_25 hn rfl rfl dX8_close_29 ?_
            refine v_iconst dX8_close_32 ?_
            refine v_isub dX8_close_33 ?_
            refine v_icmp_ne (tgt := 41) dX8_close_34 (by decide) ⟨by omega, by omega⟩ ⟨by omega, by omega⟩ (fun h34 => ?_) (fun h34 => ?_)
            · skip
              rw [if_neg h34] at e1
              refine v_iconst dX8_close_41 ?_
              refine v_putf 0 5 fp_X8_28 hn rfl rfl rfl (Nat.le_of_ble_eq_true rfl) dX8_close_42 ?_
              refine v_iinc dX8_close_45 rfl (Nat.le_of_ble_eq_true rfl) ?_
              refine v_goto (tgt := 2) dX8_close_48 (by decide) ?_
              exact v_to (ih (n + 1) (by omega)) (by rw [e1]; rfl) (sw_h1 rfl (sw_h1 rfl sw_h0))
            · skip
              rw [if_pos (by omega)] at e1
              refine v_iconst dX8_close_37 ?_
              refine v_goto (tgt := 42) dX8_close_38 (by decide) ?_
              refine v_putf 0 5 fp_X8_28 hn rfl rfl rfl (Nat.le_of_ble_eq_true rfl) dX8_close_42 ?_
              refine v_iinc dX8_close_45 rfl (Nat.le_of_ble_eq_true rfl) ?_
              refine v_goto (tgt := 2) dX8_close_48 (by decide) ?_
              exact v_to (ih (n + 1) (by omega)) (by rw [e1]; rfl) (sw_h1 rfl (sw_h1 rfl sw_h0))
  refine v_iconst dX8_close_0 ?_
  refine v_istore_n dX8_close_1 (Nat.le_of_ble_eq_true rfl) ?_
  exact v_to (loop kp 0 (by omega)) rfl (sw_h1 rfl (sw_h1 rfl sw_h0))
end

