/-! the constructor of the reference -/
def μX10_init : sw_Mt := (yX10_init, cX10_init, 2, none, 2, 22, 1050)
theorem mc_X10_init : Cond.code yX10_init cX10_init 2 none ∈ sw_U := sw_in 998 (by decide +kernel) (by decide +kernel)
theorem mi_X10_init : Cond.instanceMethod yX10_init ∈ sw_U := sw_in 997 (by decide +kernel) (by decide +kernel)
theorem mlO_X10 : Cond.methodLink RX10 1 Lib.objectInit ∈ sw_U := sw_in 999 (by decide +kernel) (by decide +kernel)
theorem mm_X10_init : sw_mo μX10_init := ⟨mc_X10_init, by decide +kernel, by decide +kernel, ui_X10, by decide +kernel⟩
def fl0R : List Value := [sw_i 0, .null, sw_i 0, sw_i 0, sw_i 0, .null, .null, .null, .null, .null, .null, .null, .null, .null, sw_i 0, .null, sw_j 0, sw_j 0, .null, sw_i 0, .null, sw_i 0, sw_i 0, sw_i 0, .null, .null, sw_i 0, sw_i 0, sw_j 0, sw_j 0, sw_j 0, sw_j 0, sw_j 0, sw_j 0, sw_j 0, sw_i 0, sw_i 0, sw_i 0, sw_i 0, sw_i 0, .null, .null, .null, .null, .null, sw_i 0, sw_i 0, sw_i 0, .null, .null, sw_i 0, sw_i 0, sw_i 0, sw_j 0]
theorem ft_X10 : ∀ j, j < 54 → defaultValue (tyX10 j) = vp_V fl0R j := by
  intro j hj
  match j, hj with
  | 0, _ => rfl
  | 1, _ => rfl
  | 2, _ => rfl
  | 3, _ => rfl
  | 4, _ => rfl
  | 5, _ => rfl
  | 6, _ => rfl
  | 7, _ => rfl
  | 8, _ => rfl
  | 9, _ => rfl
  | 10, _ => rfl
  | 11, _ => rfl
  | 12, _ => rfl
  | 13, _ => rfl
  | 14, _ => rfl
  | 15, _ => rfl
  | 16, _ => rfl
  | 17, _ => rfl
  | 18, _ => rfl
  | 19, _ => rfl
  | 20, _ => rfl
  | 21, _ => rfl
  | 22, _ => rfl
  | 23, _ => rfl
  | 24, _ => rfl
  | 25, _ => rfl
  | 26, _ => rfl
  | 27, _ => rfl
  | 28, _ => rfl
  | 29, _ => rfl
  | 30, _ => rfl
  | 31, _ => rfl
  | 32, _ => rfl
  | 33, _ => rfl
  | 34, _ => rfl
  | 35, _ => rfl
  | 36, _ => rfl
  | 37, _ => rfl
  | 38, _ => rfl
  | 39, _ => rfl
  | 40, _ => rfl
  | 41, _ => rfl
  | 42, _ => rfl
  | 43, _ => rfl
  | 44, _ => rfl
  | 45, _ => rfl
  | 46, _ => rfl
  | 47, _ => rfl
  | 48, _ => rfl
  | 49, _ => rfl
  | 50, _ => rfl
  | 51, _ => rfl
  | 52, _ => rfl
  | 53, _ => rfl
  | n + 54, h => exact absurd h (by omega)
section
variable {l : Launch} {G : sw_G} {μ : sw_Mt} {E : State → (Nat → Prop) → Prop} {Z : sw_Z} {pc : Nat} {M : sw_M} {uc us : Nat}
/-- one row made and laid into its slot -/
theorem rI_step {fs : List Value} {n k t ix : Nat} (h0 : M 70 = some (sw_o 10 fs)) (hn : M t = none) (h70 : t ≠ 70) (h31 : n < 16777216) (hi : (mY μ).name = "<init>") (hF : sw_fp (mY μ).cls ix 10 k true (.array .int)) (hle : k < fs.length) (hu : uc + 1 ≤ mK μ) (hv : us + n ≤ mS μ) (hd : decode (mC μ) pc = .ok (.newarray .int, 2)) (hd2 : decode (mC μ) (pc + 2) = .ok (.putfield ix, 3))
    (kk : ∀ (al : Nat → Nat) (M' : sw_M), (∀ u, u ≠ t → al u = sw_al G u) → M' 70 = some (sw_o 10 (fs.set k (.ref (al t)))) → M' t = some (sw_ia n z0) → (∀ u, u ≠ 70 → u ≠ t → M' u = M u) → V l (sw_Gw G al) μ E Z (pc + 2 + 3) [(0, .ref (al 70))] [] M' (uc + 1) (us + n)) : V l G μ E Z pc [(0, .ref (sw_al G 70))] [sw_i n, .ref (sw_al G 70)] M uc us := by
  refine v_mem (sw_ov_self (cs := [(70, sw_o 10 fs)]) (sw_hold1 h0 sw_hold0)).symm ?_
  refine v_newi t (N := n) rfl h31 ua_int (by simpa using h70) hn hu hv hd (fun al ha => ?_)
  have e : al 70 = sw_al G 70 := ha 70 (fun h => h70 h.symm)
  rw [← e]
  refine v_mem (M' := sw_ov M [(70, sw_o 10 fs), (t, sw_ia n z0)]) rfl ?_
  refine v_putF (t := 70) 0 k hi hF (sw_nd_of (by simpa using fun h => h70 h.symm)) rfl rfl rfl hle hd2 ?_
  exact kk al _ ha rfl (if_neg h70 |>.trans (if_pos rfl)) (fun u h1 h2 => (if_neg h1).trans (if_neg h2))
end
section
variable {l : Launch} {G : sw_G} {M : sw_M}
theorem K10_init (h0 : M 70 = some (sw_o 10 fl0R)) (hn : ∀ t, 71 ≤ t → t < 93 → M t = none) : KtA l G μX10_init [.ref (sw_al G 70)] M (fun al r M' => r = none ∧ (∀ u, u < 71 ∨ 93 ≤ u → al u = sw_al G u) ∧ InvR (sw_Gw G al) M' s0 ∧ frR M M') := by
  refine KtA.of (by decide +kernel) (Nat.le_of_ble_eq_true rfl) ?_
  refine v_sub (lv' := [(0, .ref (sw_al G 70))]) (sw_h1 rfl sw_h0) ?_
  refine v_aload_n dX10_init_0 rfl ?_
  refine v_objI mlO_X10 ⟨(Nat.le_of_ble_eq_true rfl), (Nat.le_of_ble_eq_true rfl)⟩ dX10_init_1 ?_
  refine v_aload_n dX10_init_4 rfl ?_
  refine v_sipush dX10_init_5 (by decide +kernel) ?_
  refine rI_step (n := 240) (k := 1) (t := 71) h0 (hn 71 (by omega) (by omega)) (by decide) (Nat.le_of_ble_eq_true rfl) rfl fp_X10_7 (Nat.le_of_ble_eq_true rfl) (Nat.le_of_ble_eq_true rfl) (Nat.le_of_ble_eq_true rfl) dX10_init_8 dX10_init_10 (fun al1 M1 ha1 h1 c1 fr1 => ?_)
  replace h1 : M1 70 = some (sw_o 10 [sw_i 0, .ref (al1 71), sw_i 0, sw_i 0, sw_i 0, .null, .null, .null, .null, .null, .null, .null, .null, .null, sw_i 0, .null, sw_j 0, sw_j 0, .null, sw_i 0, .null, sw_i 0, sw_i 0, sw_i 0, .null, .null, sw_i 0, sw_i 0, sw_j 0, sw_j 0, sw_j 0, sw_j 0, sw_j 0, sw_j 0, sw_j 0, sw_i 0, sw_i 0, sw_i 0, sw_i 0, sw_i 0, .null, .null, .null, .null, .null, sw_i 0, sw_i 0, sw_i 0, .null, .null, sw_i 0, sw_i 0, sw_i 0, sw_j 0]) := h1
  refine v_aload_n dX10_init_13 rfl ?_
  refine v_bipush dX10_init_14 (by decide +kernel) ?_
  refine rI_step (n := 9) (k := 5) (t := 72) h1 ((fr1 72 (by decide) (by decide)).trans (hn 72 (by omega) (by omega))) (by decide) (Nat.le_of_ble_eq_true rfl) rfl fp_X10_13 (Nat.le_of_ble_eq_true rfl) (Nat.le_of_ble_eq_true rfl) (Nat.le_of_ble_eq_true rfl) dX10_init_16 dX10_init_18 (fun al2 M2 ha2 h2 c2 fr2 => ?_)
  rw [sw_GwGw]
  replace h2 : M2 70 = some (sw_o 10 [sw_i 0, .ref (al1 71), sw_i 0, sw_i 0, sw_i 0, .ref (al2 72), .null, .null, .null, .null, .null, .null, .null, .null, sw_i 0, .null, sw_j 0, sw_j 0, .null, sw_i 0, .null, sw_i 0, sw_i 0, sw_i 0, .null, .null, sw_i 0, sw_i 0, sw_j 0, sw_j 0, sw_j 0, sw_j 0, sw_j 0, sw_j 0, sw_j 0, sw_i 0, sw_i 0, sw_i 0, sw_i 0, sw_i 0, .null, .null, .null, .null, .null, sw_i 0, sw_i 0, sw_i 0, .null, .null, sw_i 0, sw_i 0, sw_i 0, sw_j 0]) := h2
  refine v_aload_n dX10_init_21 rfl ?_
  refine v_bipush dX10_init_22 (by decide +kernel) ?_
  refine rI_step (n := 9) (k := 6) (t := 73) h2 ((fr2 73 (by decide) (by decide)).trans ((fr1 73 (by decide) (by decide)).trans (hn 73 (by omega) (by omega)))) (by decide) (Nat.le_of_ble_eq_true rfl) rfl fp_X10_16 (Nat.le_of_ble_eq_true rfl) (Nat.le_of_ble_eq_true rfl) (Nat.le_of_ble_eq_true rfl) dX10_init_24 dX10_init_26 (fun al3 M3 ha3 h3 c3 fr3 => ?_)
  rw [sw_GwGw]
  replace h3 : M3 70 = some (sw_o 10 [sw_i 0, .ref (al1 71), sw_i 0, sw_i 0, sw_i 0, .ref (al2 72), .ref (al3 73), .null, .null, .null, .null, .null, .null, .null, sw_i 0, .null, sw_j 0, sw_j 0, .null, sw_i 0, .null, sw_i 0, sw_i 0, sw_i 0, .null, .null, sw_i 0, sw_i 0, sw_j 0, sw_j 0, sw_j 0, sw_j 0, sw_j 0, sw_j 0, sw_j 0, sw_i 0, sw_i 0, sw_i 0, sw_i 0, sw_i 0, .null, .null, .null, .null, .null, sw_i 0, sw_i 0, sw_i 0, .null, .null, sw_i 0, sw_i 0, sw_i 0, sw_j 0]) := h3
  refine v_aload_n dX10_init_29 rfl ?_
  refine v_bipush dX10_init_30 (by decide +kernel) ?_
  refine rI_step (n := 72) (k := 7) (t := 74) h3 ((fr3 74 (by decide) (by decide)).trans ((fr2 74 (by decide) (by decide)).trans ((fr1 74 (by decide) (by decide)).trans (hn 74 (by omega) (by omega))))) (by decide) (Nat.le_of_ble_eq_true rfl) rfl fp_X10_19 (Nat.le_of_ble_eq_true rfl) (Nat.le_of_ble_eq_true rfl) (Nat.le_of_ble_eq_true rfl) dX10_init_32 dX10_init_34 (fun al4 M4 ha4 h4 c4 fr4 => ?_)
  rw [sw_GwGw]
  replace h4 : M4 70 = some (sw_o 10 [sw_i 0, .ref (al1 71), sw_i 0, sw_i 0, sw_i 0, .ref (al2 72), .ref (al3 73), .ref (al4 74), .null, .null, .null, .null, .null, .null, sw_i 0, .null, sw_j 0, sw_j 0, .null, sw_i 0, .null, sw_i 0, sw_i 0, sw_i 0, .null, .null, sw_i 0, sw_i 0, sw_j 0, sw_j 0, sw_j 0, sw_j 0, sw_j 0, sw_j 0, sw_j 0, sw_i 0, sw_i 0, sw_i 0, sw_i 0, sw_i 0, .null, .null, .null, .null, .null, sw_i 0, sw_i 0, sw_i 0, .null, .null, sw_i 0, sw_i 0, sw_i 0, sw_j 0]) := h4
  refine v_aload_n dX10_init_37 rfl ?_
  refine v_bipush dX10_init_38 (by decide +kernel) ?_
  refine rI_step (n := 72) (k := 8) (t := 75) h4 ((fr4 75 (by decide) (by decide)).trans ((fr3 75 (by decide) (by decide)).trans ((fr2 75 (by decide) (by decide)).trans ((fr1 75 (by decide) (by decide)).trans (hn 75 (by omega) (by omega)))))) (by decide) (Nat.le_of_ble_eq_true rfl) rfl fp_X10_22 (Nat.le_of_ble_eq_true rfl) (Nat.le_of_ble_eq_true rfl) (Nat.le_of_ble_eq_true rfl) dX10_init_40 dX10_init_42 (fun al5 M5 ha5 h5 c5 fr5 => ?_)
  rw [sw_GwGw]
  replace h5 : M5 70 = some (sw_o 10 [sw_i 0, .ref (al1 71), sw_i 0, sw_i 0, sw_i 0, .ref (al2 72), .ref (al3 73), .ref (al4 74), .ref (al5 75), .null, .null, .null, .null, .null, sw_i 0, .null, sw_j 0, sw_j 0, .null, sw_i 0, .null, sw_i 0, sw_i 0, sw_i 0, .null, .null, sw_i 0, sw_i 0, sw_j 0, sw_j 0, sw_j 0, sw_j 0, sw_j 0, sw_j 0, sw_j 0, sw_i 0, sw_i 0, sw_i 0, sw_i 0, sw_i 0, .null, .null, .null, .null, .null, sw_i 0, sw_i 0, sw_i 0, .null, .null, sw_i 0, sw_i 0, sw_i 0, sw_j 0]) := h5
  refine v_aload_n dX10_init_45 rfl ?_
  refine v_sipush dX10_init_46 (by decide +kernel) ?_
  refine rI_step (n := 360) (k := 9) (t := 76) h5 ((fr5 76 (by decide) (by decide)).trans ((fr4 76 (by decide) (by decide)).trans ((fr3 76 (by decide) (by decide)).trans ((fr2 76 (by decide) (by decide)).trans ((fr1 76 (by decide) (by decide)).trans (hn 76 (by omega) (by omega))))))) (by decide) (Nat.le_of_ble_eq_true rfl) rfl fp_X10_25 (Nat.le_of_ble_eq_true rfl) (Nat.le_of_ble_eq_true rfl) (Nat.le_of_ble_eq_true rfl) dX10_init_49 dX10_init_51 (fun al6 M6 ha6 h6 c6 fr6 => ?_)
  rw [sw_GwGw]
  replace h6 : M6 70 = some (sw_o 10 [sw_i 0, .ref (al1 71), sw_i 0, sw_i 0, sw_i 0, .ref (al2 72), .ref (al3 73), .ref (al4 74), .ref (al5 75), .ref (al6 76), .null, .null, .null, .null, sw_i 0, .null, sw_j 0, sw_j 0, .null, sw_i 0, .null, sw_i 0, sw_i 0, sw_i 0, .null, .null, sw_i 0, sw_i 0, sw_j 0, sw_j 0, sw_j 0, sw_j 0, sw_j 0, sw_j 0, sw_j 0, sw_i 0, sw_i 0, sw_i 0, sw_i 0, sw_i 0, .null, .null, .null, .null, .null, sw_i 0, sw_i 0, sw_i 0, .null, .null, sw_i 0, sw_i 0, sw_i 0, sw_j 0]) := h6
  refine v_aload_n dX10_init_54 rfl ?_
  refine v_bipush dX10_init_55 (by decide +kernel) ?_
  refine rI_step (n := 9) (k := 10) (t := 77) h6 ((fr6 77 (by decide) (by decide)).trans ((fr5 77 (by decide) (by decide)).trans ((fr4 77 (by decide) (by decide)).trans ((fr3 77 (by decide) (by decide)).trans ((fr2 77 (by decide) (by decide)).trans ((fr1 77 (by decide) (by decide)).trans (hn 77 (by omega) (by omega)))))))) (by decide) (Nat.le_of_ble_eq_true rfl) rfl fp_X10_28 (Nat.le_of_ble_eq_true rfl) (Nat.le_of_ble_eq_true rfl) (Nat.le_of_ble_eq_true rfl) dX10_init_57 dX10_init_59 (fun al7 M7 ha7 h7 c7 fr7 => ?_)
  rw [sw_GwGw]
  replace h7 : M7 70 = some (sw_o 10 [sw_i 0, .ref (al1 71), sw_i 0, sw_i 0, sw_i 0, .ref (al2 72), .ref (al3 73), .ref (al4 74), .ref (al5 75), .ref (al6 76), .ref (al7 77), .null, .null, .null, sw_i 0, .null, sw_j 0, sw_j 0, .null, sw_i 0, .null, sw_i 0, sw_i 0, sw_i 0, .null, .null, sw_i 0, sw_i 0, sw_j 0, sw_j 0, sw_j 0, sw_j 0, sw_j 0, sw_j 0, sw_j 0, sw_i 0, sw_i 0, sw_i 0, sw_i 0, sw_i 0, .null, .null, .null, .null, .null, sw_i 0, sw_i 0, sw_i 0, .null, .null, sw_i 0, sw_i 0, sw_i 0, sw_j 0]) := h7
  refine v_aload_n dX10_init_62 rfl ?_
  refine v_bipush dX10_init_63 (by decide +kernel) ?_
  refine rI_step (n := 9) (k := 11) (t := 78) h7 ((fr7 78 (by decide) (by decide)).trans ((fr6 78 (by decide) (by decide)).trans ((fr5 78 (by decide) (by decide)).trans ((fr4 78 (by decide) (by decide)).trans ((fr3 78 (by decide) (by decide)).trans ((fr2 78 (by decide) (by decide)).trans ((fr1 78 (by decide) (by decide)).trans (hn 78 (by omega) (by omega))))))))) (by decide) (Nat.le_of_ble_eq_true rfl) rfl fp_X10_31 (Nat.le_of_ble_eq_true rfl) (Nat.le_of_ble_eq_true rfl) (Nat.le_of_ble_eq_true rfl) dX10_init_65 dX10_init_67 (fun al8 M8 ha8 h8 c8 fr8 => ?_)
  rw [sw_GwGw]
  replace h8 : M8 70 = some (sw_o 10 [sw_i 0, .ref (al1 71), sw_i 0, sw_i 0, sw_i 0, .ref (al2 72), .ref (al3 73), .ref (al4 74), .ref (al5 75), .ref (al6 76), .ref (al7 77), .ref (al8 78), .null, .null, sw_i 0, .null, sw_j 0, sw_j 0, .null, sw_i 0, .null, sw_i 0, sw_i 0, sw_i 0, .null, .null, sw_i 0, sw_i 0, sw_j 0, sw_j 0, sw_j 0, sw_j 0, sw_j 0, sw_j 0, sw_j 0, sw_i 0, sw_i 0, sw_i 0, sw_i 0, sw_i 0, .null, .null, .null, .null, .null, sw_i 0, sw_i 0, sw_i 0, .null, .null, sw_i 0, sw_i 0, sw_i 0, sw_j 0]) := h8
  refine v_aload_n dX10_init_70 rfl ?_
  refine v_bipush dX10_init_71 (by decide +kernel) ?_
  refine rI_step (n := 9) (k := 12) (t := 79) h8 ((fr8 79 (by decide) (by decide)).trans ((fr7 79 (by decide) (by decide)).trans ((fr6 79 (by decide) (by decide)).trans ((fr5 79 (by decide) (by decide)).trans ((fr4 79 (by decide) (by decide)).trans ((fr3 79 (by decide) (by decide)).trans ((fr2 79 (by decide) (by decide)).trans ((fr1 79 (by decide) (by decide)).trans (hn 79 (by omega) (by omega)))))))))) (by decide) (Nat.le_of_ble_eq_true rfl) rfl fp_X10_34 (Nat.le_of_ble_eq_true rfl) (Nat.le_of_ble_eq_true rfl) (Nat.le_of_ble_eq_true rfl) dX10_init_73 dX10_init_75 (fun al9 M9 ha9 h9 c9 fr9 => ?_)
  rw [sw_GwGw]
  replace h9 : M9 70 = some (sw_o 10 [sw_i 0, .ref (al1 71), sw_i 0, sw_i 0, sw_i 0, .ref (al2 72), .ref (al3 73), .ref (al4 74), .ref (al5 75), .ref (al6 76), .ref (al7 77), .ref (al8 78), .ref (al9 79), .null, sw_i 0, .null, sw_j 0, sw_j 0, .null, sw_i 0, .null, sw_i 0, sw_i 0, sw_i 0, .null, .null, sw_i 0, sw_i 0, sw_j 0, sw_j 0, sw_j 0, sw_j 0, sw_j 0, sw_j 0, sw_j 0, sw_i 0, sw_i 0, sw_i 0, sw_i 0, sw_i 0, .null, .null, .null, .null, .null, sw_i 0, sw_i 0, sw_i 0, .null, .null, sw_i 0, sw_i 0, sw_i 0, sw_j 0]) := h9
  refine v_aload_n dX10_init_78 rfl ?_
  refine v_bipush dX10_init_79 (by decide +kernel) ?_
  refine rI_step (n := 32) (k := 13) (t := 80) h9 ((fr9 80 (by decide) (by decide)).trans ((fr8 80 (by decide) (by decide)).trans ((fr7 80 (by decide) (by decide)).trans ((fr6 80 (by decide) (by decide)).trans ((fr5 80 (by decide) (by decide)).trans ((fr4 80 (by decide) (by decide)).trans ((fr3 80 (by decide) (by decide)).trans ((fr2 80 (by decide) (by decide)).trans ((fr1 80 (by decide) (by decide)).trans (hn 80 (by omega) (by omega))))))))))) (by decide) (Nat.le_of_ble_eq_true rfl) rfl fp_X10_37 (Nat.le_of_ble_eq_true rfl) (Nat.le_of_ble_eq_true rfl) (Nat.le_of_ble_eq_true rfl) dX10_init_81 dX10_init_83 (fun al10 M10 ha10 h10 c10 fr10 => ?_)
  rw [sw_GwGw]
  replace h10 : M10 70 = some (sw_o 10 [sw_i 0, .ref (al1 71), sw_i 0, sw_i 0, sw_i 0, .ref (al2 72), .ref (al3 73), .ref (al4 74), .ref (al5 75), .ref (al6 76), .ref (al7 77), .ref (al8 78), .ref (al9 79), .ref (al10 80), sw_i 0, .null, sw_j 0, sw_j 0, .null, sw_i 0, .null, sw_i 0, sw_i 0, sw_i 0, .null, .null, sw_i 0, sw_i 0, sw_j 0, sw_j 0, sw_j 0, sw_j 0, sw_j 0, sw_j 0, sw_j 0, sw_i 0, sw_i 0, sw_i 0, sw_i 0, sw_i 0, .null, .null, .null, .null, .null, sw_i 0, sw_i 0, sw_i 0, .null, .null, sw_i 0, sw_i 0, sw_i 0, sw_j 0]) := h10
  refine v_aload_n dX10_init_86 rfl ?_
  refine v_iconst dX10_init_87 ?_
  refine rI_step (n := 5) (k := 15) (t := 81) h10 ((fr10 81 (by decide) (by decide)).trans ((fr9 81 (by decide) (by decide)).trans ((fr8 81 (by decide) (by decide)).trans ((fr7 81 (by decide) (by decide)).trans ((fr6 81 (by decide) (by decide)).trans ((fr5 81 (by decide) (by decide)).trans ((fr4 81 (by decide) (by decide)).trans ((fr3 81 (by decide) (by decide)).trans ((fr2 81 (by decide) (by decide)).trans ((fr1 81 (by decide) (by decide)).trans (hn 81 (by omega) (by omega)))))))))))) (by decide) (Nat.le_of_ble_eq_true rfl) rfl fp_X10_40 (Nat.le_of_ble_eq_true rfl) (Nat.le_of_ble_eq_true rfl) (Nat.le_of_ble_eq_true rfl) dX10_init_88 dX10_init_90 (fun al11 M11 ha11 h11 c11 fr11 => ?_)
  rw [sw_GwGw]
  replace h11 : M11 70 = some (sw_o 10 [sw_i 0, .ref (al1 71), sw_i 0, sw_i 0, sw_i 0, .ref (al2 72), .ref (al3 73), .ref (al4 74), .ref (al5 75), .ref (al6 76), .ref (al7 77), .ref (al8 78), .ref (al9 79), .ref (al10 80), sw_i 0, .ref (al11 81), sw_j 0, sw_j 0, .null, sw_i 0, .null, sw_i 0, sw_i 0, sw_i 0, .null, .null, sw_i 0, sw_i 0, sw_j 0, sw_j 0, sw_j 0, sw_j 0, sw_j 0, sw_j 0, sw_j 0, sw_i 0, sw_i 0, sw_i 0, sw_i 0, sw_i 0, .null, .null, .null, .null, .null, sw_i 0, sw_i 0, sw_i 0, .null, .null, sw_i 0, sw_i 0, sw_i 0, sw_j 0]) := h11
  refine v_aload_n dX10_init_93 rfl ?_
  refine v_bipush dX10_init_94 (by decide +kernel) ?_
  refine rI_step (n := 50) (k := 18) (t := 82) h11 ((fr11 82 (by decide) (by decide)).trans ((fr10 82 (by decide) (by decide)).trans ((fr9 82 (by decide) (by decide)).trans ((fr8 82 (by decide) (by decide)).trans ((fr7 82 (by decide) (by decide)).trans ((fr6 82 (by decide) (by decide)).trans ((fr5 82 (by decide) (by decide)).trans ((fr4 82 (by decide) (by decide)).trans ((fr3 82 (by decide) (by decide)).trans ((fr2 82 (by decide) (by decide)).trans ((fr1 82 (by decide) (by decide)).trans (hn 82 (by omega) (by omega))))))))))))) (by decide) (Nat.le_of_ble_eq_true rfl) rfl fp_X10_43 (Nat.le_of_ble_eq_true rfl) (Nat.le_of_ble_eq_true rfl) (Nat.le_of_ble_eq_true rfl) dX10_init_96 dX10_init_98 (fun al12 M12 ha12 h12 c12 fr12 => ?_)
  rw [sw_GwGw]
  replace h12 : M12 70 = some (sw_o 10 [sw_i 0, .ref (al1 71), sw_i 0, sw_i 0, sw_i 0, .ref (al2 72), .ref (al3 73), .ref (al4 74), .ref (al5 75), .ref (al6 76), .ref (al7 77), .ref (al8 78), .ref (al9 79), .ref (al10 80), sw_i 0, .ref (al11 81), sw_j 0, sw_j 0, .ref (al12 82), sw_i 0, .null, sw_i 0, sw_i 0, sw_i 0, .null, .null, sw_i 0, sw_i 0, sw_j 0, sw_j 0, sw_j 0, sw_j 0, sw_j 0, sw_j 0, sw_j 0, sw_i 0, sw_i 0, sw_i 0, sw_i 0, sw_i 0, .null, .null, .null, .null, .null, sw_i 0, sw_i 0, sw_i 0, .null, .null, sw_i 0, sw_i 0, sw_i 0, sw_j 0]) := h12
  refine v_aload_n dX10_init_101 rfl ?_
  refine v_bipush dX10_init_102 (by decide +kernel) ?_
  refine rI_step (n := 20) (k := 20) (t := 83) h12 ((fr12 83 (by decide) (by decide)).trans ((fr11 83 (by decide) (by decide)).trans ((fr10 83 (by decide) (by decide)).trans ((fr9 83 (by decide) (by decide)).trans ((fr8 83 (by decide) (by decide)).trans ((fr7 83 (by decide) (by decide)).trans ((fr6 83 (by decide) (by decide)).trans ((fr5 83 (by decide) (by decide)).trans ((fr4 83 (by decide) (by decide)).trans ((fr3 83 (by decide) (by decide)).trans ((fr2 83 (by decide) (by decide)).trans ((fr1 83 (by decide) (by decide)).trans (hn 83 (by omega) (by omega)))))))))))))) (by decide) (Nat.le_of_ble_eq_true rfl) rfl fp_X10_46 (Nat.le_of_ble_eq_true rfl) (Nat.le_of_ble_eq_true rfl) (Nat.le_of_ble_eq_true rfl) dX10_init_104 dX10_init_106 (fun al13 M13 ha13 h13 c13 fr13 => ?_)
  rw [sw_GwGw]
  replace h13 : M13 70 = some (sw_o 10 [sw_i 0, .ref (al1 71), sw_i 0, sw_i 0, sw_i 0, .ref (al2 72), .ref (al3 73), .ref (al4 74), .ref (al5 75), .ref (al6 76), .ref (al7 77), .ref (al8 78), .ref (al9 79), .ref (al10 80), sw_i 0, .ref (al11 81), sw_j 0, sw_j 0, .ref (al12 82), sw_i 0, .ref (al13 83), sw_i 0, sw_i 0, sw_i 0, .null, .null, sw_i 0, sw_i 0, sw_j 0, sw_j 0, sw_j 0, sw_j 0, sw_j 0, sw_j 0, sw_j 0, sw_i 0, sw_i 0, sw_i 0, sw_i 0, sw_i 0, .null, .null, .null, .null, .null, sw_i 0, sw_i 0, sw_i 0, .null, .null, sw_i 0, sw_i 0, sw_i 0, sw_j 0]) := h13
  refine v_aload_n dX10_init_109 rfl ?_
  refine v_iconst dX10_init_110 ?_
  refine rI_step (n := 4) (k := 24) (t := 84) h13 ((fr13 84 (by decide) (by decide)).trans ((fr12 84 (by decide) (by decide)).trans ((fr11 84 (by decide) (by decide)).trans ((fr10 84 (by decide) (by decide)).trans ((fr9 84 (by decide) (by decide)).trans ((fr8 84 (by decide) (by decide)).trans ((fr7 84 (by decide) (by decide)).trans ((fr6 84 (by decide) (by decide)).trans ((fr5 84 (by decide) (by decide)).trans ((fr4 84 (by decide) (by decide)).trans ((fr3 84 (by decide) (by decide)).trans ((fr2 84 (by decide) (by decide)).trans ((fr1 84 (by decide) (by decide)).trans (hn 84 (by omega) (by omega))))))))))))))) (by decide) (Nat.le_of_ble_eq_true rfl) rfl fp_X10_49 (Nat.le_of_ble_eq_true rfl) (Nat.le_of_ble_eq_true rfl) (Nat.le_of_ble_eq_true rfl) dX10_init_111 dX10_init_113 (fun al14 M14 ha14 h14 c14 fr14 => ?_)
  rw [sw_GwGw]
  replace h14 : M14 70 = some (sw_o 10 [sw_i 0, .ref (al1 71), sw_i 0, sw_i 0, sw_i 0, .ref (al2 72), .ref (al3 73), .ref (al4 74), .ref (al5 75), .ref (al6 76), .ref (al7 77), .ref (al8 78), .ref (al9 79), .ref (al10 80), sw_i 0, .ref (al11 81), sw_j 0, sw_j 0, .ref (al12 82), sw_i 0, .ref (al13 83), sw_i 0, sw_i 0, sw_i 0, .ref (al14 84), .null, sw_i 0, sw_i 0, sw_j 0, sw_j 0, sw_j 0, sw_j 0, sw_j 0, sw_j 0, sw_j 0, sw_i 0, sw_i 0, sw_i 0, sw_i 0, sw_i 0, .null, .null, .null, .null, .null, sw_i 0, sw_i 0, sw_i 0, .null, .null, sw_i 0, sw_i 0, sw_i 0, sw_j 0]) := h14
  refine v_aload_n dX10_init_116 rfl ?_
  refine v_iconst dX10_init_117 ?_
  refine rI_step (n := 4) (k := 25) (t := 85) h14 ((fr14 85 (by decide) (by decide)).trans ((fr13 85 (by decide) (by decide)).trans ((fr12 85 (by decide) (by decide)).trans ((fr11 85 (by decide) (by decide)).trans ((fr10 85 (by decide) (by decide)).trans ((fr9 85 (by decide) (by decide)).trans ((fr8 85 (by decide) (by decide)).trans ((fr7 85 (by decide) (by decide)).trans ((fr6 85 (by decide) (by decide)).trans ((fr5 85 (by decide) (by decide)).trans ((fr4 85 (by decide) (by decide)).trans ((fr3 85 (by decide) (by decide)).trans ((fr2 85 (by decide) (by decide)).trans ((fr1 85 (by decide) (by decide)).trans (hn 85 (by omega) (by omega)))))))))))))))) (by decide) (Nat.le_of_ble_eq_true rfl) rfl fp_X10_52 (Nat.le_of_ble_eq_true rfl) (Nat.le_of_ble_eq_true rfl) (Nat.le_of_ble_eq_true rfl) dX10_init_118 dX10_init_120 (fun al15 M15 ha15 h15 c15 fr15 => ?_)
  rw [sw_GwGw]
  replace h15 : M15 70 = some (sw_o 10 [sw_i 0, .ref (al1 71), sw_i 0, sw_i 0, sw_i 0, .ref (al2 72), .ref (al3 73), .ref (al4 74), .ref (al5 75), .ref (al6 76), .ref (al7 77), .ref (al8 78), .ref (al9 79), .ref (al10 80), sw_i 0, .ref (al11 81), sw_j 0, sw_j 0, .ref (al12 82), sw_i 0, .ref (al13 83), sw_i 0, sw_i 0, sw_i 0, .ref (al14 84), .ref (al15 85), sw_i 0, sw_i 0, sw_j 0, sw_j 0, sw_j 0, sw_j 0, sw_j 0, sw_j 0, sw_j 0, sw_i 0, sw_i 0, sw_i 0, sw_i 0, sw_i 0, .null, .null, .null, .null, .null, sw_i 0, sw_i 0, sw_i 0, .null, .null, sw_i 0, sw_i 0, sw_i 0, sw_j 0]) := h15
  refine v_aload_n dX10_init_123 rfl ?_
  refine v_bipush dX10_init_124 (by decide +kernel) ?_
  refine rI_step (n := 105) (k := 40) (t := 86) h15 ((fr15 86 (by decide) (by decide)).trans ((fr14 86 (by decide) (by decide)).trans ((fr13 86 (by decide) (by decide)).trans ((fr12 86 (by decide) (by decide)).trans ((fr11 86 (by decide) (by decide)).trans ((fr10 86 (by decide) (by decide)).trans ((fr9 86 (by decide) (by decide)).trans ((fr8 86 (by decide) (by decide)).trans ((fr7 86 (by decide) (by decide)).trans ((fr6 86 (by decide) (by decide)).trans ((fr5 86 (by decide) (by decide)).trans ((fr4 86 (by decide) (by decide)).trans ((fr3 86 (by decide) (by decide)).trans ((fr2 86 (by decide) (by decide)).trans ((fr1 86 (by decide) (by decide)).trans (hn 86 (by omega) (by omega))))))))))))))))) (by decide) (Nat.le_of_ble_eq_true rfl) rfl fp_X10_55 (Nat.le_of_ble_eq_true rfl) (Nat.le_of_ble_eq_true rfl) (Nat.le_of_ble_eq_true rfl) dX10_init_126 dX10_init_128 (fun al16 M16 ha16 h16 c16 fr16 => ?_)
  rw [sw_GwGw]
  replace h16 : M16 70 = some (sw_o 10 [sw_i 0, .ref (al1 71), sw_i 0, sw_i 0, sw_i 0, .ref (al2 72), .ref (al3 73), .ref (al4 74), .ref (al5 75), .ref (al6 76), .ref (al7 77), .ref (al8 78), .ref (al9 79), .ref (al10 80), sw_i 0, .ref (al11 81), sw_j 0, sw_j 0, .ref (al12 82), sw_i 0, .ref (al13 83), sw_i 0, sw_i 0, sw_i 0, .ref (al14 84), .ref (al15 85), sw_i 0, sw_i 0, sw_j 0, sw_j 0, sw_j 0, sw_j 0, sw_j 0, sw_j 0, sw_j 0, sw_i 0, sw_i 0, sw_i 0, sw_i 0, sw_i 0, .ref (al16 86), .null, .null, .null, .null, sw_i 0, sw_i 0, sw_i 0, .null, .null, sw_i 0, sw_i 0, sw_i 0, sw_j 0]) := h16
  refine v_aload_n dX10_init_131 rfl ?_
  refine v_iconst dX10_init_132 ?_
  refine rI_step (n := 5) (k := 41) (t := 87) h16 ((fr16 87 (by decide) (by decide)).trans ((fr15 87 (by decide) (by decide)).trans ((fr14 87 (by decide) (by decide)).trans ((fr13 87 (by decide) (by decide)).trans ((fr12 87 (by decide) (by decide)).trans ((fr11 87 (by decide) (by decide)).trans ((fr10 87 (by decide) (by decide)).trans ((fr9 87 (by decide) (by decide)).trans ((fr8 87 (by decide) (by decide)).trans ((fr7 87 (by decide) (by decide)).trans ((fr6 87 (by decide) (by decide)).trans ((fr5 87 (by decide) (by decide)).trans ((fr4 87 (by decide) (by decide)).trans ((fr3 87 (by decide) (by decide)).trans ((fr2 87 (by decide) (by decide)).trans ((fr1 87 (by decide) (by decide)).trans (hn 87 (by omega) (by omega)))))))))))))))))) (by decide) (Nat.le_of_ble_eq_true rfl) rfl fp_X10_58 (Nat.le_of_ble_eq_true rfl) (Nat.le_of_ble_eq_true rfl) (Nat.le_of_ble_eq_true rfl) dX10_init_133 dX10_init_135 (fun al17 M17 ha17 h17 c17 fr17 => ?_)
  rw [sw_GwGw]
  replace h17 : M17 70 = some (sw_o 10 [sw_i 0, .ref (al1 71), sw_i 0, sw_i 0, sw_i 0, .ref (al2 72), .ref (al3 73), .ref (al4 74), .ref (al5 75), .ref (al6 76), .ref (al7 77), .ref (al8 78), .ref (al9 79), .ref (al10 80), sw_i 0, .ref (al11 81), sw_j 0, sw_j 0, .ref (al12 82), sw_i 0, .ref (al13 83), sw_i 0, sw_i 0, sw_i 0, .ref (al14 84), .ref (al15 85), sw_i 0, sw_i 0, sw_j 0, sw_j 0, sw_j 0, sw_j 0, sw_j 0, sw_j 0, sw_j 0, sw_i 0, sw_i 0, sw_i 0, sw_i 0, sw_i 0, .ref (al16 86), .ref (al17 87), .null, .null, .null, sw_i 0, sw_i 0, sw_i 0, .null, .null, sw_i 0, sw_i 0, sw_i 0, sw_j 0]) := h17
  refine v_aload_n dX10_init_138 rfl ?_
  refine v_iconst dX10_init_139 ?_
  refine rI_step (n := 4) (k := 42) (t := 88) h17 ((fr17 88 (by decide) (by decide)).trans ((fr16 88 (by decide) (by decide)).trans ((fr15 88 (by decide) (by decide)).trans ((fr14 88 (by decide) (by decide)).trans ((fr13 88 (by decide) (by decide)).trans ((fr12 88 (by decide) (by decide)).trans ((fr11 88 (by decide) (by decide)).trans ((fr10 88 (by decide) (by decide)).trans ((fr9 88 (by decide) (by decide)).trans ((fr8 88 (by decide) (by decide)).trans ((fr7 88 (by decide) (by decide)).trans ((fr6 88 (by decide) (by decide)).trans ((fr5 88 (by decide) (by decide)).trans ((fr4 88 (by decide) (by decide)).trans ((fr3 88 (by decide) (by decide)).trans ((fr2 88 (by decide) (by decide)).trans ((fr1 88 (by decide) (by decide)).trans (hn 88 (by omega) (by omega))))))))))))))))))) (by decide) (Nat.le_of_ble_eq_true rfl) rfl fp_X10_61 (Nat.le_of_ble_eq_true rfl) (Nat.le_of_ble_eq_true rfl) (Nat.le_of_ble_eq_true rfl) dX10_init_140 dX10_init_142 (fun al18 M18 ha18 h18 c18 fr18 => ?_)
  rw [sw_GwGw]
  replace h18 : M18 70 = some (sw_o 10 [sw_i 0, .ref (al1 71), sw_i 0, sw_i 0, sw_i 0, .ref (al2 72), .ref (al3 73), .ref (al4 74), .ref (al5 75), .ref (al6 76), .ref (al7 77), .ref (al8 78), .ref (al9 79), .ref (al10 80), sw_i 0, .ref (al11 81), sw_j 0, sw_j 0, .ref (al12 82), sw_i 0, .ref (al13 83), sw_i 0, sw_i 0, sw_i 0, .ref (al14 84), .ref (al15 85), sw_i 0, sw_i 0, sw_j 0, sw_j 0, sw_j 0, sw_j 0, sw_j 0, sw_j 0, sw_j 0, sw_i 0, sw_i 0, sw_i 0, sw_i 0, sw_i 0, .ref (al16 86), .ref (al17 87), .ref (al18 88), .null, .null, sw_i 0, sw_i 0, sw_i 0, .null, .null, sw_i 0, sw_i 0, sw_i 0, sw_j 0]) := h18
  refine v_aload_n dX10_init_145 rfl ?_
  refine v_iconst dX10_init_146 ?_
  refine rI_step (n := 4) (k := 43) (t := 89) h18 ((fr18 89 (by decide) (by decide)).trans ((fr17 89 (by decide) (by decide)).trans ((fr16 89 (by decide) (by decide)).trans ((fr15 89 (by decide) (by decide)).trans ((fr14 89 (by decide) (by decide)).trans ((fr13 89 (by decide) (by decide)).trans ((fr12 89 (by decide) (by decide)).trans ((fr11 89 (by decide) (by decide)).trans ((fr10 89 (by decide) (by decide)).trans ((fr9 89 (by decide) (by decide)).trans ((fr8 89 (by decide) (by decide)).trans ((fr7 89 (by decide) (by decide)).trans ((fr6 89 (by decide) (by decide)).trans ((fr5 89 (by decide) (by decide)).trans ((fr4 89 (by decide) (by decide)).trans ((fr3 89 (by decide) (by decide)).trans ((fr2 89 (by decide) (by decide)).trans ((fr1 89 (by decide) (by decide)).trans (hn 89 (by omega) (by omega)))))))))))))))))))) (by decide) (Nat.le_of_ble_eq_true rfl) rfl fp_X10_64 (Nat.le_of_ble_eq_true rfl) (Nat.le_of_ble_eq_true rfl) (Nat.le_of_ble_eq_true rfl) dX10_init_147 dX10_init_149 (fun al19 M19 ha19 h19 c19 fr19 => ?_)
  rw [sw_GwGw]
  replace h19 : M19 70 = some (sw_o 10 [sw_i 0, .ref (al1 71), sw_i 0, sw_i 0, sw_i 0, .ref (al2 72), .ref (al3 73), .ref (al4 74), .ref (al5 75), .ref (al6 76), .ref (al7 77), .ref (al8 78), .ref (al9 79), .ref (al10 80), sw_i 0, .ref (al11 81), sw_j 0, sw_j 0, .ref (al12 82), sw_i 0, .ref (al13 83), sw_i 0, sw_i 0, sw_i 0, .ref (al14 84), .ref (al15 85), sw_i 0, sw_i 0, sw_j 0, sw_j 0, sw_j 0, sw_j 0, sw_j 0, sw_j 0, sw_j 0, sw_i 0, sw_i 0, sw_i 0, sw_i 0, sw_i 0, .ref (al16 86), .ref (al17 87), .ref (al18 88), .ref (al19 89), .null, sw_i 0, sw_i 0, sw_i 0, .null, .null, sw_i 0, sw_i 0, sw_i 0, sw_j 0]) := h19
  refine v_aload_n dX10_init_152 rfl ?_
  refine v_iconst dX10_init_153 ?_
  refine rI_step (n := 4) (k := 44) (t := 90) h19 ((fr19 90 (by decide) (by decide)).trans ((fr18 90 (by decide) (by decide)).trans ((fr17 90 (by decide) (by decide)).trans ((fr16 90 (by decide) (by decide)).trans ((fr15 90 (by decide) (by decide)).trans ((fr14 90 (by decide) (by decide)).trans ((fr13 90 (by decide) (by decide)).trans ((fr12 90 (by decide) (by decide)).trans ((fr11 90 (by decide) (by decide)).trans ((fr10 90 (by decide) (by decide)).trans ((fr9 90 (by decide) (by decide)).trans ((fr8 90 (by decide) (by decide)).trans ((fr7 90 (by decide) (by decide)).trans ((fr6 90 (by decide) (by decide)).trans ((fr5 90 (by decide) (by decide)).trans ((fr4 90 (by decide) (by decide)).trans ((fr3 90 (by decide) (by decide)).trans ((fr2 90 (by decide) (by decide)).trans ((fr1 90 (by decide) (by decide)).trans (hn 90 (by omega) (by omega))))))))))))))))))))) (by decide) (Nat.le_of_ble_eq_true rfl) rfl fp_X10_67 (Nat.le_of_ble_eq_true rfl) (Nat.le_of_ble_eq_true rfl) (Nat.le_of_ble_eq_true rfl) dX10_init_154 dX10_init_156 (fun al20 M20 ha20 h20 c20 fr20 => ?_)
  rw [sw_GwGw]
  replace h20 : M20 70 = some (sw_o 10 [sw_i 0, .ref (al1 71), sw_i 0, sw_i 0, sw_i 0, .ref (al2 72), .ref (al3 73), .ref (al4 74), .ref (al5 75), .ref (al6 76), .ref (al7 77), .ref (al8 78), .ref (al9 79), .ref (al10 80), sw_i 0, .ref (al11 81), sw_j 0, sw_j 0, .ref (al12 82), sw_i 0, .ref (al13 83), sw_i 0, sw_i 0, sw_i 0, .ref (al14 84), .ref (al15 85), sw_i 0, sw_i 0, sw_j 0, sw_j 0, sw_j 0, sw_j 0, sw_j 0, sw_j 0, sw_j 0, sw_i 0, sw_i 0, sw_i 0, sw_i 0, sw_i 0, .ref (al16 86), .ref (al17 87), .ref (al18 88), .ref (al19 89), .ref (al20 90), sw_i 0, sw_i 0, sw_i 0, .null, .null, sw_i 0, sw_i 0, sw_i 0, sw_j 0]) := h20
  refine v_aload_n dX10_init_159 rfl ?_
  refine v_bipush dX10_init_160 (by decide +kernel) ?_
  refine rI_step (n := 20) (k := 48) (t := 91) h20 ((fr20 91 (by decide) (by decide)).trans ((fr19 91 (by decide) (by decide)).trans ((fr18 91 (by decide) (by decide)).trans ((fr17 91 (by decide) (by decide)).trans ((fr16 91 (by decide) (by decide)).trans ((fr15 91 (by decide) (by decide)).trans ((fr14 91 (by decide) (by decide)).trans ((fr13 91 (by decide) (by decide)).trans ((fr12 91 (by decide) (by decide)).trans ((fr11 91 (by decide) (by decide)).trans ((fr10 91 (by decide) (by decide)).trans ((fr9 91 (by decide) (by decide)).trans ((fr8 91 (by decide) (by decide)).trans ((fr7 91 (by decide) (by decide)).trans ((fr6 91 (by decide) (by decide)).trans ((fr5 91 (by decide) (by decide)).trans ((fr4 91 (by decide) (by decide)).trans ((fr3 91 (by decide) (by decide)).trans ((fr2 91 (by decide) (by decide)).trans ((fr1 91 (by decide) (by decide)).trans (hn 91 (by omega) (by omega)))))))))))))))))))))) (by decide) (Nat.le_of_ble_eq_true rfl) rfl fp_X10_70 (Nat.le_of_ble_eq_true rfl) (Nat.le_of_ble_eq_true rfl) (Nat.le_of_ble_eq_true rfl) dX10_init_162 dX10_init_164 (fun al21 M21 ha21 h21 c21 fr21 => ?_)
  rw [sw_GwGw]
  replace h21 : M21 70 = some (sw_o 10 [sw_i 0, .ref (al1 71), sw_i 0, sw_i 0, sw_i 0, .ref (al2 72), .ref (al3 73), .ref (al4 74), .ref (al5 75), .ref (al6 76), .ref (al7 77), .ref (al8 78), .ref (al9 79), .ref (al10 80), sw_i 0, .ref (al11 81), sw_j 0, sw_j 0, .ref (al12 82), sw_i 0, .ref (al13 83), sw_i 0, sw_i 0, sw_i 0, .ref (al14 84), .ref (al15 85), sw_i 0, sw_i 0, sw_j 0, sw_j 0, sw_j 0, sw_j 0, sw_j 0, sw_j 0, sw_j 0, sw_i 0, sw_i 0, sw_i 0, sw_i 0, sw_i 0, .ref (al16 86), .ref (al17 87), .ref (al18 88), .ref (al19 89), .ref (al20 90), sw_i 0, sw_i 0, sw_i 0, .ref (al21 91), .null, sw_i 0, sw_i 0, sw_i 0, sw_j 0]) := h21
  refine v_aload_n dX10_init_167 rfl ?_
  refine v_iconst dX10_init_168 ?_
  refine rI_step (n := 4) (k := 49) (t := 92) h21 ((fr21 92 (by decide) (by decide)).trans ((fr20 92 (by decide) (by decide)).trans ((fr19 92 (by decide) (by decide)).trans ((fr18 92 (by decide) (by decide)).trans ((fr17 92 (by decide) (by decide)).trans ((fr16 92 (by decide) (by decide)).trans ((fr15 92 (by decide) (by decide)).trans ((fr14 92 (by decide) (by decide)).trans ((fr13 92 (by decide) (by decide)).trans ((fr12 92 (by decide) (by decide)).trans ((fr11 92 (by decide) (by decide)).trans ((fr10 92 (by decide) (by decide)).trans ((fr9 92 (by decide) (by decide)).trans ((fr8 92 (by decide) (by decide)).trans ((fr7 92 (by decide) (by decide)).trans ((fr6 92 (by decide) (by decide)).trans ((fr5 92 (by decide) (by decide)).trans ((fr4 92 (by decide) (by decide)).trans ((fr3 92 (by decide) (by decide)).trans ((fr2 92 (by decide) (by decide)).trans ((fr1 92 (by decide) (by decide)).trans (hn 92 (by omega) (by omega))))))))))))))))))))))) (by decide) (Nat.le_of_ble_eq_true rfl) rfl fp_X10_73 (Nat.le_of_ble_eq_true rfl) (Nat.le_of_ble_eq_true rfl) (Nat.le_of_ble_eq_true rfl) dX10_init_169 dX10_init_171 (fun al22 M22 ha22 h22 c22 fr22 => ?_)
  rw [sw_GwGw]
  replace h22 : M22 70 = some (sw_o 10 [sw_i 0, .ref (al1 71), sw_i 0, sw_i 0, sw_i 0, .ref (al2 72), .ref (al3 73), .ref (al4 74), .ref (al5 75), .ref (al6 76), .ref (al7 77), .ref (al8 78), .ref (al9 79), .ref (al10 80), sw_i 0, .ref (al11 81), sw_j 0, sw_j 0, .ref (al12 82), sw_i 0, .ref (al13 83), sw_i 0, sw_i 0, sw_i 0, .ref (al14 84), .ref (al15 85), sw_i 0, sw_i 0, sw_j 0, sw_j 0, sw_j 0, sw_j 0, sw_j 0, sw_j 0, sw_j 0, sw_i 0, sw_i 0, sw_i 0, sw_i 0, sw_i 0, .ref (al16 86), .ref (al17 87), .ref (al18 88), .ref (al19 89), .ref (al20 90), sw_i 0, sw_i 0, sw_i 0, .ref (al21 91), .ref (al22 92), sw_i 0, sw_i 0, sw_i 0, sw_j 0]) := h22
  obtain ⟨M9, hM9⟩ : ∃ N, M22 = N := ⟨_, rfl⟩
  have g1 : al22 71 = al1 71 := (ha22 71 (by decide)).trans ((ha21 71 (by decide)).trans ((ha20 71 (by decide)).trans ((ha19 71 (by decide)).trans ((ha18 71 (by decide)).trans ((ha17 71 (by decide)).trans ((ha16 71 (by decide)).trans ((ha15 71 (by decide)).trans ((ha14 71 (by decide)).trans ((ha13 71 (by decide)).trans ((ha12 71 (by decide)).trans ((ha11 71 (by decide)).trans ((ha10 71 (by decide)).trans ((ha9 71 (by decide)).trans ((ha8 71 (by decide)).trans ((ha7 71 (by decide)).trans ((ha6 71 (by decide)).trans ((ha5 71 (by decide)).trans ((ha4 71 (by decide)).trans ((ha3 71 (by decide)).trans (ha2 71 (by decide)))))))))))))))))))))
  have g2 : al22 72 = al2 72 := (ha22 72 (by decide)).trans ((ha21 72 (by decide)).trans ((ha20 72 (by decide)).trans ((ha19 72 (by decide)).trans ((ha18 72 (by decide)).trans ((ha17 72 (by decide)).trans ((ha16 72 (by decide)).trans ((ha15 72 (by decide)).trans ((ha14 72 (by decide)).trans ((ha13 72 (by decide)).trans ((ha12 72 (by decide)).trans ((ha11 72 (by decide)).trans ((ha10 72 (by decide)).trans ((ha9 72 (by decide)).trans ((ha8 72 (by decide)).trans ((ha7 72 (by decide)).trans ((ha6 72 (by decide)).trans ((ha5 72 (by decide)).trans ((ha4 72 (by decide)).trans (ha3 72 (by decide))))))))))))))))))))
  have g3 : al22 73 = al3 73 := (ha22 73 (by decide)).trans ((ha21 73 (by decide)).trans ((ha20 73 (by decide)).trans ((ha19 73 (by decide)).trans ((ha18 73 (by decide)).trans ((ha17 73 (by decide)).trans ((ha16 73 (by decide)).trans ((ha15 73 (by decide)).trans ((ha14 73 (by decide)).trans ((ha13 73 (by decide)).trans ((ha12 73 (by decide)).trans ((ha11 73 (by decide)).trans ((ha10 73 (by decide)).trans ((ha9 73 (by decide)).trans ((ha8 73 (by decide)).trans ((ha7 73 (by decide)).trans ((ha6 73 (by decide)).trans ((ha5 73 (by decide)).trans (ha4 73 (by decide)))))))))))))))))))
  have g4 : al22 74 = al4 74 := (ha22 74 (by decide)).trans ((ha21 74 (by decide)).trans ((ha20 74 (by decide)).trans ((ha19 74 (by decide)).trans ((ha18 74 (by decide)).trans ((ha17 74 (by decide)).trans ((ha16 74 (by decide)).trans ((ha15 74 (by decide)).trans ((ha14 74 (by decide)).trans ((ha13 74 (by decide)).trans ((ha12 74 (by decide)).trans ((ha11 74 (by decide)).trans ((ha10 74 (by decide)).trans ((ha9 74 (by decide)).trans ((ha8 74 (by decide)).trans ((ha7 74 (by decide)).trans ((ha6 74 (by decide)).trans (ha5 74 (by decide))))))))))))))))))
  have g5 : al22 75 = al5 75 := (ha22 75 (by decide)).trans ((ha21 75 (by decide)).trans ((ha20 75 (by decide)).trans ((ha19 75 (by decide)).trans ((ha18 75 (by decide)).trans ((ha17 75 (by decide)).trans ((ha16 75 (by decide)).trans ((ha15 75 (by decide)).trans ((ha14 75 (by decide)).trans ((ha13 75 (by decide)).trans ((ha12 75 (by decide)).trans ((ha11 75 (by decide)).trans ((ha10 75 (by decide)).trans ((ha9 75 (by decide)).trans ((ha8 75 (by decide)).trans ((ha7 75 (by decide)).trans (ha6 75 (by decide)))))))))))))))))
  have g6 : al22 76 = al6 76 := (ha22 76 (by decide)).trans ((ha21 76 (by decide)).trans ((ha20 76 (by decide)).trans ((ha19 76 (by decide)).trans ((ha18 76 (by decide)).trans ((ha17 76 (by decide)).trans ((ha16 76 (by decide)).trans ((ha15 76 (by decide)).trans ((ha14 76 (by decide)).trans ((ha13 76 (by decide)).trans ((ha12 76 (by decide)).trans ((ha11 76 (by decide)).trans ((ha10 76 (by decide)).trans ((ha9 76 (by decide)).trans ((ha8 76 (by decide)).trans (ha7 76 (by decide))))))))))))))))
  have g7 : al22 77 = al7 77 := (ha22 77 (by decide)).trans ((ha21 77 (by decide)).trans ((ha20 77 (by decide)).trans ((ha19 77 (by decide)).trans ((ha18 77 (by decide)).trans ((ha17 77 (by decide)).trans ((ha16 77 (by decide)).trans ((ha15 77 (by decide)).trans ((ha14 77 (by decide)).trans ((ha13 77 (by decide)).trans ((ha12 77 (by decide)).trans ((ha11 77 (by decide)).trans ((ha10 77 (by decide)).trans ((ha9 77 (by decide)).trans (ha8 77 (by decide)))))))))))))))
  have g8 : al22 78 = al8 78 := (ha22 78 (by decide)).trans ((ha21 78 (by decide)).trans ((ha20 78 (by decide)).trans ((ha19 78 (by decide)).trans ((ha18 78 (by decide)).trans ((ha17 78 (by decide)).trans ((ha16 78 (by decide)).trans ((ha15 78 (by decide)).trans ((ha14 78 (by decide)).trans ((ha13 78 (by decide)).trans ((ha12 78 (by decide)).trans ((ha11 78 (by decide)).trans ((ha10 78 (by decide)).trans (ha9 78 (by decide))))))))))))))
  have g9 : al22 79 = al9 79 := (ha22 79 (by decide)).trans ((ha21 79 (by decide)).trans ((ha20 79 (by decide)).trans ((ha19 79 (by decide)).trans ((ha18 79 (by decide)).trans ((ha17 79 (by decide)).trans ((ha16 79 (by decide)).trans ((ha15 79 (by decide)).trans ((ha14 79 (by decide)).trans ((ha13 79 (by decide)).trans ((ha12 79 (by decide)).trans ((ha11 79 (by decide)).trans (ha10 79 (by decide)))))))))))))
  have g10 : al22 80 = al10 80 := (ha22 80 (by decide)).trans ((ha21 80 (by decide)).trans ((ha20 80 (by decide)).trans ((ha19 80 (by decide)).trans ((ha18 80 (by decide)).trans ((ha17 80 (by decide)).trans ((ha16 80 (by decide)).trans ((ha15 80 (by decide)).trans ((ha14 80 (by decide)).trans ((ha13 80 (by decide)).trans ((ha12 80 (by decide)).trans (ha11 80 (by decide))))))))))))
  have g11 : al22 81 = al11 81 := (ha22 81 (by decide)).trans ((ha21 81 (by decide)).trans ((ha20 81 (by decide)).trans ((ha19 81 (by decide)).trans ((ha18 81 (by decide)).trans ((ha17 81 (by decide)).trans ((ha16 81 (by decide)).trans ((ha15 81 (by decide)).trans ((ha14 81 (by decide)).trans ((ha13 81 (by decide)).trans (ha12 81 (by decide)))))))))))
  have g12 : al22 82 = al12 82 := (ha22 82 (by decide)).trans ((ha21 82 (by decide)).trans ((ha20 82 (by decide)).trans ((ha19 82 (by decide)).trans ((ha18 82 (by decide)).trans ((ha17 82 (by decide)).trans ((ha16 82 (by decide)).trans ((ha15 82 (by decide)).trans ((ha14 82 (by decide)).trans (ha13 82 (by decide))))))))))
  have g13 : al22 83 = al13 83 := (ha22 83 (by decide)).trans ((ha21 83 (by decide)).trans ((ha20 83 (by decide)).trans ((ha19 83 (by decide)).trans ((ha18 83 (by decide)).trans ((ha17 83 (by decide)).trans ((ha16 83 (by decide)).trans ((ha15 83 (by decide)).trans (ha14 83 (by decide)))))))))
  have g14 : al22 84 = al14 84 := (ha22 84 (by decide)).trans ((ha21 84 (by decide)).trans ((ha20 84 (by decide)).trans ((ha19 84 (by decide)).trans ((ha18 84 (by decide)).trans ((ha17 84 (by decide)).trans ((ha16 84 (by decide)).trans (ha15 84 (by decide))))))))
  have g15 : al22 85 = al15 85 := (ha22 85 (by decide)).trans ((ha21 85 (by decide)).trans ((ha20 85 (by decide)).trans ((ha19 85 (by decide)).trans ((ha18 85 (by decide)).trans ((ha17 85 (by decide)).trans (ha16 85 (by decide)))))))
  have g16 : al22 86 = al16 86 := (ha22 86 (by decide)).trans ((ha21 86 (by decide)).trans ((ha20 86 (by decide)).trans ((ha19 86 (by decide)).trans ((ha18 86 (by decide)).trans (ha17 86 (by decide))))))
  have g17 : al22 87 = al17 87 := (ha22 87 (by decide)).trans ((ha21 87 (by decide)).trans ((ha20 87 (by decide)).trans ((ha19 87 (by decide)).trans (ha18 87 (by decide)))))
  have g18 : al22 88 = al18 88 := (ha22 88 (by decide)).trans ((ha21 88 (by decide)).trans ((ha20 88 (by decide)).trans (ha19 88 (by decide))))
  have g19 : al22 89 = al19 89 := (ha22 89 (by decide)).trans ((ha21 89 (by decide)).trans (ha20 89 (by decide)))
  have g20 : al22 90 = al20 90 := (ha22 90 (by decide)).trans (ha21 90 (by decide))
  have g21 : al22 91 = al21 91 := ha22 91 (by decide)
  rw [← g1, ← g2, ← g3, ← g4, ← g5, ← g6, ← g7, ← g8, ← g9, ← g10, ← g11, ← g12, ← g13, ← g14, ← g15, ← g16, ← g17, ← g18, ← g19, ← g20, ← g21] at h22
  have k1 : M22 71 = some (sw_ia 240 z0) := (fr22 71 (by decide) (by decide)).trans ((fr21 71 (by decide) (by decide)).trans ((fr20 71 (by decide) (by decide)).trans ((fr19 71 (by decide) (by decide)).trans ((fr18 71 (by decide) (by decide)).trans ((fr17 71 (by decide) (by decide)).trans ((fr16 71 (by decide) (by decide)).trans ((fr15 71 (by decide) (by decide)).trans ((fr14 71 (by decide) (by decide)).trans ((fr13 71 (by decide) (by decide)).trans ((fr12 71 (by decide) (by decide)).trans ((fr11 71 (by decide) (by decide)).trans ((fr10 71 (by decide) (by decide)).trans ((fr9 71 (by decide) (by decide)).trans ((fr8 71 (by decide) (by decide)).trans ((fr7 71 (by decide) (by decide)).trans ((fr6 71 (by decide) (by decide)).trans ((fr5 71 (by decide) (by decide)).trans ((fr4 71 (by decide) (by decide)).trans ((fr3 71 (by decide) (by decide)).trans ((fr2 71 (by decide) (by decide)).trans (c1)))))))))))))))))))))
  have k2 : M22 72 = some (sw_ia 9 z0) := (fr22 72 (by decide) (by decide)).trans ((fr21 72 (by decide) (by decide)).trans ((fr20 72 (by decide) (by decide)).trans ((fr19 72 (by decide) (by decide)).trans ((fr18 72 (by decide) (by decide)).trans ((fr17 72 (by decide) (by decide)).trans ((fr16 72 (by decide) (by decide)).trans ((fr15 72 (by decide) (by decide)).trans ((fr14 72 (by decide) (by decide)).trans ((fr13 72 (by decide) (by decide)).trans ((fr12 72 (by decide) (by decide)).trans ((fr11 72 (by decide) (by decide)).trans ((fr10 72 (by decide) (by decide)).trans ((fr9 72 (by decide) (by decide)).trans ((fr8 72 (by decide) (by decide)).trans ((fr7 72 (by decide) (by decide)).trans ((fr6 72 (by decide) (by decide)).trans ((fr5 72 (by decide) (by decide)).trans ((fr4 72 (by decide) (by decide)).trans ((fr3 72 (by decide) (by decide)).trans (c2))))))))))))))))))))
  have k3 : M22 73 = some (sw_ia 9 z0) := (fr22 73 (by decide) (by decide)).trans ((fr21 73 (by decide) (by decide)).trans ((fr20 73 (by decide) (by decide)).trans ((fr19 73 (by decide) (by decide)).trans ((fr18 73 (by decide) (by decide)).trans ((fr17 73 (by decide) (by decide)).trans ((fr16 73 (by decide) (by decide)).trans ((fr15 73 (by decide) (by decide)).trans ((fr14 73 (by decide) (by decide)).trans ((fr13 73 (by decide) (by decide)).trans ((fr12 73 (by decide) (by decide)).trans ((fr11 73 (by decide) (by decide)).trans ((fr10 73 (by decide) (by decide)).trans ((fr9 73 (by decide) (by decide)).trans ((fr8 73 (by decide) (by decide)).trans ((fr7 73 (by decide) (by decide)).trans ((fr6 73 (by decide) (by decide)).trans ((fr5 73 (by decide) (by decide)).trans ((fr4 73 (by decide) (by decide)).trans (c3)))))))))))))))))))
  have k4 : M22 74 = some (sw_ia 72 z0) := (fr22 74 (by decide) (by decide)).trans ((fr21 74 (by decide) (by decide)).trans ((fr20 74 (by decide) (by decide)).trans ((fr19 74 (by decide) (by decide)).trans ((fr18 74 (by decide) (by decide)).trans ((fr17 74 (by decide) (by decide)).trans ((fr16 74 (by decide) (by decide)).trans ((fr15 74 (by decide) (by decide)).trans ((fr14 74 (by decide) (by decide)).trans ((fr13 74 (by decide) (by decide)).trans ((fr12 74 (by decide) (by decide)).trans ((fr11 74 (by decide) (by decide)).trans ((fr10 74 (by decide) (by decide)).trans ((fr9 74 (by decide) (by decide)).trans ((fr8 74 (by decide) (by decide)).trans ((fr7 74 (by decide) (by decide)).trans ((fr6 74 (by decide) (by decide)).trans ((fr5 74 (by decide) (by decide)).trans (c4))))))))))))))))))
  have k5 : M22 75 = some (sw_ia 72 z0) := (fr22 75 (by decide) (by decide)).trans ((fr21 75 (by decide) (by decide)).trans ((fr20 75 (by decide) (by decide)).trans ((fr19 75 (by decide) (by decide)).trans ((fr18 75 (by decide) (by decide)).trans ((fr17 75 (by decide) (by decide)).trans ((fr16 75 (by decide) (by decide)).trans ((fr15 75 (by decide) (by decide)).trans ((fr14 75 (by decide) (by decide)).trans ((fr13 75 (by decide) (by decide)).trans ((fr12 75 (by decide) (by decide)).trans ((fr11 75 (by decide) (by decide)).trans ((fr10 75 (by decide) (by decide)).trans ((fr9 75 (by decide) (by decide)).trans ((fr8 75 (by decide) (by decide)).trans ((fr7 75 (by decide) (by decide)).trans ((fr6 75 (by decide) (by decide)).trans (c5)))))))))))))))))
  have k6 : M22 76 = some (sw_ia 360 z0) := (fr22 76 (by decide) (by decide)).trans ((fr21 76 (by decide) (by decide)).trans ((fr20 76 (by decide) (by decide)).trans ((fr19 76 (by decide) (by decide)).trans ((fr18 76 (by decide) (by decide)).trans ((fr17 76 (by decide) (by decide)).trans ((fr16 76 (by decide) (by decide)).trans ((fr15 76 (by decide) (by decide)).trans ((fr14 76 (by decide) (by decide)).trans ((fr13 76 (by decide) (by decide)).trans ((fr12 76 (by decide) (by decide)).trans ((fr11 76 (by decide) (by decide)).trans ((fr10 76 (by decide) (by decide)).trans ((fr9 76 (by decide) (by decide)).trans ((fr8 76 (by decide) (by decide)).trans ((fr7 76 (by decide) (by decide)).trans (c6))))))))))))))))
  have k7 : M22 77 = some (sw_ia 9 z0) := (fr22 77 (by decide) (by decide)).trans ((fr21 77 (by decide) (by decide)).trans ((fr20 77 (by decide) (by decide)).trans ((fr19 77 (by decide) (by decide)).trans ((fr18 77 (by decide) (by decide)).trans ((fr17 77 (by decide) (by decide)).trans ((fr16 77 (by decide) (by decide)).trans ((fr15 77 (by decide) (by decide)).trans ((fr14 77 (by decide) (by decide)).trans ((fr13 77 (by decide) (by decide)).trans ((fr12 77 (by decide) (by decide)).trans ((fr11 77 (by decide) (by decide)).trans ((fr10 77 (by decide) (by decide)).trans ((fr9 77 (by decide) (by decide)).trans ((fr8 77 (by decide) (by decide)).trans (c7)))))))))))))))
  have k8 : M22 78 = some (sw_ia 9 z0) := (fr22 78 (by decide) (by decide)).trans ((fr21 78 (by decide) (by decide)).trans ((fr20 78 (by decide) (by decide)).trans ((fr19 78 (by decide) (by decide)).trans ((fr18 78 (by decide) (by decide)).trans ((fr17 78 (by decide) (by decide)).trans ((fr16 78 (by decide) (by decide)).trans ((fr15 78 (by decide) (by decide)).trans ((fr14 78 (by decide) (by decide)).trans ((fr13 78 (by decide) (by decide)).trans ((fr12 78 (by decide) (by decide)).trans ((fr11 78 (by decide) (by decide)).trans ((fr10 78 (by decide) (by decide)).trans ((fr9 78 (by decide) (by decide)).trans (c8))))))))))))))
  have k9 : M22 79 = some (sw_ia 9 z0) := (fr22 79 (by decide) (by decide)).trans ((fr21 79 (by decide) (by decide)).trans ((fr20 79 (by decide) (by decide)).trans ((fr19 79 (by decide) (by decide)).trans ((fr18 79 (by decide) (by decide)).trans ((fr17 79 (by decide) (by decide)).trans ((fr16 79 (by decide) (by decide)).trans ((fr15 79 (by decide) (by decide)).trans ((fr14 79 (by decide) (by decide)).trans ((fr13 79 (by decide) (by decide)).trans ((fr12 79 (by decide) (by decide)).trans ((fr11 79 (by decide) (by decide)).trans ((fr10 79 (by decide) (by decide)).trans (c9)))))))))))))
  have k10 : M22 80 = some (sw_ia 32 z0) := (fr22 80 (by decide) (by decide)).trans ((fr21 80 (by decide) (by decide)).trans ((fr20 80 (by decide) (by decide)).trans ((fr19 80 (by decide) (by decide)).trans ((fr18 80 (by decide) (by decide)).trans ((fr17 80 (by decide) (by decide)).trans ((fr16 80 (by decide) (by decide)).trans ((fr15 80 (by decide) (by decide)).trans ((fr14 80 (by decide) (by decide)).trans ((fr13 80 (by decide) (by decide)).trans ((fr12 80 (by decide) (by decide)).trans ((fr11 80 (by decide) (by decide)).trans (c10))))))))))))
  have k11 : M22 81 = some (sw_ia 5 z0) := (fr22 81 (by decide) (by decide)).trans ((fr21 81 (by decide) (by decide)).trans ((fr20 81 (by decide) (by decide)).trans ((fr19 81 (by decide) (by decide)).trans ((fr18 81 (by decide) (by decide)).trans ((fr17 81 (by decide) (by decide)).trans ((fr16 81 (by decide) (by decide)).trans ((fr15 81 (by decide) (by decide)).trans ((fr14 81 (by decide) (by decide)).trans ((fr13 81 (by decide) (by decide)).trans ((fr12 81 (by decide) (by decide)).trans (c11)))))))))))
  have k12 : M22 82 = some (sw_ia 50 z0) := (fr22 82 (by decide) (by decide)).trans ((fr21 82 (by decide) (by decide)).trans ((fr20 82 (by decide) (by decide)).trans ((fr19 82 (by decide) (by decide)).trans ((fr18 82 (by decide) (by decide)).trans ((fr17 82 (by decide) (by decide)).trans ((fr16 82 (by decide) (by decide)).trans ((fr15 82 (by decide) (by decide)).trans ((fr14 82 (by decide) (by decide)).trans ((fr13 82 (by decide) (by decide)).trans (c12))))))))))
  have k13 : M22 83 = some (sw_ia 20 z0) := (fr22 83 (by decide) (by decide)).trans ((fr21 83 (by decide) (by decide)).trans ((fr20 83 (by decide) (by decide)).trans ((fr19 83 (by decide) (by decide)).trans ((fr18 83 (by decide) (by decide)).trans ((fr17 83 (by decide) (by decide)).trans ((fr16 83 (by decide) (by decide)).trans ((fr15 83 (by decide) (by decide)).trans ((fr14 83 (by decide) (by decide)).trans (c13)))))))))
  have k14 : M22 84 = some (sw_ia 4 z0) := (fr22 84 (by decide) (by decide)).trans ((fr21 84 (by decide) (by decide)).trans ((fr20 84 (by decide) (by decide)).trans ((fr19 84 (by decide) (by decide)).trans ((fr18 84 (by decide) (by decide)).trans ((fr17 84 (by decide) (by decide)).trans ((fr16 84 (by decide) (by decide)).trans ((fr15 84 (by decide) (by decide)).trans (c14))))))))
  have k15 : M22 85 = some (sw_ia 4 z0) := (fr22 85 (by decide) (by decide)).trans ((fr21 85 (by decide) (by decide)).trans ((fr20 85 (by decide) (by decide)).trans ((fr19 85 (by decide) (by decide)).trans ((fr18 85 (by decide) (by decide)).trans ((fr17 85 (by decide) (by decide)).trans ((fr16 85 (by decide) (by decide)).trans (c15)))))))
  have k16 : M22 86 = some (sw_ia 105 z0) := (fr22 86 (by decide) (by decide)).trans ((fr21 86 (by decide) (by decide)).trans ((fr20 86 (by decide) (by decide)).trans ((fr19 86 (by decide) (by decide)).trans ((fr18 86 (by decide) (by decide)).trans ((fr17 86 (by decide) (by decide)).trans (c16))))))
  have k17 : M22 87 = some (sw_ia 5 z0) := (fr22 87 (by decide) (by decide)).trans ((fr21 87 (by decide) (by decide)).trans ((fr20 87 (by decide) (by decide)).trans ((fr19 87 (by decide) (by decide)).trans ((fr18 87 (by decide) (by decide)).trans (c17)))))
  have k18 : M22 88 = some (sw_ia 4 z0) := (fr22 88 (by decide) (by decide)).trans ((fr21 88 (by decide) (by decide)).trans ((fr20 88 (by decide) (by decide)).trans ((fr19 88 (by decide) (by decide)).trans (c18))))
  have k19 : M22 89 = some (sw_ia 4 z0) := (fr22 89 (by decide) (by decide)).trans ((fr21 89 (by decide) (by decide)).trans ((fr20 89 (by decide) (by decide)).trans (c19)))
  have k20 : M22 90 = some (sw_ia 4 z0) := (fr22 90 (by decide) (by decide)).trans ((fr21 90 (by decide) (by decide)).trans (c20))
  have k21 : M22 91 = some (sw_ia 20 z0) := (fr22 91 (by decide) (by decide)).trans (c21)
  have k22 : M22 92 = some (sw_ia 4 z0) := c22
  have hM : RS (sw_Gw G al22) M22 (fun _ => 0) (fun _ => z0) := by
    refine ⟨h22, fun q hq => ?_⟩
    simp only [arL, List.mem_cons, List.not_mem_nil, or_false] at hq
    rcases hq with rfl | rfl | rfl | rfl | rfl | rfl | rfl | rfl | rfl | rfl | rfl | rfl | rfl | rfl | rfl | rfl | rfl | rfl | rfl | rfl | rfl | rfl
    · exact k1
    · exact k2
    · exact k3
    · exact k4
    · exact k5
    · exact k6
    · exact k7
    · exact k8
    · exact k9
    · exact k10
    · exact k11
    · exact k12
    · exact k13
    · exact k14
    · exact k15
    · exact k16
    · exact k17
    · exact k18
    · exact k19
    · exact k20
    · exact k21
    · exact k22
  have hF : frR M M22 := fun u hu => (fr22 u (by omega) (by omega)).trans ((fr21 u (by omega) (by omega)).trans ((fr20 u (by omega) (by omega)).trans ((fr19 u (by omega) (by omega)).trans ((fr18 u (by omega) (by omega)).trans ((fr17 u (by omega) (by omega)).trans ((fr16 u (by omega) (by omega)).trans ((fr15 u (by omega) (by omega)).trans ((fr14 u (by omega) (by omega)).trans ((fr13 u (by omega) (by omega)).trans ((fr12 u (by omega) (by omega)).trans ((fr11 u (by omega) (by omega)).trans ((fr10 u (by omega) (by omega)).trans ((fr9 u (by omega) (by omega)).trans ((fr8 u (by omega) (by omega)).trans ((fr7 u (by omega) (by omega)).trans ((fr6 u (by omega) (by omega)).trans ((fr5 u (by omega) (by omega)).trans ((fr4 u (by omega) (by omega)).trans ((fr3 u (by omega) (by omega)).trans ((fr2 u (by omega) (by omega)).trans (fr1 u (by omega) (by omega))))))))))))))))))))))
  have hal : ∀ u, u < 71 ∨ 93 ≤ u → al22 u = sw_al G u := fun u hu => (ha22 u (by omega)).trans ((ha21 u (by omega)).trans ((ha20 u (by omega)).trans ((ha19 u (by omega)).trans ((ha18 u (by omega)).trans ((ha17 u (by omega)).trans ((ha16 u (by omega)).trans ((ha15 u (by omega)).trans ((ha14 u (by omega)).trans ((ha13 u (by omega)).trans ((ha12 u (by omega)).trans ((ha11 u (by omega)).trans ((ha10 u (by omega)).trans ((ha9 u (by omega)).trans ((ha8 u (by omega)).trans ((ha7 u (by omega)).trans ((ha6 u (by omega)).trans ((ha5 u (by omega)).trans ((ha4 u (by omega)).trans ((ha3 u (by omega)).trans ((ha2 u (by omega)).trans (ha1 u (by omega))))))))))))))))))))))
  clear hM9 h0 h1 h2 h3 h4 h5 h6 h7 h8 h9 h10 h11 h12 h13 h14 h15 h16 h17 h18 h19 h20 h21 h22 k1 k2 k3 k4 k5 k6 k7 k8 k9 k10 k11 k12 k13 k14 k15 k16 k17 k18 k19 k20 k21 k22 hn
  obtain ⟨G9, hG9⟩ : ∃ N, sw_Gw G al22 = N := ⟨_, rfl⟩
  have h70 : al22 70 = sw_al G9 70 := by rw [← hG9]; rfl
  rw [h70, hG9]
  rw [hG9] at hM
  have loop : ∀ (n : Nat) (i : Int) (M1 : sw_M) (a1 : Nat → Int → Int), 0 ≤ i → i + n = 32 → RS G9 M1 (fun _ => 0) a1 → frR M M1 → (∀ q, q ≠ 13 → a1 q = z0) → (∀ t, 0 ≤ t → t < i → a1 13 t = -1) → V l G9 μX10_init sw_E0 (sw_Zq G μX10_init (fun al r M' => r = none ∧ (∀ u, u < 71 ∨ 93 ≤ u → al u = sw_al G u) ∧ InvR (sw_Gw G al) M' s0 ∧ frR M M')) 176 [(0, .ref (sw_al G9 70)), (1, sw_i i)] [] M1 22 1050 := by
    intro n
    induction n with
    | zero =>
      intro i M1 a1 i0 i1 hM hF hA hB
      have e : i = 32 := by omega
      subst e
      refine v_iload_n dX10_init_176 rfl ?_
      refine v_bipush dX10_init_177 (by decide +kernel) ?_
      refine v_icmp_ge (tgt := 195) dX10_init_179 (by decide) ⟨by omega, by omega⟩ ⟨by omega, by omega⟩ (fun h179 => ?_) (fun h179 => ?_)
      · skip
        subst hG9
        exact va_vretA rfl dX10_init_195 rfl (Nat.le_refl _) (Nat.le_refl _) ⟨rfl, hal, ⟨_, _, hM, rfl, fun i h1 h2 => absurd h2 (Int.not_lt.mpr h1), rfl, rfl, fun i h1 h2 => by rw [hA 18 (by decide)]; rfl, fun i h1 h2 => by rw [hA 42 (by decide)]; rfl, fun k hk => absurd hk (Nat.not_lt_zero _), fun i h1 h2 => hB i h1 h2, rfl, rfl, fun i h1 h2 => absurd h2 (Int.not_lt.mpr h1), fun p j h1 h2 => absurd h2 (Int.not_lt.mpr h1), Int.le_refl _, by decide⟩, hF⟩
      · skip
        exfalso; omega
    | succ n ih =>
      intro i M1 a1 i0 i1 hM hF hA hB
      refine v_iload_n dX10_init_176 rfl ?_
      refine v_bipush dX10_init_177 (by decide +kernel) ?_
      refine v_icmp_ge (tgt := 195) dX10_init_179 (by decide) ⟨by omega, by omega⟩ ⟨by omega, by omega⟩ (fun h179 => ?_) (fun h179 => ?_)
      · skip
        exfalso; omega
      · skip
        refine v_aload_n dX10_init_182 rfl ?_
        refine v_getfH 13 hM.1 fl_X10_37 rfl dX10_init_183 ?_
        refine v_iload_n dX10_init_186 rfl ?_
        refine v_iconst dX10_init_187 ?_
        refine v_ris hM hF ar_13 (by omega) (by omega) dX10_init_188 (fun M hM hF => ?_)
        refine v_iinc dX10_init_189 rfl (Nat.le_of_ble_eq_true rfl) ?_
        refine v_goto (tgt := 176) dX10_init_192 (by decide) ?_
        refine v_to (ih (i + 1) M _ (by omega) (by omega) hM hF (fun q hq => ?_) (fun t h1 h2 => ?_)) rfl (sw_h1 rfl (sw_h1 rfl sw_h0))
        · show (if q = 13 then _ else a1 q) = z0
          rw [if_neg hq]; exact hA q hq
        · show (if (13 : Nat) = 13 then up (a1 13) i (-1) else a1 13) t = -1
          rw [if_pos rfl]
          unfold up
          by_cases c : t = i
          · rw [if_pos c]
          · rw [if_neg c]; exact hB t h1 (by omega)
  refine v_iconst dX10_init_174 ?_
  refine v_istore_n dX10_init_175 (Nat.le_of_ble_eq_true rfl) ?_
  exact v_to (loop 32 0 _ _ (by omega) (by omega) hM hF (fun _ _ => rfl) (fun t h1 h2 => absurd h2 (Int.not_lt.mpr h1))) rfl (sw_h1 rfl (sw_h1 rfl sw_h0))
end

