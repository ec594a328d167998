/-! constructors -/
theorem io_Obj : Cond.instanceMethod Lib.objectInit ∈ sw_U := sw_in 104 (by decide +kernel) (by decide +kernel)
theorem mc_Obj : Cond.code Lib.objectInit { data := #[177] } 1 none ∈ sw_U := sw_in 105 (by decide +kernel) (by decide +kernel)
def μX5_init : sw_Mt := (yX5_init, cX5_init, 1, none, 2, 4, 60)
theorem mc_X5_init : Cond.code yX5_init cX5_init 1 none ∈ sw_U := sw_in 116 (by decide +kernel) (by decide +kernel)
theorem mi_X5_init : Cond.instanceMethod yX5_init ∈ sw_U := sw_in 115 (by decide +kernel) (by decide +kernel)
theorem mlO_X5 : Cond.methodLink RX5 3 Lib.objectInit ∈ sw_U := sw_in 117 (by decide +kernel) (by decide +kernel)
theorem mm_X5_init : sw_mo μX5_init := ⟨mc_X5_init, by decide +kernel, by decide +kernel, ui_X5, by decide +kernel⟩
def μX7_init : sw_Mt := (yX7_init, cX7_init, 1, none, 3, 6, 311)
theorem mc_X7_init : Cond.code yX7_init cX7_init 1 none ∈ sw_U := sw_in 110 (by decide +kernel) (by decide +kernel)
theorem mi_X7_init : Cond.instanceMethod yX7_init ∈ sw_U := sw_in 109 (by decide +kernel) (by decide +kernel)
theorem mlO_X7 : Cond.methodLink RX7 3 Lib.objectInit ∈ sw_U := sw_in 111 (by decide +kernel) (by decide +kernel)
theorem mm_X7_init : sw_mo μX7_init := ⟨mc_X7_init, by decide +kernel, by decide +kernel, ui_X7, by decide +kernel⟩
def μX1_init : sw_Mt := (yX1_init, cX1_init, 1, none, 3, 8, 135)
theorem mc_X1_init : Cond.code yX1_init cX1_init 1 none ∈ sw_U := sw_in 214 (by decide +kernel) (by decide +kernel)
theorem mi_X1_init : Cond.instanceMethod yX1_init ∈ sw_U := sw_in 213 (by decide +kernel) (by decide +kernel)
theorem mlO_X1 : Cond.methodLink RX1 3 Lib.objectInit ∈ sw_U := sw_in 215 (by decide +kernel) (by decide +kernel)
theorem mm_X1_init : sw_mo μX1_init := ⟨mc_X1_init, by decide +kernel, by decide +kernel, ui_X1, by decide +kernel⟩
def μX2_init : sw_Mt := (yX2_init, cX2_init, 1, none, 3, 8, 99)
theorem mc_X2_init : Cond.code yX2_init cX2_init 1 none ∈ sw_U := sw_in 406 (by decide +kernel) (by decide +kernel)
theorem mi_X2_init : Cond.instanceMethod yX2_init ∈ sw_U := sw_in 405 (by decide +kernel) (by decide +kernel)
theorem mlO_X2 : Cond.methodLink RX2 3 Lib.objectInit ∈ sw_U := sw_in 407 (by decide +kernel) (by decide +kernel)
theorem mm_X2_init : sw_mo μX2_init := ⟨mc_X2_init, by decide +kernel, by decide +kernel, ui_X2, by decide +kernel⟩
def μX6_init : sw_Mt := (yX6_init, cX6_init, 1, none, 2, 3, 44)
theorem mc_X6_init : Cond.code yX6_init cX6_init 1 none ∈ sw_U := sw_in 275 (by decide +kernel) (by decide +kernel)
theorem mi_X6_init : Cond.instanceMethod yX6_init ∈ sw_U := sw_in 274 (by decide +kernel) (by decide +kernel)
theorem mlO_X6 : Cond.methodLink RX6 3 Lib.objectInit ∈ sw_U := sw_in 276 (by decide +kernel) (by decide +kernel)
theorem mm_X6_init : sw_mo μX6_init := ⟨mc_X6_init, by decide +kernel, by decide +kernel, ui_X6, by decide +kernel⟩
def μX4_init : sw_Mt := (yX4_init, cX4_init, 1, none, 2, 3, 549)
theorem mc_X4_init : Cond.code yX4_init cX4_init 1 none ∈ sw_U := sw_in 310 (by decide +kernel) (by decide +kernel)
theorem mi_X4_init : Cond.instanceMethod yX4_init ∈ sw_U := sw_in 309 (by decide +kernel) (by decide +kernel)
theorem mlO_X4 : Cond.methodLink RX4 3 Lib.objectInit ∈ sw_U := sw_in 311 (by decide +kernel) (by decide +kernel)
theorem mm_X4_init : sw_mo μX4_init := ⟨mc_X4_init, by decide +kernel, by decide +kernel, ui_X4, by decide +kernel⟩
def μX0_init : sw_Mt := (yX0_init, cX0_init, 1, none, 2, 2, 122)
theorem mc_X0_init : Cond.code yX0_init cX0_init 1 none ∈ sw_U := sw_in 332 (by decide +kernel) (by decide +kernel)
theorem mi_X0_init : Cond.instanceMethod yX0_init ∈ sw_U := sw_in 331 (by decide +kernel) (by decide +kernel)
theorem mlO_X0 : Cond.methodLink RX0 3 Lib.objectInit ∈ sw_U := sw_in 333 (by decide +kernel) (by decide +kernel)
theorem mm_X0_init : sw_mo μX0_init := ⟨mc_X0_init, by decide +kernel, by decide +kernel, ui_X0, by decide +kernel⟩
def μX8_init : sw_Mt := (yX8_init, cX8_init, 1, none, 2, 3, 115)
theorem mc_X8_init : Cond.code yX8_init cX8_init 1 none ∈ sw_U := sw_in 345 (by decide +kernel) (by decide +kernel)
theorem mi_X8_init : Cond.instanceMethod yX8_init ∈ sw_U := sw_in 344 (by decide +kernel) (by decide +kernel)
theorem mlO_X8 : Cond.methodLink RX8 3 Lib.objectInit ∈ sw_U := sw_in 346 (by decide +kernel) (by decide +kernel)
theorem mm_X8_init : sw_mo μX8_init := ⟨mc_X8_init, by decide +kernel, by decide +kernel, ui_X8, by decide +kernel⟩
def μX3_init : sw_Mt := (yX3_init, cX3_init, 1, none, 2, 4, 16)
theorem mc_X3_init : Cond.code yX3_init cX3_init 1 none ∈ sw_U := sw_in 373 (by decide +kernel) (by decide +kernel)
theorem mi_X3_init : Cond.instanceMethod yX3_init ∈ sw_U := sw_in 372 (by decide +kernel) (by decide +kernel)
theorem mlO_X3 : Cond.methodLink RX3 3 Lib.objectInit ∈ sw_U := sw_in 374 (by decide +kernel) (by decide +kernel)
theorem mm_X3_init : sw_mo μX3_init := ⟨mc_X3_init, by decide +kernel, by decide +kernel, ui_X3, by decide +kernel⟩
def μX9_init : sw_Mt := (yX9_init, cX9_init, 1, none, 4, 48, 1505)
theorem mc_X9_init : Cond.code yX9_init cX9_init 1 none ∈ sw_U := sw_in 102 (by decide +kernel) (by decide +kernel)
theorem mi_X9_init : Cond.instanceMethod yX9_init ∈ sw_U := sw_in 101 (by decide +kernel) (by decide +kernel)
theorem mlO_X9 : Cond.methodLink RX9 1 Lib.objectInit ∈ sw_U := sw_in 103 (by decide +kernel) (by decide +kernel)
theorem mm_X9_init : sw_mo μX9_init := ⟨mc_X9_init, by decide +kernel, by decide +kernel, ui_X9, by decide +kernel⟩
section
variable {l : Launch} {G : sw_G} {μ μ' : sw_Mt} {E : State → (Nat → Prop) → Prop} {Z : sw_Z} {pc ix : Nat} {lv : List (Nat × Value)} {st st0 As : List Value} {M : sw_M} {uc us n t : Nat} {QA : (Nat → Nat) → Option Value → sw_M → Prop}
theorem v_objI {q : Nat} (hl : Cond.methodLink (mY μ).cls ix Lib.objectInit ∈ sw_U) (hF : 1 ≤ mF μ ∧ (st.map fun v => v.category).sum + 12 ≤ 64 * mF μ) (hd : decode (mC μ) pc = .ok (.invokespecial ix, 3)) (k : V l G μ E Z (pc + 3) lv st M uc us) : V l G μ E Z pc lv (.ref q :: st) M uc us := by
  intro p e R s m args below meth c A H locs ws ls C hP hD hS hR hl'
  have hw : ∀ w ∈ sw_U, w.before args s = true := fun w h => C.2.2.2.2.1 _ (List.mem_cons_of_mem _ h)
  refine W.objInit C.1 C.2.1 C.2.2.2.1 (hw _ hl) (hw _ io_Obj) (hw _ mc_Obj) rfl (by rw [C.2.2.1]; exact hl'.1) rfl hd (Nat.le_trans hF.1 C.2.2.2.2.2.2.2.1) ?_ ?_
  · have := hF.2
    have := C.2.2.2.2.2.2.2.2.1
    show 2 * 0 + (List.map (fun v => v.category) st).sum + 12 ≤ R.locals
    omega
  · exact k p e R s m args below meth c A H locs ws ls C hP hD hS hR hl'
theorem v_callIN (hK : KtA l G μ' (.ref (sw_al G t) :: As) M QA) (hu : uc + mK μ' ≤ mK μ) (hv : us + mS μ' ≤ mS μ) (hg : sw_mo μ' ∧ Cond.instanceMethod (mY μ') ∈ sw_U) (hy : (mY μ').name = "<init>") (hr : mR μ' = none) (hN : Cond.methodLinkNest (mY μ).cls ix (mY μ') "SorryToWin" ∈ sw_NL) (hcr : sw_CR μ μ') (hpn : (parseMethodDescriptor (mY μ').desc).map (fun d => d.parameters.length) = some n) (hn : As.length = n) (hst : st0 = As.reverse ++ .ref (sw_al G t) :: st) (h8 : (st.map fun v => v.category).sum ≤ 8) (hd : decode (mC μ) pc = .ok (.invokespecial ix, 3))
    (kk : ∀ (al : Nat → Nat) (r : Option Value) (M' : sw_M), QA al r M' → V l (sw_Gw G al) μ E Z (pc + 3) lv (r.toList ++ st) M' (uc + mK μ') (us + mS μ')) : V l G μ E Z pc lv st0 M uc us := by
  intro p e R s m args below meth c A H locs ws ls C hP hD hS hR hl
  have hpre : ∀ U : State, U.heap = H → s.WarmedH U.vm → sw_Pc G (.ref (sw_al G t) :: As) ws H.size (.ref (sw_al G t) :: As).toArray U := fun U hU hW => ⟨rfl, by rw [hU], by rw [hU]; exact hP, sw_K.moved hW C.2.2.2.2.2.1, hD.weaken (fun _ _ _ _ => trivial)⟩
  have hroom : mF μ' + 1 ≤ R.frames ∧ 8 + (mL μ' + 11) + 64 * mF μ' ≤ R.locals := ⟨Nat.le_trans hcr.1 C.2.2.2.2.2.2.2.1, Nat.le_trans hcr.2 C.2.2.2.2.2.2.2.2.1⟩
  have hfit : uc + mK μ' ≤ R.cells ∧ us + mS μ' ≤ R.slots := ⟨Nat.le_trans hu C.2.2.2.2.2.2.2.2.2.1, Nat.le_trans hv C.2.2.2.2.2.2.2.2.2.2.1⟩
  have hfix : CallFix p m c (mC μ) (mL μ) s args (mT μ) (mY μ).cls := ⟨C.1, C.2.1, C.2.2.1, C.2.2.2.1, C.2.2.2.2.1⟩
  have hUT : ∀ w ∈ sw_U, w ∈ mT μ := fun w h => List.mem_cons_of_mem _ h
  have hG : GoodIn (mT μ) (mT μ') := by
    intro w hw
    have hm : w ∈ sw_U := by
      rcases List.mem_cons.mp hw with rfl | hw
      · exact hg.1.1
      · exact hw
    exact ⟨hUT w hm, sw_gd w hm⟩
  have hKm := hK ws H.size hR
  subst hst
  have cw := va_cnB (R := R) (rm := sw_rm μ') (bytes := mC μ') (maxL := mL μ') (ret := mR μ') (mc := mK μ') (ms := mS μ') (ws := mT μ') n C.2.2.2.2.1 hG rfl rfl rfl (C.2.2.2.2.2.1.2.1 _ hN) (C.2.2.2.2.1 _ (hUT _ hg.1.2.2.2.1)) ⟨hg.1.2.1, hg.1.2.2.1, hpn⟩ hroom
  rw [hr] at cw
  exact sw_back C hD hS hl (va_runIN hfix hKm ⟨cw, hy, C.2.2.2.2.1 _ (hUT _ hg.2)⟩ ⟨sw_blind, hpre⟩ rfl hn hl.1 rfl (lv_room h8) hd hfit) kk
end
theorem sw_ov_pre {N : sw_M} {c : sw_Ce} : ∀ {L : List sw_Ce}, c.1 ∉ L.map Prod.fst → sw_ov (sw_ov N [c]) L = sw_ov (sw_ov N L) [c]
  | [], _ => rfl
  | d :: L, h => by
    have ih := sw_ov_pre (N := N) (c := c) (L := L) (fun hm => h (List.mem_cons_of_mem _ hm))
    have hne : c.1 ≠ d.1 := fun e => h (by rw [e]; exact List.mem_cons_self)
    funext q
    show (if q = d.1 then some d.2 else sw_ov (sw_ov N [c]) L q) = (if q = c.1 then some c.2 else if q = d.1 then some d.2 else sw_ov N L q)
    rw [ih]
    show (if q = d.1 then some d.2 else if q = c.1 then some c.2 else sw_ov N L q) = _
    by_cases e1 : q = d.1
    · rw [if_pos e1, if_neg (fun e => hne (e.symm.trans e1)), if_pos e1]
    · rw [if_neg e1]
      by_cases e2 : q = c.1
      · rw [if_pos e2, if_pos e2]
      · rw [if_neg e2, if_neg e2, if_neg e1]
theorem sw_ov_new {M : sw_M} {t : Nat} {x y : sw_Ob} {rest : List sw_Ce} : ∀ {A0 : List sw_Ce}, (∀ c ∈ A0, c.1 ∉ t :: rest.map Prod.fst) → sw_ov (sw_ov M (A0 ++ [(t, x)])) ((t, y) :: rest) = sw_ov M (A0 ++ (t, y) :: rest)
  | [], _ => sw_ov_abs (fun q hq => by rw [List.mem_singleton.mp hq]; exact List.mem_cons_self)
  | c :: A, h => by
    have ih := sw_ov_new (M := M) (t := t) (x := x) (y := y) (rest := rest) (A0 := A) (fun c hc => h c (List.mem_cons_of_mem _ hc))
    show sw_ov (sw_ov (sw_ov M (A ++ [(t, x)])) [c]) ((t, y) :: rest) = sw_ov (sw_ov M (A ++ (t, y) :: rest)) [c]
    rw [sw_ov_pre (h c List.mem_cons_self), ih]
def σ0 : SaleT := (0, 0, 2, 0, 0, z0, z0, z0, z0)
section
variable {l : Launch} {G : sw_G} {M : sw_M}
theorem ft_X0 : ∀ j, j < 2 → defaultValue (tyX0 j) = vp_V [.null, .null] j := by
  intro j hj
  match j, hj with
  | 0, _ => rfl
  | 1, _ => rfl
  | n + 2, h => exact absurd h (by omega)
theorem ft_X1 : ∀ j, j < 12 → defaultValue (tyX1 j) = vp_V [.null, .null, .null, .null, sw_i 0, sw_i 0, sw_j 0, sw_j 0, sw_i 0, sw_i 0, sw_i 0, sw_i 0] j := by
  intro j hj
  match j, hj with
  | 0, _ => rfl
  | 1, _ => rfl
  | 2, _ => rfl
  | 3, _ => rfl
  | 4, _ => rfl
  | 5, _ => rfl
  | 6, _ => rfl
  | 7, _ => rfl
  | 8, _ => rfl
  | 9, _ => rfl
  | 10, _ => rfl
  | 11, _ => rfl
  | n + 12, h => exact absurd h (by omega)
theorem ft_X2 : ∀ j, j < 8 → defaultValue (tyX2 j) = vp_V [.null, .null, .null, .null, sw_j 0, sw_i 0, sw_i 0, sw_i 0] j := by
  intro j hj
  match j, hj with
  | 0, _ => rfl
  | 1, _ => rfl
  | 2, _ => rfl
  | 3, _ => rfl
  | 4, _ => rfl
  | 5, _ => rfl
  | 6, _ => rfl
  | 7, _ => rfl
  | n + 8, h => exact absurd h (by omega)
theorem ft_X3 : ∀ j, j < 7 → defaultValue (tyX3 j) = vp_V [.null, .null, .null, .null, sw_i 0, sw_i 0, sw_i 0] j := by
  intro j hj
  match j, hj with
  | 0, _ => rfl
  | 1, _ => rfl
  | 2, _ => rfl
  | 3, _ => rfl
  | 4, _ => rfl
  | 5, _ => rfl
  | 6, _ => rfl
  | n + 7, h => exact absurd h (by omega)
theorem ft_X4 : ∀ j, j < 5 → defaultValue (tyX4 j) = vp_V [.null, .null, sw_j 0, sw_j 0, .null] j := by
  intro j hj
  match j, hj with
  | 0, _ => rfl
  | 1, _ => rfl
  | 2, _ => rfl
  | 3, _ => rfl
  | 4, _ => rfl
  | n + 5, h => exact absurd h (by omega)
theorem ft_X5 : ∀ j, j < 11 → defaultValue (tyX5 j) = vp_V [.null, .null, .null, .null, sw_i 0, sw_i 0, sw_i 0, sw_i 0, sw_i 0, sw_j 0, sw_j 0] j := by
  intro j hj
  match j, hj with
  | 0, _ => rfl
  | 1, _ => rfl
  | 2, _ => rfl
  | 3, _ => rfl
  | 4, _ => rfl
  | 5, _ => rfl
  | 6, _ => rfl
  | 7, _ => rfl
  | 8, _ => rfl
  | 9, _ => rfl
  | 10, _ => rfl
  | n + 11, h => exact absurd h (by omega)
theorem ft_X6 : ∀ j, j < 7 → defaultValue (tyX6 j) = vp_V [sw_j 0, sw_j 0, sw_j 0, sw_j 0, .null, .null, .null] j := by
  intro j hj
  match j, hj with
  | 0, _ => rfl
  | 1, _ => rfl
  | 2, _ => rfl
  | 3, _ => rfl
  | 4, _ => rfl
  | 5, _ => rfl
  | 6, _ => rfl
  | n + 7, h => exact absurd h (by omega)
theorem ft_X7 : ∀ j, j < 5 → defaultValue (tyX7 j) = vp_V [.null, sw_i 0, .null, sw_i 0, sw_i 0] j := by
  intro j hj
  match j, hj with
  | 0, _ => rfl
  | 1, _ => rfl
  | 2, _ => rfl
  | 3, _ => rfl
  | 4, _ => rfl
  | n + 5, h => exact absurd h (by omega)
theorem ft_X8 : ∀ j, j < 6 → defaultValue (tyX8 j) = vp_V [.null, .null, .null, sw_i 0, sw_i 0, sw_i 0] j := by
  intro j hj
  match j, hj with
  | 0, _ => rfl
  | 1, _ => rfl
  | 2, _ => rfl
  | 3, _ => rfl
  | 4, _ => rfl
  | 5, _ => rfl
  | n + 6, h => exact absurd h (by omega)
theorem ft_X9 : ∀ j, j < 13 → defaultValue (tyX9 j) = vp_V [.null, .null, sw_i 0, .null, sw_i 0, .null, .null, .null, .null, .null, .null, .null, .null] j := by
  intro j hj
  match j, hj with
  | 0, _ => rfl
  | 1, _ => rfl
  | 2, _ => rfl
  | 3, _ => rfl
  | 4, _ => rfl
  | 5, _ => rfl
  | 6, _ => rfl
  | 7, _ => rfl
  | 8, _ => rfl
  | 9, _ => rfl
  | 10, _ => rfl
  | 11, _ => rfl
  | 12, _ => rfl
  | n + 13, h => exact absurd h (by omega)
theorem K5_init {b : Nat} (h0 : M (b) = some (sw_o 5 [.null, .null, .null, .null, sw_i 0, sw_i 0, sw_i 0, sw_i 0, sw_i 0, sw_j 0, sw_j 0])) (n0 : M (b + 1) = none) (n1 : M (b + 2) = none) (n2 : M (b + 3) = none) (n3 : M (b + 4) = none) : KtA l G μX5_init [.ref (sw_al G (b))] M (fun al r M' => r = none ∧ (∀ u, u ∉ [b + 1, b + 2, b + 3, b + 4] → al u = sw_al G u) ∧ M' = sw_ov M (cS (sw_Gw G al) b σ0 0 0)) := by
  refine KtA.of (by decide +kernel) (Nat.le_of_ble_eq_true rfl) ?_
  refine v_mem (sw_ov_self (cs := [(b, sw_o 5 [.null, .null, .null, .null, sw_i 0, sw_i 0, sw_i 0, sw_i 0, sw_i 0, sw_j 0, sw_j 0])]) (sw_hold1 h0 sw_hold0)).symm ?_
  refine v_aload_n dX5_init_0 rfl ?_
  refine v_objI mlO_X5 ⟨(Nat.le_of_ble_eq_true rfl), (Nat.le_of_ble_eq_true rfl)⟩ dX5_init_1 ?_
  refine v_aload_n dX5_init_4 rfl ?_
  refine v_bipush dX5_init_5 (by decide +kernel) ?_
  refine v_newi (b + 1) (N := 8) rfl (Nat.le_of_ble_eq_true rfl) ua_int (by simp) n0 (Nat.le_of_ble_eq_true rfl) (Nat.le_of_ble_eq_true rfl) dX5_init_7 (fun al1 ha1 => ?_)
  have e1 : al1 (b) = sw_al G (b) := ha1 _ (by simp)
  rw [← e1]
  refine v_mem (M' := sw_ov M [(b, sw_o 5 [.null, .null, .null, .null, sw_i 0, sw_i 0, sw_i 0, sw_i 0, sw_i 0, sw_j 0, sw_j 0]), (b + 1, sw_ia 8 z0)]) rfl ?_
  refine v_putF 0 0 rfl fp_X5_9 (sw_nd_of (by simp)) rfl rfl rfl (Nat.le_of_ble_eq_true rfl) dX5_init_9 ?_
  refine v_mem (M' := sw_ov M [(b, sw_o 5 [.ref (al1 (b + 1)), .null, .null, .null, sw_i 0, sw_i 0, sw_i 0, sw_i 0, sw_i 0, sw_j 0, sw_j 0]), (b + 1, sw_ia 8 z0)]) rfl ?_
  refine v_aload_n dX5_init_12 rfl ?_
  refine v_bipush dX5_init_13 (by decide +kernel) ?_
  refine v_newi (b + 2) (N := 8) rfl (Nat.le_of_ble_eq_true rfl) ua_int (by simp) n1 (Nat.le_of_ble_eq_true rfl) (Nat.le_of_ble_eq_true rfl) dX5_init_15 (fun al2 ha2 => ?_)
  have e2 : al2 (b) = al1 (b) := ha2 _ (by simp)
  rw [← e2]
  refine v_mem (M' := sw_ov M [(b, sw_o 5 [.ref (al1 (b + 1)), .null, .null, .null, sw_i 0, sw_i 0, sw_i 0, sw_i 0, sw_i 0, sw_j 0, sw_j 0]), (b + 1, sw_ia 8 z0), (b + 2, sw_ia 8 z0)]) rfl ?_
  refine v_putF 0 1 rfl fp_X5_15 (sw_nd_of (by simp)) rfl rfl rfl (Nat.le_of_ble_eq_true rfl) dX5_init_17 ?_
  refine v_mem (M' := sw_ov M [(b, sw_o 5 [.ref (al1 (b + 1)), .ref (al2 (b + 2)), .null, .null, sw_i 0, sw_i 0, sw_i 0, sw_i 0, sw_i 0, sw_j 0, sw_j 0]), (b + 1, sw_ia 8 z0), (b + 2, sw_ia 8 z0)]) rfl ?_
  refine v_aload_n dX5_init_20 rfl ?_
  refine v_bipush dX5_init_21 (by decide +kernel) ?_
  refine v_newi (b + 3) (N := 40) rfl (Nat.le_of_ble_eq_true rfl) ua_int (by simp) n2 (Nat.le_of_ble_eq_true rfl) (Nat.le_of_ble_eq_true rfl) dX5_init_23 (fun al3 ha3 => ?_)
  have e3 : al3 (b) = al2 (b) := ha3 _ (by simp)
  rw [← e3]
  refine v_mem (M' := sw_ov M [(b, sw_o 5 [.ref (al1 (b + 1)), .ref (al2 (b + 2)), .null, .null, sw_i 0, sw_i 0, sw_i 0, sw_i 0, sw_i 0, sw_j 0, sw_j 0]), (b + 1, sw_ia 8 z0), (b + 2, sw_ia 8 z0), (b + 3, sw_ia 40 z0)]) rfl ?_
  refine v_putF 0 2 rfl fp_X5_18 (sw_nd_of (by simp)) rfl rfl rfl (Nat.le_of_ble_eq_true rfl) dX5_init_25 ?_
  refine v_mem (M' := sw_ov M [(b, sw_o 5 [.ref (al1 (b + 1)), .ref (al2 (b + 2)), .ref (al3 (b + 3)), .null, sw_i 0, sw_i 0, sw_i 0, sw_i 0, sw_i 0, sw_j 0, sw_j 0]), (b + 1, sw_ia 8 z0), (b + 2, sw_ia 8 z0), (b + 3, sw_ia 40 z0)]) rfl ?_
  refine v_aload_n dX5_init_28 rfl ?_
  refine v_iconst dX5_init_29 ?_
  refine v_newi (b + 4) (N := 4) rfl (Nat.le_of_ble_eq_true rfl) ua_int (by simp) n3 (Nat.le_of_ble_eq_true rfl) (Nat.le_of_ble_eq_true rfl) dX5_init_30 (fun al4 ha4 => ?_)
  have e4 : al4 (b) = al3 (b) := ha4 _ (by simp)
  rw [← e4]
  refine v_mem (M' := sw_ov M [(b, sw_o 5 [.ref (al1 (b + 1)), .ref (al2 (b + 2)), .ref (al3 (b + 3)), .null, sw_i 0, sw_i 0, sw_i 0, sw_i 0, sw_i 0, sw_j 0, sw_j 0]), (b + 1, sw_ia 8 z0), (b + 2, sw_ia 8 z0), (b + 3, sw_ia 40 z0), (b + 4, sw_ia 4 z0)]) rfl ?_
  refine v_putF 0 3 rfl fp_X5_21 (sw_nd_of (by simp)) rfl rfl rfl (Nat.le_of_ble_eq_true rfl) dX5_init_32 ?_
  refine v_mem (M' := sw_ov M [(b, sw_o 5 [.ref (al1 (b + 1)), .ref (al2 (b + 2)), .ref (al3 (b + 3)), .ref (al4 (b + 4)), sw_i 0, sw_i 0, sw_i 0, sw_i 0, sw_i 0, sw_j 0, sw_j 0]), (b + 1, sw_ia 8 z0), (b + 2, sw_ia 8 z0), (b + 3, sw_ia 40 z0), (b + 4, sw_ia 4 z0)]) rfl ?_
  refine v_aload_n dX5_init_35 rfl ?_
  refine v_iconst dX5_init_36 ?_
  refine v_putf 0 4 fp_X5_24 (sw_nd_of (by simp)) rfl rfl rfl (Nat.le_of_ble_eq_true rfl) dX5_init_37 ?_
  refine v_mem (M' := sw_ov M [(b, sw_o 5 [.ref (al1 (b + 1)), .ref (al2 (b + 2)), .ref (al3 (b + 3)), .ref (al4 (b + 4)), sw_i 0, sw_i 0, sw_i 0, sw_i 0, sw_i 0, sw_j 0, sw_j 0]), (b + 1, sw_ia 8 z0), (b + 2, sw_ia 8 z0), (b + 3, sw_ia 40 z0), (b + 4, sw_ia 4 z0)]) rfl ?_
  refine v_aload_n dX5_init_40 rfl ?_
  refine v_iconst dX5_init_41 ?_
  refine v_putf 0 5 fp_X5_28 (sw_nd_of (by simp)) rfl rfl rfl (Nat.le_of_ble_eq_true rfl) dX5_init_42 ?_
  refine v_mem (M' := sw_ov M [(b, sw_o 5 [.ref (al1 (b + 1)), .ref (al2 (b + 2)), .ref (al3 (b + 3)), .ref (al4 (b + 4)), sw_i 0, sw_i 0, sw_i 0, sw_i 0, sw_i 0, sw_j 0, sw_j 0]), (b + 1, sw_ia 8 z0), (b + 2, sw_ia 8 z0), (b + 3, sw_ia 40 z0), (b + 4, sw_ia 4 z0)]) rfl ?_
  refine v_aload_n dX5_init_45 rfl ?_
  refine v_iconst dX5_init_46 ?_
  refine v_putf 0 6 fp_X5_31 (sw_nd_of (by simp)) rfl rfl rfl (Nat.le_of_ble_eq_true rfl) dX5_init_47 ?_
  refine v_mem (M' := sw_ov M [(b, sw_o 5 [.ref (al1 (b + 1)), .ref (al2 (b + 2)), .ref (al3 (b + 3)), .ref (al4 (b + 4)), sw_i 0, sw_i 0, sw_i 2, sw_i 0, sw_i 0, sw_j 0, sw_j 0]), (b + 1, sw_ia 8 z0), (b + 2, sw_ia 8 z0), (b + 3, sw_ia 40 z0), (b + 4, sw_ia 4 z0)]) rfl ?_
  refine v_aload_n dX5_init_50 rfl ?_
  refine v_iconst dX5_init_51 ?_
  refine v_putf 0 7 fp_X5_34 (sw_nd_of (by simp)) rfl rfl rfl (Nat.le_of_ble_eq_true rfl) dX5_init_52 ?_
  refine v_mem (M' := sw_ov M [(b, sw_o 5 [.ref (al1 (b + 1)), .ref (al2 (b + 2)), .ref (al3 (b + 3)), .ref (al4 (b + 4)), sw_i 0, sw_i 0, sw_i 2, sw_i 0, sw_i 0, sw_j 0, sw_j 0]), (b + 1, sw_ia 8 z0), (b + 2, sw_ia 8 z0), (b + 3, sw_ia 40 z0), (b + 4, sw_ia 4 z0)]) rfl ?_
  refine v_aload_n dX5_init_55 rfl ?_
  refine v_iconst dX5_init_56 ?_
  refine v_putf 0 8 fp_X5_37 (sw_nd_of (by simp)) rfl rfl rfl (Nat.le_of_ble_eq_true rfl) dX5_init_57 ?_
  refine v_mem (M' := sw_ov M [(b, sw_o 5 [.ref (al1 (b + 1)), .ref (al2 (b + 2)), .ref (al3 (b + 3)), .ref (al4 (b + 4)), sw_i 0, sw_i 0, sw_i 2, sw_i 0, sw_i 0, sw_j 0, sw_j 0]), (b + 1, sw_ia 8 z0), (b + 2, sw_ia 8 z0), (b + 3, sw_ia 40 z0), (b + 4, sw_ia 4 z0)]) rfl ?_
  refine v_aload_n dX5_init_60 rfl ?_
  refine v_lconst (z := 0) dX5_init_61 (by decide +kernel) ?_
  refine v_putf 0 9 fp_X5_40 (sw_nd_of (by simp)) rfl rfl rfl (Nat.le_of_ble_eq_true rfl) dX5_init_62 ?_
  refine v_mem (M' := sw_ov M [(b, sw_o 5 [.ref (al1 (b + 1)), .ref (al2 (b + 2)), .ref (al3 (b + 3)), .ref (al4 (b + 4)), sw_i 0, sw_i 0, sw_i 2, sw_i 0, sw_i 0, sw_j 0, sw_j 0]), (b + 1, sw_ia 8 z0), (b + 2, sw_ia 8 z0), (b + 3, sw_ia 40 z0), (b + 4, sw_ia 4 z0)]) rfl ?_
  refine v_aload_n dX5_init_65 rfl ?_
  refine v_lconst (z := 0) dX5_init_66 (by decide +kernel) ?_
  refine v_putf 0 10 fp_X5_44 (sw_nd_of (by simp)) rfl rfl rfl (Nat.le_of_ble_eq_true rfl) dX5_init_67 ?_
  refine v_mem (M' := sw_ov M [(b, sw_o 5 [.ref (al1 (b + 1)), .ref (al2 (b + 2)), .ref (al3 (b + 3)), .ref (al4 (b + 4)), sw_i 0, sw_i 0, sw_i 2, sw_i 0, sw_i 0, sw_j 0, sw_j 0]), (b + 1, sw_ia 8 z0), (b + 2, sw_ia 8 z0), (b + 3, sw_ia 40 z0), (b + 4, sw_ia 4 z0)]) rfl ?_
  have g0 : al4 (b + 1) = al1 (b + 1) := ((ha4 (b + 1) (by simp)).trans (ha3 (b + 1) (by simp))).trans (ha2 (b + 1) (by simp))
  have g1 : al4 (b + 2) = al2 (b + 2) := (ha4 (b + 2) (by simp)).trans (ha3 (b + 2) (by simp))
  have g2 : al4 (b + 3) = al3 (b + 3) := ha4 (b + 3) (by simp)
  refine va_vretA rfl dX5_init_70 rfl (Nat.le_refl _) (Nat.le_refl _) ⟨rfl, fun u hu => ?_, ?_⟩
  · simp only [List.mem_cons, List.not_mem_nil, or_false, not_or] at hu
    exact (((ha4 u (by simp; omega)).trans (ha3 u (by simp; omega))).trans (ha2 u (by simp; omega))).trans (ha1 u (by simp; omega))
  · rw [← g0, ← g1, ← g2]; rfl
theorem K6_init (h0 : M (10) = some (sw_o 6 [sw_j 0, sw_j 0, sw_j 0, sw_j 0, .null, .null, .null])) (n0 : M (11) = none) (n1 : M (12) = none) (n2 : M (13) = none) : KtA l G μX6_init [.ref (sw_al G (10))] M (fun al r M' => r = none ∧ (∀ u, u ∉ [11, 12, 13] → al u = sw_al G u) ∧ M' = sw_ov M (cYs (sw_Gw G al) 0 0 0 0 z0 z0 z0)) := by
  refine KtA.of (by decide +kernel) (Nat.le_of_ble_eq_true rfl) ?_
  refine v_mem (sw_ov_self (cs := [(10, sw_o 6 [sw_j 0, sw_j 0, sw_j 0, sw_j 0, .null, .null, .null])]) (sw_hold1 h0 sw_hold0)).symm ?_
  refine v_aload_n dX6_init_0 rfl ?_
  refine v_objI mlO_X6 ⟨(Nat.le_of_ble_eq_true rfl), (Nat.le_of_ble_eq_true rfl)⟩ dX6_init_1 ?_
  refine v_aload_n dX6_init_4 rfl ?_
  refine v_lconst (z := 0) dX6_init_5 (by decide +kernel) ?_
  refine v_putf 0 0 fp_X6_9 (sw_nd_of (by simp)) rfl rfl rfl (Nat.le_of_ble_eq_true rfl) dX6_init_6 ?_
  refine v_mem (M' := sw_ov M [(10, sw_o 6 [sw_j 0, sw_j 0, sw_j 0, sw_j 0, .null, .null, .null])]) rfl ?_
  refine v_aload_n dX6_init_9 rfl ?_
  refine v_lconst (z := 0) dX6_init_10 (by decide +kernel) ?_
  refine v_putf 0 1 fp_X6_15 (sw_nd_of (by simp)) rfl rfl rfl (Nat.le_of_ble_eq_true rfl) dX6_init_11 ?_
  refine v_mem (M' := sw_ov M [(10, sw_o 6 [sw_j 0, sw_j 0, sw_j 0, sw_j 0, .null, .null, .null])]) rfl ?_
  refine v_aload_n dX6_init_14 rfl ?_
  refine v_lconst (z := 0) dX6_init_15 (by decide +kernel) ?_
  refine v_putf 0 2 fp_X6_18 (sw_nd_of (by simp)) rfl rfl rfl (Nat.le_of_ble_eq_true rfl) dX6_init_16 ?_
  refine v_mem (M' := sw_ov M [(10, sw_o 6 [sw_j 0, sw_j 0, sw_j 0, sw_j 0, .null, .null, .null])]) rfl ?_
  refine v_aload_n dX6_init_19 rfl ?_
  refine v_lconst (z := 0) dX6_init_20 (by decide +kernel) ?_
  refine v_putf 0 3 fp_X6_21 (sw_nd_of (by simp)) rfl rfl rfl (Nat.le_of_ble_eq_true rfl) dX6_init_21 ?_
  refine v_mem (M' := sw_ov M [(10, sw_o 6 [sw_j 0, sw_j 0, sw_j 0, sw_j 0, .null, .null, .null])]) rfl ?_
  refine v_aload_n dX6_init_24 rfl ?_
  refine v_iconst dX6_init_25 ?_
  refine v_newj (11) (N := 4) rfl (Nat.le_of_ble_eq_true rfl) ua_long (by simp) n0 (Nat.le_of_ble_eq_true rfl) (Nat.le_of_ble_eq_true rfl) dX6_init_26 (fun al1 ha1 => ?_)
  have e1 : al1 (10) = sw_al G (10) := ha1 _ (by simp)
  rw [← e1]
  refine v_mem (M' := sw_ov M [(10, sw_o 6 [sw_j 0, sw_j 0, sw_j 0, sw_j 0, .null, .null, .null]), (11, sw_la 4 z0)]) rfl ?_
  refine v_putF 0 4 rfl fp_X6_24 (sw_nd_of (by simp)) rfl rfl rfl (Nat.le_of_ble_eq_true rfl) dX6_init_28 ?_
  refine v_mem (M' := sw_ov M [(10, sw_o 6 [sw_j 0, sw_j 0, sw_j 0, sw_j 0, .ref (al1 (11)), .null, .null]), (11, sw_la 4 z0)]) rfl ?_
  refine v_aload_n dX6_init_31 rfl ?_
  refine v_bipush dX6_init_32 (by decide +kernel) ?_
  refine v_newj (12) (N := 20) rfl (Nat.le_of_ble_eq_true rfl) ua_long (by simp) n1 (Nat.le_of_ble_eq_true rfl) (Nat.le_of_ble_eq_true rfl) dX6_init_34 (fun al2 ha2 => ?_)
  have e2 : al2 (10) = al1 (10) := ha2 _ (by simp)
  rw [← e2]
  refine v_mem (M' := sw_ov M [(10, sw_o 6 [sw_j 0, sw_j 0, sw_j 0, sw_j 0, .ref (al1 (11)), .null, .null]), (11, sw_la 4 z0), (12, sw_la 20 z0)]) rfl ?_
  refine v_putF 0 5 rfl fp_X6_28 (sw_nd_of (by simp)) rfl rfl rfl (Nat.le_of_ble_eq_true rfl) dX6_init_36 ?_
  refine v_mem (M' := sw_ov M [(10, sw_o 6 [sw_j 0, sw_j 0, sw_j 0, sw_j 0, .ref (al1 (11)), .ref (al2 (12)), .null]), (11, sw_la 4 z0), (12, sw_la 20 z0)]) rfl ?_
  refine v_aload_n dX6_init_39 rfl ?_
  refine v_bipush dX6_init_40 (by decide +kernel) ?_
  refine v_newj (13) (N := 20) rfl (Nat.le_of_ble_eq_true rfl) ua_long (by simp) n2 (Nat.le_of_ble_eq_true rfl) (Nat.le_of_ble_eq_true rfl) dX6_init_42 (fun al3 ha3 => ?_)
  have e3 : al3 (10) = al2 (10) := ha3 _ (by simp)
  rw [← e3]
  refine v_mem (M' := sw_ov M [(10, sw_o 6 [sw_j 0, sw_j 0, sw_j 0, sw_j 0, .ref (al1 (11)), .ref (al2 (12)), .null]), (11, sw_la 4 z0), (12, sw_la 20 z0), (13, sw_la 20 z0)]) rfl ?_
  refine v_putF 0 6 rfl fp_X6_31 (sw_nd_of (by simp)) rfl rfl rfl (Nat.le_of_ble_eq_true rfl) dX6_init_44 ?_
  refine v_mem (M' := sw_ov M [(10, sw_o 6 [sw_j 0, sw_j 0, sw_j 0, sw_j 0, .ref (al1 (11)), .ref (al2 (12)), .ref (al3 (13))]), (11, sw_la 4 z0), (12, sw_la 20 z0), (13, sw_la 20 z0)]) rfl ?_
  have g0 : al3 (11) = al1 (11) := (ha3 (11) (by simp)).trans (ha2 (11) (by simp))
  have g1 : al3 (12) = al2 (12) := ha3 (12) (by simp)
  refine va_vretA rfl dX6_init_47 rfl (Nat.le_refl _) (Nat.le_refl _) ⟨rfl, fun u hu => ?_, ?_⟩
  · simp only [List.mem_cons, List.not_mem_nil, or_false, not_or] at hu
    exact ((ha3 u (by simp; omega)).trans (ha2 u (by simp; omega))).trans (ha1 u (by simp; omega))
  · rw [← g0, ← g1]; rfl
theorem K4_init (h0 : M (14) = some (sw_o 4 [.null, .null, sw_j 0, sw_j 0, .null])) (n0 : M (15) = none) (n1 : M (16) = none) (n2 : M (17) = none) : KtA l G μX4_init [.ref (sw_al G (14))] M (fun al r M' => r = none ∧ (∀ u, u ∉ [15, 16, 17] → al u = sw_al G u) ∧ M' = sw_ov M (cVs (sw_Gw G al) 0 0 z0 z0 z0)) := by
  refine KtA.of (by decide +kernel) (Nat.le_of_ble_eq_true rfl) ?_
  refine v_mem (sw_ov_self (cs := [(14, sw_o 4 [.null, .null, sw_j 0, sw_j 0, .null])]) (sw_hold1 h0 sw_hold0)).symm ?_
  refine v_aload_n dX4_init_0 rfl ?_
  refine v_objI mlO_X4 ⟨(Nat.le_of_ble_eq_true rfl), (Nat.le_of_ble_eq_true rfl)⟩ dX4_init_1 ?_
  refine v_aload_n dX4_init_4 rfl ?_
  refine v_sipush dX4_init_5 (by decide +kernel) ?_
  refine v_newj (15) (N := 244) rfl (Nat.le_of_ble_eq_true rfl) ua_long (by simp) n0 (Nat.le_of_ble_eq_true rfl) (Nat.le_of_ble_eq_true rfl) dX4_init_8 (fun al1 ha1 => ?_)
  have e1 : al1 (14) = sw_al G (14) := ha1 _ (by simp)
  rw [← e1]
  refine v_mem (M' := sw_ov M [(14, sw_o 4 [.null, .null, sw_j 0, sw_j 0, .null]), (15, sw_la 244 z0)]) rfl ?_
  refine v_putF 0 0 rfl fp_X4_9 (sw_nd_of (by simp)) rfl rfl rfl (Nat.le_of_ble_eq_true rfl) dX4_init_10 ?_
  refine v_mem (M' := sw_ov M [(14, sw_o 4 [.ref (al1 (15)), .null, sw_j 0, sw_j 0, .null]), (15, sw_la 244 z0)]) rfl ?_
  refine v_aload_n dX4_init_13 rfl ?_
  refine v_sipush dX4_init_14 (by decide +kernel) ?_
  refine v_newj (16) (N := 244) rfl (Nat.le_of_ble_eq_true rfl) ua_long (by simp) n1 (Nat.le_of_ble_eq_true rfl) (Nat.le_of_ble_eq_true rfl) dX4_init_17 (fun al2 ha2 => ?_)
  have e2 : al2 (14) = al1 (14) := ha2 _ (by simp)
  rw [← e2]
  refine v_mem (M' := sw_ov M [(14, sw_o 4 [.ref (al1 (15)), .null, sw_j 0, sw_j 0, .null]), (15, sw_la 244 z0), (16, sw_la 244 z0)]) rfl ?_
  refine v_putF 0 1 rfl fp_X4_15 (sw_nd_of (by simp)) rfl rfl rfl (Nat.le_of_ble_eq_true rfl) dX4_init_19 ?_
  refine v_mem (M' := sw_ov M [(14, sw_o 4 [.ref (al1 (15)), .ref (al2 (16)), sw_j 0, sw_j 0, .null]), (15, sw_la 244 z0), (16, sw_la 244 z0)]) rfl ?_
  refine v_aload_n dX4_init_22 rfl ?_
  refine v_lconst (z := 0) dX4_init_23 (by decide +kernel) ?_
  refine v_putf 0 2 fp_X4_18 (sw_nd_of (by simp)) rfl rfl rfl (Nat.le_of_ble_eq_true rfl) dX4_init_24 ?_
  refine v_mem (M' := sw_ov M [(14, sw_o 4 [.ref (al1 (15)), .ref (al2 (16)), sw_j 0, sw_j 0, .null]), (15, sw_la 244 z0), (16, sw_la 244 z0)]) rfl ?_
  refine v_aload_n dX4_init_27 rfl ?_
  refine v_lconst (z := 0) dX4_init_28 (by decide +kernel) ?_
  refine v_putf 0 3 fp_X4_22 (sw_nd_of (by simp)) rfl rfl rfl (Nat.le_of_ble_eq_true rfl) dX4_init_29 ?_
  refine v_mem (M' := sw_ov M [(14, sw_o 4 [.ref (al1 (15)), .ref (al2 (16)), sw_j 0, sw_j 0, .null]), (15, sw_la 244 z0), (16, sw_la 244 z0)]) rfl ?_
  refine v_aload_n dX4_init_32 rfl ?_
  refine v_bipush dX4_init_33 (by decide +kernel) ?_
  refine v_newj (17) (N := 61) rfl (Nat.le_of_ble_eq_true rfl) ua_long (by simp) n2 (Nat.le_of_ble_eq_true rfl) (Nat.le_of_ble_eq_true rfl) dX4_init_35 (fun al3 ha3 => ?_)
  have e3 : al3 (14) = al2 (14) := ha3 _ (by simp)
  rw [← e3]
  refine v_mem (M' := sw_ov M [(14, sw_o 4 [.ref (al1 (15)), .ref (al2 (16)), sw_j 0, sw_j 0, .null]), (15, sw_la 244 z0), (16, sw_la 244 z0), (17, sw_la 61 z0)]) rfl ?_
  refine v_putF 0 4 rfl fp_X4_25 (sw_nd_of (by simp)) rfl rfl rfl (Nat.le_of_ble_eq_true rfl) dX4_init_37 ?_
  refine v_mem (M' := sw_ov M [(14, sw_o 4 [.ref (al1 (15)), .ref (al2 (16)), sw_j 0, sw_j 0, .ref (al3 (17))]), (15, sw_la 244 z0), (16, sw_la 244 z0), (17, sw_la 61 z0)]) rfl ?_
  have g0 : al3 (15) = al1 (15) := (ha3 (15) (by simp)).trans (ha2 (15) (by simp))
  have g1 : al3 (16) = al2 (16) := ha3 (16) (by simp)
  refine va_vretA rfl dX4_init_40 rfl (Nat.le_refl _) (Nat.le_refl _) ⟨rfl, fun u hu => ?_, ?_⟩
  · simp only [List.mem_cons, List.not_mem_nil, or_false, not_or] at hu
    exact ((ha3 u (by simp; omega)).trans (ha2 u (by simp; omega))).trans (ha1 u (by simp; omega))
  · rw [← g0, ← g1]; rfl
theorem K0_init (h0 : M (18) = some (sw_o 0 [.null, .null])) (n0 : M (19) = none) (n1 : M (20) = none) : KtA l G μX0_init [.ref (sw_al G (18))] M (fun al r M' => r = none ∧ (∀ u, u ∉ [19, 20] → al u = sw_al G u) ∧ M' = sw_ov M (cHs (sw_Gw G al) z0 z0)) := by
  refine KtA.of (by decide +kernel) (Nat.le_of_ble_eq_true rfl) ?_
  refine v_mem (sw_ov_self (cs := [(18, sw_o 0 [.null, .null])]) (sw_hold1 h0 sw_hold0)).symm ?_
  refine v_aload_n dX0_init_0 rfl ?_
  refine v_objI mlO_X0 ⟨(Nat.le_of_ble_eq_true rfl), (Nat.le_of_ble_eq_true rfl)⟩ dX0_init_1 ?_
  refine v_aload_n dX0_init_4 rfl ?_
  refine v_bipush dX0_init_5 (by decide +kernel) ?_
  refine v_newj (19) (N := 61) rfl (Nat.le_of_ble_eq_true rfl) ua_long (by simp) n0 (Nat.le_of_ble_eq_true rfl) (Nat.le_of_ble_eq_true rfl) dX0_init_7 (fun al1 ha1 => ?_)
  have e1 : al1 (18) = sw_al G (18) := ha1 _ (by simp)
  rw [← e1]
  refine v_mem (M' := sw_ov M [(18, sw_o 0 [.null, .null]), (19, sw_la 61 z0)]) rfl ?_
  refine v_putF 0 0 rfl fp_X0_9 (sw_nd_of (by simp)) rfl rfl rfl (Nat.le_of_ble_eq_true rfl) dX0_init_9 ?_
  refine v_mem (M' := sw_ov M [(18, sw_o 0 [.ref (al1 (19)), .null]), (19, sw_la 61 z0)]) rfl ?_
  refine v_aload_n dX0_init_12 rfl ?_
  refine v_bipush dX0_init_13 (by decide +kernel) ?_
  refine v_newj (20) (N := 61) rfl (Nat.le_of_ble_eq_true rfl) ua_long (by simp) n1 (Nat.le_of_ble_eq_true rfl) (Nat.le_of_ble_eq_true rfl) dX0_init_15 (fun al2 ha2 => ?_)
  have e2 : al2 (18) = al1 (18) := ha2 _ (by simp)
  rw [← e2]
  refine v_mem (M' := sw_ov M [(18, sw_o 0 [.ref (al1 (19)), .null]), (19, sw_la 61 z0), (20, sw_la 61 z0)]) rfl ?_
  refine v_putF 0 1 rfl fp_X0_15 (sw_nd_of (by simp)) rfl rfl rfl (Nat.le_of_ble_eq_true rfl) dX0_init_17 ?_
  refine v_mem (M' := sw_ov M [(18, sw_o 0 [.ref (al1 (19)), .ref (al2 (20))]), (19, sw_la 61 z0), (20, sw_la 61 z0)]) rfl ?_
  have g0 : al2 (19) = al1 (19) := ha2 (19) (by simp)
  refine va_vretA rfl dX0_init_20 rfl (Nat.le_refl _) (Nat.le_refl _) ⟨rfl, fun u hu => ?_, ?_⟩
  · simp only [List.mem_cons, List.not_mem_nil, or_false, not_or] at hu
    exact (ha2 u (by simp; omega)).trans (ha1 u (by simp; omega))
  · rw [← g0]; rfl
theorem K8_init (h0 : M (21) = some (sw_o 8 [.null, .null, .null, sw_i 0, sw_i 0, sw_i 0])) (n0 : M (22) = none) (n1 : M (23) = none) (n2 : M (24) = none) : KtA l G μX8_init [.ref (sw_al G (21))] M (fun al r M' => r = none ∧ (∀ u, u ∉ [22, 23, 24] → al u = sw_al G u) ∧ M' = sw_ov M (cNs (sw_Gw G al) 0 0 2 z0 z0 z0)) := by
  refine KtA.of (by decide +kernel) (Nat.le_of_ble_eq_true rfl) ?_
  refine v_mem (sw_ov_self (cs := [(21, sw_o 8 [.null, .null, .null, sw_i 0, sw_i 0, sw_i 0])]) (sw_hold1 h0 sw_hold0)).symm ?_
  refine v_aload_n dX8_init_0 rfl ?_
  refine v_objI mlO_X8 ⟨(Nat.le_of_ble_eq_true rfl), (Nat.le_of_ble_eq_true rfl)⟩ dX8_init_1 ?_
  refine v_aload_n dX8_init_4 rfl ?_
  refine v_bipush dX8_init_5 (by decide +kernel) ?_
  refine v_newi (22) (N := 105) rfl (Nat.le_of_ble_eq_true rfl) ua_int (by simp) n0 (Nat.le_of_ble_eq_true rfl) (Nat.le_of_ble_eq_true rfl) dX8_init_7 (fun al1 ha1 => ?_)
  have e1 : al1 (21) = sw_al G (21) := ha1 _ (by simp)
  rw [← e1]
  refine v_mem (M' := sw_ov M [(21, sw_o 8 [.null, .null, .null, sw_i 0, sw_i 0, sw_i 0]), (22, sw_ia 105 z0)]) rfl ?_
  refine v_putF 0 0 rfl fp_X8_9 (sw_nd_of (by simp)) rfl rfl rfl (Nat.le_of_ble_eq_true rfl) dX8_init_9 ?_
  refine v_mem (M' := sw_ov M [(21, sw_o 8 [.ref (al1 (22)), .null, .null, sw_i 0, sw_i 0, sw_i 0]), (22, sw_ia 105 z0)]) rfl ?_
  refine v_aload_n dX8_init_12 rfl ?_
  refine v_iconst dX8_init_13 ?_
  refine v_newi (23) (N := 5) rfl (Nat.le_of_ble_eq_true rfl) ua_int (by simp) n1 (Nat.le_of_ble_eq_true rfl) (Nat.le_of_ble_eq_true rfl) dX8_init_14 (fun al2 ha2 => ?_)
  have e2 : al2 (21) = al1 (21) := ha2 _ (by simp)
  rw [← e2]
  refine v_mem (M' := sw_ov M [(21, sw_o 8 [.ref (al1 (22)), .null, .null, sw_i 0, sw_i 0, sw_i 0]), (22, sw_ia 105 z0), (23, sw_ia 5 z0)]) rfl ?_
  refine v_putF 0 1 rfl fp_X8_15 (sw_nd_of (by simp)) rfl rfl rfl (Nat.le_of_ble_eq_true rfl) dX8_init_16 ?_
  refine v_mem (M' := sw_ov M [(21, sw_o 8 [.ref (al1 (22)), .ref (al2 (23)), .null, sw_i 0, sw_i 0, sw_i 0]), (22, sw_ia 105 z0), (23, sw_ia 5 z0)]) rfl ?_
  refine v_aload_n dX8_init_19 rfl ?_
  refine v_iconst dX8_init_20 ?_
  refine v_newi (24) (N := 5) rfl (Nat.le_of_ble_eq_true rfl) ua_int (by simp) n2 (Nat.le_of_ble_eq_true rfl) (Nat.le_of_ble_eq_true rfl) dX8_init_21 (fun al3 ha3 => ?_)
  have e3 : al3 (21) = al2 (21) := ha3 _ (by simp)
  rw [← e3]
  refine v_mem (M' := sw_ov M [(21, sw_o 8 [.ref (al1 (22)), .ref (al2 (23)), .null, sw_i 0, sw_i 0, sw_i 0]), (22, sw_ia 105 z0), (23, sw_ia 5 z0), (24, sw_ia 5 z0)]) rfl ?_
  refine v_putF 0 2 rfl fp_X8_18 (sw_nd_of (by simp)) rfl rfl rfl (Nat.le_of_ble_eq_true rfl) dX8_init_23 ?_
  refine v_mem (M' := sw_ov M [(21, sw_o 8 [.ref (al1 (22)), .ref (al2 (23)), .ref (al3 (24)), sw_i 0, sw_i 0, sw_i 0]), (22, sw_ia 105 z0), (23, sw_ia 5 z0), (24, sw_ia 5 z0)]) rfl ?_
  refine v_aload_n dX8_init_26 rfl ?_
  refine v_iconst dX8_init_27 ?_
  refine v_putf 0 3 fp_X8_21 (sw_nd_of (by simp)) rfl rfl rfl (Nat.le_of_ble_eq_true rfl) dX8_init_28 ?_
  refine v_mem (M' := sw_ov M [(21, sw_o 8 [.ref (al1 (22)), .ref (al2 (23)), .ref (al3 (24)), sw_i 0, sw_i 0, sw_i 0]), (22, sw_ia 105 z0), (23, sw_ia 5 z0), (24, sw_ia 5 z0)]) rfl ?_
  refine v_aload_n dX8_init_31 rfl ?_
  refine v_iconst dX8_init_32 ?_
  refine v_putf 0 4 fp_X8_25 (sw_nd_of (by simp)) rfl rfl rfl (Nat.le_of_ble_eq_true rfl) dX8_init_33 ?_
  refine v_mem (M' := sw_ov M [(21, sw_o 8 [.ref (al1 (22)), .ref (al2 (23)), .ref (al3 (24)), sw_i 0, sw_i 0, sw_i 0]), (22, sw_ia 105 z0), (23, sw_ia 5 z0), (24, sw_ia 5 z0)]) rfl ?_
  refine v_aload_n dX8_init_36 rfl ?_
  refine v_iconst dX8_init_37 ?_
  refine v_putf 0 5 fp_X8_28 (sw_nd_of (by simp)) rfl rfl rfl (Nat.le_of_ble_eq_true rfl) dX8_init_38 ?_
  refine v_mem (M' := sw_ov M [(21, sw_o 8 [.ref (al1 (22)), .ref (al2 (23)), .ref (al3 (24)), sw_i 0, sw_i 0, sw_i 2]), (22, sw_ia 105 z0), (23, sw_ia 5 z0), (24, sw_ia 5 z0)]) rfl ?_
  have g0 : al3 (22) = al1 (22) := (ha3 (22) (by simp)).trans (ha2 (22) (by simp))
  have g1 : al3 (23) = al2 (23) := ha3 (23) (by simp)
  refine va_vretA rfl dX8_init_41 rfl (Nat.le_refl _) (Nat.le_refl _) ⟨rfl, fun u hu => ?_, ?_⟩
  · simp only [List.mem_cons, List.not_mem_nil, or_false, not_or] at hu
    exact ((ha3 u (by simp; omega)).trans (ha2 u (by simp; omega))).trans (ha1 u (by simp; omega))
  · rw [← g0, ← g1]; rfl
theorem K3_init (h0 : M (25) = some (sw_o 3 [.null, .null, .null, .null, sw_i 0, sw_i 0, sw_i 0])) (n0 : M (26) = none) (n1 : M (27) = none) (n2 : M (28) = none) (n3 : M (29) = none) : KtA l G μX3_init [.ref (sw_al G (25))] M (fun al r M' => r = none ∧ (∀ u, u ∉ [26, 27, 28, 29] → al u = sw_al G u) ∧ M' = sw_ov M (cUs (sw_Gw G al) 0 (-1) 0 z0 z0 z0 z0)) := by
  refine KtA.of (by decide +kernel) (Nat.le_of_ble_eq_true rfl) ?_
  refine v_mem (sw_ov_self (cs := [(25, sw_o 3 [.null, .null, .null, .null, sw_i 0, sw_i 0, sw_i 0])]) (sw_hold1 h0 sw_hold0)).symm ?_
  refine v_aload_n dX3_init_0 rfl ?_
  refine v_objI mlO_X3 ⟨(Nat.le_of_ble_eq_true rfl), (Nat.le_of_ble_eq_true rfl)⟩ dX3_init_1 ?_
  refine v_aload_n dX3_init_4 rfl ?_
  refine v_iconst dX3_init_5 ?_
  refine v_newi (26) (N := 4) rfl (Nat.le_of_ble_eq_true rfl) ua_int (by simp) n0 (Nat.le_of_ble_eq_true rfl) (Nat.le_of_ble_eq_true rfl) dX3_init_6 (fun al1 ha1 => ?_)
  have e1 : al1 (25) = sw_al G (25) := ha1 _ (by simp)
  rw [← e1]
  refine v_mem (M' := sw_ov M [(25, sw_o 3 [.null, .null, .null, .null, sw_i 0, sw_i 0, sw_i 0]), (26, sw_ia 4 z0)]) rfl ?_
  refine v_putF 0 0 rfl fp_X3_9 (sw_nd_of (by simp)) rfl rfl rfl (Nat.le_of_ble_eq_true rfl) dX3_init_8 ?_
  refine v_mem (M' := sw_ov M [(25, sw_o 3 [.ref (al1 (26)), .null, .null, .null, sw_i 0, sw_i 0, sw_i 0]), (26, sw_ia 4 z0)]) rfl ?_
  refine v_aload_n dX3_init_11 rfl ?_
  refine v_iconst dX3_init_12 ?_
  refine v_newi (27) (N := 4) rfl (Nat.le_of_ble_eq_true rfl) ua_int (by simp) n1 (Nat.le_of_ble_eq_true rfl) (Nat.le_of_ble_eq_true rfl) dX3_init_13 (fun al2 ha2 => ?_)
  have e2 : al2 (25) = al1 (25) := ha2 _ (by simp)
  rw [← e2]
  refine v_mem (M' := sw_ov M [(25, sw_o 3 [.ref (al1 (26)), .null, .null, .null, sw_i 0, sw_i 0, sw_i 0]), (26, sw_ia 4 z0), (27, sw_ia 4 z0)]) rfl ?_
  refine v_putF 0 1 rfl fp_X3_15 (sw_nd_of (by simp)) rfl rfl rfl (Nat.le_of_ble_eq_true rfl) dX3_init_15 ?_
  refine v_mem (M' := sw_ov M [(25, sw_o 3 [.ref (al1 (26)), .ref (al2 (27)), .null, .null, sw_i 0, sw_i 0, sw_i 0]), (26, sw_ia 4 z0), (27, sw_ia 4 z0)]) rfl ?_
  refine v_aload_n dX3_init_18 rfl ?_
  refine v_iconst dX3_init_19 ?_
  refine v_newz (28) (N := 4) rfl (Nat.le_of_ble_eq_true rfl) ua_boolean (by simp) n2 (Nat.le_of_ble_eq_true rfl) (Nat.le_of_ble_eq_true rfl) dX3_init_20 (fun al3 ha3 => ?_)
  have e3 : al3 (25) = al2 (25) := ha3 _ (by simp)
  rw [← e3]
  refine v_mem (M' := sw_ov M [(25, sw_o 3 [.ref (al1 (26)), .ref (al2 (27)), .null, .null, sw_i 0, sw_i 0, sw_i 0]), (26, sw_ia 4 z0), (27, sw_ia 4 z0), (28, sw_za 4 z0)]) rfl ?_
  refine v_putF 0 2 rfl fp_X3_18 (sw_nd_of (by simp)) rfl rfl rfl (Nat.le_of_ble_eq_true rfl) dX3_init_22 ?_
  refine v_mem (M' := sw_ov M [(25, sw_o 3 [.ref (al1 (26)), .ref (al2 (27)), .ref (al3 (28)), .null, sw_i 0, sw_i 0, sw_i 0]), (26, sw_ia 4 z0), (27, sw_ia 4 z0), (28, sw_za 4 z0)]) rfl ?_
  refine v_aload_n dX3_init_25 rfl ?_
  refine v_iconst dX3_init_26 ?_
  refine v_newi (29) (N := 4) rfl (Nat.le_of_ble_eq_true rfl) ua_int (by simp) n3 (Nat.le_of_ble_eq_true rfl) (Nat.le_of_ble_eq_true rfl) dX3_init_27 (fun al4 ha4 => ?_)
  have e4 : al4 (25) = al3 (25) := ha4 _ (by simp)
  rw [← e4]
  refine v_mem (M' := sw_ov M [(25, sw_o 3 [.ref (al1 (26)), .ref (al2 (27)), .ref (al3 (28)), .null, sw_i 0, sw_i 0, sw_i 0]), (26, sw_ia 4 z0), (27, sw_ia 4 z0), (28, sw_za 4 z0), (29, sw_ia 4 z0)]) rfl ?_
  refine v_putF 0 3 rfl fp_X3_22 (sw_nd_of (by simp)) rfl rfl rfl (Nat.le_of_ble_eq_true rfl) dX3_init_29 ?_
  refine v_mem (M' := sw_ov M [(25, sw_o 3 [.ref (al1 (26)), .ref (al2 (27)), .ref (al3 (28)), .ref (al4 (29)), sw_i 0, sw_i 0, sw_i 0]), (26, sw_ia 4 z0), (27, sw_ia 4 z0), (28, sw_za 4 z0), (29, sw_ia 4 z0)]) rfl ?_
  refine v_aload_n dX3_init_32 rfl ?_
  refine v_iconst dX3_init_33 ?_
  refine v_putf 0 4 fp_X3_25 (sw_nd_of (by simp)) rfl rfl rfl (Nat.le_of_ble_eq_true rfl) dX3_init_34 ?_
  refine v_mem (M' := sw_ov M [(25, sw_o 3 [.ref (al1 (26)), .ref (al2 (27)), .ref (al3 (28)), .ref (al4 (29)), sw_i 0, sw_i 0, sw_i 0]), (26, sw_ia 4 z0), (27, sw_ia 4 z0), (28, sw_za 4 z0), (29, sw_ia 4 z0)]) rfl ?_
  refine v_aload_n dX3_init_37 rfl ?_
  refine v_iconst dX3_init_38 ?_
  refine v_putf 0 5 fp_X3_29 (sw_nd_of (by simp)) rfl rfl rfl (Nat.le_of_ble_eq_true rfl) dX3_init_39 ?_
  refine v_mem (M' := sw_ov M [(25, sw_o 3 [.ref (al1 (26)), .ref (al2 (27)), .ref (al3 (28)), .ref (al4 (29)), sw_i 0, sw_i (-1), sw_i 0]), (26, sw_ia 4 z0), (27, sw_ia 4 z0), (28, sw_za 4 z0), (29, sw_ia 4 z0)]) rfl ?_
  refine v_aload_n dX3_init_42 rfl ?_
  refine v_iconst dX3_init_43 ?_
  refine v_putf 0 6 fp_X3_32 (sw_nd_of (by simp)) rfl rfl rfl (Nat.le_of_ble_eq_true rfl) dX3_init_44 ?_
  refine v_mem (M' := sw_ov M [(25, sw_o 3 [.ref (al1 (26)), .ref (al2 (27)), .ref (al3 (28)), .ref (al4 (29)), sw_i 0, sw_i (-1), sw_i 0]), (26, sw_ia 4 z0), (27, sw_ia 4 z0), (28, sw_za 4 z0), (29, sw_ia 4 z0)]) rfl ?_
  have g0 : al4 (26) = al1 (26) := ((ha4 (26) (by simp)).trans (ha3 (26) (by simp))).trans (ha2 (26) (by simp))
  have g1 : al4 (27) = al2 (27) := (ha4 (27) (by simp)).trans (ha3 (27) (by simp))
  have g2 : al4 (28) = al3 (28) := ha4 (28) (by simp)
  refine va_vretA rfl dX3_init_47 rfl (Nat.le_refl _) (Nat.le_refl _) ⟨rfl, fun u hu => ?_, ?_⟩
  · simp only [List.mem_cons, List.not_mem_nil, or_false, not_or] at hu
    exact (((ha4 u (by simp; omega)).trans (ha3 u (by simp; omega))).trans (ha2 u (by simp; omega))).trans (ha1 u (by simp; omega))
  · rw [← g0, ← g1, ← g2]; rfl
theorem K7_init (h0 : M (1) = some (sw_o 7 [.null, sw_i 0, .null, sw_i 0, sw_i 0])) (n0 : M (2) = none) (n1 : M (100) = none) (n2 : M (101) = none) (n3 : M (102) = none) (n4 : M (103) = none) (n5 : M (104) = none) : KtA l G μX7_init [.ref (sw_al G (1))] M (fun al r M' => r = none ∧ (∀ u, u ∉ [2, 100, 101, 102, 103, 104] → al u = sw_al G u) ∧ M' = sw_ov M (cT (sw_Gw G al) 100 0 0 (-1) :: cB z0 :: cS (sw_Gw G al) 100 σ0 0 0)) := by
  refine KtA.of (by decide +kernel) (Nat.le_of_ble_eq_true rfl) ?_
  refine v_mem (sw_ov_self (cs := [(1, sw_o 7 [.null, sw_i 0, .null, sw_i 0, sw_i 0])]) (sw_hold1 h0 sw_hold0)).symm ?_
  refine v_aload_n dX7_init_0 rfl ?_
  refine v_objI mlO_X7 ⟨(Nat.le_of_ble_eq_true rfl), (Nat.le_of_ble_eq_true rfl)⟩ dX7_init_1 ?_
  refine v_aload_n dX7_init_4 rfl ?_
  refine v_sipush dX7_init_5 (by decide +kernel) ?_
  refine v_newi (2) (N := 240) rfl (Nat.le_of_ble_eq_true rfl) ua_int (by simp) n0 (Nat.le_of_ble_eq_true rfl) (Nat.le_of_ble_eq_true rfl) dX7_init_8 (fun al1 ha1 => ?_)
  have e1 : al1 (1) = sw_al G (1) := ha1 _ (by simp)
  rw [← e1]
  refine v_mem (M' := sw_ov M [(1, sw_o 7 [.null, sw_i 0, .null, sw_i 0, sw_i 0]), (2, sw_ia 240 z0)]) rfl ?_
  refine v_putF 0 0 rfl fp_X7_9 (sw_nd_of (by simp)) rfl rfl rfl (Nat.le_of_ble_eq_true rfl) dX7_init_10 ?_
  refine v_mem (M' := sw_ov M [(1, sw_o 7 [.ref (al1 (2)), sw_i 0, .null, sw_i 0, sw_i 0]), (2, sw_ia 240 z0)]) rfl ?_
  refine v_aload_n dX7_init_13 rfl ?_
  refine v_iconst dX7_init_14 ?_
  refine v_putf 0 1 fp_X7_15 (sw_nd_of (by simp)) rfl rfl rfl (Nat.le_of_ble_eq_true rfl) dX7_init_15 ?_
  refine v_mem (M' := sw_ov M [(1, sw_o 7 [.ref (al1 (2)), sw_i 0, .null, sw_i 0, sw_i 0]), (2, sw_ia 240 z0)]) rfl ?_
  refine v_aload_n dX7_init_18 rfl ?_
  refine v_new (100) (ci := 5) [.null, .null, .null, .null, sw_i 0, sw_i 0, sw_i 0, sw_i 0, sw_i 0, sw_j 0, sw_j 0] tyX5 rfl u_X5 tyX5_ok cl_X7_19 un_X5 ui_X5 ft_X5 (by simp) n1 (Nat.le_of_ble_eq_true rfl) (Nat.le_of_ble_eq_true rfl) dX7_init_19 (fun al2 ha2 => ?_)
  have e2 : al2 (1) = al1 (1) := ha2 _ (by simp)
  rw [← e2]
  refine v_mem (M' := sw_ov M [(1, sw_o 7 [.ref (al1 (2)), sw_i 0, .null, sw_i 0, sw_i 0]), (2, sw_ia 240 z0), (100, sw_o 5 [.null, .null, .null, .null, sw_i 0, sw_i 0, sw_i 0, sw_i 0, sw_i 0, sw_j 0, sw_j 0])]) rfl ?_
  refine v_dup dX7_init_22 rfl ?_
  refine v_callIN (t := 100) (K5_init (G := (sw_Gw G al2)) (M := sw_ov M [(1, sw_o 7 [.ref (al1 (2)), sw_i 0, .null, sw_i 0, sw_i 0]), (2, sw_ia 240 z0), (100, sw_o 5 [.null, .null, .null, .null, sw_i 0, sw_i 0, sw_i 0, sw_i 0, sw_i 0, sw_j 0, sw_j 0])]) (b := 100) rfl ((sw_ov_out (by simp)).trans n2) ((sw_ov_out (by simp)).trans n3) ((sw_ov_out (by simp)).trans n4) ((sw_ov_out (by simp)).trans n5)) (Nat.le_of_ble_eq_true rfl) (Nat.le_of_ble_eq_true rfl) ⟨mm_X5_init, mi_X5_init⟩ rfl rfl (by unfold sw_NL; simp [mY, μX7_init, μX5_init, yX7_init, RX7, yX5_init, RX5]) ⟨(Nat.le_of_ble_eq_true rfl), (Nat.le_of_ble_eq_true rfl)⟩ (by decide +kernel) rfl rfl (Nat.le_of_ble_eq_true rfl) dX7_init_23 (fun al3 r M3 h => ?_)
  obtain ⟨rfl, ha3, rfl⟩ := h
  have e3 : al3 (1) = al2 (1) := ha3 _ (by simp)
  rw [← e3]
  have f3 : al3 (100) = al2 (100) := ha3 _ (by simp)
  rw [← f3]
  refine v_mem (M' := sw_ov M [(1, sw_o 7 [.ref (al1 (2)), sw_i 0, .null, sw_i 0, sw_i 0]), (2, sw_ia 240 z0), (100, sw_o 5 [.ref (al3 (101)), .ref (al3 (102)), .ref (al3 (103)), .ref (al3 (104)), sw_i 0, sw_i 0, sw_i 2, sw_i 0, sw_i 0, sw_j 0, sw_j 0]), (101, sw_ia 8 z0), (102, sw_ia 8 z0), (103, sw_ia 40 z0), (104, sw_ia 4 z0)]) (sw_ov_new (A0 := [(1, sw_o 7 [.ref (al1 (2)), sw_i 0, .null, sw_i 0, sw_i 0]), (2, sw_ia 240 z0)]) (t := 100) (by simp)) ?_
  refine v_putf 0 2 fp_X7_22 (sw_nd_of (by simp)) rfl rfl rfl (Nat.le_of_ble_eq_true rfl) dX7_init_26 ?_
  refine v_mem (M' := sw_ov M [(1, sw_o 7 [.ref (al1 (2)), sw_i 0, .ref (al3 (100)), sw_i 0, sw_i 0]), (2, sw_ia 240 z0), (100, sw_o 5 [.ref (al3 (101)), .ref (al3 (102)), .ref (al3 (103)), .ref (al3 (104)), sw_i 0, sw_i 0, sw_i 2, sw_i 0, sw_i 0, sw_j 0, sw_j 0]), (101, sw_ia 8 z0), (102, sw_ia 8 z0), (103, sw_ia 40 z0), (104, sw_ia 4 z0)]) rfl ?_
  refine v_aload_n dX7_init_29 rfl ?_
  refine v_iconst dX7_init_30 ?_
  refine v_putf 0 3 fp_X7_26 (sw_nd_of (by simp)) rfl rfl rfl (Nat.le_of_ble_eq_true rfl) dX7_init_31 ?_
  refine v_mem (M' := sw_ov M [(1, sw_o 7 [.ref (al1 (2)), sw_i 0, .ref (al3 (100)), sw_i 0, sw_i 0]), (2, sw_ia 240 z0), (100, sw_o 5 [.ref (al3 (101)), .ref (al3 (102)), .ref (al3 (103)), .ref (al3 (104)), sw_i 0, sw_i 0, sw_i 2, sw_i 0, sw_i 0, sw_j 0, sw_j 0]), (101, sw_ia 8 z0), (102, sw_ia 8 z0), (103, sw_ia 40 z0), (104, sw_ia 4 z0)]) rfl ?_
  refine v_aload_n dX7_init_34 rfl ?_
  refine v_iconst dX7_init_35 ?_
  refine v_putf 0 4 fp_X7_29 (sw_nd_of (by simp)) rfl rfl rfl (Nat.le_of_ble_eq_true rfl) dX7_init_36 ?_
  refine v_mem (M' := sw_ov M [(1, sw_o 7 [.ref (al1 (2)), sw_i 0, .ref (al3 (100)), sw_i 0, sw_i (-1)]), (2, sw_ia 240 z0), (100, sw_o 5 [.ref (al3 (101)), .ref (al3 (102)), .ref (al3 (103)), .ref (al3 (104)), sw_i 0, sw_i 0, sw_i 2, sw_i 0, sw_i 0, sw_j 0, sw_j 0]), (101, sw_ia 8 z0), (102, sw_ia 8 z0), (103, sw_ia 40 z0), (104, sw_ia 4 z0)]) rfl ?_
  have g0 : al3 (2) = al1 (2) := (ha3 (2) (by simp)).trans (ha2 (2) (by simp))
  refine va_vretA rfl dX7_init_39 rfl (Nat.le_refl _) (Nat.le_refl _) ⟨rfl, fun u hu => ?_, ?_⟩
  · simp only [List.mem_cons, List.not_mem_nil, or_false, not_or] at hu
    exact ((ha3 u (by simp; omega)).trans (ha2 u (by simp; omega))).trans (ha1 u (by simp; omega))
  · rw [← g0]; rfl
theorem K1_init (h0 : M (6) = some (sw_o 1 [.null, .null, .null, .null, sw_i 0, sw_i 0, sw_j 0, sw_j 0, sw_i 0, sw_i 0, sw_i 0, sw_i 0])) (n0 : M (7) = none) (n1 : M (8) = none) (n2 : M (9) = none) (n3 : M (40) = none) (n4 : M (41) = none) (n5 : M (42) = none) (n6 : M (43) = none) (n7 : M (44) = none) : KtA l G μX1_init [.ref (sw_al G (6))] M (fun al r M' => r = none ∧ (∀ u, u ∉ [7, 8, 9, 40, 41, 42, 43, 44] → al u = sw_al G u) ∧ M' = sw_ov M ([cC (sw_Gw G al) 40 0 0 0 0 (-1) 0 (-1) 0, cR z0, cG z0, cP z0] ++ cS (sw_Gw G al) 40 σ0 0 0)) := by
  refine KtA.of (by decide +kernel) (Nat.le_of_ble_eq_true rfl) ?_
  refine v_mem (sw_ov_self (cs := [(6, sw_o 1 [.null, .null, .null, .null, sw_i 0, sw_i 0, sw_j 0, sw_j 0, sw_i 0, sw_i 0, sw_i 0, sw_i 0])]) (sw_hold1 h0 sw_hold0)).symm ?_
  refine v_aload_n dX1_init_0 rfl ?_
  refine v_objI mlO_X1 ⟨(Nat.le_of_ble_eq_true rfl), (Nat.le_of_ble_eq_true rfl)⟩ dX1_init_1 ?_
  refine v_aload_n dX1_init_4 rfl ?_
  refine v_bipush dX1_init_5 (by decide +kernel) ?_
  refine v_newi (7) (N := 20) rfl (Nat.le_of_ble_eq_true rfl) ua_int (by simp) n0 (Nat.le_of_ble_eq_true rfl) (Nat.le_of_ble_eq_true rfl) dX1_init_7 (fun al1 ha1 => ?_)
  have e1 : al1 (6) = sw_al G (6) := ha1 _ (by simp)
  rw [← e1]
  refine v_mem (M' := sw_ov M [(6, sw_o 1 [.null, .null, .null, .null, sw_i 0, sw_i 0, sw_j 0, sw_j 0, sw_i 0, sw_i 0, sw_i 0, sw_i 0]), (7, sw_ia 20 z0)]) rfl ?_
  refine v_putF 0 0 rfl fp_X1_9 (sw_nd_of (by simp)) rfl rfl rfl (Nat.le_of_ble_eq_true rfl) dX1_init_9 ?_
  refine v_mem (M' := sw_ov M [(6, sw_o 1 [.ref (al1 (7)), .null, .null, .null, sw_i 0, sw_i 0, sw_j 0, sw_j 0, sw_i 0, sw_i 0, sw_i 0, sw_i 0]), (7, sw_ia 20 z0)]) rfl ?_
  refine v_aload_n dX1_init_12 rfl ?_
  refine v_iconst dX1_init_13 ?_
  refine v_newi (8) (N := 4) rfl (Nat.le_of_ble_eq_true rfl) ua_int (by simp) n1 (Nat.le_of_ble_eq_true rfl) (Nat.le_of_ble_eq_true rfl) dX1_init_14 (fun al2 ha2 => ?_)
  have e2 : al2 (6) = al1 (6) := ha2 _ (by simp)
  rw [← e2]
  refine v_mem (M' := sw_ov M [(6, sw_o 1 [.ref (al1 (7)), .null, .null, .null, sw_i 0, sw_i 0, sw_j 0, sw_j 0, sw_i 0, sw_i 0, sw_i 0, sw_i 0]), (7, sw_ia 20 z0), (8, sw_ia 4 z0)]) rfl ?_
  refine v_putF 0 1 rfl fp_X1_15 (sw_nd_of (by simp)) rfl rfl rfl (Nat.le_of_ble_eq_true rfl) dX1_init_16 ?_
  refine v_mem (M' := sw_ov M [(6, sw_o 1 [.ref (al1 (7)), .ref (al2 (8)), .null, .null, sw_i 0, sw_i 0, sw_j 0, sw_j 0, sw_i 0, sw_i 0, sw_i 0, sw_i 0]), (7, sw_ia 20 z0), (8, sw_ia 4 z0)]) rfl ?_
  refine v_aload_n dX1_init_19 rfl ?_
  refine v_bipush dX1_init_20 (by decide +kernel) ?_
  refine v_newj (9) (N := 40) rfl (Nat.le_of_ble_eq_true rfl) ua_long (by simp) n2 (Nat.le_of_ble_eq_true rfl) (Nat.le_of_ble_eq_true rfl) dX1_init_22 (fun al3 ha3 => ?_)
  have e3 : al3 (6) = al2 (6) := ha3 _ (by simp)
  rw [← e3]
  refine v_mem (M' := sw_ov M [(6, sw_o 1 [.ref (al1 (7)), .ref (al2 (8)), .null, .null, sw_i 0, sw_i 0, sw_j 0, sw_j 0, sw_i 0, sw_i 0, sw_i 0, sw_i 0]), (7, sw_ia 20 z0), (8, sw_ia 4 z0), (9, sw_la 40 z0)]) rfl ?_
  refine v_putF 0 2 rfl fp_X1_18 (sw_nd_of (by simp)) rfl rfl rfl (Nat.le_of_ble_eq_true rfl) dX1_init_24 ?_
  refine v_mem (M' := sw_ov M [(6, sw_o 1 [.ref (al1 (7)), .ref (al2 (8)), .ref (al3 (9)), .null, sw_i 0, sw_i 0, sw_j 0, sw_j 0, sw_i 0, sw_i 0, sw_i 0, sw_i 0]), (7, sw_ia 20 z0), (8, sw_ia 4 z0), (9, sw_la 40 z0)]) rfl ?_
  refine v_aload_n dX1_init_27 rfl ?_
  refine v_new (40) (ci := 5) [.null, .null, .null, .null, sw_i 0, sw_i 0, sw_i 0, sw_i 0, sw_i 0, sw_j 0, sw_j 0] tyX5 rfl u_X5 tyX5_ok cl_X1_22 un_X5 ui_X5 ft_X5 (by simp) n3 (Nat.le_of_ble_eq_true rfl) (Nat.le_of_ble_eq_true rfl) dX1_init_28 (fun al4 ha4 => ?_)
  have e4 : al4 (6) = al3 (6) := ha4 _ (by simp)
  rw [← e4]
  refine v_mem (M' := sw_ov M [(6, sw_o 1 [.ref (al1 (7)), .ref (al2 (8)), .ref (al3 (9)), .null, sw_i 0, sw_i 0, sw_j 0, sw_j 0, sw_i 0, sw_i 0, sw_i 0, sw_i 0]), (7, sw_ia 20 z0), (8, sw_ia 4 z0), (9, sw_la 40 z0), (40, sw_o 5 [.null, .null, .null, .null, sw_i 0, sw_i 0, sw_i 0, sw_i 0, sw_i 0, sw_j 0, sw_j 0])]) rfl ?_
  refine v_dup dX1_init_31 rfl ?_
  refine v_callIN (t := 40) (K5_init (G := (sw_Gw G al4)) (M := sw_ov M [(6, sw_o 1 [.ref (al1 (7)), .ref (al2 (8)), .ref (al3 (9)), .null, sw_i 0, sw_i 0, sw_j 0, sw_j 0, sw_i 0, sw_i 0, sw_i 0, sw_i 0]), (7, sw_ia 20 z0), (8, sw_ia 4 z0), (9, sw_la 40 z0), (40, sw_o 5 [.null, .null, .null, .null, sw_i 0, sw_i 0, sw_i 0, sw_i 0, sw_i 0, sw_j 0, sw_j 0])]) (b := 40) rfl ((sw_ov_out (by simp)).trans n4) ((sw_ov_out (by simp)).trans n5) ((sw_ov_out (by simp)).trans n6) ((sw_ov_out (by simp)).trans n7)) (Nat.le_of_ble_eq_true rfl) (Nat.le_of_ble_eq_true rfl) ⟨mm_X5_init, mi_X5_init⟩ rfl rfl (by unfold sw_NL; simp [mY, μX1_init, μX5_init, yX1_init, RX1, yX5_init, RX5]) ⟨(Nat.le_of_ble_eq_true rfl), (Nat.le_of_ble_eq_true rfl)⟩ (by decide +kernel) rfl rfl (Nat.le_of_ble_eq_true rfl) dX1_init_32 (fun al5 r M5 h => ?_)
  obtain ⟨rfl, ha5, rfl⟩ := h
  have e5 : al5 (6) = al4 (6) := ha5 _ (by simp)
  rw [← e5]
  have f5 : al5 (40) = al4 (40) := ha5 _ (by simp)
  rw [← f5]
  refine v_mem (M' := sw_ov M [(6, sw_o 1 [.ref (al1 (7)), .ref (al2 (8)), .ref (al3 (9)), .null, sw_i 0, sw_i 0, sw_j 0, sw_j 0, sw_i 0, sw_i 0, sw_i 0, sw_i 0]), (7, sw_ia 20 z0), (8, sw_ia 4 z0), (9, sw_la 40 z0), (40, sw_o 5 [.ref (al5 (41)), .ref (al5 (42)), .ref (al5 (43)), .ref (al5 (44)), sw_i 0, sw_i 0, sw_i 2, sw_i 0, sw_i 0, sw_j 0, sw_j 0]), (41, sw_ia 8 z0), (42, sw_ia 8 z0), (43, sw_ia 40 z0), (44, sw_ia 4 z0)]) (sw_ov_new (A0 := [(6, sw_o 1 [.ref (al1 (7)), .ref (al2 (8)), .ref (al3 (9)), .null, sw_i 0, sw_i 0, sw_j 0, sw_j 0, sw_i 0, sw_i 0, sw_i 0, sw_i 0]), (7, sw_ia 20 z0), (8, sw_ia 4 z0), (9, sw_la 40 z0)]) (t := 40) (by simp)) ?_
  refine v_putf 0 3 fp_X1_25 (sw_nd_of (by simp)) rfl rfl rfl (Nat.le_of_ble_eq_true rfl) dX1_init_35 ?_
  refine v_mem (M' := sw_ov M [(6, sw_o 1 [.ref (al1 (7)), .ref (al2 (8)), .ref (al3 (9)), .ref (al5 (40)), sw_i 0, sw_i 0, sw_j 0, sw_j 0, sw_i 0, sw_i 0, sw_i 0, sw_i 0]), (7, sw_ia 20 z0), (8, sw_ia 4 z0), (9, sw_la 40 z0), (40, sw_o 5 [.ref (al5 (41)), .ref (al5 (42)), .ref (al5 (43)), .ref (al5 (44)), sw_i 0, sw_i 0, sw_i 2, sw_i 0, sw_i 0, sw_j 0, sw_j 0]), (41, sw_ia 8 z0), (42, sw_ia 8 z0), (43, sw_ia 40 z0), (44, sw_ia 4 z0)]) rfl ?_
  refine v_aload_n dX1_init_38 rfl ?_
  refine v_iconst dX1_init_39 ?_
  refine v_putf 0 4 fp_X1_29 (sw_nd_of (by simp)) rfl rfl rfl (Nat.le_of_ble_eq_true rfl) dX1_init_40 ?_
  refine v_mem (M' := sw_ov M [(6, sw_o 1 [.ref (al1 (7)), .ref (al2 (8)), .ref (al3 (9)), .ref (al5 (40)), sw_i 0, sw_i 0, sw_j 0, sw_j 0, sw_i 0, sw_i 0, sw_i 0, sw_i 0]), (7, sw_ia 20 z0), (8, sw_ia 4 z0), (9, sw_la 40 z0), (40, sw_o 5 [.ref (al5 (41)), .ref (al5 (42)), .ref (al5 (43)), .ref (al5 (44)), sw_i 0, sw_i 0, sw_i 2, sw_i 0, sw_i 0, sw_j 0, sw_j 0]), (41, sw_ia 8 z0), (42, sw_ia 8 z0), (43, sw_ia 40 z0), (44, sw_ia 4 z0)]) rfl ?_
  refine v_aload_n dX1_init_43 rfl ?_
  refine v_iconst dX1_init_44 ?_
  refine v_putf 0 5 fp_X1_33 (sw_nd_of (by simp)) rfl rfl rfl (Nat.le_of_ble_eq_true rfl) dX1_init_45 ?_
  refine v_mem (M' := sw_ov M [(6, sw_o 1 [.ref (al1 (7)), .ref (al2 (8)), .ref (al3 (9)), .ref (al5 (40)), sw_i 0, sw_i 0, sw_j 0, sw_j 0, sw_i 0, sw_i 0, sw_i 0, sw_i 0]), (7, sw_ia 20 z0), (8, sw_ia 4 z0), (9, sw_la 40 z0), (40, sw_o 5 [.ref (al5 (41)), .ref (al5 (42)), .ref (al5 (43)), .ref (al5 (44)), sw_i 0, sw_i 0, sw_i 2, sw_i 0, sw_i 0, sw_j 0, sw_j 0]), (41, sw_ia 8 z0), (42, sw_ia 8 z0), (43, sw_ia 40 z0), (44, sw_ia 4 z0)]) rfl ?_
  refine v_aload_n dX1_init_48 rfl ?_
  refine v_lconst (z := 0) dX1_init_49 (by decide +kernel) ?_
  refine v_putf 0 6 fp_X1_36 (sw_nd_of (by simp)) rfl rfl rfl (Nat.le_of_ble_eq_true rfl) dX1_init_50 ?_
  refine v_mem (M' := sw_ov M [(6, sw_o 1 [.ref (al1 (7)), .ref (al2 (8)), .ref (al3 (9)), .ref (al5 (40)), sw_i 0, sw_i 0, sw_j 0, sw_j 0, sw_i 0, sw_i 0, sw_i 0, sw_i 0]), (7, sw_ia 20 z0), (8, sw_ia 4 z0), (9, sw_la 40 z0), (40, sw_o 5 [.ref (al5 (41)), .ref (al5 (42)), .ref (al5 (43)), .ref (al5 (44)), sw_i 0, sw_i 0, sw_i 2, sw_i 0, sw_i 0, sw_j 0, sw_j 0]), (41, sw_ia 8 z0), (42, sw_ia 8 z0), (43, sw_ia 40 z0), (44, sw_ia 4 z0)]) rfl ?_
  refine v_aload_n dX1_init_53 rfl ?_
  refine v_lconst (z := 0) dX1_init_54 (by decide +kernel) ?_
  refine v_putf 0 7 fp_X1_40 (sw_nd_of (by simp)) rfl rfl rfl (Nat.le_of_ble_eq_true rfl) dX1_init_55 ?_
  refine v_mem (M' := sw_ov M [(6, sw_o 1 [.ref (al1 (7)), .ref (al2 (8)), .ref (al3 (9)), .ref (al5 (40)), sw_i 0, sw_i 0, sw_j 0, sw_j 0, sw_i 0, sw_i 0, sw_i 0, sw_i 0]), (7, sw_ia 20 z0), (8, sw_ia 4 z0), (9, sw_la 40 z0), (40, sw_o 5 [.ref (al5 (41)), .ref (al5 (42)), .ref (al5 (43)), .ref (al5 (44)), sw_i 0, sw_i 0, sw_i 2, sw_i 0, sw_i 0, sw_j 0, sw_j 0]), (41, sw_ia 8 z0), (42, sw_ia 8 z0), (43, sw_ia 40 z0), (44, sw_ia 4 z0)]) rfl ?_
  refine v_aload_n dX1_init_58 rfl ?_
  refine v_iconst dX1_init_59 ?_
  refine v_putf 0 8 fp_X1_43 (sw_nd_of (by simp)) rfl rfl rfl (Nat.le_of_ble_eq_true rfl) dX1_init_60 ?_
  refine v_mem (M' := sw_ov M [(6, sw_o 1 [.ref (al1 (7)), .ref (al2 (8)), .ref (al3 (9)), .ref (al5 (40)), sw_i 0, sw_i 0, sw_j 0, sw_j 0, sw_i (-1), sw_i 0, sw_i 0, sw_i 0]), (7, sw_ia 20 z0), (8, sw_ia 4 z0), (9, sw_la 40 z0), (40, sw_o 5 [.ref (al5 (41)), .ref (al5 (42)), .ref (al5 (43)), .ref (al5 (44)), sw_i 0, sw_i 0, sw_i 2, sw_i 0, sw_i 0, sw_j 0, sw_j 0]), (41, sw_ia 8 z0), (42, sw_ia 8 z0), (43, sw_ia 40 z0), (44, sw_ia 4 z0)]) rfl ?_
  refine v_aload_n dX1_init_63 rfl ?_
  refine v_iconst dX1_init_64 ?_
  refine v_putf 0 9 fp_X1_46 (sw_nd_of (by simp)) rfl rfl rfl (Nat.le_of_ble_eq_true rfl) dX1_init_65 ?_
  refine v_mem (M' := sw_ov M [(6, sw_o 1 [.ref (al1 (7)), .ref (al2 (8)), .ref (al3 (9)), .ref (al5 (40)), sw_i 0, sw_i 0, sw_j 0, sw_j 0, sw_i (-1), sw_i 0, sw_i 0, sw_i 0]), (7, sw_ia 20 z0), (8, sw_ia 4 z0), (9, sw_la 40 z0), (40, sw_o 5 [.ref (al5 (41)), .ref (al5 (42)), .ref (al5 (43)), .ref (al5 (44)), sw_i 0, sw_i 0, sw_i 2, sw_i 0, sw_i 0, sw_j 0, sw_j 0]), (41, sw_ia 8 z0), (42, sw_ia 8 z0), (43, sw_ia 40 z0), (44, sw_ia 4 z0)]) rfl ?_
  refine v_aload_n dX1_init_68 rfl ?_
  refine v_iconst dX1_init_69 ?_
  refine v_putf 0 10 fp_X1_49 (sw_nd_of (by simp)) rfl rfl rfl (Nat.le_of_ble_eq_true rfl) dX1_init_70 ?_
  refine v_mem (M' := sw_ov M [(6, sw_o 1 [.ref (al1 (7)), .ref (al2 (8)), .ref (al3 (9)), .ref (al5 (40)), sw_i 0, sw_i 0, sw_j 0, sw_j 0, sw_i (-1), sw_i 0, sw_i (-1), sw_i 0]), (7, sw_ia 20 z0), (8, sw_ia 4 z0), (9, sw_la 40 z0), (40, sw_o 5 [.ref (al5 (41)), .ref (al5 (42)), .ref (al5 (43)), .ref (al5 (44)), sw_i 0, sw_i 0, sw_i 2, sw_i 0, sw_i 0, sw_j 0, sw_j 0]), (41, sw_ia 8 z0), (42, sw_ia 8 z0), (43, sw_ia 40 z0), (44, sw_ia 4 z0)]) rfl ?_
  refine v_aload_n dX1_init_73 rfl ?_
  refine v_iconst dX1_init_74 ?_
  refine v_putf 0 11 fp_X1_52 (sw_nd_of (by simp)) rfl rfl rfl (Nat.le_of_ble_eq_true rfl) dX1_init_75 ?_
  refine v_mem (M' := sw_ov M [(6, sw_o 1 [.ref (al1 (7)), .ref (al2 (8)), .ref (al3 (9)), .ref (al5 (40)), sw_i 0, sw_i 0, sw_j 0, sw_j 0, sw_i (-1), sw_i 0, sw_i (-1), sw_i 0]), (7, sw_ia 20 z0), (8, sw_ia 4 z0), (9, sw_la 40 z0), (40, sw_o 5 [.ref (al5 (41)), .ref (al5 (42)), .ref (al5 (43)), .ref (al5 (44)), sw_i 0, sw_i 0, sw_i 2, sw_i 0, sw_i 0, sw_j 0, sw_j 0]), (41, sw_ia 8 z0), (42, sw_ia 8 z0), (43, sw_ia 40 z0), (44, sw_ia 4 z0)]) rfl ?_
  have g0 : al5 (7) = al1 (7) := (((ha5 (7) (by simp)).trans (ha4 (7) (by simp))).trans (ha3 (7) (by simp))).trans (ha2 (7) (by simp))
  have g1 : al5 (8) = al2 (8) := ((ha5 (8) (by simp)).trans (ha4 (8) (by simp))).trans (ha3 (8) (by simp))
  have g2 : al5 (9) = al3 (9) := (ha5 (9) (by simp)).trans (ha4 (9) (by simp))
  refine va_vretA rfl dX1_init_78 rfl (Nat.le_refl _) (Nat.le_refl _) ⟨rfl, fun u hu => ?_, ?_⟩
  · simp only [List.mem_cons, List.not_mem_nil, or_false, not_or] at hu
    exact ((((ha5 u (by simp; omega)).trans (ha4 u (by simp; omega))).trans (ha3 u (by simp; omega))).trans (ha2 u (by simp; omega))).trans (ha1 u (by simp; omega))
  · rw [← g0, ← g1, ← g2]; rfl
theorem K2_init (h0 : M (30) = some (sw_o 2 [.null, .null, .null, .null, sw_j 0, sw_i 0, sw_i 0, sw_i 0])) (n0 : M (31) = none) (n1 : M (32) = none) (n2 : M (33) = none) (n3 : M (45) = none) (n4 : M (46) = none) (n5 : M (47) = none) (n6 : M (48) = none) (n7 : M (49) = none) : KtA l G μX2_init [.ref (sw_al G (30))] M (fun al r M' => r = none ∧ (∀ u, u ∉ [31, 32, 33, 45, 46, 47, 48, 49] → al u = sw_al G u) ∧ M' = sw_ov M (cLs (sw_Gw G al) 45 0 0 0 0 z0 z0 z0 ++ cS (sw_Gw G al) 45 σ0 0 0)) := by
  refine KtA.of (by decide +kernel) (Nat.le_of_ble_eq_true rfl) ?_
  refine v_mem (sw_ov_self (cs := [(30, sw_o 2 [.null, .null, .null, .null, sw_j 0, sw_i 0, sw_i 0, sw_i 0])]) (sw_hold1 h0 sw_hold0)).symm ?_
  refine v_aload_n dX2_init_0 rfl ?_
  refine v_objI mlO_X2 ⟨(Nat.le_of_ble_eq_true rfl), (Nat.le_of_ble_eq_true rfl)⟩ dX2_init_1 ?_
  refine v_aload_n dX2_init_4 rfl ?_
  refine v_bipush dX2_init_5 (by decide +kernel) ?_
  refine v_newi (31) (N := 20) rfl (Nat.le_of_ble_eq_true rfl) ua_int (by simp) n0 (Nat.le_of_ble_eq_true rfl) (Nat.le_of_ble_eq_true rfl) dX2_init_7 (fun al1 ha1 => ?_)
  have e1 : al1 (30) = sw_al G (30) := ha1 _ (by simp)
  rw [← e1]
  refine v_mem (M' := sw_ov M [(30, sw_o 2 [.null, .null, .null, .null, sw_j 0, sw_i 0, sw_i 0, sw_i 0]), (31, sw_ia 20 z0)]) rfl ?_
  refine v_putF 0 0 rfl fp_X2_9 (sw_nd_of (by simp)) rfl rfl rfl (Nat.le_of_ble_eq_true rfl) dX2_init_9 ?_
  refine v_mem (M' := sw_ov M [(30, sw_o 2 [.ref (al1 (31)), .null, .null, .null, sw_j 0, sw_i 0, sw_i 0, sw_i 0]), (31, sw_ia 20 z0)]) rfl ?_
  refine v_aload_n dX2_init_12 rfl ?_
  refine v_iconst dX2_init_13 ?_
  refine v_newi (32) (N := 4) rfl (Nat.le_of_ble_eq_true rfl) ua_int (by simp) n1 (Nat.le_of_ble_eq_true rfl) (Nat.le_of_ble_eq_true rfl) dX2_init_14 (fun al2 ha2 => ?_)
  have e2 : al2 (30) = al1 (30) := ha2 _ (by simp)
  rw [← e2]
  refine v_mem (M' := sw_ov M [(30, sw_o 2 [.ref (al1 (31)), .null, .null, .null, sw_j 0, sw_i 0, sw_i 0, sw_i 0]), (31, sw_ia 20 z0), (32, sw_ia 4 z0)]) rfl ?_
  refine v_putF 0 1 rfl fp_X2_15 (sw_nd_of (by simp)) rfl rfl rfl (Nat.le_of_ble_eq_true rfl) dX2_init_16 ?_
  refine v_mem (M' := sw_ov M [(30, sw_o 2 [.ref (al1 (31)), .ref (al2 (32)), .null, .null, sw_j 0, sw_i 0, sw_i 0, sw_i 0]), (31, sw_ia 20 z0), (32, sw_ia 4 z0)]) rfl ?_
  refine v_aload_n dX2_init_19 rfl ?_
  refine v_iconst dX2_init_20 ?_
  refine v_newi (33) (N := 4) rfl (Nat.le_of_ble_eq_true rfl) ua_int (by simp) n2 (Nat.le_of_ble_eq_true rfl) (Nat.le_of_ble_eq_true rfl) dX2_init_21 (fun al3 ha3 => ?_)
  have e3 : al3 (30) = al2 (30) := ha3 _ (by simp)
  rw [← e3]
  refine v_mem (M' := sw_ov M [(30, sw_o 2 [.ref (al1 (31)), .ref (al2 (32)), .null, .null, sw_j 0, sw_i 0, sw_i 0, sw_i 0]), (31, sw_ia 20 z0), (32, sw_ia 4 z0), (33, sw_ia 4 z0)]) rfl ?_
  refine v_putF 0 2 rfl fp_X2_18 (sw_nd_of (by simp)) rfl rfl rfl (Nat.le_of_ble_eq_true rfl) dX2_init_23 ?_
  refine v_mem (M' := sw_ov M [(30, sw_o 2 [.ref (al1 (31)), .ref (al2 (32)), .ref (al3 (33)), .null, sw_j 0, sw_i 0, sw_i 0, sw_i 0]), (31, sw_ia 20 z0), (32, sw_ia 4 z0), (33, sw_ia 4 z0)]) rfl ?_
  refine v_aload_n dX2_init_26 rfl ?_
  refine v_new (45) (ci := 5) [.null, .null, .null, .null, sw_i 0, sw_i 0, sw_i 0, sw_i 0, sw_i 0, sw_j 0, sw_j 0] tyX5 rfl u_X5 tyX5_ok cl_X2_21 un_X5 ui_X5 ft_X5 (by simp) n3 (Nat.le_of_ble_eq_true rfl) (Nat.le_of_ble_eq_true rfl) dX2_init_27 (fun al4 ha4 => ?_)
  have e4 : al4 (30) = al3 (30) := ha4 _ (by simp)
  rw [← e4]
  refine v_mem (M' := sw_ov M [(30, sw_o 2 [.ref (al1 (31)), .ref (al2 (32)), .ref (al3 (33)), .null, sw_j 0, sw_i 0, sw_i 0, sw_i 0]), (31, sw_ia 20 z0), (32, sw_ia 4 z0), (33, sw_ia 4 z0), (45, sw_o 5 [.null, .null, .null, .null, sw_i 0, sw_i 0, sw_i 0, sw_i 0, sw_i 0, sw_j 0, sw_j 0])]) rfl ?_
  refine v_dup dX2_init_30 rfl ?_
  refine v_callIN (t := 45) (K5_init (G := (sw_Gw G al4)) (M := sw_ov M [(30, sw_o 2 [.ref (al1 (31)), .ref (al2 (32)), .ref (al3 (33)), .null, sw_j 0, sw_i 0, sw_i 0, sw_i 0]), (31, sw_ia 20 z0), (32, sw_ia 4 z0), (33, sw_ia 4 z0), (45, sw_o 5 [.null, .null, .null, .null, sw_i 0, sw_i 0, sw_i 0, sw_i 0, sw_i 0, sw_j 0, sw_j 0])]) (b := 45) rfl ((sw_ov_out (by simp)).trans n4) ((sw_ov_out (by simp)).trans n5) ((sw_ov_out (by simp)).trans n6) ((sw_ov_out (by simp)).trans n7)) (Nat.le_of_ble_eq_true rfl) (Nat.le_of_ble_eq_true rfl) ⟨mm_X5_init, mi_X5_init⟩ rfl rfl (by unfold sw_NL; simp [mY, μX2_init, μX5_init, yX2_init, RX2, yX5_init, RX5]) ⟨(Nat.le_of_ble_eq_true rfl), (Nat.le_of_ble_eq_true rfl)⟩ (by decide +kernel) rfl rfl (Nat.le_of_ble_eq_true rfl) dX2_init_31 (fun al5 r M5 h => ?_)
  obtain ⟨rfl, ha5, rfl⟩ := h
  have e5 : al5 (30) = al4 (30) := ha5 _ (by simp)
  rw [← e5]
  have f5 : al5 (45) = al4 (45) := ha5 _ (by simp)
  rw [← f5]
  refine v_mem (M' := sw_ov M [(30, sw_o 2 [.ref (al1 (31)), .ref (al2 (32)), .ref (al3 (33)), .null, sw_j 0, sw_i 0, sw_i 0, sw_i 0]), (31, sw_ia 20 z0), (32, sw_ia 4 z0), (33, sw_ia 4 z0), (45, sw_o 5 [.ref (al5 (46)), .ref (al5 (47)), .ref (al5 (48)), .ref (al5 (49)), sw_i 0, sw_i 0, sw_i 2, sw_i 0, sw_i 0, sw_j 0, sw_j 0]), (46, sw_ia 8 z0), (47, sw_ia 8 z0), (48, sw_ia 40 z0), (49, sw_ia 4 z0)]) (sw_ov_new (A0 := [(30, sw_o 2 [.ref (al1 (31)), .ref (al2 (32)), .ref (al3 (33)), .null, sw_j 0, sw_i 0, sw_i 0, sw_i 0]), (31, sw_ia 20 z0), (32, sw_ia 4 z0), (33, sw_ia 4 z0)]) (t := 45) (by simp)) ?_
  refine v_putf 0 3 fp_X2_24 (sw_nd_of (by simp)) rfl rfl rfl (Nat.le_of_ble_eq_true rfl) dX2_init_34 ?_
  refine v_mem (M' := sw_ov M [(30, sw_o 2 [.ref (al1 (31)), .ref (al2 (32)), .ref (al3 (33)), .ref (al5 (45)), sw_j 0, sw_i 0, sw_i 0, sw_i 0]), (31, sw_ia 20 z0), (32, sw_ia 4 z0), (33, sw_ia 4 z0), (45, sw_o 5 [.ref (al5 (46)), .ref (al5 (47)), .ref (al5 (48)), .ref (al5 (49)), sw_i 0, sw_i 0, sw_i 2, sw_i 0, sw_i 0, sw_j 0, sw_j 0]), (46, sw_ia 8 z0), (47, sw_ia 8 z0), (48, sw_ia 40 z0), (49, sw_ia 4 z0)]) rfl ?_
  refine v_aload_n dX2_init_37 rfl ?_
  refine v_lconst (z := 0) dX2_init_38 (by decide +kernel) ?_
  refine v_putf 0 4 fp_X2_28 (sw_nd_of (by simp)) rfl rfl rfl (Nat.le_of_ble_eq_true rfl) dX2_init_39 ?_
  refine v_mem (M' := sw_ov M [(30, sw_o 2 [.ref (al1 (31)), .ref (al2 (32)), .ref (al3 (33)), .ref (al5 (45)), sw_j 0, sw_i 0, sw_i 0, sw_i 0]), (31, sw_ia 20 z0), (32, sw_ia 4 z0), (33, sw_ia 4 z0), (45, sw_o 5 [.ref (al5 (46)), .ref (al5 (47)), .ref (al5 (48)), .ref (al5 (49)), sw_i 0, sw_i 0, sw_i 2, sw_i 0, sw_i 0, sw_j 0, sw_j 0]), (46, sw_ia 8 z0), (47, sw_ia 8 z0), (48, sw_ia 40 z0), (49, sw_ia 4 z0)]) rfl ?_
  refine v_aload_n dX2_init_42 rfl ?_
  refine v_iconst dX2_init_43 ?_
  refine v_putf 0 5 fp_X2_32 (sw_nd_of (by simp)) rfl rfl rfl (Nat.le_of_ble_eq_true rfl) dX2_init_44 ?_
  refine v_mem (M' := sw_ov M [(30, sw_o 2 [.ref (al1 (31)), .ref (al2 (32)), .ref (al3 (33)), .ref (al5 (45)), sw_j 0, sw_i 0, sw_i 0, sw_i 0]), (31, sw_ia 20 z0), (32, sw_ia 4 z0), (33, sw_ia 4 z0), (45, sw_o 5 [.ref (al5 (46)), .ref (al5 (47)), .ref (al5 (48)), .ref (al5 (49)), sw_i 0, sw_i 0, sw_i 2, sw_i 0, sw_i 0, sw_j 0, sw_j 0]), (46, sw_ia 8 z0), (47, sw_ia 8 z0), (48, sw_ia 40 z0), (49, sw_ia 4 z0)]) rfl ?_
  refine v_aload_n dX2_init_47 rfl ?_
  refine v_iconst dX2_init_48 ?_
  refine v_putf 0 6 fp_X2_36 (sw_nd_of (by simp)) rfl rfl rfl (Nat.le_of_ble_eq_true rfl) dX2_init_49 ?_
  refine v_mem (M' := sw_ov M [(30, sw_o 2 [.ref (al1 (31)), .ref (al2 (32)), .ref (al3 (33)), .ref (al5 (45)), sw_j 0, sw_i 0, sw_i 0, sw_i 0]), (31, sw_ia 20 z0), (32, sw_ia 4 z0), (33, sw_ia 4 z0), (45, sw_o 5 [.ref (al5 (46)), .ref (al5 (47)), .ref (al5 (48)), .ref (al5 (49)), sw_i 0, sw_i 0, sw_i 2, sw_i 0, sw_i 0, sw_j 0, sw_j 0]), (46, sw_ia 8 z0), (47, sw_ia 8 z0), (48, sw_ia 40 z0), (49, sw_ia 4 z0)]) rfl ?_
  refine v_aload_n dX2_init_52 rfl ?_
  refine v_iconst dX2_init_53 ?_
  refine v_putf 0 7 fp_X2_39 (sw_nd_of (by simp)) rfl rfl rfl (Nat.le_of_ble_eq_true rfl) dX2_init_54 ?_
  refine v_mem (M' := sw_ov M [(30, sw_o 2 [.ref (al1 (31)), .ref (al2 (32)), .ref (al3 (33)), .ref (al5 (45)), sw_j 0, sw_i 0, sw_i 0, sw_i 0]), (31, sw_ia 20 z0), (32, sw_ia 4 z0), (33, sw_ia 4 z0), (45, sw_o 5 [.ref (al5 (46)), .ref (al5 (47)), .ref (al5 (48)), .ref (al5 (49)), sw_i 0, sw_i 0, sw_i 2, sw_i 0, sw_i 0, sw_j 0, sw_j 0]), (46, sw_ia 8 z0), (47, sw_ia 8 z0), (48, sw_ia 40 z0), (49, sw_ia 4 z0)]) rfl ?_
  have g0 : al5 (31) = al1 (31) := (((ha5 (31) (by simp)).trans (ha4 (31) (by simp))).trans (ha3 (31) (by simp))).trans (ha2 (31) (by simp))
  have g1 : al5 (32) = al2 (32) := ((ha5 (32) (by simp)).trans (ha4 (32) (by simp))).trans (ha3 (32) (by simp))
  have g2 : al5 (33) = al3 (33) := (ha5 (33) (by simp)).trans (ha4 (33) (by simp))
  refine va_vretA rfl dX2_init_57 rfl (Nat.le_refl _) (Nat.le_refl _) ⟨rfl, fun u hu => ?_, ?_⟩
  · simp only [List.mem_cons, List.not_mem_nil, or_false, not_or] at hu
    exact ((((ha5 u (by simp; omega)).trans (ha4 u (by simp; omega))).trans (ha3 u (by simp; omega))).trans (ha2 u (by simp; omega))).trans (ha1 u (by simp; omega))
  · rw [← g0, ← g1, ← g2]; rfl
/-- the object as it begins -/
def s0 : CSt := (z0, 0, 0, fun _ => σ0, 0, z0, z0, 0, 0, z0, z0)
end

