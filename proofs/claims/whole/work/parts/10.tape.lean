/-! the TAPE: its mathematics, the reader's small methods -/
def wfT (f : Int → Int) (len : Int) : Prop := 0 ≤ len ∧ len ≤ 240 ∧ ∀ i, 0 ≤ i → i < len → 1 ≤ f i ∧ f i ≤ 255
def lk (f : Int → Int) (len a : Int) : Int := if a < len then f a else -1
theorem lk_bd {f : Int → Int} {len : Int} (h : wfT f len) {a : Int} (h0 : 0 ≤ a) : -1 ≤ lk f len a ∧ lk f len a ≤ 255 := by
  unfold lk
  split
  · have := h.2.2 a h0 (by assumption); omega
  · omega
/-- behind the blanks -/
def sk (f : Int → Int) (len : Int) : Nat → Int → Int
  | 0, a => a
  | n + 1, a => if lk f len a = 32 then sk f len n (a + 1) else a
theorem sk_le (f : Int → Int) (len : Int) : ∀ (n : Nat) (a : Int), a ≤ sk f len n a ∧ (sk f len n a ≤ len ∨ sk f len n a = a)
  | 0, a => ⟨Int.le_refl _, Or.inr rfl⟩
  | n + 1, a => by
    unfold sk
    by_cases h : lk f len a = 32
    · rw [if_pos h]
      have ih := sk_le f len n (a + 1)
      have hl : a < len := by
        unfold lk at h
        by_cases q : a < len
        · exact q
        · rw [if_neg q] at h; omega
      omega
    · rw [if_neg h]; omega
theorem sk_end {f : Int → Int} {len : Int} : ∀ (n : Nat) {a : Int}, len ≤ a + n → lk f len (sk f len n a) ≠ 32
  | 0, a, h => by
    show lk f len a ≠ 32
    unfold lk
    rw [if_neg (by omega)]
    omega
  | n + 1, a, h => by
    unfold sk
    by_cases q : lk f len a = 32
    · rw [if_pos q]; exact sk_end n (by omega)
    · rw [if_neg q]; exact q
/-- no blank here: nothing is passed over -/
theorem sk_no {f : Int → Int} {len : Int} (n : Nat) {a : Int} (h : lk f len a ≠ 32) : sk f len n a = a := by
  cases n with
  | zero => rfl
  | succ n => exact if_neg h
/-- more steps change nothing -/
theorem sk_fuel {f : Int → Int} {len : Int} : ∀ (n m : Nat) {a : Int}, len ≤ a + n → len ≤ a + m → sk f len n a = sk f len m a
  | 0, m, a, h, _ => by
    have hq : lk f len a ≠ 32 := by unfold lk; rw [if_neg (by omega)]; omega
    exact (sk_no m hq).symm
  | n + 1, 0, a, _, h => by
    have hq : lk f len a ≠ 32 := by unfold lk; rw [if_neg (by omega)]; omega
    exact sk_no (n + 1) hq
  | n + 1, m + 1, a, h, k => by
    unfold sk
    by_cases q : lk f len a = 32
    · rw [if_pos q, if_pos q]; exact sk_fuel n m (by omega) (by omega)
    · rw [if_neg q, if_neg q]
def dg (c : Int) : Int := if 48 ≤ c ∧ c ≤ 57 then c - 48 else -1
theorem dg_bd (c : Int) : -1 ≤ dg c ∧ dg c ≤ 9 := by
  unfold dg; split <;> omega
abbrev cT (G : sw_G) (b : Nat) (len a wr : Int) : sw_Ce := (1, sw_o 7 [.ref (sw_al G 2), sw_i len, .ref (sw_al G b), sw_i a, sw_i wr])
abbrev cB (f : Int → Int) : sw_Ce := (2, sw_ia 240 f)
theorem cT_nd : sw_nd [1, 2] := sw_nd_of (by simp)
/-- a number: what it is, where the reading stands then, what is wrong (-1: nothing) -/
def nmb (f : Int → Int) (len a lo hi : Int) : Int × Int × Int :=
  let a1 := sk f len 240 a
  if a1 = a ∨ dg (lk f len a1) = -1 then (0, a1, a1)
  else if dg (lk f len (a1 + 1)) = -1 then
    if dg (lk f len a1) < lo ∨ hi < dg (lk f len a1) then (0, a1 + 1, a1) else (dg (lk f len a1), a1 + 1, -1)
  else
    let v := dg (lk f len a1) * 10 + dg (lk f len (a1 + 1))
    if v < lo ∨ hi < v then (0, a1 + 2, a1 + 1)
    else if dg (lk f len (a1 + 2)) = -1 then (v, a1 + 2, -1) else (0, a1 + 2, a1 + 2)
theorem nmb1 {f : Int → Int} {len a lo hi a1 d1 d2 d3 v a' w : Int} (ha1 : sk f len 240 a = a1) (hd1 : dg (lk f len a1) = d1) (hd2 : dg (lk f len (a1 + 1)) = d2) (hd3 : dg (lk f len (a1 + 2)) = d3) (c1 : a1 = a ∨ d1 = -1) (e1 : v = 0) (e2 : a' = a1) (e3 : w = a1) : nmb f len a lo hi = (v, a', w) := by
  unfold nmb
  simp only [ha1, hd1, hd2, hd3]
  rw [e1, e2, e3, if_pos c1]
theorem nmb2 {f : Int → Int} {len a lo hi a1 d1 d2 d3 v a' w : Int} (ha1 : sk f len 240 a = a1) (hd1 : dg (lk f len a1) = d1) (hd2 : dg (lk f len (a1 + 1)) = d2) (hd3 : dg (lk f len (a1 + 2)) = d3) (c1 : ¬ (a1 = a ∨ d1 = -1)) (c2 : d2 = -1) (c3 : d1 < lo ∨ hi < d1) (e1 : v = 0) (e2 : a' = a1 + 1) (e3 : w = a1) : nmb f len a lo hi = (v, a', w) := by
  unfold nmb
  simp only [ha1, hd1, hd2, hd3]
  rw [e1, e2, e3, if_neg c1, if_pos c2, if_pos c3]
theorem nmb3 {f : Int → Int} {len a lo hi a1 d1 d2 d3 v a' w : Int} (ha1 : sk f len 240 a = a1) (hd1 : dg (lk f len a1) = d1) (hd2 : dg (lk f len (a1 + 1)) = d2) (hd3 : dg (lk f len (a1 + 2)) = d3) (c1 : ¬ (a1 = a ∨ d1 = -1)) (c2 : d2 = -1) (c3 : ¬ (d1 < lo ∨ hi < d1)) (e1 : v = d1) (e2 : a' = a1 + 1) (e3 : w = -1) : nmb f len a lo hi = (v, a', w) := by
  unfold nmb
  simp only [ha1, hd1, hd2, hd3]
  rw [e1, e2, e3, if_neg c1, if_pos c2, if_neg c3]
theorem nmb4 {f : Int → Int} {len a lo hi a1 d1 d2 d3 v a' w : Int} (ha1 : sk f len 240 a = a1) (hd1 : dg (lk f len a1) = d1) (hd2 : dg (lk f len (a1 + 1)) = d2) (hd3 : dg (lk f len (a1 + 2)) = d3) (c1 : ¬ (a1 = a ∨ d1 = -1)) (c2 : ¬ d2 = -1) (c3 : d1 * 10 + d2 < lo ∨ hi < d1 * 10 + d2) (e1 : v = 0) (e2 : a' = a1 + 2) (e3 : w = a1 + 1) : nmb f len a lo hi = (v, a', w) := by
  unfold nmb
  simp only [ha1, hd1, hd2, hd3]
  rw [e1, e2, e3, if_neg c1, if_neg c2, if_pos c3]
theorem nmb5 {f : Int → Int} {len a lo hi a1 d1 d2 d3 v a' w : Int} (ha1 : sk f len 240 a = a1) (hd1 : dg (lk f len a1) = d1) (hd2 : dg (lk f len (a1 + 1)) = d2) (hd3 : dg (lk f len (a1 + 2)) = d3) (c1 : ¬ (a1 = a ∨ d1 = -1)) (c2 : ¬ d2 = -1) (c3 : ¬ (d1 * 10 + d2 < lo ∨ hi < d1 * 10 + d2)) (c4 : d3 = -1) (e1 : v = d1 * 10 + d2) (e2 : a' = a1 + 2) (e3 : w = -1) : nmb f len a lo hi = (v, a', w) := by
  unfold nmb
  simp only [ha1, hd1, hd2, hd3]
  rw [e1, e2, e3, if_neg c1, if_neg c2, if_neg c3, if_pos c4]
theorem nmb6 {f : Int → Int} {len a lo hi a1 d1 d2 d3 v a' w : Int} (ha1 : sk f len 240 a = a1) (hd1 : dg (lk f len a1) = d1) (hd2 : dg (lk f len (a1 + 1)) = d2) (hd3 : dg (lk f len (a1 + 2)) = d3) (c1 : ¬ (a1 = a ∨ d1 = -1)) (c2 : ¬ d2 = -1) (c3 : ¬ (d1 * 10 + d2 < lo ∨ hi < d1 * 10 + d2)) (c4 : ¬ d3 = -1) (e1 : v = 0) (e2 : a' = a1 + 2) (e3 : w = a1 + 2) : nmb f len a lo hi = (v, a', w) := by
  unfold nmb
  simp only [ha1, hd1, hd2, hd3]
  rw [e1, e2, e3, if_neg c1, if_neg c2, if_neg c3, if_neg c4]
/-- a number as the class reads it: without a look at a third digit -/
def nmq (f : Int → Int) (len a lo hi : Int) : Int × Int × Int :=
  let a1 := sk f len 240 a
  if a1 = a ∨ dg (lk f len a1) = -1 then (0, a1, a1)
  else if dg (lk f len (a1 + 1)) = -1 then
    if dg (lk f len a1) < lo ∨ hi < dg (lk f len a1) then (0, a1 + 1, a1) else (dg (lk f len a1), a1 + 1, -1)
  else
    let v := dg (lk f len a1) * 10 + dg (lk f len (a1 + 1))
    if v < lo ∨ hi < v then (0, a1 + 2, a1 + 1) else (v, a1 + 2, -1)
theorem nmq1 {f : Int → Int} {len a lo hi a1 d1 d2 v a' w : Int} (ha1 : sk f len 240 a = a1) (hd1 : dg (lk f len a1) = d1) (hd2 : dg (lk f len (a1 + 1)) = d2) (c1 : a1 = a ∨ d1 = -1) (e1 : v = 0) (e2 : a' = a1) (e3 : w = a1) : nmq f len a lo hi = (v, a', w) := by
  unfold nmq
  simp only [ha1, hd1, hd2]
  rw [e1, e2, e3, if_pos c1]
theorem nmq2 {f : Int → Int} {len a lo hi a1 d1 d2 v a' w : Int} (ha1 : sk f len 240 a = a1) (hd1 : dg (lk f len a1) = d1) (hd2 : dg (lk f len (a1 + 1)) = d2) (c1 : ¬ (a1 = a ∨ d1 = -1)) (c2 : d2 = -1) (c3 : d1 < lo ∨ hi < d1) (e1 : v = 0) (e2 : a' = a1 + 1) (e3 : w = a1) : nmq f len a lo hi = (v, a', w) := by
  unfold nmq
  simp only [ha1, hd1, hd2]
  rw [e1, e2, e3, if_neg c1, if_pos c2, if_pos c3]
theorem nmq3 {f : Int → Int} {len a lo hi a1 d1 d2 v a' w : Int} (ha1 : sk f len 240 a = a1) (hd1 : dg (lk f len a1) = d1) (hd2 : dg (lk f len (a1 + 1)) = d2) (c1 : ¬ (a1 = a ∨ d1 = -1)) (c2 : d2 = -1) (c3 : ¬ (d1 < lo ∨ hi < d1)) (e1 : v = d1) (e2 : a' = a1 + 1) (e3 : w = -1) : nmq f len a lo hi = (v, a', w) := by
  unfold nmq
  simp only [ha1, hd1, hd2]
  rw [e1, e2, e3, if_neg c1, if_pos c2, if_neg c3]
theorem nmq4 {f : Int → Int} {len a lo hi a1 d1 d2 v a' w : Int} (ha1 : sk f len 240 a = a1) (hd1 : dg (lk f len a1) = d1) (hd2 : dg (lk f len (a1 + 1)) = d2) (c1 : ¬ (a1 = a ∨ d1 = -1)) (c2 : ¬ d2 = -1) (c3 : d1 * 10 + d2 < lo ∨ hi < d1 * 10 + d2) (e1 : v = 0) (e2 : a' = a1 + 2) (e3 : w = a1 + 1) : nmq f len a lo hi = (v, a', w) := by
  unfold nmq
  simp only [ha1, hd1, hd2]
  rw [e1, e2, e3, if_neg c1, if_neg c2, if_pos c3]
theorem nmq5 {f : Int → Int} {len a lo hi a1 d1 d2 v a' w : Int} (ha1 : sk f len 240 a = a1) (hd1 : dg (lk f len a1) = d1) (hd2 : dg (lk f len (a1 + 1)) = d2) (c1 : ¬ (a1 = a ∨ d1 = -1)) (c2 : ¬ d2 = -1) (c3 : ¬ (d1 * 10 + d2 < lo ∨ hi < d1 * 10 + d2)) (e1 : v = d1 * 10 + d2) (e2 : a' = a1 + 2) (e3 : w = -1) : nmq f len a lo hi = (v, a', w) := by
  unfold nmq
  simp only [ha1, hd1, hd2]
  rw [e1, e2, e3, if_neg c1, if_neg c2, if_neg c3]
section
variable {l : Launch} {G : sw_G} {M : sw_M}
theorem K7_look {b : Nat} {len a wr : Int} {f : Int → Int} (h1 : M 1 = some (cT G b len a wr).2) (h2 : M 2 = some (cB f).2) (hw : wfT f len) (h0 : 0 ≤ a ∧ a ≤ 1000) : Kt l G μX7_look [.ref (sw_al G 1)] M (fun r M' => r = some (sw_i (lk f len a)) ∧ M' = M) := by
  refine KtA.of (by decide +kernel) (Nat.le_of_ble_eq_true rfl) ?_
  have hback : sw_ov M [cT G b len a wr, cB f] = M := sw_ov_self (sw_hold1 h1 (sw_hold1 h2 sw_hold0))
  refine v_mem hback.symm ?_
  have hn := cT_nd
  obtain ⟨w1, w2, w3⟩ := hw
  refine v_aload_n dX7_look_0 rfl ?_
  refine v_getf 0 3 fl_X7_26 hn rfl rfl dX7_look_1 ?_
  refine v_aload_n dX7_look_4 rfl ?_
  refine v_getf 0 1 fl_X7_15 hn rfl rfl dX7_look_5 ?_
  refine v_icmp_ge (tgt := 33) dX7_look_8 (by decide) ⟨by omega, by omega⟩ ⟨by omega, by omega⟩ (fun h8 => ?_) (fun h8 => ?_)
  · skip
    refine v_iconst dX7_look_33 ?_
    exact v_iret dX7_look_34 rfl (Nat.le_refl _) (Nat.le_refl _) (⟨by unfold lk; first | (rw [if_pos (by omega)]) | (rw [if_neg (by omega)]), hback⟩)
  · skip
    refine v_aload_n dX7_look_11 rfl ?_
    refine v_getf 0 3 fl_X7_26 hn rfl rfl dX7_look_12 ?_
    refine v_sipush dX7_look_15 (by decide +kernel) ?_
    refine v_icmp_ge (tgt := 33) dX7_look_18 (by decide) ⟨by omega, by omega⟩ ⟨by omega, by omega⟩ (fun h18 => ?_) (fun h18 => ?_)
    · skip
      exfalso; omega
    · skip
      refine v_aload_n dX7_look_21 rfl ?_
      refine v_getf 0 0 fl_X7_9 hn rfl rfl dX7_look_22 ?_
      refine v_aload_n dX7_look_25 rfl ?_
      refine v_getf 0 3 fl_X7_26 hn rfl rfl dX7_look_26 ?_
      refine v_iald 1 hn rfl (Nat.le_of_ble_eq_true rfl) (by omega) (by omega) dX7_look_29 ?_
      refine v_goto (tgt := 34) dX7_look_30 (by decide) ?_
      exact v_iret dX7_look_34 rfl (Nat.le_refl _) (Nat.le_refl _) (⟨by unfold lk; first | (rw [if_pos (by omega)]) | (rw [if_neg (by omega)]), hback⟩)
theorem K7_skip {b : Nat} {len a wr : Int} {f : Int → Int} (h1 : M 1 = some (cT G b len a wr).2) (h2 : M 2 = some (cB f).2) (hw : wfT f len) (h0 : 0 ≤ a ∧ a ≤ 300) : Kt l G μX7_skip [.ref (sw_al G 1)] M (fun r M' => r = none ∧ M' = sw_ov M [cT G b len (sk f len 240 a) wr]) := by
  refine KtA.of (by decide +kernel) (Nat.le_of_ble_eq_true rfl) ?_
  refine v_mem (sw_ov_self (cs := [cT G b len a wr]) (sw_hold1 h1 sw_hold0)).symm ?_
  have hn : sw_nd [1] := sw_nd_of (by simp)
  have loop : ∀ (k : Nat) (n a' : Int), 0 ≤ n → n + k = 240 → 0 ≤ a' ∧ a' ≤ 300 + n → sk f len k a' = sk f len 240 a → V l G μX7_skip sw_E0 (sw_Zq G μX7_skip (sw_q0 G (fun r M' => r = none ∧ M' = sw_ov M [cT G b len (sk f len 240 a) wr]))) 2 [(0, .ref (sw_al G 1)), (1, sw_i n)] [] (sw_ov M [cT G b len a' wr]) 0 0 := by
    intro k
    induction k with
    | zero =>
      intro n a' hn0 hnk ha' hsk
      have e : sk f len 0 a' = a' := rfl
      rw [e] at hsk
      subst hsk
      refine v_iload_n dX7_skip_2 rfl ?_
      refine v_sipush dX7_skip_3 (by decide +kernel) ?_
      refine v_icmp_ge (tgt := 34) dX7_skip_6 (by decide) ⟨by omega, by omega⟩ ⟨by omega, by omega⟩ (fun h6 => ?_) (fun h6 => ?_)
      · skip
        exact v_vret dX7_skip_34 rfl (Nat.le_refl _) (Nat.le_refl _) (⟨rfl, rfl⟩)
      · skip
        exfalso; omega
    | succ k ih =>
      intro n a' hn0 hnk ha' hsk
      have hlb := lk_bd hw ha'.1
      refine v_iload_n dX7_skip_2 rfl ?_
      refine v_sipush dX7_skip_3 (by decide +kernel) ?_
      refine v_icmp_ge (tgt := 34) dX7_skip_6 (by decide) ⟨by omega, by omega⟩ ⟨by omega, by omega⟩ (fun h6 => ?_) (fun h6 => ?_)
      · skip
        exfalso; omega
      · skip
        refine v_aload_n dX7_skip_9 rfl ?_
        refine v_callV (K7_look (b := b) (len := len) (a := a') (wr := wr) (f := f) (sw_hold_all (cs := [cT G b len a' wr]) hn).hd h2 hw ⟨by omega, by omega⟩) ⟨rfl, rfl⟩ (Nat.le_refl _) (Nat.le_refl _) (sw_hold_all (cs := [cT G b len a' wr]) hn).hd rfl ⟨ml_X7_38, mm_X7_look⟩ ⟨(Nat.le_of_ble_eq_true rfl), (Nat.le_of_ble_eq_true rfl)⟩ mp_X7_look rfl rfl (Nat.le_of_ble_eq_true rfl) dX7_skip_10 (fun r M' h => ?_)
        obtain ⟨rfl, rfl⟩ := h
        refine v_bipush dX7_skip_13 (by decide +kernel) ?_
        refine v_icmp_ne (tgt := 34) dX7_skip_15 (by decide) ⟨by omega, by omega⟩ ⟨by omega, by omega⟩ (fun h15 => ?_) (fun h15 => ?_)
        · skip
          have e : sk f len (k + 1) a' = a' := sk_no _ h15
          rw [e] at hsk
          subst hsk
          exact v_vret dX7_skip_34 rfl (Nat.le_refl _) (Nat.le_refl _) (⟨rfl, rfl⟩)
        · skip
          have e : sk f len (k + 1) a' = sk f len k (a' + 1) := if_pos (by omega)
          rw [e] at hsk
          refine v_aload_n dX7_skip_18 rfl ?_
          refine v_dup dX7_skip_19 rfl ?_
          refine v_getf 0 3 fl_X7_26 hn rfl rfl dX7_skip_20 ?_
          refine v_iconst dX7_skip_23 ?_
          refine v_iadd dX7_skip_24 ?_
          refine v_putf 0 3 fp_X7_26 hn rfl rfl rfl (Nat.le_of_ble_eq_true rfl) dX7_skip_25 ?_
          refine v_iinc dX7_skip_28 rfl (Nat.le_of_ble_eq_true rfl) ?_
          refine v_goto (tgt := 2) dX7_skip_31 (by decide) ?_
          refine v_to (ih (n + 1) (a' + 1) (by omega) (by omega) (by omega) hsk) rfl ?_
          exact sw_h1 rfl (sw_h1 rfl sw_h0)
  refine v_iconst dX7_skip_0 ?_
  refine v_istore_n dX7_skip_1 (Nat.le_of_ble_eq_true rfl) ?_
  exact v_to (loop 240 0 a (by omega) (by omega) (by omega) rfl) rfl (sw_h1 rfl (sw_h1 rfl sw_h0))
theorem K7_digit {b : Nat} {len a wr : Int} {f : Int → Int} (h1 : M 1 = some (cT G b len a wr).2) (h2 : M 2 = some (cB f).2) (hw : wfT f len) (h0 : 0 ≤ a ∧ a ≤ 1000) : Kt l G μX7_digit [.ref (sw_al G 1)] M (fun r M' => r = some (sw_i (dg (lk f len a))) ∧ M' = M) := by
  refine KtA.of (by decide +kernel) (Nat.le_of_ble_eq_true rfl) ?_
  have hlb := lk_bd hw h0.1
  refine v_aload_n dX7_digit_0 rfl ?_
  refine v_callV (K7_look h1 h2 hw h0) ⟨rfl, rfl⟩ (Nat.le_refl _) (Nat.le_refl _) h1 rfl ⟨ml_X7_38, mm_X7_look⟩ ⟨(Nat.le_of_ble_eq_true rfl), (Nat.le_of_ble_eq_true rfl)⟩ mp_X7_look rfl rfl (Nat.le_of_ble_eq_true rfl) dX7_digit_1 (fun r M' h => ?_)
  obtain ⟨rfl, rfl⟩ := h
  refine v_istore_n dX7_digit_4 (Nat.le_of_ble_eq_true rfl) ?_
  refine v_iload_n dX7_digit_5 rfl ?_
  refine v_bipush dX7_digit_6 (by decide +kernel) ?_
  refine v_icmp_lt (tgt := 24) dX7_digit_8 (by decide) ⟨by omega, by omega⟩ ⟨by omega, by omega⟩ (fun h8 => ?_) (fun h8 => ?_)
  · skip
    refine v_iconst dX7_digit_24 ?_
    exact v_iret dX7_digit_25 rfl (Nat.le_refl _) (Nat.le_refl _) (⟨by unfold dg; first | (rw [if_pos (by omega)]) | (rw [if_neg (by omega)]), rfl⟩)
  · skip
    refine v_iload_n dX7_digit_11 rfl ?_
    refine v_bipush dX7_digit_12 (by decide +kernel) ?_
    refine v_icmp_gt (tgt := 24) dX7_digit_14 (by decide) ⟨by omega, by omega⟩ ⟨by omega, by omega⟩ (fun h14 => ?_) (fun h14 => ?_)
    · skip
      refine v_iconst dX7_digit_24 ?_
      exact v_iret dX7_digit_25 rfl (Nat.le_refl _) (Nat.le_refl _) (⟨by unfold dg; first | (rw [if_pos (by omega)]) | (rw [if_neg (by omega)]), rfl⟩)
    · skip
      refine v_iload_n dX7_digit_17 rfl ?_
      refine v_bipush dX7_digit_18 (by decide +kernel) ?_
      refine v_isub dX7_digit_20 ?_
      refine v_goto (tgt := 25) dX7_digit_21 (by decide) ?_
      exact v_iret dX7_digit_25 rfl (Nat.le_refl _) (Nat.le_refl _) (⟨by unfold dg; first | (rw [if_pos (by omega)]) | (rw [if_neg (by omega)]), rfl⟩)
theorem K7_number {b : Nat} {len a : Int} {f : Int → Int} (h1 : M 1 = some (cT G b len a (-1)).2) (h2 : M 2 = some (cB f).2) (hw : wfT f len) (h0 : 0 ≤ a ∧ a ≤ 290) {lo hi : Int} (hlo : -100 ≤ lo ∧ lo ≤ 100) (hhi : -100 ≤ hi ∧ hi ≤ 100) : Kt l G μX7_number [.ref (sw_al G 1), sw_i lo, sw_i hi] M (fun r M' => r = some (sw_i (nmq f len a lo hi).1) ∧ M' = sw_ov M [cT G b len (nmq f len a lo hi).2.1 (nmq f len a lo hi).2.2]) := by
  refine KtA.of (by decide +kernel) (Nat.le_of_ble_eq_true rfl) ?_
  refine v_mem (sw_ov_self (cs := [cT G b len a (-1), cB f]) (sw_hold1 h1 (sw_hold1 h2 sw_hold0))).symm ?_
  have hn := cT_nd
  have fin : ∀ (v a' w : Int), nmq f len a lo hi = (v, a', w) → (some (sw_i v) = some (sw_i (nmq f len a lo hi).1) ∧ sw_ov M [cT G b len a' w, cB f] = sw_ov M [cT G b len (nmq f len a lo hi).2.1 (nmq f len a lo hi).2.2]) := by
    intro v a' w e
    rw [e]
    exact ⟨rfl, sw_ov_dr (cs2 := [cB f]) (sw_hold1 h2 sw_hold0) [cT G b len a' w]⟩
  obtain ⟨a1, ha1⟩ : ∃ a1, sk f len 240 a = a1 := ⟨_, rfl⟩
  have hs := sk_le f len 240 a
  rw [ha1] at hs
  have hlen := hw.1
  have hlen2 := hw.2.1
  obtain ⟨d1, hd1⟩ : ∃ d1, dg (lk f len a1) = d1 := ⟨_, rfl⟩
  obtain ⟨d2, hd2⟩ : ∃ d1, dg (lk f len (a1 + 1)) = d1 := ⟨_, rfl⟩
  have b1 := dg_bd (lk f len a1)
  have b2 := dg_bd (lk f len (a1 + 1))
  rw [hd1] at b1
  rw [hd2] at b2
  refine v_aload_n dX7_number_0 rfl ?_
  refine v_getf 0 4 fl_X7_29 hn rfl rfl dX7_number_1 ?_
  refine v_iconst dX7_number_4 ?_
  refine v_icmp_eq (tgt := 10) dX7_number_5 (by decide) ⟨by omega, by omega⟩ ⟨by omega, by omega⟩ (fun h5 => ?_) (fun h5 => ?_)
  · skip
    refine v_aload_n dX7_number_10 rfl ?_
    refine v_getf 0 3 fl_X7_26 hn rfl rfl dX7_number_11 ?_
    refine v_istore_n dX7_number_14 (Nat.le_of_ble_eq_true rfl) ?_
    refine v_aload_n dX7_number_15 rfl ?_
    refine v_callV (ci := 7) (K7_skip (b := b) (len := len) (a := a) (wr := -1) (f := f) (sw_hold_all (cs := [cT G b len a (-1), cB f]) hn).hd (sw_hold_all (cs := [cT G b len a (-1), cB f]) hn).tl.hd hw ⟨by omega, by omega⟩) ⟨rfl, rfl⟩ (Nat.le_refl _) (Nat.le_refl _) ((sw_hold_all (cs := [cT G b len a (-1), cB f]) hn).hd) rfl ⟨ml_X7_35, mm_X7_skip⟩ ⟨(Nat.le_of_ble_eq_true rfl), (Nat.le_of_ble_eq_true rfl)⟩ mp_X7_skip rfl rfl (Nat.le_of_ble_eq_true rfl) dX7_number_16 (fun r M' h => ?_)
    obtain ⟨rfl, rfl⟩ := h
    rw [ha1]
    refine v_ovp [0] rfl rfl hn ?_
    refine v_aload_n dX7_number_19 rfl ?_
    refine v_callV (ci := 7) (K7_digit (b := b) (len := len) (a := a1) (wr := -1) (f := f) (sw_hold_all (cs := [cT G b len a1 (-1), cB f]) hn).hd (sw_hold_all (cs := [cT G b len a1 (-1), cB f]) hn).tl.hd hw ⟨by omega, by omega⟩) ⟨rfl, rfl⟩ (Nat.le_refl _) (Nat.le_refl _) ((sw_hold_all (cs := [cT G b len a1 (-1), cB f]) hn).hd) rfl ⟨ml_X7_77, mm_X7_digit⟩ ⟨(Nat.le_of_ble_eq_true rfl), (Nat.le_of_ble_eq_true rfl)⟩ mp_X7_digit rfl rfl (Nat.le_of_ble_eq_true rfl) dX7_number_20 (fun r M' h => ?_)
    obtain ⟨rfl, rfl⟩ := h
    rw [hd1]
    refine v_istore dX7_number_23 (Nat.le_of_ble_eq_true rfl) ?_
    refine v_aload_n dX7_number_25 rfl ?_
    refine v_getf 0 3 fl_X7_26 hn rfl rfl dX7_number_26 ?_
    refine v_iload_n dX7_number_29 rfl ?_
    refine v_icmp_eq (tgt := 39) dX7_number_30 (by decide) ⟨by omega, by omega⟩ ⟨by omega, by omega⟩ (fun h30 => ?_) (fun h30 => ?_)
    · skip
      refine v_aload_n dX7_number_39 rfl ?_
      refine v_aload_n dX7_number_40 rfl ?_
      refine v_getf 0 3 fl_X7_26 hn rfl rfl dX7_number_41 ?_
      refine v_putf 0 4 fp_X7_29 hn rfl rfl rfl (Nat.le_of_ble_eq_true rfl) dX7_number_44 ?_
      refine v_iconst dX7_number_47 ?_
      exact v_iret dX7_number_48 rfl (Nat.le_refl _) (Nat.le_refl _) (fin _ _ _ (nmq1 ha1 hd1 hd2 (by omega) rfl rfl rfl))
    · skip
      refine v_iload dX7_number_33 rfl ?_
      refine v_iconst dX7_number_35 ?_
      refine v_icmp_ne (tgt := 49) dX7_number_36 (by decide) ⟨by omega, by omega⟩ ⟨by omega, by omega⟩ (fun h36 => ?_) (fun h36 => ?_)
      · skip
        refine v_aload_n dX7_number_49 rfl ?_
        refine v_dup dX7_number_50 rfl ?_
        refine v_getf 0 3 fl_X7_26 hn rfl rfl dX7_number_51 ?_
        refine v_iconst dX7_number_54 ?_
        refine v_iadd dX7_number_55 ?_
        refine v_putf 0 3 fp_X7_26 hn rfl rfl rfl (Nat.le_of_ble_eq_true rfl) dX7_number_56 ?_
        refine v_aload_n dX7_number_59 rfl ?_
        refine v_callV (ci := 7) (K7_digit (b := b) (len := len) (a := a1 + 1) (wr := -1) (f := f) (sw_hold_all (cs := [cT G b len (a1 + 1) (-1), cB f]) hn).hd (sw_hold_all (cs := [cT G b len (a1 + 1) (-1), cB f]) hn).tl.hd hw ⟨by omega, by omega⟩) ⟨rfl, rfl⟩ (Nat.le_refl _) (Nat.le_refl _) ((sw_hold_all (cs := [cT G b len (a1 + 1) (-1), cB f]) hn).hd) rfl ⟨ml_X7_77, mm_X7_digit⟩ ⟨(Nat.le_of_ble_eq_true rfl), (Nat.le_of_ble_eq_true rfl)⟩ mp_X7_digit rfl rfl (Nat.le_of_ble_eq_true rfl) dX7_number_60 (fun r M' h => ?_)
        obtain ⟨rfl, rfl⟩ := h
        rw [hd2]
        refine v_istore dX7_number_63 (Nat.le_of_ble_eq_true rfl) ?_
        refine v_iload dX7_number_65 rfl ?_
        refine v_iconst dX7_number_67 ?_
        refine v_icmp_eq (tgt := 91) dX7_number_68 (by decide) ⟨by omega, by omega⟩ ⟨by omega, by omega⟩ (fun h68 => ?_) (fun h68 => ?_)
        · skip
          refine v_iload dX7_number_91 rfl ?_
          refine v_iload_n dX7_number_93 rfl ?_
          refine v_icmp_lt (tgt := 103) dX7_number_94 (by decide) ⟨by omega, by omega⟩ ⟨by omega, by omega⟩ (fun h94 => ?_) (fun h94 => ?_)
          · skip
            refine v_aload_n dX7_number_103 rfl ?_
            refine v_aload_n dX7_number_104 rfl ?_
            refine v_getf 0 3 fl_X7_26 hn rfl rfl dX7_number_105 ?_
            refine v_iconst dX7_number_108 ?_
            refine v_isub dX7_number_109 ?_
            refine v_putf 0 4 fp_X7_29 hn rfl rfl rfl (Nat.le_of_ble_eq_true rfl) dX7_number_110 ?_
            refine v_iconst dX7_number_113 ?_
            exact v_iret dX7_number_114 rfl (Nat.le_refl _) (Nat.le_refl _) (fin _ _ _ (nmq2 ha1 hd1 hd2 (by omega) h68 (by omega) rfl rfl (by omega)))
          · skip
            refine v_iload dX7_number_97 rfl ?_
            refine v_iload_n dX7_number_99 rfl ?_
            refine v_icmp_le (tgt := 115) dX7_number_100 (by decide) ⟨by omega, by omega⟩ ⟨by omega, by omega⟩ (fun h100 => ?_) (fun h100 => ?_)
            · skip
              refine v_iload dX7_number_115 rfl ?_
              exact v_iret dX7_number_117 rfl (Nat.le_refl _) (Nat.le_refl _) (fin _ _ _ (nmq3 ha1 hd1 hd2 (by omega) h68 (by omega) rfl rfl rfl))
            · skip
              refine v_aload_n dX7_number_103 rfl ?_
              refine v_aload_n dX7_number_104 rfl ?_
              refine v_getf 0 3 fl_X7_26 hn rfl rfl dX7_number_105 ?_
              refine v_iconst dX7_number_108 ?_
              refine v_isub dX7_number_109 ?_
              refine v_putf 0 4 fp_X7_29 hn rfl rfl rfl (Nat.le_of_ble_eq_true rfl) dX7_number_110 ?_
              refine v_iconst dX7_number_113 ?_
              exact v_iret dX7_number_114 rfl (Nat.le_refl _) (Nat.le_refl _) (fin _ _ _ (nmq2 ha1 hd1 hd2 (by omega) h68 (by omega) rfl rfl (by omega)))
        · skip
          refine v_iload dX7_number_71 rfl ?_
          refine v_bipush dX7_number_73 (by decide +kernel) ?_
          refine v_imul dX7_number_75 ?_
          refine v_iload dX7_number_76 rfl ?_
          refine v_iadd dX7_number_78 ?_
          refine v_istore dX7_number_79 (Nat.le_of_ble_eq_true rfl) ?_
          refine v_aload_n dX7_number_81 rfl ?_
          refine v_dup dX7_number_82 rfl ?_
          refine v_getf 0 3 fl_X7_26 hn rfl rfl dX7_number_83 ?_
          refine v_iconst dX7_number_86 ?_
          refine v_iadd dX7_number_87 ?_
          refine v_putf 0 3 fp_X7_26 hn rfl rfl rfl (Nat.le_of_ble_eq_true rfl) dX7_number_88 ?_
          refine v_iload dX7_number_91 rfl ?_
          refine v_iload_n dX7_number_93 rfl ?_
          refine v_icmp_lt (tgt := 103) dX7_number_94 (by decide) ⟨by omega, by omega⟩ ⟨by omega, by omega⟩ (fun h94 => ?_) (fun h94 => ?_)
          · skip
            refine v_aload_n dX7_number_103 rfl ?_
            refine v_aload_n dX7_number_104 rfl ?_
            refine v_getf 0 3 fl_X7_26 hn rfl rfl dX7_number_105 ?_
            refine v_iconst dX7_number_108 ?_
            refine v_isub dX7_number_109 ?_
            refine v_putf 0 4 fp_X7_29 hn rfl rfl rfl (Nat.le_of_ble_eq_true rfl) dX7_number_110 ?_
            refine v_iconst dX7_number_113 ?_
            exact v_iret dX7_number_114 rfl (Nat.le_refl _) (Nat.le_refl _) (fin _ _ _ (nmq4 ha1 hd1 hd2 (by omega) h68 (by omega) rfl (by omega) (by omega)))
          · skip
            refine v_iload dX7_number_97 rfl ?_
            refine v_iload_n dX7_number_99 rfl ?_
            refine v_icmp_le (tgt := 115) dX7_number_100 (by decide) ⟨by omega, by omega⟩ ⟨by omega, by omega⟩ (fun h100 => ?_) (fun h100 => ?_)
            · skip
              refine v_iload dX7_number_115 rfl ?_
              exact v_iret dX7_number_117 rfl (Nat.le_refl _) (Nat.le_refl _) (fin _ _ _ (nmq5 ha1 hd1 hd2 (by omega) h68 (by omega) rfl (by omega) rfl))
            · skip
              refine v_aload_n dX7_number_103 rfl ?_
              refine v_aload_n dX7_number_104 rfl ?_
              refine v_getf 0 3 fl_X7_26 hn rfl rfl dX7_number_105 ?_
              refine v_iconst dX7_number_108 ?_
              refine v_isub dX7_number_109 ?_
              refine v_putf 0 4 fp_X7_29 hn rfl rfl rfl (Nat.le_of_ble_eq_true rfl) dX7_number_110 ?_
              refine v_iconst dX7_number_113 ?_
              exact v_iret dX7_number_114 rfl (Nat.le_refl _) (Nat.le_refl _) (fin _ _ _ (nmq4 ha1 hd1 hd2 (by omega) h68 (by omega) rfl (by omega) (by omega)))
      · skip
        refine v_aload_n dX7_number_39 rfl ?_
        refine v_aload_n dX7_number_40 rfl ?_
        refine v_getf 0 3 fl_X7_26 hn rfl rfl dX7_number_41 ?_
        refine v_putf 0 4 fp_X7_29 hn rfl rfl rfl (Nat.le_of_ble_eq_true rfl) dX7_number_44 ?_
        refine v_iconst dX7_number_47 ?_
        exact v_iret dX7_number_48 rfl (Nat.le_refl _) (Nat.le_refl _) (fin _ _ _ (nmq1 ha1 hd1 hd2 (by omega) rfl rfl rfl))
  · skip
    exfalso; omega
theorem K7_numberX {b : Nat} {len a wr : Int} (h1 : M 1 = some (cT G b len a wr).2) (hwr : wr ≠ -1 ∧ sw_rg wr) {lo hi : Int} : Kt l G μX7_number [.ref (sw_al G 1), sw_i lo, sw_i hi] M (fun r M' => r = some (sw_i 0) ∧ M' = M) := by
  refine KtA.of (by decide +kernel) (Nat.le_of_ble_eq_true rfl) ?_
  refine v_mem (sw_ov_self (cs := [cT G b len a wr]) (sw_hold1 h1 sw_hold0)).symm ?_
  have hn : sw_nd [1] := sw_nd_of (by simp)
  obtain ⟨hwr, hrg⟩ := hwr
  refine v_aload_n dX7_number_0 rfl ?_
  refine v_getf 0 4 fl_X7_29 hn rfl rfl dX7_number_1 ?_
  refine v_iconst dX7_number_4 ?_
  refine v_icmp_eq (tgt := 10) dX7_number_5 (by decide) ⟨by omega, by omega⟩ ⟨by omega, by omega⟩ (fun h5 => ?_) (fun h5 => ?_)
  · skip
    exact absurd h5 hwr
  · skip
    refine v_iconst dX7_number_8 ?_
    exact v_iret dX7_number_9 rfl (Nat.le_refl _) (Nat.le_refl _) (⟨rfl, sw_ov_self (cs := [cT G b len a wr]) (sw_hold1 h1 sw_hold0)⟩)
end

