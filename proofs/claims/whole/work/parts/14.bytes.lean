/-! bytes of a word; bytesIn, put (the rows on bits begun from the kit's text for pasting) -/
def bt (x : Int32) (i : Nat) : Bool := x.toBitVec.getLsbD i
theorem b_ext {x y : Int32} (h : ∀ i, i < 32 → bt x i = bt y i) : x = y := Int32.toBitVec_inj.mp (BitVec.eq_of_getLsbD_eq (fun i hi => h i hi))
theorem b_or (x y : Int32) (i : Nat) : bt (x ||| y) i = (bt x i || bt y i) := by unfold bt; rw [Int32.toBitVec_or, BitVec.getLsbD_or]
theorem b_and (x y : Int32) (i : Nat) : bt (x &&& y) i = (bt x i && bt y i) := by unfold bt; rw [Int32.toBitVec_and, BitVec.getLsbD_and]
theorem b_xor (x y : Int32) (i : Nat) : bt (x ^^^ y) i = (bt x i ^^ bt y i) := by unfold bt; rw [Int32.toBitVec_xor, BitVec.getLsbD_xor]
theorem b_big {x : Int32} {i : Nat} (h : 32 ≤ i) : bt x i = false := BitVec.getLsbD_of_ge _ _ h
theorem b_255 (i : Nat) : bt 255 i = decide (i < 8) := by
  rcases Nat.lt_or_ge i 32 with h | h
  · exact (by decide +kernel : ∀ i, i < 32 → bt 255 i = decide (i < 8)) i h
  · rw [b_big h, decide_eq_false (by omega)]
theorem b_65535 (i : Nat) : bt 65535 i = decide (i < 16) := by
  rcases Nat.lt_or_ge i 32 with h | h
  · exact (by decide +kernel : ∀ i, i < 32 → bt 65535 i = decide (i < 16)) i h
  · rw [b_big h, decide_eq_false (by omega)]
theorem b_m1 : ∀ i, i < 32 → bt (-1) i = true := by decide +kernel
theorem b_0 (i : Nat) : bt 0 i = false := BitVec.getLsbD_zero
theorem s_l : ∀ n, n < 32 → ((nI n &&& 31).toBitVec.smod 32).toNat = n := by decide +kernel
theorem s_u : ∀ n, n < 32 → (((nI n).toUInt32 &&& Int32.toUInt32 31).toBitVec % 32).toNat = n := by decide +kernel
theorem b_shl (n : Nat) (hn : n < 32) (x : Int32) {i : Nat} (hi : i < 32) : bt (x <<< (nI n &&& 31)) i = (decide (n ≤ i) && bt x (i - n)) := by
  unfold bt
  rw [Int32.toBitVec_shiftLeft]
  show (x.toBitVec <<< ((nI n &&& 31).toBitVec.smod 32).toNat).getLsbD i = _
  rw [s_l n hn, BitVec.getLsbD_shiftLeft]
  rcases Nat.lt_or_ge i n with h | h
  · simp [h, Nat.not_le.mpr h]
  · simp [hi, h, Nat.not_lt.mpr h]
theorem b_ushr (n : Nat) (hn : n < 32) (x : Int32) (i : Nat) : bt ((x.toUInt32 >>> ((nI n).toUInt32 &&& Int32.toUInt32 31)).toInt32) i = bt x (n + i) := by
  show (x.toUInt32 >>> ((nI n).toUInt32 &&& Int32.toUInt32 31)).toBitVec.getLsbD i = x.toUInt32.toBitVec.getLsbD (n + i)
  rw [UInt32.toBitVec_shiftRight]
  show (x.toUInt32.toBitVec >>> (((nI n).toUInt32 &&& Int32.toUInt32 31).toBitVec % 32).toNat).getLsbD i = _
  rw [s_u n hn, BitVec.getLsbD_ushiftRight]
theorem b_sshr (n : Nat) (hn : n < 32) (x : Int32) {i : Nat} (hi : i < 32) : bt (x >>> (nI n &&& 31)) i = if n + i < 32 then bt x (n + i) else bt x 31 := by
  unfold bt
  rw [Int32.toBitVec_shiftRight]
  show (x.toBitVec.sshiftRight ((nI n &&& 31).toBitVec.smod 32).toNat).getLsbD i = _
  rw [s_l n hn, BitVec.getLsbD_sshiftRight, BitVec.msb_eq_getLsbD_last]
  simp [hi]
theorem sw_ofI (x : Int32) : x = iN x.toInt := (Int32.ofInt_toInt x).symm
theorem sw_ofJ (x : Int64) : x = jN x.toInt := (Int64.ofInt_toInt x).symm
theorem toI_rg (x : Int32) : sw_rg x.toInt := ⟨x.le_toInt, x.toInt_lt⟩
def shr (w s : Int) : Int := (((iN w).toUInt32 >>> ((iN s).toUInt32 &&& Int32.toUInt32 31)).toInt32).toInt
def byt (w s : Int) : Int := ((iN (shr w s)) &&& iN 255).toInt
def shs (w s : Int) : Int := ((iN w) >>> ((iN s) &&& 31)).toInt
def bys (w s : Int) : Int := ((iN (shs w s)) &&& iN 255).toInt
theorem and255 (x : Int32) : 0 ≤ (x &&& iN 255).toInt ∧ (x &&& iN 255).toInt ≤ 255 := by
  obtain ⟨n, hn, hx⟩ : ∃ n : Nat, n < 256 ∧ (x &&& iN 255) = iN n := by
    refine ⟨(x &&& iN 255).toBitVec.toNat, ?_, ?_⟩
    · rw [Int32.toBitVec_and, BitVec.toNat_and]
      have h : (iN 255).toBitVec.toNat = 255 := by decide +kernel
      rw [h]
      exact Nat.lt_of_le_of_lt Nat.and_le_right (by omega)
    · apply Int32.toBitVec_inj.mp
      show _ = BitVec.ofInt 32 _
      rw [BitVec.ofInt_natCast, BitVec.ofNat_toNat, BitVec.setWidth_eq]
  rw [hx, iN_t ⟨by omega, by omega⟩]
  omega
theorem byt_bd (w s : Int) : 0 ≤ byt w s ∧ byt w s ≤ 255 := and255 _
theorem bys_bd (w s : Int) : 0 ≤ bys w s ∧ bys w s ≤ 255 := and255 _
theorem bys_eq (w : Int) (n : Nat) (h : n ≤ 24) : bys w n = byt w n := by
  have hn : iN (n : Int) = nI n := rfl
  have h255 : iN 255 = 255 := rfl
  unfold bys byt shs shr
  rw [← sw_ofI, ← sw_ofI, hn, h255]
  congr 1
  apply b_ext
  intro i hi
  rw [b_and, b_and, b_255, b_ushr n (by omega), b_sshr n (by omega) _ hi]
  by_cases q : i < 8
  · rw [if_pos (by omega)]
  · rw [decide_eq_false q, Bool.and_false, Bool.and_false]
/-- a byte behind the others, if it isn't 0 -/
def ap (s : (Int → Int) × Int) (b : Int) : (Int → Int) × Int := if b = 0 then s else (up s.1 s.2 b, s.2 + 1)
def ap4 (w : Int) (s : (Int → Int) × Int) : Nat → (Int → Int) × Int
  | 0 => s
  | n + 1 => ap (ap4 w s n) (byt w (24 - 8 * n))
def cnt4 (w : Int) : Nat → Int
  | 0 => 0
  | n + 1 => cnt4 w n + (if byt w (24 - 8 * n) = 0 then 0 else 1)
theorem ap4_len (w : Int) (s : (Int → Int) × Int) : ∀ n, (ap4 w s n).2 = s.2 + cnt4 w n
  | 0 => by show s.2 = s.2 + 0; omega
  | n + 1 => by
    have ih := ap4_len w s n
    show (ap (ap4 w s n) (byt w (24 - 8 * n))).2 = s.2 + (cnt4 w n + (if byt w (24 - 8 * n) = 0 then 0 else 1))
    unfold ap
    by_cases h : byt w (24 - 8 * n) = 0
    · rw [if_pos h, if_pos h]; omega
    · rw [if_neg h, if_neg h]; dsimp only; omega
theorem cnt4_bd (w : Int) : ∀ n, 0 ≤ cnt4 w n ∧ cnt4 w n ≤ n
  | 0 => ⟨Int.le_refl _, Int.le_refl _⟩
  | n + 1 => by
    have ih := cnt4_bd w n
    show 0 ≤ cnt4 w n + (if byt w (24 - 8 * n) = 0 then 0 else 1) ∧ cnt4 w n + (if byt w (24 - 8 * n) = 0 then 0 else 1) ≤ _
    split <;> omega
theorem cnt4_mono (w : Int) {n m : Nat} (h : n ≤ m) : cnt4 w n ≤ cnt4 w m := by
  induction h with
  | refl => exact Int.le_refl _
  | step _ ih =>
    refine Int.le_trans ih ?_
    show _ ≤ cnt4 w _ + (if _ = 0 then 0 else 1)
    split <;> omega
theorem ap_wf {s : (Int → Int) × Int} (h : wfT s.1 s.2) {b : Int} (hb : 0 ≤ b ∧ b ≤ 255) (hl : s.2 + (if b = 0 then 0 else 1) ≤ 240) : wfT (ap s b).1 (ap s b).2 := by
  unfold ap
  by_cases c : b = 0
  · rw [if_pos c]; exact h
  · rw [if_neg c] at hl ⊢
    refine ⟨by have := h.1; dsimp only; omega, hl, fun i h0 h1 => ?_⟩
    dsimp only [up] at h1 ⊢
    by_cases e : i = s.2
    · rw [if_pos e]; omega
    · rw [if_neg e]; exact h.2.2 i h0 (by omega)
theorem ap4_wf {s : (Int → Int) × Int} (h : wfT s.1 s.2) (w : Int) : ∀ n, s.2 + cnt4 w n ≤ 240 → wfT (ap4 w s n).1 (ap4 w s n).2
  | 0, _ => h
  | n + 1, hl => by
    have h2 : s.2 + (cnt4 w n + (if byt w (24 - 8 * n) = 0 then 0 else 1)) ≤ 240 := hl
    refine ap_wf (ap4_wf h w n ?_) (byt_bd w _) ?_
    · split at h2 <;> omega
    · rw [ap4_len]; omega
section
variable {l : Launch} {G : sw_G} {M : sw_M}
theorem K7_bytesIn {w : Int} : Kt l G μX7_bytesIn [sw_i w] M (fun r M' => r = some (sw_i (cnt4 w 4)) ∧ M' = M) := by
  refine KtA.of (by decide +kernel) (Nat.le_of_ble_eq_true rfl) ?_
  have loop : ∀ (n i : Nat), i + n = 4 → V l G μX7_bytesIn sw_E0 (sw_Zq G μX7_bytesIn (sw_q0 G (fun r M' => r = some (sw_i (cnt4 w 4)) ∧ M' = M))) 5 [(0, sw_i w), (1, sw_i (cnt4 w i)), (2, sw_i (24 - 8 * (i : Int)))] [] M 0 0 := by
    intro n
    induction n with
    | zero =>
      intro i hi
      have e : i = 4 := by omega
      subst e
      refine v_iload_n dX7_bytesIn_5 rfl ?_
      refine v_if_lt (tgt := 28) dX7_bytesIn_6 (by decide) ⟨by omega, by omega⟩ (fun h6 => ?_) (fun h6 => ?_)
      · skip
        refine v_iload_n dX7_bytesIn_28 rfl ?_
        exact v_iret dX7_bytesIn_29 rfl (Nat.le_refl _) (Nat.le_refl _) (⟨rfl, rfl⟩)
      · skip
        exfalso; omega
    | succ n ih =>
      intro i hi
      have hb := byt_bd w (24 - 8 * i)
      have e0 : (24 - 8 * (i : Int)) + -8 = 24 - 8 * ((i + 1 : Nat) : Int) := by omega
      have e1 : cnt4 w (i + 1) = cnt4 w i + (if byt w (24 - 8 * i) = 0 then 0 else 1) := rfl
      refine v_iload_n dX7_bytesIn_5 rfl ?_
      refine v_if_lt (tgt := 28) dX7_bytesIn_6 (by decide) ⟨by omega, by omega⟩ (fun h6 => ?_) (fun h6 => ?_)
      · skip
        exfalso; omega
      · skip
        refine v_iload_n dX7_bytesIn_9 rfl ?_
        refine v_iload_n dX7_bytesIn_10 rfl ?_
        refine v_iushr (z := shr w (24 - 8 * i)) dX7_bytesIn_11 (sw_ofI _) ?_
        refine v_sipush dX7_bytesIn_12 (by decide +kernel) ?_
        refine v_iand (z := byt w (24 - 8 * i)) dX7_bytesIn_15 (sw_ofI _) ?_
        refine v_if_eq (tgt := 22) dX7_bytesIn_16 (by decide) ⟨by omega, by omega⟩ (fun h16 => ?_) (fun h16 => ?_)
        · skip
          have e2 : cnt4 w (i + 1) = cnt4 w i := by rw [e1, if_pos h16]; omega
          refine v_iinc dX7_bytesIn_22 rfl (Nat.le_of_ble_eq_true rfl) ?_
          refine v_goto (tgt := 5) dX7_bytesIn_25 (by decide) ?_
          exact v_to (ih (i + 1) (by omega)) rfl (sw_h1 rfl (sw_h1 (by rw [e2]; rfl) (sw_h1 (by rw [← e0]; rfl) sw_h0)))
        · skip
          have e2 : cnt4 w (i + 1) = cnt4 w i + 1 := by rw [e1, if_neg h16]
          refine v_iinc dX7_bytesIn_19 rfl (Nat.le_of_ble_eq_true rfl) ?_
          refine v_iinc dX7_bytesIn_22 rfl (Nat.le_of_ble_eq_true rfl) ?_
          refine v_goto (tgt := 5) dX7_bytesIn_25 (by decide) ?_
          exact v_to (ih (i + 1) (by omega)) rfl (sw_h1 rfl (sw_h1 (by rw [e2]; rfl) (sw_h1 (by rw [← e0]; rfl) sw_h0)))
  refine v_iconst dX7_bytesIn_0 ?_
  refine v_istore_n dX7_bytesIn_1 (Nat.le_of_ble_eq_true rfl) ?_
  refine v_bipush dX7_bytesIn_2 (by decide +kernel) ?_
  refine v_istore_n dX7_bytesIn_4 (Nat.le_of_ble_eq_true rfl) ?_
  exact v_to (loop 4 0 (by omega)) rfl (sw_h1 rfl (sw_h1 rfl (sw_h1 rfl sw_h0)))
theorem K7_put {b : Nat} {len a wr w : Int} {f : Int → Int} (h1 : M 1 = some (cT G b len a wr).2) (h2 : M 2 = some (cB f).2) (hw : wfT f len) (hl : len + cnt4 w 4 ≤ 240) : Kt l G μX7_put [.ref (sw_al G 1), sw_i w] M (fun r M' => r = none ∧ M' = sw_ov M [cT G b (ap4 w (f, len) 4).2 a wr, cB (ap4 w (f, len) 4).1]) := by
  refine KtA.of (by decide +kernel) (Nat.le_of_ble_eq_true rfl) ?_
  refine v_mem (sw_ov_self (cs := [cT G b len a wr, cB f]) (sw_hold1 h1 (sw_hold1 h2 sw_hold0))).symm ?_
  have hn := cT_nd
  have loop : ∀ (n i : Nat), i + n = 4 → V l G μX7_put sw_E0 (sw_Zq G μX7_put (sw_q0 G (fun r M' => r = none ∧ M' = sw_ov M [cT G b (ap4 w (f, len) 4).2 a wr, cB (ap4 w (f, len) 4).1]))) 3 [(0, .ref (sw_al G 1)), (1, sw_i w), (2, sw_i (24 - 8 * (i : Int)))] [] (sw_ov M [cT G b (ap4 w (f, len) i).2 a wr, cB (ap4 w (f, len) i).1]) 0 0 := by
    intro n
    induction n with
    | zero =>
      intro i hi
      have e : i = 4 := by omega
      subst e
      refine v_iload_n dX7_put_3 rfl ?_
      refine v_if_lt (tgt := 55) dX7_put_4 (by decide) ⟨by omega, by omega⟩ (fun h4 => ?_) (fun h4 => ?_)
      · skip
        exact v_vret dX7_put_55 rfl (Nat.le_refl _) (Nat.le_refl _) (⟨rfl, rfl⟩)
      · skip
        exfalso; omega
    | succ n ih =>
      intro i hi
      have hb := byt_bd w (24 - 8 * i)
      have e0 : (24 - 8 * (i : Int)) + -8 = 24 - 8 * ((i + 1 : Nat) : Int) := by omega
      have e1 : ap4 w (f, len) (i + 1) = ap (ap4 w (f, len) i) (byt w (24 - 8 * i)) := rfl
      have e2 : cnt4 w (i + 1) = cnt4 w i + (if byt w (24 - 8 * i) = 0 then 0 else 1) := rfl
      have e3 := ap4_len w (f, len) i
      have e4 := cnt4_mono w (n := i + 1) (m := 4) (by omega)
      have e5 := (cnt4_bd w i).1
      have e6 := hw.1
      have e7 : ((f, len) : (Int → Int) × Int).2 = len := rfl
      rw [e7] at e3
      have ih := ih (i + 1) (by omega)
      rw [e1] at ih
      generalize ap4 w (f, len) i = s at e3 ih ⊢
      refine v_iload_n dX7_put_3 rfl ?_
      refine v_if_lt (tgt := 55) dX7_put_4 (by decide) ⟨by omega, by omega⟩ (fun h4 => ?_) (fun h4 => ?_)
      · skip
        exfalso; omega
      · skip
        refine v_iload_n dX7_put_7 rfl ?_
        refine v_iload_n dX7_put_8 rfl ?_
        refine v_iushr (z := shr w (24 - 8 * i)) dX7_put_9 (sw_ofI _) ?_
        refine v_sipush dX7_put_10 (by decide +kernel) ?_
        refine v_iand (z := byt w (24 - 8 * i)) dX7_put_13 (sw_ofI _) ?_
        refine v_istore_n dX7_put_14 (Nat.le_of_ble_eq_true rfl) ?_
        refine v_iload_n dX7_put_15 rfl ?_
        refine v_if_eq (tgt := 49) dX7_put_16 (by decide) ⟨by omega, by omega⟩ (fun h16 => ?_) (fun h16 => ?_)
        · skip
          have e8 : ap s (byt w (24 - 8 * i)) = s := if_pos h16
          rw [e8] at ih
          refine v_iinc dX7_put_49 rfl (Nat.le_of_ble_eq_true rfl) ?_
          refine v_goto (tgt := 3) dX7_put_52 (by decide) ?_
          exact v_to ih rfl (sw_h1 rfl (sw_h1 rfl (sw_h1 (by rw [← e0]; rfl) sw_h0)))
        · skip
          have e8 : ap s (byt w (24 - 8 * i)) = (up s.1 s.2 (byt w (24 - 8 * i)), s.2 + 1) := if_neg h16
          rw [e8] at ih
          rw [if_neg h16] at e2
          refine v_aload_n dX7_put_19 rfl ?_
          refine v_getf 0 1 fl_X7_15 hn rfl rfl dX7_put_20 ?_
          refine v_sipush dX7_put_23 (by decide +kernel) ?_
          refine v_icmp_ge (tgt := 49) dX7_put_26 (by decide) ⟨by omega, by omega⟩ ⟨by omega, by omega⟩ (fun h26 => ?_) (fun h26 => ?_)
          · skip
            exfalso; omega
          · skip
            refine v_aload_n dX7_put_29 rfl ?_
            refine v_getf 0 0 fl_X7_9 hn rfl rfl dX7_put_30 ?_
            refine v_aload_n dX7_put_33 rfl ?_
            refine v_getf 0 1 fl_X7_15 hn rfl rfl dX7_put_34 ?_
            refine v_iload_n dX7_put_37 rfl ?_
            refine v_iast 1 hn rfl (Nat.le_of_ble_eq_true rfl) (by omega) (by omega) dX7_put_38 ?_
            refine v_aload_n dX7_put_39 rfl ?_
            refine v_dup dX7_put_40 rfl ?_
            refine v_getf 0 1 fl_X7_15 hn rfl rfl dX7_put_41 ?_
            refine v_iconst dX7_put_44 ?_
            refine v_iadd dX7_put_45 ?_
            refine v_putf 0 1 fp_X7_15 hn rfl rfl rfl (Nat.le_of_ble_eq_true rfl) dX7_put_46 ?_
            refine v_iinc dX7_put_49 rfl (Nat.le_of_ble_eq_true rfl) ?_
            refine v_goto (tgt := 3) dX7_put_52 (by decide) ?_
            exact v_to ih rfl (sw_h1 rfl (sw_h1 rfl (sw_h1 (by rw [← e0]; rfl) sw_h0)))
  refine v_bipush dX7_put_0 (by decide +kernel) ?_
  refine v_istore_n dX7_put_2 (Nat.le_of_ble_eq_true rfl) ?_
  exact v_to (loop 4 0 (by omega)) rfl (sw_h1 rfl (sw_h1 rfl (sw_h1 rfl sw_h0)))
end

