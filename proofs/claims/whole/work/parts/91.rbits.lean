/-! sets of seats as bits: how many, which is the lowest -/
def bc4 (n : Nat) : Int := ((n % 2 + n / 2 % 2 + n / 4 % 2 + n / 8 % 2 : Nat) : Int)
/-- the lowest one of a set (32: none) -/
def tz4 (n : Nat) : Int := if n % 2 = 1 then 0 else if n / 2 % 2 = 1 then 1 else if n / 4 % 2 = 1 then 2 else if n / 8 % 2 = 1 then 3 else 32
theorem lt16 {n : Nat} (h : n < 16) : n = 0 ∨ n = 1 ∨ n = 2 ∨ n = 3 ∨ n = 4 ∨ n = 5 ∨ n = 6 ∨ n = 7 ∨ n = 8 ∨ n = 9 ∨ n = 10 ∨ n = 11 ∨ n = 12 ∨ n = 13 ∨ n = 14 ∨ n = 15 := by omega
section
variable {l : Launch} {G : sw_G} {M : sw_M}
theorem J6_bc {n : Nat} (h : n < 16) : Kt l G μJ6_bitCount_0f7a4 [sw_i (n : Int)] M (fun r M' => r = some (sw_i (bc4 n)) ∧ M' = M) := by
  refine KtA.of (by decide +kernel) (Nat.le_of_ble_eq_true rfl) ?_
  refine v_iload_n dJ6_bitCount_0f7a4_0 rfl ?_
  refine v_iload_n dJ6_bitCount_0f7a4_1 rfl ?_
  refine v_iconst dJ6_bitCount_0f7a4_2 ?_
  refine v_iushr (z := _) dJ6_bitCount_0f7a4_3 (sw_ofI _) ?_
  refine v_ldcw (z := 1431655765) ki_J6_265 (by decide +kernel) dJ6_bitCount_0f7a4_4 ?_
  refine v_iand (z := _) dJ6_bitCount_0f7a4_7 (sw_ofI _) ?_
  refine v_isub dJ6_bitCount_0f7a4_8 ?_
  refine v_istore_n dJ6_bitCount_0f7a4_9 (Nat.le_of_ble_eq_true rfl) ?_
  refine v_iload_n dJ6_bitCount_0f7a4_10 rfl ?_
  refine v_ldcw (z := 858993459) ki_J6_266 (by decide +kernel) dJ6_bitCount_0f7a4_11 ?_
  refine v_iand (z := _) dJ6_bitCount_0f7a4_14 (sw_ofI _) ?_
  refine v_iload_n dJ6_bitCount_0f7a4_15 rfl ?_
  refine v_iconst dJ6_bitCount_0f7a4_16 ?_
  refine v_iushr (z := _) dJ6_bitCount_0f7a4_17 (sw_ofI _) ?_
  refine v_ldcw (z := 858993459) ki_J6_266 (by decide +kernel) dJ6_bitCount_0f7a4_18 ?_
  refine v_iand (z := _) dJ6_bitCount_0f7a4_21 (sw_ofI _) ?_
  refine v_iadd dJ6_bitCount_0f7a4_22 ?_
  refine v_istore_n dJ6_bitCount_0f7a4_23 (Nat.le_of_ble_eq_true rfl) ?_
  refine v_iload_n dJ6_bitCount_0f7a4_24 rfl ?_
  refine v_iload_n dJ6_bitCount_0f7a4_25 rfl ?_
  refine v_iconst dJ6_bitCount_0f7a4_26 ?_
  refine v_iushr (z := _) dJ6_bitCount_0f7a4_27 (sw_ofI _) ?_
  refine v_iadd dJ6_bitCount_0f7a4_28 ?_
  refine v_ldcw (z := 252645135) ki_J6_267 (by decide +kernel) dJ6_bitCount_0f7a4_29 ?_
  refine v_iand (z := _) dJ6_bitCount_0f7a4_32 (sw_ofI _) ?_
  refine v_istore_n dJ6_bitCount_0f7a4_33 (Nat.le_of_ble_eq_true rfl) ?_
  refine v_iload_n dJ6_bitCount_0f7a4_34 rfl ?_
  refine v_iload_n dJ6_bitCount_0f7a4_35 rfl ?_
  refine v_bipush dJ6_bitCount_0f7a4_36 (by decide +kernel) ?_
  refine v_iushr (z := _) dJ6_bitCount_0f7a4_38 (sw_ofI _) ?_
  refine v_iadd dJ6_bitCount_0f7a4_39 ?_
  refine v_istore_n dJ6_bitCount_0f7a4_40 (Nat.le_of_ble_eq_true rfl) ?_
  refine v_iload_n dJ6_bitCount_0f7a4_41 rfl ?_
  refine v_iload_n dJ6_bitCount_0f7a4_42 rfl ?_
  refine v_bipush dJ6_bitCount_0f7a4_43 (by decide +kernel) ?_
  refine v_iushr (z := _) dJ6_bitCount_0f7a4_45 (sw_ofI _) ?_
  refine v_iadd dJ6_bitCount_0f7a4_46 ?_
  refine v_istore_n dJ6_bitCount_0f7a4_47 (Nat.le_of_ble_eq_true rfl) ?_
  refine v_iload_n dJ6_bitCount_0f7a4_48 rfl ?_
  refine v_bipush dJ6_bitCount_0f7a4_49 (by decide +kernel) ?_
  refine v_iand (z := _) dJ6_bitCount_0f7a4_51 (sw_ofI _) ?_
  refine v_iret dJ6_bitCount_0f7a4_52 rfl (Nat.le_refl _) (Nat.le_refl _) ?_
  skip
  refine ⟨congrArg (fun z => some (Value.int z)) ?_, rfl⟩
  rcases lt16 h with rfl | rfl | rfl | rfl | rfl | rfl | rfl | rfl | rfl | rfl | rfl | rfl | rfl | rfl | rfl | rfl <;> decide +kernel
/-- below the lowest one -/
def tzv (n : Nat) : Int := if n % 2 = 1 then 0 else if n / 2 % 2 = 1 then 1 else if n / 4 % 2 = 1 then 3 else if n / 8 % 2 = 1 then 7 else -1
theorem tzv_of (n : Nat) : tzv n = -1 ∨ tzv n = 0 ∨ tzv n = 1 ∨ tzv n = 3 ∨ tzv n = 7 := by
  unfold tzv
  (repeat' split) <;> omega
theorem J6_tz {n : Nat} (h : n < 16) : Kt l G μJ6_numberOfTrailingZeros_0f7a4 [sw_i (n : Int)] M (fun r M' => r = some (sw_i (tz4 n)) ∧ M' = M) := by
  refine KtA.of (by decide +kernel) (Nat.le_of_ble_eq_true rfl) ?_
  have ht := tzv_of n
  refine v_iload_n dJ6_numberOfTrailingZeros_0f7a4_0 rfl ?_
  refine v_iconst dJ6_numberOfTrailingZeros_0f7a4_1 ?_
  refine v_ixor (z := _) dJ6_numberOfTrailingZeros_0f7a4_2 (sw_ofI _) ?_
  refine v_iload_n dJ6_numberOfTrailingZeros_0f7a4_3 rfl ?_
  refine v_iconst dJ6_numberOfTrailingZeros_0f7a4_4 ?_
  refine v_isub dJ6_numberOfTrailingZeros_0f7a4_5 ?_
  refine v_iand (z := tzv n) dJ6_numberOfTrailingZeros_0f7a4_6 (by rcases lt16 h with rfl | rfl | rfl | rfl | rfl | rfl | rfl | rfl | rfl | rfl | rfl | rfl | rfl | rfl | rfl | rfl <;> decide +kernel) ?_
  refine v_istore_n dJ6_numberOfTrailingZeros_0f7a4_7 (Nat.le_of_ble_eq_true rfl) ?_
  refine v_iload_n dJ6_numberOfTrailingZeros_0f7a4_8 rfl ?_
  refine v_if_gt (tgt := 17) dJ6_numberOfTrailingZeros_0f7a4_9 (by decide) ⟨by omega, by omega⟩ (fun h9 => ?_) (fun h9 => ?_)
  · skip
    refine v_iconst dJ6_numberOfTrailingZeros_0f7a4_17 ?_
    refine v_istore_n dJ6_numberOfTrailingZeros_0f7a4_18 (Nat.le_of_ble_eq_true rfl) ?_
    refine v_iload_n dJ6_numberOfTrailingZeros_0f7a4_19 rfl ?_
    refine v_ldcw (z := 65536) ki_J6_264 (by decide +kernel) dJ6_numberOfTrailingZeros_0f7a4_20 ?_
    refine v_icmp_le (tgt := 34) dJ6_numberOfTrailingZeros_0f7a4_23 (by decide) ⟨by omega, by omega⟩ ⟨by omega, by omega⟩ (fun h23 => ?_) (fun h23 => ?_)
    · skip
      refine v_iload_n dJ6_numberOfTrailingZeros_0f7a4_34 rfl ?_
      refine v_sipush dJ6_numberOfTrailingZeros_0f7a4_35 (by decide +kernel) ?_
      refine v_icmp_le (tgt := 49) dJ6_numberOfTrailingZeros_0f7a4_38 (by decide) ⟨by omega, by omega⟩ ⟨by omega, by omega⟩ (fun h38 => ?_) (fun h38 => ?_)
      · skip
        refine v_iload_n dJ6_numberOfTrailingZeros_0f7a4_49 rfl ?_
        refine v_bipush dJ6_numberOfTrailingZeros_0f7a4_50 (by decide +kernel) ?_
        refine v_icmp_le (tgt := 62) dJ6_numberOfTrailingZeros_0f7a4_52 (by decide) ⟨by omega, by omega⟩ ⟨by omega, by omega⟩ (fun h52 => ?_) (fun h52 => ?_)
        · skip
          refine v_iload_n dJ6_numberOfTrailingZeros_0f7a4_62 rfl ?_
          refine v_iconst dJ6_numberOfTrailingZeros_0f7a4_63 ?_
          refine v_icmp_le (tgt := 74) dJ6_numberOfTrailingZeros_0f7a4_64 (by decide) ⟨by omega, by omega⟩ ⟨by omega, by omega⟩ (fun h64 => ?_) (fun h64 => ?_)
          · skip
            refine v_iload_n dJ6_numberOfTrailingZeros_0f7a4_74 rfl ?_
            refine v_iload_n dJ6_numberOfTrailingZeros_0f7a4_75 rfl ?_
            refine v_iconst dJ6_numberOfTrailingZeros_0f7a4_76 ?_
            refine v_iushr (z := _) dJ6_numberOfTrailingZeros_0f7a4_77 (sw_ofI _) ?_
            refine v_iadd dJ6_numberOfTrailingZeros_0f7a4_78 ?_
            refine v_iret dJ6_numberOfTrailingZeros_0f7a4_79 rfl (Nat.le_refl _) (Nat.le_refl _) ?_
            skip
            refine ⟨congrArg (fun z => some (Value.int z)) ?_, rfl⟩
            revert h9 h64
            rcases lt16 h with rfl | rfl | rfl | rfl | rfl | rfl | rfl | rfl | rfl | rfl | rfl | rfl | rfl | rfl | rfl | rfl <;> decide +kernel
          · skip
            refine v_iinc dJ6_numberOfTrailingZeros_0f7a4_67 rfl (Nat.le_of_ble_eq_true rfl) ?_
            refine v_iload_n dJ6_numberOfTrailingZeros_0f7a4_70 rfl ?_
            refine v_iconst dJ6_numberOfTrailingZeros_0f7a4_71 ?_
            refine v_iushr (z := _) dJ6_numberOfTrailingZeros_0f7a4_72 (sw_ofI _) ?_
            refine v_istore_n dJ6_numberOfTrailingZeros_0f7a4_73 (Nat.le_of_ble_eq_true rfl) ?_
            refine v_iload_n dJ6_numberOfTrailingZeros_0f7a4_74 rfl ?_
            refine v_iload_n dJ6_numberOfTrailingZeros_0f7a4_75 rfl ?_
            refine v_iconst dJ6_numberOfTrailingZeros_0f7a4_76 ?_
            refine v_iushr (z := _) dJ6_numberOfTrailingZeros_0f7a4_77 (sw_ofI _) ?_
            refine v_iadd dJ6_numberOfTrailingZeros_0f7a4_78 ?_
            refine v_iret dJ6_numberOfTrailingZeros_0f7a4_79 rfl (Nat.le_refl _) (Nat.le_refl _) ?_
            skip
            refine ⟨congrArg (fun z => some (Value.int z)) ?_, rfl⟩
            revert h9 h64
            rcases lt16 h with rfl | rfl | rfl | rfl | rfl | rfl | rfl | rfl | rfl | rfl | rfl | rfl | rfl | rfl | rfl | rfl <;> decide +kernel
        · skip
          exfalso; omega
      · skip
        exfalso; omega
    · skip
      exfalso; omega
  · skip
    refine v_iload_n dJ6_numberOfTrailingZeros_0f7a4_12 rfl ?_
    refine v_bipush dJ6_numberOfTrailingZeros_0f7a4_13 (by decide +kernel) ?_
    refine v_iand (z := _) dJ6_numberOfTrailingZeros_0f7a4_15 (sw_ofI _) ?_
    refine v_iret dJ6_numberOfTrailingZeros_0f7a4_16 rfl (Nat.le_refl _) (Nat.le_refl _) ?_
    skip
    refine ⟨congrArg (fun z => some (Value.int z)) ?_, rfl⟩
    revert h9
    rcases lt16 h with rfl | rfl | rfl | rfl | rfl | rfl | rfl | rfl | rfl | rfl | rfl | rfl | rfl | rfl | rfl | rfl <;> decide +kernel
end

