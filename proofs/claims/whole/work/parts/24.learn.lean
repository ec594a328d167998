/-! the latest LEARN: draws, bids, moves (the rows wb_.. begun from the kit's text for pasting) -/
theorem wb_tb (n : Nat) : (lN n).toBitVec = BitVec.ofNat 64 n := rfl
theorem wb_inj {a b : Int64} (h : a.toBitVec = b.toBitVec) : a = b := Int64.toBitVec_inj.mp h
theorem wb_tn {n : Nat} (h : n < 2 ^ 64) : (lN n).toBitVec.toNat = n := by rw [wb_tb, BitVec.toNat_ofNat, Nat.mod_eq_of_lt h]
theorem wb_of (x : Int64) : ∃ n, n < 2 ^ 64 ∧ x = lN n := ⟨x.toBitVec.toNat, x.toBitVec.isLt, wb_inj (by rw [wb_tb]; simp)⟩
theorem wb_of32 (x : Int32) : ∃ n, n < 2 ^ 32 ∧ x = nI n := ⟨x.toBitVec.toNat, x.toBitVec.isLt, Int32.toBitVec_inj.mp (by show _ = BitVec.ofNat 32 _; simp)⟩
theorem wb_c : ∀ k, k < 64 → ((nI k).toInt64 &&& 63) = lN k := by decide +kernel
theorem wb_cu : ∀ k, k < 64 → ((nI k).toInt64.toUInt64 &&& Int64.toUInt64 63) = UInt64.ofNat k := by decide +kernel
theorem wb_sm : ∀ k, k < 64 → (BitVec.ofNat 64 k).smod 64 = BitVec.ofNat 64 k := by decide +kernel
theorem wb_pw {a b : Nat} (h : a ≤ b) : 2 ^ b = 2 ^ a * 2 ^ (b - a) := by rw [← Nat.pow_add]; congr 1; omega
theorem wb_lt2 {a b : Nat} (h : a < b) : 2 ^ a < 2 ^ b := Nat.pow_lt_pow_right (by decide) h
theorem wb_mod (n : Nat) : lN n = lN (n % 2 ^ 64) := wb_inj (by rw [wb_tb, wb_tb]; apply BitVec.eq_of_toNat_eq; rw [BitVec.toNat_ofNat, BitVec.toNat_ofNat, Nat.mod_mod])
theorem wb_shr {n k : Nat} (hn : n < 2 ^ 64) (hk : k < 64) : ((lN n).toUInt64 >>> ((nI k).toInt64.toUInt64 &&& Int64.toUInt64 63)).toInt64 = lN (n / 2 ^ k) := by
  rw [wb_cu k hk]
  apply wb_inj
  apply BitVec.eq_of_toNat_eq
  show ((lN n).toUInt64 >>> UInt64.ofNat k).toNat = (BitVec.ofNat 64 _).toNat
  have h1 : (UInt64.ofNat k).toNat = k := by
    show (BitVec.ofNat 64 k).toNat = k
    rw [BitVec.toNat_ofNat, Nat.mod_eq_of_lt (by omega)]
  have h2 : (lN n).toUInt64.toNat = n := wb_tn hn
  rw [UInt64.toNat_shiftRight, h1, h2, Nat.mod_eq_of_lt hk, Nat.shiftRight_eq_div_pow, BitVec.toNat_ofNat, Nat.mod_eq_of_lt (Nat.lt_of_le_of_lt (Nat.div_le_self _ _) hn)]
def nxX (x : Int) : Int := x * 6364136223846793005 + 1442695040888963407
def dsh (x : Int) : Int := (((jN x).toUInt64 >>> ((iN 33).toInt64.toUInt64 &&& Int64.toUInt64 63)).toInt64).toInt
theorem dsh_bd (x : Int) : 0 ≤ dsh x ∧ dsh x < 2147483648 := by
  obtain ⟨n, hn, hx⟩ := wb_of (jN x)
  unfold dsh
  rw [hx, show iN 33 = nI 33 from rfl, wb_shr hn (by omega)]
  have h1 : n / 2 ^ 33 < 2147483648 := by
    rw [Nat.div_lt_iff_lt_mul (by decide)]
    exact Nat.lt_of_lt_of_le hn (Nat.le_of_ble_eq_true rfl)
  have h2 : lN (n / 2 ^ 33) = jN ((n / 2 ^ 33 : Nat) : Int) := by
    apply wb_inj
    rw [wb_tb]
    show _ = BitVec.ofInt 64 _
    rw [BitVec.ofInt_natCast]
  rw [h2, jN_t ⟨by omega, by omega⟩]
  omega
def drw (x k : Int) : Int := (dsh x).tmod k
theorem drw_bd (x : Int) {k : Int} (hk : 0 < k) : 0 ≤ drw x k ∧ drw x k < k :=
  ⟨Int.tmod_nonneg _ (dsh_bd x).1, Int.tmod_lt_of_pos _ hk⟩
/-- the first place at which what is left falls below 0 -/
def fd (W : Int → Int) : Nat → Int → Int → Int
  | 0, t, _ => t
  | n + 1, t, left => if left - W t < 0 then t else fd W n (t + 1) (left - W t)
theorem fd_bd (W : Int → Int) : ∀ (n : Nat) (t left : Int), t ≤ fd W n t left ∧ fd W n t left ≤ t + n
  | 0, t, left => by show t ≤ t ∧ t ≤ t + 0; omega
  | n + 1, t, left => by
    have ih := fd_bd W n (t + 1) (left - W t)
    unfold fd
    split <;> omega
abbrev cL (G : sw_G) (b : Nat) (x m tk so : Int) : sw_Ce := (30, sw_o 2 [.ref (sw_al G 31), .ref (sw_al G 32), .ref (sw_al G 33), .ref (sw_al G b), sw_j x, sw_i m, sw_i tk, sw_i so])
abbrev cLs (G : sw_G) (b : Nat) (x m tk so : Int) (Rw Gd Sg : Int → Int) : List sw_Ce := [cL G b x m tk so, (31, sw_ia 20 Rw), (32, sw_ia 4 Gd), (33, sw_ia 4 Sg)]
theorem cLs_nd : sw_nd [30, 31, 32, 33] := sw_nd_of (by simp)
def bdN (Rw Sg : Int → Int) (i : Int) : Int := Rw (i * 5 + Sg i)
def hg (Rw Sg : Int → Int) (le but : Int) : Nat → Int
  | 0 => -1
  | k + 1 => if (k : Int) ≠ but ∧ le ≤ bdN Rw Sg k ∧ hg Rw Sg le but k < bdN Rw Sg k then bdN Rw Sg k else hg Rw Sg le but k
def ctH (Rw Sg : Int → Int) (hi : Int) : Nat → Int
  | 0 => 0
  | k + 1 => if bdN Rw Sg k = hi then ctH Rw Sg hi k + 1 else ctH Rw Sg hi k
def pkW (Rw Sg : Int → Int) (hi : Int) : Nat → Int → Int → Int
  | 0, _, _ => 0
  | n + 1, s, left => if bdN Rw Sg s = hi then (if left = 0 then s else pkW Rw Sg hi n (s + 1) (left - 1)) else pkW Rw Sg hi n (s + 1) left
def clp (z : Int) : Int := if 0 < (if z < 60 then z else 60) then (if z < 60 then z else 60) else 0
def mvR (Rw Sg : Int → Int) (i by' : Int) : Int → Int := up Rw (i * 5 + Sg i) (clp (Rw (i * 5 + Sg i) + by'))
def lOK (σ : SaleT) (Rw Sg : Int → Int) (m : Nat) : Prop := (∀ i : Nat, i < m → 0 ≤ Sg i ∧ Sg i < 5) ∧ ∀ i, 0 ≤ i → i < 20 → 0 ≤ Rw i ∧ Rw i ≤ 60
theorem lOK.b {σ : SaleT} {Rw Sg : Int → Int} {m : Nat} (hm : m ≤ 4) (h : lOK σ Rw Sg m) {i : Int} (h0 : 0 ≤ i) (h1 : i < m) : (0 ≤ Sg i ∧ Sg i < 5) ∧ 0 ≤ bdN Rw Sg i ∧ bdN Rw Sg i ≤ 60 := by
  have e : ((i.toNat : Nat) : Int) = i := by omega
  have hs := h.1 i.toNat (by omega)
  rw [e] at hs
  exact ⟨hs, h.2 _ (by omega) (by omega)⟩
theorem hg_bd {σ : SaleT} {Rw Sg : Int → Int} {m : Nat} (hm : m ≤ 4) (h : lOK σ Rw Sg m) (le but : Int) : ∀ k : Nat, k ≤ m → -1 ≤ hg Rw Sg le but k ∧ hg Rw Sg le but k ≤ 60
  | 0, _ => by show -1 ≤ (-1 : Int) ∧ (-1 : Int) ≤ 60; omega
  | k + 1, hk => by
    have ih := hg_bd hm h le but k (by omega)
    have hb := (h.b hm (i := k) (by omega) (by omega)).2
    unfold hg
    split <;> omega
theorem ctH_bd (Rw Sg : Int → Int) (hi : Int) : ∀ k : Nat, 0 ≤ ctH Rw Sg hi k ∧ ctH Rw Sg hi k ≤ k
  | 0 => by show 0 ≤ (0 : Int) ∧ (0 : Int) ≤ 0; omega
  | k + 1 => by
    have ih := ctH_bd Rw Sg hi k
    unfold ctH
    split <;> omega
theorem pkW_bd (Rw Sg : Int → Int) (hi : Int) : ∀ (n : Nat) (s left : Int), 0 ≤ s → 0 ≤ pkW Rw Sg hi n s left ∧ (pkW Rw Sg hi n s left < s + n ∨ pkW Rw Sg hi n s left = 0)
  | 0, s, left, h => by show 0 ≤ (0 : Int) ∧ ((0 : Int) < s + 0 ∨ (0 : Int) = 0); omega
  | n + 1, s, left, h => by
    have ih1 := pkW_bd Rw Sg hi n (s + 1) (left - 1) (by omega)
    have ih2 := pkW_bd Rw Sg hi n (s + 1) left (by omega)
    unfold pkW
    split
    · split <;> omega
    · omega
theorem clp_bd (z : Int) : 0 ≤ clp z ∧ clp z ≤ 60 := by
  unfold clp
  split
  · split <;> omega
  · omega
theorem mvR_ok {σ : SaleT} {Rw Sg : Int → Int} {m : Nat} (h : lOK σ Rw Sg m) (i b : Int) : lOK σ (mvR Rw Sg i b) Sg m := by
  refine ⟨h.1, fun j h0 h1 => ?_⟩
  show 0 ≤ (if j = _ then clp _ else Rw j) ∧ (if j = _ then clp _ else Rw j) ≤ 60
  split
  · exact clp_bd _
  · exact h.2 j h0 h1
section
variable {l : Launch} {G : sw_G} {M : sw_M}
theorem K2_draw {b : Nat} {x m tk so k : Int} (h1 : M 30 = some (cL G b x m tk so).2) (hk : 0 < k ∧ k ≤ 1000) : Kt l G μX2_draw [.ref (sw_al G 30), sw_i k] M (fun r M' => r = some (sw_i (drw (nxX x) k)) ∧ M' = sw_ov M [cL G b (nxX x) m tk so]) := by
  refine KtA.of (by decide +kernel) (Nat.le_of_ble_eq_true rfl) ?_
  refine v_mem (sw_ov_self (cs := [cL G b x m tk so]) (sw_hold1 h1 sw_hold0)).symm ?_
  have hn : sw_nd [30] := sw_nd_of (by simp)
  have hd := dsh_bd (nxX x)
  refine v_aload_n dX2_draw_0 rfl ?_
  refine v_aload_n dX2_draw_1 rfl ?_
  refine v_getf 0 4 fl_X2_28 hn rfl rfl dX2_draw_2 ?_
  refine v_ldc2 (z := 6364136223846793005) kl_X2_68 (by decide +kernel) dX2_draw_5 ?_
  refine v_lmul dX2_draw_8 ?_
  refine v_ldc2 (z := 1442695040888963407) kl_X2_70 (by decide +kernel) dX2_draw_9 ?_
  refine v_ladd dX2_draw_12 ?_
  refine v_putf 0 4 fp_X2_28 hn rfl rfl rfl (Nat.le_of_ble_eq_true rfl) dX2_draw_13 ?_
  refine v_iload_n dX2_draw_16 rfl ?_
  refine v_if_le (tgt := 34) dX2_draw_17 (by decide) ⟨by omega, by omega⟩ (fun h17 => ?_) (fun h17 => ?_)
  · skip
    exfalso; omega
  · skip
    refine v_aload_n dX2_draw_20 rfl ?_
    refine v_getf 0 4 fl_X2_28 hn rfl rfl dX2_draw_21 ?_
    refine v_bipush dX2_draw_24 (by decide +kernel) ?_
    refine v_lushr (z := dsh (nxX x)) dX2_draw_26 (sw_ofJ _) ?_
    refine v_iload_n dX2_draw_27 rfl ?_
    refine v_i2l dX2_draw_28 ⟨by omega, by omega⟩ ?_
    refine v_lrem dX2_draw_29 ⟨by omega, by omega⟩ ⟨by omega, by omega⟩ (by omega) ?_
    refine v_l2i dX2_draw_30 ?_
    refine v_goto (tgt := 35) dX2_draw_31 (by decide) ?_
    exact v_iret dX2_draw_35 rfl (Nat.le_refl _) (Nat.le_refl _) (⟨rfl, rfl⟩)
theorem K2_bidNow {b : Nat} {x m tk so : Int} {Rw Gd Sg : Int → Int} (hM : sw_hold M (cLs G b x m tk so Rw Gd Sg)) {i : Int} (hi : 0 ≤ i ∧ i < 4) (hs : 0 ≤ Sg i ∧ Sg i < 5) : Kt l G μX2_bidNow [.ref (sw_al G 30), sw_i i] M (fun r M' => r = some (sw_i (bdN Rw Sg i)) ∧ M' = M) := by
  refine KtA.of (by decide +kernel) (Nat.le_of_ble_eq_true rfl) ?_
  have hback : sw_ov M (cLs G b x m tk so Rw Gd Sg) = M := sw_ov_self hM
  refine v_mem hback.symm ?_
  have hn := cLs_nd
  refine v_aload_n dX2_bidNow_0 rfl ?_
  refine v_getf 0 0 fl_X2_9 hn rfl rfl dX2_bidNow_1 ?_
  refine v_iload_n dX2_bidNow_4 rfl ?_
  refine v_iconst dX2_bidNow_5 ?_
  refine v_imul dX2_bidNow_6 ?_
  refine v_aload_n dX2_bidNow_7 rfl ?_
  refine v_getf 0 2 fl_X2_18 hn rfl rfl dX2_bidNow_8 ?_
  refine v_iload_n dX2_bidNow_11 rfl ?_
  refine v_iald 3 hn rfl (Nat.le_of_ble_eq_true rfl) (by omega) (by omega) dX2_bidNow_12 ?_
  refine v_iadd dX2_bidNow_13 ?_
  refine v_iald 1 hn rfl (Nat.le_of_ble_eq_true rfl) (by omega) (by omega) dX2_bidNow_14 ?_
  exact v_iret dX2_bidNow_15 rfl (Nat.le_refl _) (Nat.le_refl _) (⟨rfl, hback⟩)
theorem K2_move {b : Nat} {x m tk so : Int} {Rw Gd Sg : Int → Int} (hM : sw_hold M (cLs G b x m tk so Rw Gd Sg)) {i v : Int} (hi : 0 ≤ i ∧ i < 4) (hs : 0 ≤ Sg i ∧ Sg i < 5) (hr : 0 ≤ Rw (i * 5 + Sg i) ∧ Rw (i * 5 + Sg i) ≤ 60) (hv : -1 ≤ v ∧ v ≤ 1) : Kt l G μX2_move [.ref (sw_al G 30), sw_i i, sw_i v] M (fun r M' => r = none ∧ M' = sw_ov M [(31, sw_ia 20 (mvR Rw Sg i v))]) := by
  refine KtA.of (by decide +kernel) (Nat.le_of_ble_eq_true rfl) ?_
  refine v_mem (sw_ov_self hM).symm ?_
  have hn := cLs_nd
  have hback : ∀ Rw', sw_ov M (cLs G b x m tk so Rw' Gd Sg) = sw_ov M [(31, sw_ia 20 Rw')] := by
    intro Rw'
    have e : sw_ov M (cLs G b x m tk so Rw' Gd Sg) = sw_ov M ([cL G b x m tk so, (31, sw_ia 20 Rw')] ++ [(32, sw_ia 4 Gd), (33, sw_ia 4 Sg)]) := rfl
    rw [e, sw_ov_dr hM.tl.tl]
    funext q
    show (if q = 30 then some (cL G b x m tk so).2 else if q = 31 then _ else M q) = (if q = 31 then _ else M q)
    by_cases e1 : q = 30
    · rw [if_pos e1, if_neg (by omega), e1, hM.hd]
    · rw [if_neg e1]
  refine v_iload_n dX2_move_0 rfl ?_
  refine v_iconst dX2_move_1 ?_
  refine v_imul dX2_move_2 ?_
  refine v_aload_n dX2_move_3 rfl ?_
  refine v_getf 0 2 fl_X2_18 hn rfl rfl dX2_move_4 ?_
  refine v_iload_n dX2_move_7 rfl ?_
  refine v_iald 3 hn rfl (Nat.le_of_ble_eq_true rfl) (by omega) (by omega) dX2_move_8 ?_
  refine v_iadd dX2_move_9 ?_
  refine v_istore_n dX2_move_10 (Nat.le_of_ble_eq_true rfl) ?_
  refine v_aload_n dX2_move_11 rfl ?_
  refine v_getf 0 0 fl_X2_9 hn rfl rfl dX2_move_12 ?_
  refine v_iload_n dX2_move_15 rfl ?_
  refine v_iconst dX2_move_16 ?_
  refine v_bipush dX2_move_17 (by decide +kernel) ?_
  refine v_aload_n dX2_move_19 rfl ?_
  refine v_getf 0 0 fl_X2_9 hn rfl rfl dX2_move_20 ?_
  refine v_iload_n dX2_move_23 rfl ?_
  refine v_iald 1 hn rfl (Nat.le_of_ble_eq_true rfl) (by omega) (by omega) dX2_move_24 ?_
  refine v_iload_n dX2_move_25 rfl ?_
  refine v_iadd dX2_move_26 ?_
  refine v_min ⟨by omega, by omega⟩ ⟨by omega, by omega⟩ ql_X2_103 ⟨Nat.le_of_ble_eq_true rfl, Nat.le_of_ble_eq_true rfl⟩ (Nat.le_refl _) (Nat.le_refl _) dX2_move_27 ?_
  refine v_max ⟨by omega, by omega⟩ ⟨by split <;> omega, by split <;> omega⟩ ql_X2_108 ⟨Nat.le_of_ble_eq_true rfl, Nat.le_of_ble_eq_true rfl⟩ (Nat.le_refl _) (Nat.le_refl _) dX2_move_30 ?_
  refine v_iast 1 hn rfl (Nat.le_of_ble_eq_true rfl) (by omega) (by omega) dX2_move_33 ?_
  exact v_vret dX2_move_34 rfl (Nat.le_refl _) (Nat.le_refl _) (⟨rfl, hback _⟩)
theorem K2_highest {b : Nat} (hb : 50 ≤ b) {σ : SaleT} {u d : Int} {m : Nat} {x tk so : Int} {Rw Gd Sg : Int → Int} (hM : sw_hold M (cLs G b x m tk so Rw Gd Sg)) (h5 : M b = some (cO G b σ u d).2) (hw : wfS σ) (hm : m ≤ 4) (ho : lOK σ Rw Sg m) {but : Int} (hbut : sw_rg but) : Kt l G μX2_highest [.ref (sw_al G 30), sw_i but] M (fun r M' => r = some (sw_i (hg Rw Sg (sLe σ) but m)) ∧ M' = M) := by
  refine KtA.of (by decide +kernel) (Nat.le_of_ble_eq_true rfl) ?_
  have hback : sw_ov M [cL G b x m tk so, cO G b σ u d] = M := sw_ov_self (sw_hold1 hM.hd (sw_hold1 h5 sw_hold0))
  refine v_mem hback.symm ?_
  have hn : sw_nd [30, b] := sw_nd_of (by simp; omega)
  have hle := hw.2.2.2.1
  obtain ⟨b1, b2⟩ := hbut
  have loop : ∀ (n k : Nat), k + n = m → V l G μX2_highest sw_E0 (sw_Zq G μX2_highest (sw_q0 G (fun r M' => r = some (sw_i (hg Rw Sg (sLe σ) but m)) ∧ M' = M))) 4 [(0, .ref (sw_al G 30)), (1, sw_i but), (2, sw_i (hg Rw Sg (sLe σ) but k)), (3, sw_i (k : Int))] [] (sw_ov M [cL G b x m tk so, cO G b σ u d]) 0 0 := by
    intro n
    induction n with
    | zero =>
      intro k hk
      have e : k = m := by omega
      subst e
      refine v_iload_n dX2_highest_4 rfl ?_
      refine v_aload_n dX2_highest_5 rfl ?_
      refine v_getf 0 5 fl_X2_32 hn rfl rfl dX2_highest_6 ?_
      refine v_icmp_ge (tgt := 51) dX2_highest_9 (by decide) ⟨by omega, by omega⟩ ⟨by omega, by omega⟩ (fun h9 => ?_) (fun h9 => ?_)
      · skip
        refine v_iload_n dX2_highest_51 rfl ?_
        exact v_iret dX2_highest_52 rfl (Nat.le_refl _) (Nat.le_refl _) (⟨rfl, hback⟩)
      · skip
        exfalso; omega
    | succ n ih =>
      intro k hk
      have hq := ho.b hm (i := (k : Int)) (by omega) (by omega)
      have hh := hg_bd hm ho (sLe σ) but k (by omega)
      have e1 : hg Rw Sg (sLe σ) but (k + 1) = if (k : Int) ≠ but ∧ sLe σ ≤ bdN Rw Sg k ∧ hg Rw Sg (sLe σ) but k < bdN Rw Sg k then bdN Rw Sg k else hg Rw Sg (sLe σ) but k := rfl
      refine v_iload_n dX2_highest_4 rfl ?_
      refine v_aload_n dX2_highest_5 rfl ?_
      refine v_getf 0 5 fl_X2_32 hn rfl rfl dX2_highest_6 ?_
      refine v_icmp_ge (tgt := 51) dX2_highest_9 (by decide) ⟨by omega, by omega⟩ ⟨by omega, by omega⟩ (fun h9 => ?_) (fun h9 => ?_)
      · skip
        exfalso; omega
      · skip
        refine v_aload_n dX2_highest_12 rfl ?_
        refine v_iload_n dX2_highest_13 rfl ?_
        refine v_callV (ci := 2) (K2_bidNow (b := b) (x := x) (m := m) (tk := tk) (so := so) (Rw := Rw) (Gd := Gd) (Sg := Sg) (by rw [hback]; exact hM) (i := (k : Int)) ⟨by omega, by omega⟩ hq.1) ⟨rfl, rfl⟩ (Nat.le_refl _) (Nat.le_refl _) (by rw [hback]; exact hM.hd) rfl ⟨ml_X2_91, mm_X2_bidNow⟩ ⟨(Nat.le_of_ble_eq_true rfl), (Nat.le_of_ble_eq_true rfl)⟩ mp_X2_bidNow rfl rfl (Nat.le_of_ble_eq_true rfl) dX2_highest_14 (fun r M' h => ?_)
        obtain ⟨rfl, rfl⟩ := h
        refine v_istore dX2_highest_17 (Nat.le_of_ble_eq_true rfl) ?_
        refine v_iload_n dX2_highest_19 rfl ?_
        refine v_iload_n dX2_highest_20 rfl ?_
        refine v_icmp_eq (tgt := 45) dX2_highest_21 (by decide) ⟨by omega, by omega⟩ ⟨by omega, by omega⟩ (fun h21 => ?_) (fun h21 => ?_)
        · skip
          rw [if_neg (by omega)] at e1
          refine v_iinc dX2_highest_45 rfl (Nat.le_of_ble_eq_true rfl) ?_
          refine v_goto (tgt := 4) dX2_highest_48 (by decide) ?_
          exact v_to (ih (k + 1) (by omega)) rfl (sw_h1 rfl (sw_h1 rfl (sw_h1 (by rw [e1]; rfl) (sw_h1 rfl sw_h0))))
        · skip
          refine v_iload dX2_highest_24 rfl ?_
          refine v_aload_n dX2_highest_26 rfl ?_
          refine v_getf 0 3 fl_X2_24 hn rfl rfl dX2_highest_27 ?_
          refine v_getf 1 7 fl_X2_94 hn rfl rfl dX2_highest_30 ?_
          refine v_icmp_lt (tgt := 45) dX2_highest_33 (by decide) ⟨by omega, by omega⟩ ⟨by omega, by omega⟩ (fun h33 => ?_) (fun h33 => ?_)
          · skip
            rw [if_neg (by omega)] at e1
            refine v_iinc dX2_highest_45 rfl (Nat.le_of_ble_eq_true rfl) ?_
            refine v_goto (tgt := 4) dX2_highest_48 (by decide) ?_
            exact v_to (ih (k + 1) (by omega)) rfl (sw_h1 rfl (sw_h1 rfl (sw_h1 (by rw [e1]; rfl) (sw_h1 rfl sw_h0))))
          · skip
            refine v_iload dX2_highest_36 rfl ?_
            refine v_iload_n dX2_highest_38 rfl ?_
            refine v_icmp_le (tgt := 45) dX2_highest_39 (by decide) ⟨by omega, by omega⟩ ⟨by omega, by omega⟩ (fun h39 => ?_) (fun h39 => ?_)
            · skip
              rw [if_neg (by omega)] at e1
              refine v_iinc dX2_highest_45 rfl (Nat.le_of_ble_eq_true rfl) ?_
              refine v_goto (tgt := 4) dX2_highest_48 (by decide) ?_
              exact v_to (ih (k + 1) (by omega)) rfl (sw_h1 rfl (sw_h1 rfl (sw_h1 (by rw [e1]; rfl) (sw_h1 rfl sw_h0))))
            · skip
              rw [if_pos (by omega)] at e1
              refine v_iload dX2_highest_42 rfl ?_
              refine v_istore_n dX2_highest_44 (Nat.le_of_ble_eq_true rfl) ?_
              refine v_iinc dX2_highest_45 rfl (Nat.le_of_ble_eq_true rfl) ?_
              refine v_goto (tgt := 4) dX2_highest_48 (by decide) ?_
              exact v_to (ih (k + 1) (by omega)) rfl (sw_h1 rfl (sw_h1 rfl (sw_h1 (by rw [e1]; rfl) (sw_h1 rfl sw_h0))))
  refine v_iconst dX2_highest_0 ?_
  refine v_istore_n dX2_highest_1 (Nat.le_of_ble_eq_true rfl) ?_
  refine v_iconst dX2_highest_2 ?_
  refine v_istore_n dX2_highest_3 (Nat.le_of_ble_eq_true rfl) ?_
  exact v_to (loop m 0 (by omega)) rfl (sw_h1 rfl (sw_h1 rfl (sw_h1 rfl (sw_h1 rfl sw_h0))))
theorem K2_begin {b b0 : Nat} (hb : 50 ≤ b) {σ : SaleT} {u d x0 m0 tk so x : Int} {Rw Gd Sg : Int → Int} (hM : sw_hold M (cLs G b0 x0 m0 tk so Rw Gd Sg)) (h5 : M b = some (cO G b σ u d).2) : Kt l G μX2_begin [.ref (sw_al G 30), .ref (sw_al G b), sw_j x] M (fun r M' => r = none ∧ M' = sw_ov M (cLs G b x (sNb σ) 0 0 (fl Rw 0 20) (fl Gd 0 4) Sg)) := by
  refine KtA.of (by decide +kernel) (Nat.le_of_ble_eq_true rfl) ?_
  refine v_mem (sw_ov_self (cs := cLs G b0 x0 m0 tk so Rw Gd Sg ++ [cO G b σ u d]) (sw_hold.app hM (sw_hold1 h5 sw_hold0))).symm ?_
  have hn : sw_nd [30, 31, 32, 33, b] := sw_nd_of (by simp; omega)
  have hback : ∀ Rw Gd, sw_ov M (cLs G b x (sNb σ) 0 0 Rw Gd Sg ++ [cO G b σ u d]) = sw_ov M (cLs G b x (sNb σ) 0 0 Rw Gd Sg) := fun Rw Gd => sw_ov_dr (sw_hold1 h5 sw_hold0) _
  have loop2 : ∀ (n : Nat) (k : Int), 0 ≤ k → k + n = 20 → V l G μX2_begin sw_E0 (sw_Zq G μX2_begin (sw_q0 G (fun r M' => r = none ∧ M' = sw_ov M (cLs G b x (sNb σ) 0 0 (fl Rw 0 20) (fl Gd 0 4) Sg)))) 54 [(0, .ref (sw_al G 30)), (4, sw_i k)] [] (sw_ov M (cLs G b x (sNb σ) 0 0 (fl Rw 0 k.toNat) (fl Gd 0 4) Sg ++ [cO G b σ u d])) 0 0 := by
    intro n
    induction n with
    | zero =>
      intro k h0 hk
      have e : k = 20 := by omega
      subst e
      refine v_iload dX2_begin_54 rfl ?_
      refine v_bipush dX2_begin_56 (by decide +kernel) ?_
      refine v_icmp_ge (tgt := 75) dX2_begin_58 (by decide) ⟨by omega, by omega⟩ ⟨by omega, by omega⟩ (fun h58 => ?_) (fun h58 => ?_)
      · skip
        exact v_vret dX2_begin_75 rfl (Nat.le_refl _) (Nat.le_refl _) (⟨rfl, hback _ _⟩)
      · skip
        exfalso; omega
    | succ n ih =>
      intro k h0 hk
      have e1 := fl_s Rw 0 h0
      refine v_iload dX2_begin_54 rfl ?_
      refine v_bipush dX2_begin_56 (by decide +kernel) ?_
      refine v_icmp_ge (tgt := 75) dX2_begin_58 (by decide) ⟨by omega, by omega⟩ ⟨by omega, by omega⟩ (fun h58 => ?_) (fun h58 => ?_)
      · skip
        exfalso; omega
      · skip
        refine v_aload_n dX2_begin_61 rfl ?_
        refine v_getf 0 0 fl_X2_9 hn rfl rfl dX2_begin_62 ?_
        refine v_iload dX2_begin_65 rfl ?_
        refine v_iconst dX2_begin_67 ?_
        refine v_iast 1 hn rfl (Nat.le_of_ble_eq_true rfl) (by omega) (by omega) dX2_begin_68 ?_
        refine v_iinc dX2_begin_69 rfl (Nat.le_of_ble_eq_true rfl) ?_
        refine v_goto (tgt := 54) dX2_begin_72 (by decide) ?_
        exact v_to (ih (k + 1) (by omega) (by omega)) (by rw [e1]; rfl) (sw_h1 rfl (sw_h1 rfl sw_h0))
  have loop : ∀ (n : Nat) (k : Int), 0 ≤ k → k + n = 4 → V l G μX2_begin sw_E0 (sw_Zq G μX2_begin (sw_q0 G (fun r M' => r = none ∧ M' = sw_ov M (cLs G b x (sNb σ) 0 0 (fl Rw 0 20) (fl Gd 0 4) Sg)))) 31 [(0, .ref (sw_al G 30)), (4, sw_i k)] [] (sw_ov M (cLs G b x (sNb σ) 0 0 Rw (fl Gd 0 k.toNat) Sg ++ [cO G b σ u d])) 0 0 := by
    intro n
    induction n with
    | zero =>
      intro k h0 hk
      have e : k = 4 := by omega
      subst e
      refine v_iload dX2_begin_31 rfl ?_
      refine v_iconst dX2_begin_33 ?_
      refine v_icmp_ge (tgt := 51) dX2_begin_34 (by decide) ⟨by omega, by omega⟩ ⟨by omega, by omega⟩ (fun h34 => ?_) (fun h34 => ?_)
      · skip
        refine v_iconst dX2_begin_51 ?_
        refine v_istore dX2_begin_52 (Nat.le_of_ble_eq_true rfl) ?_
        exact v_to (loop2 20 0 (by omega) (by omega)) rfl (sw_h1 rfl (sw_h1 rfl sw_h0))
      · skip
        exfalso; omega
    | succ n ih =>
      intro k h0 hk
      have e1 := fl_s Gd 0 h0
      refine v_iload dX2_begin_31 rfl ?_
      refine v_iconst dX2_begin_33 ?_
      refine v_icmp_ge (tgt := 51) dX2_begin_34 (by decide) ⟨by omega, by omega⟩ ⟨by omega, by omega⟩ (fun h34 => ?_) (fun h34 => ?_)
      · skip
        exfalso; omega
      · skip
        refine v_aload_n dX2_begin_37 rfl ?_
        refine v_getf 0 1 fl_X2_15 hn rfl rfl dX2_begin_38 ?_
        refine v_iload dX2_begin_41 rfl ?_
        refine v_iconst dX2_begin_43 ?_
        refine v_iast 2 hn rfl (Nat.le_of_ble_eq_true rfl) (by omega) (by omega) dX2_begin_44 ?_
        refine v_iinc dX2_begin_45 rfl (Nat.le_of_ble_eq_true rfl) ?_
        refine v_goto (tgt := 31) dX2_begin_48 (by decide) ?_
        exact v_to (ih (k + 1) (by omega) (by omega)) (by rw [e1]; rfl) (sw_h1 rfl (sw_h1 rfl sw_h0))
  refine v_aload_n dX2_begin_0 rfl ?_
  refine v_aload_n dX2_begin_1 rfl ?_
  refine v_putf 0 3 fp_X2_24 hn rfl rfl rfl (Nat.le_of_ble_eq_true rfl) dX2_begin_2 ?_
  refine v_aload_n dX2_begin_5 rfl ?_
  refine v_lload_n dX2_begin_6 rfl ?_
  refine v_putf 0 4 fp_X2_28 hn rfl rfl rfl (Nat.le_of_ble_eq_true rfl) dX2_begin_7 ?_
  refine v_aload_n dX2_begin_10 rfl ?_
  refine v_aload_n dX2_begin_11 rfl ?_
  refine v_getf 4 6 fl_X2_42 hn rfl rfl dX2_begin_12 ?_
  refine v_putf 0 5 fp_X2_32 hn rfl rfl rfl (Nat.le_of_ble_eq_true rfl) dX2_begin_15 ?_
  refine v_aload_n dX2_begin_18 rfl ?_
  refine v_iconst dX2_begin_19 ?_
  refine v_putf 0 6 fp_X2_36 hn rfl rfl rfl (Nat.le_of_ble_eq_true rfl) dX2_begin_20 ?_
  refine v_aload_n dX2_begin_23 rfl ?_
  refine v_iconst dX2_begin_24 ?_
  refine v_putf 0 7 fp_X2_39 hn rfl rfl rfl (Nat.le_of_ble_eq_true rfl) dX2_begin_25 ?_
  refine v_iconst dX2_begin_28 ?_
  refine v_istore dX2_begin_29 (Nat.le_of_ble_eq_true rfl) ?_
  exact v_to (loop 4 0 (by omega) (by omega)) rfl (sw_h1 rfl (sw_h1 rfl sw_h0))
end

