/-! the TAPE's reader: read -/
section
variable {l : Launch} {G : sw_G} {M : sw_M}
theorem K7_read {b : Nat} (hb : 50 ≤ b) {len a0 wr0 : Int} {f : Int → Int} {sg tr nb le wy : Int} {Va Wa Oa St : Int → Int} {u d : Int} (hM : sw_hold M (cTS G b len a0 wr0 f sg tr nb le wy Va Wa Oa St u d)) (hw : wfT f len) : Kt l G μX7_read [.ref (sw_al G 1)] M (fun r M' => ∃ a' w', r = some (sw_i (rdr f len Va Wa Oa St).1) ∧ M' = sw_ov M (cTP G b len a' w' (rdr f len Va Wa Oa St).2 u d)) := by
  refine KtA.of (by decide +kernel) (Nat.le_of_ble_eq_true rfl) ?_
  refine v_mem (sw_ov_self hM).symm ?_
  have hn := cTS_nd hb
  have hM2 := hM.tl.hd
  have hlen := hw.1
  have hlen2 := hw.2.1
  have fin : ∀ (z : Int) (σ : SaleT) (a' w' : Int), rdr f len Va Wa Oa St = (z, σ) → ∃ a' w', some (sw_i z) = some (sw_i (rdr f len Va Wa Oa St).1) ∧ sw_ov M (cTS G b len a' w' f (sSg σ) (sTr σ) (sNb σ) (sLe σ) (sWy σ) (sV σ) (sW σ) (sO σ) (sSt σ) u d) = sw_ov M (cTP G b len a' w' (rdr f len Va Wa Oa St).2 u d) := by
    intro z σ a' w' h
    rw [h]
    exact ⟨a', w', rfl, cTS_back hb hM2⟩
  have fin2 : ∀ (z : Int) (σ : SaleT) (a' w' : Int) (M' : sw_M), rdr f len Va Wa Oa St = (z, σ) → M' = sw_ov M (cTS G b len a' w' f (sSg σ) (sTr σ) (sNb σ) (sLe σ) (sWy σ) (sV σ) (sW σ) (sO σ) (sSt σ) u d) → ∃ a' w', some (sw_i z) = some (sw_i (rdr f len Va Wa Oa St).1) ∧ M' = sw_ov M (cTP G b len a' w' (rdr f len Va Wa Oa St).2 u d) := by
    intro z σ a' w' M' h hm
    subst hm
    rw [h]
    exact ⟨a', w', rfl, cTS_back hb hM2⟩
  have loop : ∀ (m : Nat) (n a wr : Int) (σ : SaleT), 0 ≤ n → n + m = 241 → 0 ≤ a ∧ a ≤ 290 → (wr = -1 → n ≤ a ∧ a ≤ len ∧ 2 ≤ sSg σ ∧ sSg σ ≤ 5) → -1 ≤ wr ∧ wr ≤ 300 → 0 ≤ sTr σ ∧ sTr σ ≤ 8 → rdr f len Va Wa Oa St = rdq f len m a wr σ →
      V l G μX7_read sw_E0 (sw_Zq G μX7_read (sw_q0 G (fun r M' => ∃ a' w', r = some (sw_i (rdr f len Va Wa Oa St).1) ∧ M' = sw_ov M (cTP G b len a' w' (rdr f len Va Wa Oa St).2 u d)))) 60 [(0, .ref (sw_al G 1)), (1, sw_i n)] [] (sw_ov M (cTS G b len a wr f (sSg σ) (sTr σ) (sNb σ) (sLe σ) (sWy σ) (sV σ) (sW σ) (sO σ) (sSt σ) u d)) 0 0 := by
    intro m
    induction m with
    | zero =>
      intro n a wr σ hn0 hnm ha h1 hwr htr hs
      refine v_iload_n dX7_read_60 rfl ?_
      refine v_sipush dX7_read_61 (by decide +kernel) ?_
      refine v_icmp_gt (tgt := 143) dX7_read_64 (by decide) ⟨by omega, by omega⟩ ⟨by omega, by omega⟩ (fun h64 => ?_) (fun h64 => ?_)
      · skip
        refine v_aload_n dX7_read_143 rfl ?_
        refine v_getf 0 4 fl_X7_29 hn rfl rfl dX7_read_144 ?_
        exact v_iret dX7_read_147 rfl (Nat.le_refl _) (Nat.le_refl _) (fin2 _ σ _ _ _ hs rfl)
      · skip
        exfalso; omega
    | succ m ih =>
      intro n a wr σ hn0 hnm ha h1 hwr htr hs
      obtain ⟨a1, ha1⟩ : ∃ a1, sk f len 240 a = a1 := ⟨_, rfl⟩
      have hk := sk_le f len 240 a
      rw [ha1] at hk
      have hlb := lk_bd hw (a := a1) (by omega)
      obtain ⟨c, hc⟩ : ∃ c, lk f len a1 = c := ⟨_, rfl⟩
      rw [hc] at hlb
      refine v_iload_n dX7_read_60 rfl ?_
      refine v_sipush dX7_read_61 (by decide +kernel) ?_
      refine v_icmp_gt (tgt := 143) dX7_read_64 (by decide) ⟨by omega, by omega⟩ ⟨by omega, by omega⟩ (fun h64 => ?_) (fun h64 => ?_)
      · skip
        exfalso; omega
      · skip
        refine v_aload_n dX7_read_67 rfl ?_
        refine v_getf 0 4 fl_X7_29 hn rfl rfl dX7_read_68 ?_
        refine v_iconst dX7_read_71 ?_
        refine v_icmp_ne (tgt := 143) dX7_read_72 (by decide) ⟨by omega, by omega⟩ ⟨by omega, by omega⟩ (fun h72 => ?_) (fun h72 => ?_)
        · skip
          have hs := hs.trans (if_neg (by omega))
          refine v_aload_n dX7_read_143 rfl ?_
          refine v_getf 0 4 fl_X7_29 hn rfl rfl dX7_read_144 ?_
          exact v_iret dX7_read_147 rfl (Nat.le_refl _) (Nat.le_refl _) (fin2 _ σ _ _ _ hs rfl)
        · skip
          have hwr1 : wr = -1 := by omega
          subst hwr1
          have h1 := h1 rfl
          have hs := hs.trans (if_pos rfl)
          rw [ha1, hc] at hs
          refine v_aload_n dX7_read_75 rfl ?_
          refine v_callV (ci := 7) (K7_skip (b := b) (len := len) (a := a) (wr := -1) (f := f) (cTS_h hb).hd (cTS_h hb).tl.hd hw ⟨by omega, by omega⟩) ⟨rfl, rfl⟩ (Nat.le_refl _) (Nat.le_refl _) ((cTS_h hb).hd) rfl ⟨ml_X7_35, mm_X7_skip⟩ ⟨(Nat.le_of_ble_eq_true rfl), (Nat.le_of_ble_eq_true rfl)⟩ mp_X7_skip rfl rfl (Nat.le_of_ble_eq_true rfl) dX7_read_76 (fun r M' h => ?_)
          obtain ⟨rfl, rfl⟩ := h
          rw [ha1]
          refine v_ovp [0] rfl rfl hn ?_
          refine v_aload_n dX7_read_79 rfl ?_
          refine v_getf 0 3 fl_X7_26 hn rfl rfl dX7_read_80 ?_
          refine v_aload_n dX7_read_83 rfl ?_
          refine v_getf 0 1 fl_X7_15 hn rfl rfl dX7_read_84 ?_
          refine v_icmp_lt (tgt := 109) dX7_read_87 (by decide) ⟨by omega, by omega⟩ ⟨by omega, by omega⟩ (fun h87 => ?_) (fun h87 => ?_)
          · skip
            have hs := hs.trans (if_neg (by omega))
            refine v_aload_n dX7_read_109 rfl ?_
            refine v_callV (ci := 7) (K7_look (b := b) (len := len) (a := a1) (wr := -1) (f := f) (cTS_h hb).hd (cTS_h hb).tl.hd hw ⟨by omega, by omega⟩) ⟨rfl, rfl⟩ (Nat.le_refl _) (Nat.le_refl _) ((cTS_h hb).hd) rfl ⟨ml_X7_38, mm_X7_look⟩ ⟨(Nat.le_of_ble_eq_true rfl), (Nat.le_of_ble_eq_true rfl)⟩ mp_X7_look rfl rfl (Nat.le_of_ble_eq_true rfl) dX7_read_110 (fun r M' h => ?_)
            obtain ⟨rfl, rfl⟩ := h
            rw [hc]
            refine v_bipush dX7_read_113 (by decide +kernel) ?_
            refine v_icmp_eq (tgt := 123) dX7_read_115 (by decide) ⟨by omega, by omega⟩ ⟨by omega, by omega⟩ (fun h115 => ?_) (fun h115 => ?_)
            · skip
              have hs := hs.trans (if_pos (by omega))
              have hok := clq_ok (f := f) (len := len) (a := a1 + 1) (σ := σ) (by omega) htr (by omega)
              refine v_aload_n dX7_read_123 rfl ?_
              refine v_dup dX7_read_124 rfl ?_
              refine v_getf 0 3 fl_X7_26 hn rfl rfl dX7_read_125 ?_
              refine v_iconst dX7_read_128 ?_
              refine v_iadd dX7_read_129 ?_
              refine v_putf 0 3 fp_X7_26 hn rfl rfl rfl (Nat.le_of_ble_eq_true rfl) dX7_read_130 ?_
              refine v_aload_n dX7_read_133 rfl ?_
              refine v_callV (ci := 7) (K7_clause hb (len := len) (a := a1 + 1) (f := f) (σ := σ) (u := u) (d := d) (cTS_h hb) hw ⟨by omega, by omega⟩ (by omega) htr) ⟨rfl, rfl⟩ (Nat.le_refl _) (Nat.le_refl _) ((cTS_h hb).hd) rfl ⟨ml_X7_52, mm_X7_clause⟩ ⟨(Nat.le_of_ble_eq_true rfl), (Nat.le_of_ble_eq_true rfl)⟩ mp_X7_clause rfl rfl (Nat.le_of_ble_eq_true rfl) dX7_read_134 (fun r M' h => ?_)
              obtain ⟨rfl, rfl⟩ := h
              refine v_ovp [0, 2, 3, 4, 5, 6] rfl rfl hn ?_
              refine v_iinc dX7_read_137 rfl (Nat.le_of_ble_eq_true rfl) ?_
              refine v_goto (tgt := 60) dX7_read_140 (by decide) ?_
              exact v_to (ih (n + 1) _ _ _ (by omega) (by omega) (by omega) (fun _ => by omega) (by omega) (by omega) hs) rfl (sw_h1 rfl (sw_h1 rfl sw_h0))
            · skip
              have hs := hs.trans (if_neg (by omega))
              refine v_aload_n dX7_read_118 rfl ?_
              refine v_getf 0 3 fl_X7_26 hn rfl rfl dX7_read_119 ?_
              exact v_iret dX7_read_122 rfl (Nat.le_refl _) (Nat.le_refl _) (fin2 _ σ _ _ _ hs rfl)
          · skip
            have hs := hs.trans (if_pos (by omega))
            refine v_aload_n dX7_read_90 rfl ?_
            refine v_getf 0 2 fl_X7_22 hn rfl rfl dX7_read_91 ?_
            refine v_getf 2 5 fl_X7_49 hn rfl rfl dX7_read_94 ?_
            refine v_if_le (tgt := 104) dX7_read_97 (by decide) ⟨by omega, by omega⟩ (fun h97 => ?_) (fun h97 => ?_)
            · skip
              have hs := hs
              rw [if_neg (by omega)] at hs
              refine v_aload_n dX7_read_104 rfl ?_
              refine v_getf 0 3 fl_X7_26 hn rfl rfl dX7_read_105 ?_
              exact v_iret dX7_read_108 rfl (Nat.le_refl _) (Nat.le_refl _) (fin2 _ σ _ _ _ hs rfl)
            · skip
              have hs := hs
              rw [if_pos (by omega)] at hs
              refine v_iconst dX7_read_100 ?_
              refine v_goto (tgt := 108) dX7_read_101 (by decide) ?_
              exact v_iret dX7_read_108 rfl (Nat.le_refl _) (Nat.le_refl _) (fin2 _ σ _ _ _ hs rfl)
  obtain ⟨a1, ha1⟩ : ∃ a1, sk f len 240 0 = a1 := ⟨_, rfl⟩
  have hk := sk_le f len 240 0
  rw [ha1] at hk
  have hlb := lk_bd hw (a := a1) (by omega)
  obtain ⟨c, hc⟩ : ∃ c, lk f len a1 = c := ⟨_, rfl⟩
  rw [hc] at hlb
  have hs : rdr f len Va Wa Oa St = _ := rfl
  have hlt : c ≠ -1 → a1 < len := by
    intro hne
    by_cases q : a1 < len
    · exact q
    · have e2 : lk f len a1 = -1 := if_neg q
      omega
  have hok := nmq_ok (f := f) (len := len) (a := a1 + 1) (lo := 2) (hi := 5)
  refine v_aload_n dX7_read_0 rfl ?_
  refine v_getf 0 2 fl_X7_22 hn rfl rfl dX7_read_1 ?_
  refine v_callV (ci := 5) (K5_clear (cTS_h hb).tl.tl) ⟨rfl, rfl⟩ (Nat.le_refl _) (Nat.le_refl _) ((cTS_h hb).tl.tl.hd) rfl ⟨ml_X7_32, mm_X5_clear⟩ ⟨(Nat.le_of_ble_eq_true rfl), (Nat.le_of_ble_eq_true rfl)⟩ mp_X5_clear rfl rfl (Nat.le_of_ble_eq_true rfl) dX7_read_4 (fun r M' h => ?_)
  obtain ⟨rfl, rfl⟩ := h
  refine v_ovp [2, 3, 4, 5, 6] rfl rfl hn ?_
  refine v_aload_n dX7_read_7 rfl ?_
  refine v_iconst dX7_read_8 ?_
  refine v_putf 0 3 fp_X7_26 hn rfl rfl rfl (Nat.le_of_ble_eq_true rfl) dX7_read_9 ?_
  refine v_aload_n dX7_read_12 rfl ?_
  refine v_iconst dX7_read_13 ?_
  refine v_putf 0 4 fp_X7_29 hn rfl rfl rfl (Nat.le_of_ble_eq_true rfl) dX7_read_14 ?_
  refine v_aload_n dX7_read_17 rfl ?_
  refine v_callV (ci := 7) (K7_skip (b := b) (len := len) (a := 0) (wr := -1) (f := f) (cTS_h (sg := 0) (tr := 0) (nb := 2) (le := 0) (wy := 0) (V := Va) (W := Wa) (O := Oa) (St := fl St (-1) 4) (u := u) (d := d) hb).hd (cTS_h (sg := 0) (tr := 0) (nb := 2) (le := 0) (wy := 0) (V := Va) (W := Wa) (O := Oa) (St := fl St (-1) 4) (u := u) (d := d) hb).tl.hd hw ⟨by omega, by omega⟩) ⟨rfl, rfl⟩ (Nat.le_refl _) (Nat.le_refl _) ((cTS_h (sg := 0) (tr := 0) (nb := 2) (le := 0) (wy := 0) (V := Va) (W := Wa) (O := Oa) (St := fl St (-1) 4) (u := u) (d := d) hb).hd) rfl ⟨ml_X7_35, mm_X7_skip⟩ ⟨(Nat.le_of_ble_eq_true rfl), (Nat.le_of_ble_eq_true rfl)⟩ mp_X7_skip rfl rfl (Nat.le_of_ble_eq_true rfl) dX7_read_18 (fun r M' h => ?_)
  obtain ⟨rfl, rfl⟩ := h
  rw [ha1]
  refine v_ovp [0] rfl rfl hn ?_
  refine v_aload_n dX7_read_21 rfl ?_
  refine v_callV (ci := 7) (K7_look (b := b) (len := len) (a := a1) (wr := -1) (f := f) (cTS_h (sg := 0) (tr := 0) (nb := 2) (le := 0) (wy := 0) (V := Va) (W := Wa) (O := Oa) (St := fl St (-1) 4) (u := u) (d := d) hb).hd (cTS_h (sg := 0) (tr := 0) (nb := 2) (le := 0) (wy := 0) (V := Va) (W := Wa) (O := Oa) (St := fl St (-1) 4) (u := u) (d := d) hb).tl.hd hw ⟨by omega, by omega⟩) ⟨rfl, rfl⟩ (Nat.le_refl _) (Nat.le_refl _) ((cTS_h (sg := 0) (tr := 0) (nb := 2) (le := 0) (wy := 0) (V := Va) (W := Wa) (O := Oa) (St := fl St (-1) 4) (u := u) (d := d) hb).hd) rfl ⟨ml_X7_38, mm_X7_look⟩ ⟨(Nat.le_of_ble_eq_true rfl), (Nat.le_of_ble_eq_true rfl)⟩ mp_X7_look rfl rfl (Nat.le_of_ble_eq_true rfl) dX7_read_22 (fun r M' h => ?_)
  obtain ⟨rfl, rfl⟩ := h
  rw [hc]
  refine v_bipush dX7_read_25 (by decide +kernel) ?_
  refine v_icmp_eq (tgt := 35) dX7_read_27 (by decide) ⟨by omega, by omega⟩ ⟨by omega, by omega⟩ (fun h27 => ?_) (fun h27 => ?_)
  · skip
    refine v_aload_n dX7_read_35 rfl ?_
    refine v_dup dX7_read_36 rfl ?_
    refine v_getf 0 3 fl_X7_26 hn rfl rfl dX7_read_37 ?_
    refine v_iconst dX7_read_40 ?_
    refine v_iadd dX7_read_41 ?_
    refine v_putf 0 3 fp_X7_26 hn rfl rfl rfl (Nat.le_of_ble_eq_true rfl) dX7_read_42 ?_
    refine v_aload_n dX7_read_45 rfl ?_
    refine v_getf 0 2 fl_X7_22 hn rfl rfl dX7_read_46 ?_
    refine v_aload_n dX7_read_49 rfl ?_
    refine v_iconst dX7_read_50 ?_
    refine v_iconst dX7_read_51 ?_
    refine v_callV (ci := 7) (K7_number (b := b) (len := len) (a := a1 + 1) (f := f) (cTS_h (sg := 0) (tr := 0) (nb := 2) (le := 0) (wy := 0) (V := Va) (W := Wa) (O := Oa) (St := fl St (-1) 4) (u := u) (d := d) hb).hd (cTS_h (sg := 0) (tr := 0) (nb := 2) (le := 0) (wy := 0) (V := Va) (W := Wa) (O := Oa) (St := fl St (-1) 4) (u := u) (d := d) hb).tl.hd hw ⟨by omega, by omega⟩ (lo := 2) (hi := 5) ⟨by omega, by omega⟩ ⟨by omega, by omega⟩) ⟨rfl, rfl⟩ (Nat.le_refl _) (Nat.le_refl _) ((cTS_h (sg := 0) (tr := 0) (nb := 2) (le := 0) (wy := 0) (V := Va) (W := Wa) (O := Oa) (St := fl St (-1) 4) (u := u) (d := d) hb).hd) rfl ⟨ml_X7_42, mm_X7_number⟩ ⟨(Nat.le_of_ble_eq_true rfl), (Nat.le_of_ble_eq_true rfl)⟩ mp_X7_number rfl rfl (Nat.le_of_ble_eq_true rfl) dX7_read_52 (fun r M' h => ?_)
    obtain ⟨rfl, rfl⟩ := h
    refine v_ovp [0] rfl rfl hn ?_
    refine v_putf 2 4 fp_X7_46 hn rfl rfl rfl (Nat.le_of_ble_eq_true rfl) dX7_read_55 ?_
    refine v_iconst dX7_read_58 ?_
    refine v_istore_n dX7_read_59 (Nat.le_of_ble_eq_true rfl) ?_
    have hs : rdr f len Va Wa Oa St = rdq f len 241 (nmq f len (a1 + 1) 2 5).2.1 (nmq f len (a1 + 1) 2 5).2.2 ((nmq f len (a1 + 1) 2 5).1, 0, 2, 0, 0, Va, Wa, Oa, fl St (-1) 4) := by
      unfold rdr
      rw [ha1, hc]
      exact if_pos (by omega)
    generalize nmq f len (a1 + 1) 2 5 = r at hok hs ⊢
    exact v_to (loop 241 0 _ _ _ (by omega) (by omega) (by omega) (fun _ => ⟨by omega, by omega, by show 2 ≤ r.1; omega, by show r.1 ≤ 5; omega⟩) (by omega) ⟨Int.le_refl _, by show (0 : Int) ≤ 8; omega⟩ hs) rfl (sw_h1 rfl (sw_h1 rfl sw_h0))
  · skip
    refine v_aload_n dX7_read_30 rfl ?_
    refine v_getf 0 3 fl_X7_26 hn rfl rfl dX7_read_31 ?_
    exact v_iret dX7_read_34 rfl (Nat.le_refl _) (Nat.le_refl _) (fin2 _ (0, 0, 2, 0, 0, Va, Wa, Oa, fl St (-1) 4) _ _ _ (by unfold rdr; rw [ha1, hc]; exact if_neg (by omega)) rfl)
end

