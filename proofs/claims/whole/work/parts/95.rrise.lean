/-! the reference: bids in the open rise -/
theorem in_0 {m : Nat} (hm : m ≤ 4) : inB (2 ^ m - 1) m z0 := by
  have h5 : m = 0 ∨ m = 1 ∨ m = 2 ∨ m = 3 ∨ m = 4 := by omega
  rcases h5 with rfl | rfl | rfl | rfl | rfl <;> refine ⟨by decide, fun o ho => ?_⟩ <;> (have h4 : o = 0 ∨ o = 1 ∨ o = 2 ∨ o = 3 := by omega) <;> rcases h4 with rfl | rfl | rfl | rfl <;> simp [z0]
theorem shl_at {m : Nat} (hm : m ≤ 4) : iN 1 <<< (iN (m : Int) &&& 31) = iN ((2 ^ m : Nat) : Int) := by
  have h5 : m = 0 ∨ m = 1 ∨ m = 2 ∨ m = 3 ∨ m = 4 := by omega
  rcases h5 with rfl | rfl | rfl | rfl | rfl <;> decide +kernel
section
variable {l : Launch} {G : sw_G} {M : sw_M} {s : CSt} {k : Int} {x : Nat → Int} {a : Nat → Int → Int}
theorem K10_rise {σ : SaleT} {m : Nat} {Ld : Int → Int} (hM : RS G M x a) (h14 : x 14 = (qN s : Int)) (hk : isS s k) (hns : qN s ≤ 8) (hr : rowR a k σ) (hw : wfS σ) (hm : (m : Int) = sNb σ) (h42 : ∀ j, 0 ≤ j → j < 4 → a 42 j = Ld j) (hL4 : ∀ j, 0 ≤ j → j < 4 → 0 ≤ Ld j ∧ Ld j ≤ 4) (hlf : lfP σ Ld) : Kt l G μX10_rise [.ref (sw_al G 70), sw_i k] M (fun r M' => ∃ x' a', r = some (sw_i 1) ∧ RS G M' x' a' ∧ frR M M' ∧ xfr [16, 17, 21, 45, 46, 47] x x' ∧ afr [15, 43, 44] a a' ∧ x' 45 = (m : Int) - 1 ∧ x' 46 = opW σ Ld ∧ x' 47 = opP σ Ld ∧ ∀ i, 0 ≤ i → i < (m : Int) - 1 → a' 43 i = opL σ Ld i ∧ a' 44 i = opA σ Ld i) := by
  refine KtA.of (by decide +kernel) (Nat.le_of_ble_eq_true rfl) ?_
  have hF : frR M M := frR.rf
  have hsg := hw.1
  have hnb := hw.2.2.1
  have hle := hw.2.2.2.1
  obtain ⟨hk0, hk1⟩ := id hk
  have hmN : (sNb σ).toNat = m := by omega
  have hm14 : 1 ≤ m ∧ m ≤ 4 := by omega
  have hLd : ∀ j : Nat, j < m → 0 ≤ Ld j ∧ Ld j < sSg σ := fun j hj => ⟨(hL4 j (by omega) (by omega)).1, hlf j (by omega)⟩
  obtain ⟨Zq, hZ⟩ : ∃ Zq : Option Value → sw_M → Prop, Zq = (fun r M' => ∃ x' a', r = some (sw_i 1) ∧ RS G M' x' a' ∧ frR M M' ∧ xfr [16, 17, 21, 45, 46, 47] x x' ∧ afr [15, 43, 44] a a' ∧ x' 45 = (m : Int) - 1 ∧ x' 46 = opW σ Ld ∧ x' 47 = opP σ Ld ∧ ∀ i, 0 ≤ i → i < (m : Int) - 1 → a' 43 i = opL σ Ld i ∧ a' 44 i = opA σ Ld i) := ⟨_, rfl⟩
  rw [← hZ]
  have outer : ∀ (c n N : Nat) (ρ : riT) (x1 : Nat → Int) (a1 : Nat → Int → Int) (M1 : sw_M), n + c = m - 1 → olC σ Ld n = ρ → inB N m ρ.2.2.1 → RS G M1 x1 a1 → frR M M1 → xfr [16, 17, 21, 45, 46, 47] x x1 → afr [15, 43, 44] a a1 → x1 21 = (m : Int) → x1 45 = (n : Int) → x1 47 = ρ.2.1 → (∀ i, 0 ≤ i → i < (n : Int) → a1 43 i = ρ.2.2.2.1 i ∧ a1 44 i = ρ.2.2.2.2 i) → V l G μX10_rise sw_E0 (sw_Zq G μX10_rise (sw_q0 G Zq)) 77 [(0, .ref (sw_al G 70)), (1, sw_i k), (2, sw_i (N : Int))] [] M1 0 0 := by
    intro c
    induction c with
    | zero =>
      intro n N ρ x1 a1 M1 hn hρ hN hM hF hx ha h21 h45 h47 hA
      have e : n = m - 1 := by omega
      have at0 := olN_at hw (Ld := Ld) (ρ := (0, sLe σ, z0, z0, z0)) rfl (fun _ _ _ => rfl) n (by omega)
      rw [show olN σ Ld (0, sLe σ, z0, z0, z0) n = ρ from hρ, hmN] at at0
      have hct : ct0 ρ.2.2.1 m = 1 := by omega
      have hbc : bc4 N = 1 := by rw [in_ct hm14.2 hN, hct]
      have hwn := in_wn hm14.2 hN hct
      have hρ' : olC σ Ld (sNb σ - 1).toNat = ρ := by rw [show (sNb σ - 1).toNat = n by omega]; exact hρ
      refine v_iload_n dX10_rise_77 rfl ?_
      refine v_callS (J6_bc hN.1) ⟨rfl, rfl⟩ (Nat.le_refl _) (Nat.le_refl _) ⟨ml_X10_319, mm_J6_bitCount_0f7a4⟩ ⟨(Nat.le_of_ble_eq_true rfl), (Nat.le_of_ble_eq_true rfl)⟩ mp_J6_bitCount_0f7a4 rfl rfl (Nat.le_of_ble_eq_true rfl) dX10_rise_78 (fun r M' h => ?_)
      obtain ⟨rfl, rfl⟩ := h
      refine v_iconst dX10_rise_81 ?_
      refine v_icmp_le (tgt := 206) dX10_rise_82 (by decide) ⟨by omega, by omega⟩ ⟨by omega, by omega⟩ (fun h82 => ?_) (fun h82 => ?_)
      · skip
        refine v_aload_n dX10_rise_206 rfl ?_
        refine v_iload_n dX10_rise_207 rfl ?_
        refine v_callS (J6_tz hN.1) ⟨rfl, rfl⟩ (Nat.le_refl _) (Nat.le_refl _) ⟨ml_X10_327, mm_J6_numberOfTrailingZeros_0f7a4⟩ ⟨(Nat.le_of_ble_eq_true rfl), (Nat.le_of_ble_eq_true rfl)⟩ mp_J6_numberOfTrailingZeros_0f7a4 rfl rfl (Nat.le_of_ble_eq_true rfl) dX10_rise_208 (fun r M' h => ?_)
        obtain ⟨rfl, rfl⟩ := h
        refine v_rp 46 hM hF (flS_46 G _ _) fp_X10_330 rfl rfl (Nat.le_of_ble_eq_true rfl) dX10_rise_211 (fun M hM hF => ?_)
        refine v_iconst dX10_rise_214 ?_
        refine v_zret rfl dX10_rise_215 rfl (Nat.le_refl _) (Nat.le_refl _) ?_
        skip
        rw [hZ]
        refine ⟨_, a1, rfl, hM, hF, hx.up (k := 46) (by decide), ha, (upn_o (by decide)).trans (h45.trans (by omega)), upn_s.trans ?_, (upn_o (by decide)).trans (h47.trans ?_), fun i i0 i1 => ?_⟩
        · unfold opW; rw [hρ', hmN]; exact hwn
        · unfold opP; rw [hρ']
        · unfold opL opA; rw [hρ']; exact hA i i0 (by omega)
      · skip
        exfalso; omega
    | succ c ih =>
      intro n N ρ x1 a1 M1 hn hρ hN hM hF hx ha h21 h45 h47 hA
      have at0 := olN_at hw (Ld := Ld) (ρ := (0, sLe σ, z0, z0, z0)) rfl (fun _ _ _ => rfl) n (by omega)
      rw [show olN σ Ld (0, sLe σ, z0, z0, z0) n = ρ from hρ, hmN] at at0
      have hbc : bc4 N = (m : Int) - n := by rw [in_ct hm14.2 hN]; omega
      have hN16 := hN.1
      have hpr : 0 ≤ ρ.2.1 ∧ ρ.2.1 ≤ 60 := by
        have hall : ∀ z : Nat, riOK (olN σ Ld (0, sLe σ, z0, z0, z0) z) := by
          intro z
          induction z with
          | zero => exact ⟨⟨Int.le_refl 0, by show (0 : Int) ≤ 4; omega⟩, hle, fun i => Or.inl rfl⟩
          | succ z ih => exact ol_ok hw Ld ih
        have := (hall n).2.1
        rw [show olN σ Ld (0, sLe σ, z0, z0, z0) n = ρ from hρ] at this
        exact this
      have hne : (wfl σ ρ.2.2.1 Ld m).1 ≠ -1 := fun h => by have := wfl_none _ h; omega
      have hwi := wfl_in (σ := σ) (Gn := ρ.2.2.1) (Ld := Ld) m hne
      have hwb := wfl_bd hw ρ.2.2.1 Ld
      have hol : olC σ Ld (n + 1) = (ρ.1 + 1, if ρ.2.1 < (wfl σ ρ.2.2.1 Ld m).2 then (wfl σ ρ.2.2.1 Ld m).2 else ρ.2.1, up ρ.2.2.1 (wfl σ ρ.2.2.1 Ld m).1 1, up ρ.2.2.2.1 ρ.1 (wfl σ ρ.2.2.1 Ld m).1, up ρ.2.2.2.2 ρ.1 (if ρ.2.1 < (wfl σ ρ.2.2.1 Ld m).2 then (wfl σ ρ.2.2.1 Ld m).2 else ρ.2.1)) := by
        show ol σ Ld (olC σ Ld n) = _
        rw [hρ]
        unfold ol
        rw [hmN, if_neg (fun h => h.elim hne (fun h => by omega))]
      obtain ⟨b, hb⟩ : ∃ b : Nat, (wfl σ ρ.2.2.1 Ld m).1 = (b : Int) := ⟨(wfl σ ρ.2.2.1 Ld m).1.toNat, by omega⟩
      have hwm := hwb m
      have inner : ∀ (c2 i : Nat) (x2 : Nat → Int) (a2 : Nat → Int → Int) (M2 : sw_M), i + c2 = m → RS G M2 x2 a2 → frR M M2 → xfr [16, 17] x1 x2 → afr [15] a1 a2 → V l G μX10_rise sw_E0 (sw_Zq G μX10_rise (sw_q0 G Zq)) 93 [(0, .ref (sw_al G 70)), (1, sw_i k), (2, sw_i (N : Int)), (3, sw_i (wfl σ ρ.2.2.1 Ld i).1), (4, sw_i (wfl σ ρ.2.2.1 Ld i).2), (5, sw_i (i : Int))] [] M2 0 0 := by
        intro c2
        induction c2 with
        | zero =>
          intro i x2 a2 M2 hi hM hF hx2 ha2
          have e : i = m := by omega
          subst e
          have g21 : x2 21 = (i : Int) := (hx2 21 (by decide)).trans h21
          have g45 : x2 45 = (n : Int) := (hx2 45 (by decide)).trans h45
          have g47 : x2 47 = ρ.2.1 := (hx2 47 (by decide)).trans h47
          rw [hb] at hwi hol ⊢
          have hbit := (hN.2 b (by omega)).mpr ⟨by omega, hwi.2.2⟩
          refine v_iload dX10_rise_93 rfl ?_
          refine v_aload_n dX10_rise_95 rfl ?_
          refine v_rgi 21 hM g21 fl_X10_176 rfl dX10_rise_96 ?_
          refine v_icmp_ge (tgt := 149) dX10_rise_99 (by decide) ⟨by omega, by omega⟩ ⟨by omega, by omega⟩ (fun h99 => ?_) (fun h99 => ?_)
          · skip
            refine v_aload_n dX10_rise_149 rfl ?_
            refine v_aload_n dX10_rise_150 rfl ?_
            refine v_rgi 47 hM g47 fl_X10_316 rfl dX10_rise_151 ?_
            refine v_iload dX10_rise_154 rfl ?_
            refine v_max ⟨by omega, by omega⟩ ⟨by omega, by omega⟩ ql_X10_208 ⟨Nat.le_of_ble_eq_true rfl, Nat.le_of_ble_eq_true rfl⟩ (Nat.le_refl _) (Nat.le_refl _) dX10_rise_156 ?_
            refine v_rp 47 hM hF (flS_47 G _ _) fp_X10_316 rfl rfl (Nat.le_of_ble_eq_true rfl) dX10_rise_159 (fun M hM hF => ?_)
            refine v_aload_n dX10_rise_162 rfl ?_
            refine v_getfH 43 hM.1 fl_X10_64 rfl dX10_rise_163 ?_
            refine v_aload_n dX10_rise_166 rfl ?_
            refine v_rgi 45 hM ((upn_o (by decide)).trans g45) fl_X10_313 rfl dX10_rise_167 ?_
            refine v_iload_n dX10_rise_170 rfl ?_
            refine v_ris hM hF ar_43 (by omega) (by omega) dX10_rise_171 (fun M hM hF => ?_)
            refine v_aload_n dX10_rise_172 rfl ?_
            refine v_getfH 44 hM.1 fl_X10_67 rfl dX10_rise_173 ?_
            refine v_aload_n dX10_rise_176 rfl ?_
            refine v_rgi 45 hM ((upn_o (by decide)).trans g45) fl_X10_313 rfl dX10_rise_177 ?_
            refine v_aload_n dX10_rise_180 rfl ?_
            refine v_rgi 47 hM upn_s fl_X10_316 rfl dX10_rise_181 ?_
            refine v_ris hM hF ar_44 (by omega) (by omega) dX10_rise_184 (fun M hM hF => ?_)
            refine v_aload_n dX10_rise_185 rfl ?_
            refine v_dup dX10_rise_186 rfl ?_
            refine v_rgi 45 hM ((upn_o (by decide)).trans g45) fl_X10_313 rfl dX10_rise_187 ?_
            refine v_iconst dX10_rise_190 ?_
            refine v_iadd dX10_rise_191 ?_
            refine v_rp 45 hM hF (flS_45 G _ _) fp_X10_313 rfl rfl (Nat.le_of_ble_eq_true rfl) dX10_rise_192 (fun M hM hF => ?_)
            refine v_iload_n dX10_rise_195 rfl ?_
            refine v_iconst dX10_rise_196 ?_
            refine v_iload_n dX10_rise_197 rfl ?_
            refine v_ishl (z := _) dX10_rise_198 (sw_ofI _) ?_
            refine v_iconst dX10_rise_199 ?_
            refine v_ixor (z := _) dX10_rise_200 (sw_ofI _) ?_
            refine v_iand (z := ((N - 2 ^ b : Nat) : Int)) dX10_rise_201 (rm_val hN16 (by omega) hbit) ?_
            refine v_istore_n dX10_rise_202 (Nat.le_of_ble_eq_true rfl) ?_
            refine v_goto (tgt := 77) dX10_rise_203 (by decide) ?_
            refine v_to (ih (n + 1) (N - 2 ^ b) _ _ _ _ (by omega) hol (in_rm hN (by omega) hm14.2 hwi.2.2) hM hF (((hx.tr hx2 (fun t h => h) (by decide)).up (k := 47) (by decide)).up (k := 45) (by decide)) (((ha.tr ha2 (fun t h => h) (by decide)).up (k := 43) (by decide)).up (k := 44) (by decide)) ((upn_o (by decide)).trans ((upn_o (by decide)).trans g21)) upn_s ((upn_o (by decide)).trans upn_s) (fun j j0 j1 => ?_)) rfl (sw_h1 rfl (sw_h1 rfl (sw_h1 rfl sw_h0)))
            show up (a2 43) (n : Int) (b : Int) j = (if j = ρ.1 then (b : Int) else ρ.2.2.2.1 j) ∧ up (a2 44) (n : Int) _ j = (if j = ρ.1 then _ else ρ.2.2.2.2 j)
            rw [at0.1]
            by_cases e : j = (n : Int)
            · rw [e, up_eq, up_eq, if_pos rfl, if_pos rfl]; exact ⟨rfl, rfl⟩
            · rw [up_ne e, up_ne e, if_neg e, if_neg e, ha2 43 (by decide), ha2 44 (by decide)]
              exact hA j j0 (by omega)
          · skip
            exfalso; omega
        | succ c2 ih2 =>
          intro i x2 a2 M2 hi hM hF hx2 ha2
          have g21 : x2 21 = (m : Int) := (hx2 21 (by decide)).trans h21
          have hbi := hN.2 i (by omega)
          have hb2 : N / 2 ^ i % 2 < 2 := Nat.mod_lt _ (by omega)
          have hwI := hwb i
          have hlb : 0 ≤ lmt σ ρ.2.2.1 Ld i ∧ lmt σ ρ.2.2.1 Ld i ≤ 60 := hld_bd hw _ _ _ _
          have hst : wfl σ ρ.2.2.1 Ld (i + 1) = if ρ.2.2.1 i = 0 then (if (wfl σ ρ.2.2.1 Ld i).1 = -1 ∨ lmt σ ρ.2.2.1 Ld i < (wfl σ ρ.2.2.1 Ld i).2 then ((i : Int), lmt σ ρ.2.2.1 Ld i) else wfl σ ρ.2.2.1 Ld i) else wfl σ ρ.2.2.1 Ld i := rfl
          have nxt : ∀ (u v : Int) (x3 : Nat → Int) (a3 : Nat → Int → Int) (M3 : sw_M), (u, v) = wfl σ ρ.2.2.1 Ld (i + 1) → RS G M3 x3 a3 → frR M M3 → xfr [16, 17] x1 x3 → afr [15] a1 a3 → V l G μX10_rise sw_E0 (sw_Zq G μX10_rise (sw_q0 G Zq)) 93 [(0, .ref (sw_al G 70)), (1, sw_i k), (2, sw_i (N : Int)), (3, sw_i u), (4, sw_i v), (5, sw_i ((i : Int) + 1))] [] M3 0 0 := fun u v x3 a3 M3 e1 q1 q2 q3 q4 => by
            have h := ih2 (i + 1) x3 a3 M3 (by omega) q1 q2 q3 q4
            rw [← e1] at h
            exact v_to h rfl (sw_h1 rfl (sw_h1 rfl (sw_h1 rfl (sw_h1 rfl (sw_h1 rfl (sw_h1 rfl sw_h0))))))
          generalize wfl σ ρ.2.2.1 Ld i = w at *
          obtain ⟨w1, w2⟩ := w
          dsimp only at hst hwI
          refine v_iload dX10_rise_93 rfl ?_
          refine v_aload_n dX10_rise_95 rfl ?_
          refine v_rgi 21 hM g21 fl_X10_176 rfl dX10_rise_96 ?_
          refine v_icmp_ge (tgt := 149) dX10_rise_99 (by decide) ⟨by omega, by omega⟩ ⟨by omega, by omega⟩ (fun h99 => ?_) (fun h99 => ?_)
          · skip
            exfalso; omega
          · skip
            refine v_iload_n dX10_rise_102 rfl ?_
            refine v_iload dX10_rise_103 rfl ?_
            refine v_ishr (z := _) dX10_rise_105 (sw_ofI _) ?_
            refine v_iconst dX10_rise_106 ?_
            refine v_iand (z := ((N / 2 ^ i % 2 : Nat) : Int)) dX10_rise_107 (bit_at hN16 (by omega)) ?_
            refine v_if_ne (tgt := 114) dX10_rise_108 (by decide) ⟨by omega, by omega⟩ (fun q => ?_) (fun q => ?_)
            · skip
              have hg0 : ρ.2.2.1 i = 0 := (hbi.mp (by omega)).2
              rw [if_pos hg0] at hst
              refine v_aload_n dX10_rise_114 rfl ?_
              refine v_iload_n dX10_rise_115 rfl ?_
              refine v_iload dX10_rise_116 rfl ?_
              refine v_iload_n dX10_rise_118 rfl ?_
              refine v_callV (ci := 10) (K10_heldOf hM ((hr.fr ha (by decide)).fr ha2 (by decide)) ⟨hk0, by omega⟩ hw hm g21 (fun j j0 j1 => by rw [ha2 42 (by decide), ha 42 (by decide)]; exact h42 j j0 j1) hLd (show i < m by omega) hN) ⟨rfl, rfl⟩ (Nat.le_refl _) (Nat.le_refl _) hM.1 rfl ⟨ml_X10_324, mm_X10_heldOf⟩ ⟨(Nat.le_of_ble_eq_true rfl), (Nat.le_of_ble_eq_true rfl)⟩ mp_X10_heldOf rfl rfl (Nat.le_of_ble_eq_true rfl) dX10_rise_119 (fun r M' h => ?_)
              obtain ⟨x3, a3, rfl, hM3, hF3, hx3, ha3⟩ := h
              replace hM := hM3
              replace hF := hF.tr hF3
              have hx4 := hx2.tr hx3 (fun t h => h) (fun t h => h)
              have ha4 := ha2.tr ha3 (fun t h => h) (fun t h => h)
              refine v_istore dX10_rise_122 (Nat.le_of_ble_eq_true rfl) ?_
              refine v_iload_n dX10_rise_124 rfl ?_
              refine v_iconst dX10_rise_125 ?_
              refine v_icmp_eq (tgt := 136) dX10_rise_126 (by decide) ⟨by omega, by omega⟩ ⟨by omega, by omega⟩ (fun h126 => ?_) (fun h126 => ?_)
              · skip
                refine v_iload dX10_rise_136 rfl ?_
                refine v_istore_n dX10_rise_138 (Nat.le_of_ble_eq_true rfl) ?_
                refine v_iload dX10_rise_139 rfl ?_
                refine v_istore dX10_rise_141 (Nat.le_of_ble_eq_true rfl) ?_
                refine v_iinc dX10_rise_143 rfl (Nat.le_of_ble_eq_true rfl) ?_
                refine v_goto (tgt := 93) dX10_rise_146 (by decide) ?_
                exact v_to (nxt _ _ x3 a3 _ (by rw [hst, if_pos (by omega)]) hM hF hx4 ha4) rfl (sw_h1 rfl (sw_h1 rfl (sw_h1 rfl (sw_h1 rfl (sw_h1 rfl (sw_h1 rfl sw_h0))))))
              · skip
                refine v_iload dX10_rise_129 rfl ?_
                refine v_iload dX10_rise_131 rfl ?_
                refine v_icmp_ge (tgt := 143) dX10_rise_133 (by decide) ⟨by omega, by omega⟩ ⟨by omega, by omega⟩ (fun h133 => ?_) (fun h133 => ?_)
                · skip
                  refine v_iinc dX10_rise_143 rfl (Nat.le_of_ble_eq_true rfl) ?_
                  refine v_goto (tgt := 93) dX10_rise_146 (by decide) ?_
                  exact v_to (nxt w1 w2 x3 a3 _ (by rw [hst, if_neg (by omega)]) hM hF hx4 ha4) rfl (sw_h1 rfl (sw_h1 rfl (sw_h1 rfl (sw_h1 rfl (sw_h1 rfl (sw_h1 rfl sw_h0))))))
                · skip
                  refine v_iload dX10_rise_136 rfl ?_
                  refine v_istore_n dX10_rise_138 (Nat.le_of_ble_eq_true rfl) ?_
                  refine v_iload dX10_rise_139 rfl ?_
                  refine v_istore dX10_rise_141 (Nat.le_of_ble_eq_true rfl) ?_
                  refine v_iinc dX10_rise_143 rfl (Nat.le_of_ble_eq_true rfl) ?_
                  refine v_goto (tgt := 93) dX10_rise_146 (by decide) ?_
                  exact v_to (nxt _ _ x3 a3 _ (by rw [hst, if_pos (by omega)]) hM hF hx4 ha4) rfl (sw_h1 rfl (sw_h1 rfl (sw_h1 rfl (sw_h1 rfl (sw_h1 rfl (sw_h1 rfl sw_h0))))))
            · skip
              refine v_goto (tgt := 143) dX10_rise_111 (by decide) ?_
              refine v_iinc dX10_rise_143 rfl (Nat.le_of_ble_eq_true rfl) ?_
              refine v_goto (tgt := 93) dX10_rise_146 (by decide) ?_
              exact v_to (nxt w1 w2 x2 a2 _ (by rw [hst, if_neg (fun h => by have := hbi.mpr ⟨by omega, h⟩; omega)]) hM hF hx2 ha2) rfl (sw_h1 rfl (sw_h1 rfl (sw_h1 rfl (sw_h1 rfl (sw_h1 rfl (sw_h1 rfl sw_h0))))))
      refine v_iload_n dX10_rise_77 rfl ?_
      refine v_callS (J6_bc hN.1) ⟨rfl, rfl⟩ (Nat.le_refl _) (Nat.le_refl _) ⟨ml_X10_319, mm_J6_bitCount_0f7a4⟩ ⟨(Nat.le_of_ble_eq_true rfl), (Nat.le_of_ble_eq_true rfl)⟩ mp_J6_bitCount_0f7a4 rfl rfl (Nat.le_of_ble_eq_true rfl) dX10_rise_78 (fun r M' h => ?_)
      obtain ⟨rfl, rfl⟩ := h
      refine v_iconst dX10_rise_81 ?_
      refine v_icmp_le (tgt := 206) dX10_rise_82 (by decide) ⟨by omega, by omega⟩ ⟨by omega, by omega⟩ (fun h82 => ?_) (fun h82 => ?_)
      · skip
        exfalso; omega
      · skip
        refine v_iconst dX10_rise_85 ?_
        refine v_istore_n dX10_rise_86 (Nat.le_of_ble_eq_true rfl) ?_
        refine v_iconst dX10_rise_87 ?_
        refine v_istore dX10_rise_88 (Nat.le_of_ble_eq_true rfl) ?_
        refine v_iconst dX10_rise_90 ?_
        refine v_istore dX10_rise_91 (Nat.le_of_ble_eq_true rfl) ?_
        exact v_to (inner m 0 x1 a1 _ (by omega) hM hF xfr.rf afr.rf) rfl (sw_h1 rfl (sw_h1 rfl (sw_h1 rfl (sw_h1 rfl (sw_h1 rfl (sw_h1 rfl sw_h0))))))
  have laid : ∀ (c i : Nat) (M1 : sw_M), i + c = m → RS G M1 (upn x 21 (m : Int)) a → frR M M1 → V l G μX10_rise sw_E0 (sw_Zq G μX10_rise (sw_q0 G Zq)) 22 [(0, .ref (sw_al G 70)), (1, sw_i k), (2, sw_i (i : Int))] [] M1 0 0 := by
    intro c
    induction c with
    | zero =>
      intro i M1 hi hM hF
      have e : i = m := by omega
      subst e
      have g11 : a 11 k = sLe σ := hr.2.2.2.1
      refine v_iload_n dX10_rise_22 rfl ?_
      refine v_aload_n dX10_rise_23 rfl ?_
      refine v_rgi 21 hM upn_s fl_X10_176 rfl dX10_rise_24 ?_
      refine v_icmp_ge (tgt := 53) dX10_rise_27 (by decide) ⟨by omega, by omega⟩ ⟨by omega, by omega⟩ (fun h27 => ?_) (fun h27 => ?_)
      · skip
        refine v_aload_n dX10_rise_53 rfl ?_
        refine v_iconst dX10_rise_54 ?_
        refine v_rp 45 hM hF (flS_45 G _ _) fp_X10_313 rfl rfl (Nat.le_of_ble_eq_true rfl) dX10_rise_55 (fun M hM hF => ?_)
        refine v_aload_n dX10_rise_58 rfl ?_
        refine v_aload_n dX10_rise_59 rfl ?_
        refine v_getfH 11 hM.1 fl_X10_31 rfl dX10_rise_60 ?_
        refine v_iload_n dX10_rise_63 rfl ?_
        refine v_ria hM ar_11 (by omega) (by omega) g11 dX10_rise_64 ?_
        refine v_rp 47 hM hF (flS_47 G _ _) fp_X10_316 rfl rfl (Nat.le_of_ble_eq_true rfl) dX10_rise_65 (fun M hM hF => ?_)
        refine v_iconst dX10_rise_68 ?_
        refine v_aload_n dX10_rise_69 rfl ?_
        refine v_rgi 21 hM ((upn_o (by decide)).trans ((upn_o (by decide)).trans upn_s)) fl_X10_176 rfl dX10_rise_70 ?_
        refine v_ishl (z := ((2 ^ i : Nat) : Int)) dX10_rise_73 (shl_at hm14.2) ?_
        refine v_iconst dX10_rise_74 ?_
        refine v_isub dX10_rise_75 ?_
        rw [show ((2 ^ i : Nat) : Int) - 1 = ((2 ^ i - 1 : Nat) : Int) by have : 1 ≤ 2 ^ i := Nat.one_le_two_pow; omega]
        refine v_istore_n dX10_rise_76 (Nat.le_of_ble_eq_true rfl) ?_
        exact v_to (outer (i - 1) 0 (2 ^ i - 1) _ _ a _ (by omega) rfl (in_0 hm14.2) hM hF (((xfr.rf.up (k := 21) (by decide)).up (k := 45) (by decide)).up (k := 47) (by decide)) afr.rf ((upn_o (by decide)).trans ((upn_o (by decide)).trans upn_s)) ((upn_o (by decide)).trans upn_s) upn_s (fun j j0 j1 => by omega)) rfl (sw_h1 rfl (sw_h1 rfl (sw_h1 rfl sw_h0)))
      · skip
        exfalso; omega
    | succ c ih =>
      intro i M1 hi hM hF
      have hl := hLd i (by omega)
      refine v_iload_n dX10_rise_22 rfl ?_
      refine v_aload_n dX10_rise_23 rfl ?_
      refine v_rgi 21 hM upn_s fl_X10_176 rfl dX10_rise_24 ?_
      refine v_icmp_ge (tgt := 53) dX10_rise_27 (by decide) ⟨by omega, by omega⟩ ⟨by omega, by omega⟩ (fun h27 => ?_) (fun h27 => ?_)
      · skip
        exfalso; omega
      · skip
        refine v_aload_n dX10_rise_30 rfl ?_
        refine v_getfH 42 hM.1 fl_X10_61 rfl dX10_rise_31 ?_
        refine v_iload_n dX10_rise_34 rfl ?_
        refine v_ria hM ar_42 (by omega) (by omega) (h42 i (by omega) (by omega)) dX10_rise_35 ?_
        refine v_aload_n dX10_rise_36 rfl ?_
        refine v_getfH 5 hM.1 fl_X10_13 rfl dX10_rise_37 ?_
        refine v_iload_n dX10_rise_40 rfl ?_
        refine v_ria hM ar_5 (by omega) (by omega) hr.1 dX10_rise_41 ?_
        refine v_icmp_lt (tgt := 47) dX10_rise_42 (by decide) ⟨by omega, by omega⟩ ⟨by omega, by omega⟩ (fun h42 => ?_) (fun h42 => ?_)
        · skip
          refine v_iinc dX10_rise_47 rfl (Nat.le_of_ble_eq_true rfl) ?_
          refine v_goto (tgt := 22) dX10_rise_50 (by decide) ?_
          exact v_to (ih (i + 1) _ (by omega) hM hF) rfl (sw_h1 rfl (sw_h1 rfl (sw_h1 rfl sw_h0)))
        · skip
          exfalso; omega
  have g10 : a 10 k = (m : Int) := by rw [hr.2.2.1, hm]
  refine v_aload_n dX10_rise_0 rfl ?_
  refine v_iload_n dX10_rise_1 rfl ?_
  refine v_callV (ci := 10) (K10_isSale hM h14 ⟨by omega, by omega⟩ ⟨by omega, by omega⟩) ⟨rfl, rfl⟩ (Nat.le_refl _) (Nat.le_refl _) hM.1 rfl ⟨ml_X10_129, mm_X10_isSale⟩ ⟨(Nat.le_of_ble_eq_true rfl), (Nat.le_of_ble_eq_true rfl)⟩ mp_X10_isSale rfl rfl (Nat.le_of_ble_eq_true rfl) dX10_rise_2 (fun r M' h => ?_)
  obtain ⟨rfl, rfl⟩ := h
  refine v_ifb_ne (tgt := 10) dX10_rise_5 (by decide) (fun h5 => ?_) (fun h5 => ?_)
  · skip
    refine v_aload_n dX10_rise_10 rfl ?_
    refine v_aload_n dX10_rise_11 rfl ?_
    refine v_getfH 10 hM.1 fl_X10_28 rfl dX10_rise_12 ?_
    refine v_iload_n dX10_rise_15 rfl ?_
    refine v_ria hM ar_10 (by omega) (by omega) g10 dX10_rise_16 ?_
    refine v_rp 21 hM hF (flS_21 G _ _) fp_X10_176 rfl rfl (Nat.le_of_ble_eq_true rfl) dX10_rise_17 (fun M hM hF => ?_)
    refine v_iconst dX10_rise_20 ?_
    refine v_istore_n dX10_rise_21 (Nat.le_of_ble_eq_true rfl) ?_
    exact v_to (laid m 0 _ (by omega) hM hF) rfl (sw_h1 rfl (sw_h1 rfl (sw_h1 rfl sw_h0)))
  · skip
    exact absurd hk (by assumption)
end

