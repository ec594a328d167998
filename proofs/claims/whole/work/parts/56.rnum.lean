/-! the reference's reader: a number -/
theorem dg_val {c : Int} (h : dg c ≠ -1) : c - 48 = dg c := by
  unfold dg at h ⊢
  by_cases q : 48 ≤ c ∧ c ≤ 57
  · rw [if_pos q]
  · rw [if_neg q] at h; exact absurd rfl h
/-- what a number of the reference says, by the class's -/
def numP (f : Int → Int) (len at' wr lo hi v a' w : Int) : Prop := w = (nmx f len at' wr lo hi).2.2 ∧ (w = -1 → v = (nmx f len at' wr lo hi).1 ∧ a' = (nmx f len at' wr lo hi).2.1) ∧ (0 ≤ a' ∧ a' ≤ 600) ∧ (-1000 ≤ v ∧ v ≤ 1000)
section
variable {l : Launch} {G : sw_G} {M : sw_M} {x : Nat → Int} {a : Nat → Int → Int}
theorem K10_number {at' len wr lo hi : Int} (hM : RS G M x a) (h3 : x 3 = at') (h2 : x 2 = len) (h4 : x 4 = wr) (hw : wfT (a 1) len) (hb6 : 0 ≤ at' ∧ at' ≤ 600) (hb2 : wr = -1 → at' ≤ 290) (hwr : -1 ≤ wr ∧ wr ≤ 600) (hlo : -100 ≤ lo ∧ lo ≤ 100) (hhi : -100 ≤ hi ∧ hi ≤ 100) : Kt l G μX10_number [.ref (sw_al G 70), sw_i lo, sw_i hi] M (fun r M' => ∃ v a' w, r = some (sw_i v) ∧ RS G M' (upn (upn x 3 a') 4 w) a ∧ frR M M' ∧ numP (a 1) len at' wr lo hi v a' w) := by
  refine KtA.of (by decide +kernel) (Nat.le_of_ble_eq_true rfl) ?_
  have hF : frR M M := frR.rf
  obtain ⟨l0, l1, -⟩ := id hw
  obtain ⟨Zq, hZ⟩ : ∃ Zq : Option Value → sw_M → Prop, Zq = (fun r M' => ∃ v a' w, r = some (sw_i v) ∧ RS G M' (upn (upn x 3 a') 4 w) a ∧ frR M M' ∧ numP (a 1) len at' wr lo hi v a' w) := ⟨_, rfl⟩
  rw [← hZ]
  by_cases cw : wr = -1
  · subst cw
    have hb : 0 ≤ at' ∧ at' ≤ 290 := ⟨hb6.1, hb2 rfl⟩
    have hnx : nmx (a 1) len at' (-1) lo hi = nmb (a 1) len at' lo hi := if_pos rfl
    have ex4 : ∀ b, upn x 3 b 4 = -1 := fun b => (upn_o (by decide)).trans h4
    have ex2 : ∀ b, upn x 3 b 2 = len := fun b => (upn_o (by decide)).trans h2
    have self4 : ∀ b, upn (upn x 3 b) 4 (-1) = upn x 3 b := fun b => upn_self (ex4 b)
    obtain ⟨a1, ha1⟩ : ∃ a1, sk (a 1) len 240 at' = a1 := ⟨_, rfl⟩
    have hs := sk_le (a 1) len 240 at'
    rw [ha1] at hs
    obtain ⟨d1, hd1⟩ : ∃ d1, dg (lk (a 1) len a1) = d1 := ⟨_, rfl⟩
    obtain ⟨d2, hd2⟩ : ∃ d1, dg (lk (a 1) len (a1 + 1)) = d1 := ⟨_, rfl⟩
    obtain ⟨d3, hd3⟩ : ∃ d1, dg (lk (a 1) len (a1 + 2)) = d1 := ⟨_, rfl⟩
    have b1 := dg_bd (lk (a 1) len a1)
    have b2 := dg_bd (lk (a 1) len (a1 + 1))
    have b3 := dg_bd (lk (a 1) len (a1 + 2))
    rw [hd1] at b1
    rw [hd2] at b2
    rw [hd3] at b3
    have k0 := lk_bd hw hb.1
    have k1 := lk_bd hw (a := a1) (by omega)
    have k2 := lk_bd hw (a := a1 + 1) (by omega)
    have k3 := lk_bd hw (a := a1 + 2) (by omega)
    have fin : ∀ (v b w : Int) (M1 : sw_M), RS G M1 (upn (upn x 3 b) 4 w) a → frR M M1 → w = (nmb (a 1) len at' lo hi).2.2 → (w = -1 → v = (nmb (a 1) len at' lo hi).1 ∧ b = (nmb (a 1) len at' lo hi).2.1) → (0 ≤ b ∧ b ≤ 600) → (-1000 ≤ v ∧ v ≤ 1000) → Zq (some (sw_i v)) M1 := by
      intro v b w M1 g1 g2 g3 g4 g5 g6
      rw [hZ]
      refine ⟨v, b, w, rfl, g1, g2, ?_, ?_, g5, g6⟩
      · rw [hnx]; exact g3
      · rw [hnx]; exact g4
    have tail : ∀ (v b : Int) (M1 : sw_M), (0 ≤ b ∧ b ≤ 600) → (-1000 ≤ v ∧ v ≤ 1000) → RS G M1 (upn x 3 b) a → frR M M1 → (¬ (lo ≤ v ∧ v ≤ hi) → (nmb (a 1) len at' lo hi).2.2 = b - 1 ∧ b ≠ 0) → (lo ≤ v ∧ v ≤ hi → dg (lk (a 1) len b) = -1 → nmb (a 1) len at' lo hi = (v, b, -1)) → (lo ≤ v ∧ v ≤ hi → dg (lk (a 1) len b) ≠ -1 → (nmb (a 1) len at' lo hi).2.2 = b) → V l G μX10_number sw_E0 (sw_Zq G μX10_number (sw_q0 G Zq)) 86 [(0, .ref (sw_al G 70)), (1, sw_i lo), (2, sw_i hi), (3, sw_i v)] [] M1 0 0 := by
      intro v b M1 hb1 hv hM hF t1 t2 t3
      have kb := lk_bd hw hb1.1
      have f3 : upn x 3 b 3 = b := upn_s
      have f4 := ex4 b
      have f2 := ex2 b
      refine v_iload_n dX10_number_86 rfl ?_
      refine v_iload_n dX10_number_87 rfl ?_
      refine v_iload_n dX10_number_88 rfl ?_
      refine v_callS (K10_in (v := v) (lo := lo) (hi := hi) ⟨by omega, by omega⟩ ⟨by omega, by omega⟩ ⟨by omega, by omega⟩) ⟨rfl, rfl⟩ (Nat.le_refl _) (Nat.le_refl _) ⟨ml_X10_107, mm_X10_in⟩ ⟨(Nat.le_of_ble_eq_true rfl), (Nat.le_of_ble_eq_true rfl)⟩ mp_X10_in rfl rfl (Nat.le_of_ble_eq_true rfl) dX10_number_89 (fun r M' h => ?_)
      obtain ⟨rfl, rfl⟩ := h
      refine v_ifb_ne (tgt := 111) dX10_number_92 (by decide) (fun q1 => ?_) (fun q1 => ?_)
      · skip
        refine v_aload_n dX10_number_111 rfl ?_
        refine v_callV (ci := 10) (K10_here hM f3 f2 hw ⟨by omega, by omega⟩) ⟨rfl, rfl⟩ (Nat.le_refl _) (Nat.le_refl _) hM.1 rfl ⟨ml_X10_90, mm_X10_here⟩ ⟨(Nat.le_of_ble_eq_true rfl), (Nat.le_of_ble_eq_true rfl)⟩ mp_X10_here rfl rfl (Nat.le_of_ble_eq_true rfl) dX10_number_112 (fun r M' h => ?_)
        obtain ⟨rfl, rfl⟩ := h
        refine v_callS (K10_isDigit (c := lk (a 1) len b) ⟨by omega, by omega⟩) ⟨rfl, rfl⟩ (Nat.le_refl _) (Nat.le_refl _) ⟨ml_X10_100, mm_X10_isDigit⟩ ⟨(Nat.le_of_ble_eq_true rfl), (Nat.le_of_ble_eq_true rfl)⟩ mp_X10_isDigit rfl rfl (Nat.le_of_ble_eq_true rfl) dX10_number_115 (fun r M' h => ?_)
        obtain ⟨rfl, rfl⟩ := h
        refine v_ifb_eq (tgt := 125) dX10_number_118 (by decide) (fun q2 => ?_) (fun q2 => ?_)
        · skip
          refine v_iload_n dX10_number_125 rfl ?_
          exact v_iret dX10_number_126 rfl (Nat.le_refl _) (Nat.le_refl _) (fin v b (-1) _ (hM.xe (self4 b).symm) hF (by rw [t2 q1 (Decidable.not_not.mp q2)]) (fun _ => by rw [t2 q1 (Decidable.not_not.mp q2)]; exact ⟨rfl, rfl⟩) hb1 hv)
        · skip
          refine v_aload_n dX10_number_121 rfl ?_
          refine v_callV (ci := 10) (K10_bad hM (at' := b) (wr := -1) f3 f4 ⟨by omega, by omega⟩) ⟨rfl, rfl⟩ (Nat.le_refl _) (Nat.le_refl _) hM.1 rfl ⟨ml_X10_104, mm_X10_bad⟩ ⟨(Nat.le_of_ble_eq_true rfl), (Nat.le_of_ble_eq_true rfl)⟩ mp_X10_bad rfl rfl (Nat.le_of_ble_eq_true rfl) dX10_number_122 (fun r M' h => ?_)
          obtain ⟨rfl, hM1, hF1⟩ := h
          replace hM := hM1
          replace hF := hF.tr hF1
          refine v_iload_n dX10_number_125 rfl ?_
          exact v_iret dX10_number_126 rfl (Nat.le_refl _) (Nat.le_refl _) (fin v b b _ hM hF (t3 q1 q2).symm (fun h => by omega) hb1 hv)
      · skip
        refine v_aload_n dX10_number_95 rfl ?_
        refine v_dup dX10_number_96 rfl ?_
        refine v_rgi 3 hM f3 fl_X10_87 rfl dX10_number_97 ?_
        refine v_iconst dX10_number_100 ?_
        refine v_isub dX10_number_101 ?_
        refine v_rp 3 hM hF (flS_3 G _ _) fp_X10_87 rfl rfl (Nat.le_of_ble_eq_true rfl) dX10_number_102 (fun M hM hF => ?_)
        replace hM := hM.xe upn_upn
        have t1 := t1 q1
        refine v_aload_n dX10_number_105 rfl ?_
        refine v_callV (ci := 10) (K10_bad hM (at' := b - 1) (wr := -1) upn_s (ex4 _) ⟨by omega, by omega⟩) ⟨rfl, rfl⟩ (Nat.le_refl _) (Nat.le_refl _) hM.1 rfl ⟨ml_X10_104, mm_X10_bad⟩ ⟨(Nat.le_of_ble_eq_true rfl), (Nat.le_of_ble_eq_true rfl)⟩ mp_X10_bad rfl rfl (Nat.le_of_ble_eq_true rfl) dX10_number_106 (fun r M' h => ?_)
        obtain ⟨rfl, hM1, hF1⟩ := h
        replace hM := hM1
        replace hF := hF.tr hF1
        refine v_iload_n dX10_number_109 rfl ?_
        exact v_iret dX10_number_110 rfl (Nat.le_refl _) (Nat.le_refl _) (fin lo (b - 1) (b - 1) _ hM hF (by omega) (fun h => by omega) ⟨by omega, by omega⟩ ⟨by omega, by omega⟩)
    refine v_aload_n dX10_number_0 rfl ?_
    refine v_rgi 4 hM h4 fl_X10_94 rfl dX10_number_1 ?_
    refine v_iconst dX10_number_4 ?_
    refine v_icmp_eq (tgt := 10) dX10_number_5 (by decide) ⟨by omega, by omega⟩ ⟨by omega, by omega⟩ (fun h5 => ?_) (fun h5 => ?_)
    · skip
      refine v_aload_n dX10_number_10 rfl ?_
      refine v_callV (ci := 10) (K10_here hM h3 h2 hw ⟨by omega, by omega⟩) ⟨rfl, rfl⟩ (Nat.le_refl _) (Nat.le_refl _) hM.1 rfl ⟨ml_X10_90, mm_X10_here⟩ ⟨(Nat.le_of_ble_eq_true rfl), (Nat.le_of_ble_eq_true rfl)⟩ mp_X10_here rfl rfl (Nat.le_of_ble_eq_true rfl) dX10_number_11 (fun r M' h => ?_)
      obtain ⟨rfl, rfl⟩ := h
      refine v_bipush dX10_number_14 (by decide +kernel) ?_
      refine v_icmp_ne (tgt := 29) dX10_number_16 (by decide) ⟨by omega, by omega⟩ ⟨by omega, by omega⟩ (fun q0 => ?_) (fun q0 => ?_)
      · skip
        have ea : a1 = at' := by rw [← ha1]; exact sk_no 240 (by omega)
        refine v_aload_n dX10_number_29 rfl ?_
        refine v_callV (ci := 10) (K10_bad hM (at' := at') (wr := -1) h3 h4 ⟨by omega, by omega⟩) ⟨rfl, rfl⟩ (Nat.le_refl _) (Nat.le_refl _) hM.1 rfl ⟨ml_X10_104, mm_X10_bad⟩ ⟨(Nat.le_of_ble_eq_true rfl), (Nat.le_of_ble_eq_true rfl)⟩ mp_X10_bad rfl rfl (Nat.le_of_ble_eq_true rfl) dX10_number_30 (fun r M' h => ?_)
        obtain ⟨rfl, hM1, hF1⟩ := h
        replace hM := hM1
        replace hF := hF.tr hF1
        refine v_iload_n dX10_number_33 rfl ?_
        exact v_iret dX10_number_34 rfl (Nat.le_refl _) (Nat.le_refl _) (fin lo at' at' _ (hM.xe (by rw [upn_self h3]; rfl)) hF (by rw [nmb1 ha1 hd1 hd2 hd3 (Or.inl ea) rfl rfl rfl]; exact ea.symm) (fun h => by omega) ⟨by omega, by omega⟩ ⟨by omega, by omega⟩)
      · skip
        refine v_aload_n dX10_number_19 rfl ?_
        refine v_callV (ci := 10) (K10_look hM h3 h2 hw ⟨by omega, by omega⟩) ⟨rfl, rfl⟩ (Nat.le_refl _) (Nat.le_refl _) hM.1 rfl ⟨ml_X10_97, mm_X10_look⟩ ⟨(Nat.le_of_ble_eq_true rfl), (Nat.le_of_ble_eq_true rfl)⟩ mp_X10_look rfl rfl (Nat.le_of_ble_eq_true rfl) dX10_number_20 (fun r M' h => ?_)
        obtain ⟨rfl, hM1, hF1⟩ := h
        replace hM := hM1
        replace hF := hF.tr hF1
        rw [ha1] at hM ⊢
        refine v_callS (K10_isDigit (c := lk (a 1) len a1) ⟨by omega, by omega⟩) ⟨rfl, rfl⟩ (Nat.le_refl _) (Nat.le_refl _) ⟨ml_X10_100, mm_X10_isDigit⟩ ⟨(Nat.le_of_ble_eq_true rfl), (Nat.le_of_ble_eq_true rfl)⟩ mp_X10_isDigit rfl rfl (Nat.le_of_ble_eq_true rfl) dX10_number_23 (fun r M' h => ?_)
        obtain ⟨rfl, rfl⟩ := h
        rw [hd1]
        refine v_ifb_ne (tgt := 35) dX10_number_26 (by decide) (fun q1 => ?_) (fun q1 => ?_)
        · skip
          have c1 : ¬ (a1 = at' ∨ d1 = -1) := by
            have hne : a1 ≠ at' := by
              intro e
              have q : lk (a 1) len at' ≠ 32 := by rw [← e, ← ha1]; exact sk_end 240 (by omega)
              omega
            have := q1
            omega
          have e48 : lk (a 1) len a1 - 48 = d1 := by rw [← hd1]; exact dg_val (by rw [hd1]; omega)
          refine v_aload_n dX10_number_35 rfl ?_
          refine v_callV (ci := 10) (K10_here hM (at' := a1) upn_s (ex2 a1) hw ⟨by omega, by omega⟩) ⟨rfl, rfl⟩ (Nat.le_refl _) (Nat.le_refl _) hM.1 rfl ⟨ml_X10_90, mm_X10_here⟩ ⟨(Nat.le_of_ble_eq_true rfl), (Nat.le_of_ble_eq_true rfl)⟩ mp_X10_here rfl rfl (Nat.le_of_ble_eq_true rfl) dX10_number_36 (fun r M' h => ?_)
          obtain ⟨rfl, rfl⟩ := h
          refine v_bipush dX10_number_39 (by decide +kernel) ?_
          refine v_isub dX10_number_41 ?_
          rw [e48]
          refine v_istore_n dX10_number_42 (Nat.le_of_ble_eq_true rfl) ?_
          refine v_aload_n dX10_number_43 rfl ?_
          refine v_dup dX10_number_44 rfl ?_
          refine v_rgi 3 hM upn_s fl_X10_87 rfl dX10_number_45 ?_
          refine v_iconst dX10_number_48 ?_
          refine v_iadd dX10_number_49 ?_
          refine v_rp 3 hM hF (flS_3 G _ _) fp_X10_87 rfl rfl (Nat.le_of_ble_eq_true rfl) dX10_number_50 (fun M hM hF => ?_)
          replace hM := hM.xe upn_upn
          refine v_aload_n dX10_number_53 rfl ?_
          refine v_callV (ci := 10) (K10_here hM (at' := a1 + 1) upn_s (ex2 (a1 + 1)) hw ⟨by omega, by omega⟩) ⟨rfl, rfl⟩ (Nat.le_refl _) (Nat.le_refl _) hM.1 rfl ⟨ml_X10_90, mm_X10_here⟩ ⟨(Nat.le_of_ble_eq_true rfl), (Nat.le_of_ble_eq_true rfl)⟩ mp_X10_here rfl rfl (Nat.le_of_ble_eq_true rfl) dX10_number_54 (fun r M' h => ?_)
          obtain ⟨rfl, rfl⟩ := h
          refine v_callS (K10_isDigit (c := lk (a 1) len (a1 + 1)) ⟨by omega, by omega⟩) ⟨rfl, rfl⟩ (Nat.le_refl _) (Nat.le_refl _) ⟨ml_X10_100, mm_X10_isDigit⟩ ⟨(Nat.le_of_ble_eq_true rfl), (Nat.le_of_ble_eq_true rfl)⟩ mp_X10_isDigit rfl rfl (Nat.le_of_ble_eq_true rfl) dX10_number_57 (fun r M' h => ?_)
          obtain ⟨rfl, rfl⟩ := h
          rw [hd2]
          refine v_ifb_eq (tgt := 86) dX10_number_60 (by decide) (fun q3 => ?_) (fun q3 => ?_)
          · skip
            refine v_to (tail d1 (a1 + 1) _ ⟨by omega, by omega⟩ ⟨by omega, by omega⟩ hM hF (fun h => ⟨?_, by omega⟩) (fun h _ => ?_) (fun h h2 => ?_)) rfl (sw_h1 rfl (sw_h1 rfl (sw_h1 rfl (sw_h1 rfl sw_h0))))
            · rw [nmb2 ha1 hd1 hd2 hd3 c1 (by omega) (by omega) rfl rfl rfl]; dsimp only; omega
            · exact nmb3 ha1 hd1 hd2 hd3 c1 (by omega) (by omega) rfl rfl rfl
            · exact absurd (hd2.trans (by omega)) h2
          · skip
            refine v_bipush dX10_number_63 (by decide +kernel) ?_
            refine v_iload_n dX10_number_65 rfl ?_
            refine v_imul dX10_number_66 ?_
            refine v_aload_n dX10_number_67 rfl ?_
            refine v_callV (ci := 10) (K10_here hM (at' := a1 + 1) upn_s (ex2 (a1 + 1)) hw ⟨by omega, by omega⟩) ⟨rfl, rfl⟩ (Nat.le_refl _) (Nat.le_refl _) hM.1 rfl ⟨ml_X10_90, mm_X10_here⟩ ⟨(Nat.le_of_ble_eq_true rfl), (Nat.le_of_ble_eq_true rfl)⟩ mp_X10_here rfl rfl (Nat.le_of_ble_eq_true rfl) dX10_number_68 (fun r M' h => ?_)
            obtain ⟨rfl, rfl⟩ := h
            refine v_iadd dX10_number_71 ?_
            refine v_bipush dX10_number_72 (by decide +kernel) ?_
            refine v_isub dX10_number_74 ?_
            have e2 : 10 * d1 + lk (a 1) len (a1 + 1) - 48 = d1 * 10 + d2 := by
              have := dg_val (c := lk (a 1) len (a1 + 1)) (by rw [hd2]; exact q3)
              rw [hd2] at this
              omega
            rw [e2]
            refine v_istore_n dX10_number_75 (Nat.le_of_ble_eq_true rfl) ?_
            refine v_aload_n dX10_number_76 rfl ?_
            refine v_dup dX10_number_77 rfl ?_
            refine v_rgi 3 hM upn_s fl_X10_87 rfl dX10_number_78 ?_
            refine v_iconst dX10_number_81 ?_
            refine v_iadd dX10_number_82 ?_
            refine v_rp 3 hM hF (flS_3 G _ _) fp_X10_87 rfl rfl (Nat.le_of_ble_eq_true rfl) dX10_number_83 (fun M hM hF => ?_)
            replace hM := hM.xe (x' := upn x 3 (a1 + 2)) (by rw [upn_upn, show a1 + 1 + 1 = a1 + 2 by omega])
            refine v_to (tail (d1 * 10 + d2) (a1 + 2) _ ⟨by omega, by omega⟩ ⟨by omega, by omega⟩ hM hF (fun h => ⟨?_, by omega⟩) (fun h h2 => ?_) (fun h h2 => ?_)) rfl (sw_h1 rfl (sw_h1 rfl (sw_h1 rfl (sw_h1 rfl sw_h0))))
            · rw [nmb4 ha1 hd1 hd2 hd3 c1 (by omega) (by omega) rfl rfl rfl]; dsimp only; omega
            · exact nmb5 ha1 hd1 hd2 hd3 c1 (by omega) (by omega) (hd3.symm.trans h2) rfl rfl rfl
            · rw [nmb6 ha1 hd1 hd2 hd3 c1 (by omega) (by omega) (fun e => h2 (hd3.trans e)) rfl rfl rfl]
        · skip
          refine v_aload_n dX10_number_29 rfl ?_
          refine v_callV (ci := 10) (K10_bad hM (at' := a1) (wr := -1) upn_s (ex4 a1) ⟨by omega, by omega⟩) ⟨rfl, rfl⟩ (Nat.le_refl _) (Nat.le_refl _) hM.1 rfl ⟨ml_X10_104, mm_X10_bad⟩ ⟨(Nat.le_of_ble_eq_true rfl), (Nat.le_of_ble_eq_true rfl)⟩ mp_X10_bad rfl rfl (Nat.le_of_ble_eq_true rfl) dX10_number_30 (fun r M' h => ?_)
          obtain ⟨rfl, hM1, hF1⟩ := h
          replace hM := hM1
          replace hF := hF.tr hF1
          refine v_iload_n dX10_number_33 rfl ?_
          exact v_iret dX10_number_34 rfl (Nat.le_refl _) (Nat.le_refl _) (fin lo a1 a1 _ hM hF (by rw [nmb1 ha1 hd1 hd2 hd3 (Or.inr (by omega)) rfl rfl rfl]) (fun h => by omega) ⟨by omega, by omega⟩ ⟨by omega, by omega⟩)
    · skip
      exfalso; omega
  · skip
    refine v_aload_n dX10_number_0 rfl ?_
    refine v_rgi 4 hM h4 fl_X10_94 rfl dX10_number_1 ?_
    refine v_iconst dX10_number_4 ?_
    refine v_icmp_eq (tgt := 10) dX10_number_5 (by decide) ⟨by omega, by omega⟩ ⟨by omega, by omega⟩ (fun h5 => ?_) (fun h5 => ?_)
    · skip
      exfalso; omega
    · skip
      refine v_iload_n dX10_number_8 rfl ?_
      refine v_iret dX10_number_9 rfl (Nat.le_refl _) (Nat.le_refl _) ?_
      skip
      rw [hZ]
      have hnx : nmx (a 1) len at' wr lo hi = (0, at', wr) := if_neg cw
      refine ⟨lo, at', wr, rfl, hM.xe (by rw [upn_self h3, upn_self h4]), hF, ?_, ?_, ⟨by omega, by omega⟩, ⟨by omega, by omega⟩⟩
      · rw [hnx]
      · intro h; exact absurd h cw
end

