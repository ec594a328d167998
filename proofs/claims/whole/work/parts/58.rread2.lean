/-! the reference's reader: a statement, a SALE -/
theorem rdl_wr {f : Int → Int} {len : Int} (n : Nat) {a wr : Int} {σ : SaleT} (h : wr ≠ -1) : rdl f len n a wr σ = (wr, σ) := by
  cases n with
  | zero => rfl
  | succ n => exact if_neg h
section
variable {l : Launch} {G : sw_G} {M : sw_M} {x : Nat → Int} {a : Nat → Int → Int}
theorem K10_statement {s at' len : Int} {σ : SaleT} (hM : RS G M x a) (h3 : x 3 = at') (h2 : x 2 = len) (h4 : x 4 = -1) (hw : wfT (a 1) len) (hb : 0 ≤ at' ∧ at' ≤ 250) (hs : 0 ≤ s ∧ s ≤ 8) (hr : rowR a s σ) (ht : 0 ≤ sTr σ ∧ sTr σ ≤ 8) (hsg : 2 ≤ sSg σ ∧ sSg σ ≤ 5) : Kt l G μX10_statement [.ref (sw_al G 70), sw_i s] M (fun r M' => ∃ a' b w, r = none ∧ RS G M' (upn (upn x 3 b) 4 w) a' ∧ frR M M' ∧ frA s a a' ∧ w = (cla (a 1) len at' σ).2.1 ∧ (w = -1 → b = (cla (a 1) len at' σ).1 ∧ rowR a' s (cla (a 1) len at' σ).2.2) ∧ 0 ≤ b ∧ b ≤ 600) := by
  refine KtA.of (by decide +kernel) (Nat.le_of_ble_eq_true rfl) ?_
  have hF : frR M M := frR.rf
  obtain ⟨l0, l1, -⟩ := id hw
  obtain ⟨q5, q6, q10, q11, q12, qr⟩ := id hr
  obtain ⟨C, hC⟩ : ∃ C, cla (a 1) len at' σ = C := ⟨_, rfl⟩
  obtain ⟨Zq, hZ⟩ : ∃ Zq : Option Value → sw_M → Prop, Zq = (fun r M' => ∃ a' b w, r = none ∧ RS G M' (upn (upn x 3 b) 4 w) a' ∧ frR M M' ∧ frA s a a' ∧ w = (cla (a 1) len at' σ).2.1 ∧ (w = -1 → b = (cla (a 1) len at' σ).1 ∧ rowR a' s (cla (a 1) len at' σ).2.2) ∧ 0 ≤ b ∧ b ≤ 600) := ⟨_, rfl⟩
  rw [← hZ]
  rw [hC] at hZ
  have hcl : C = claX (a 1) len (sk (a 1) len 240 at') (lk (a 1) len (sk (a 1) len 240 at')) σ := hC.symm
  have hs0 := sk_le (a 1) len 240 at'
  obtain ⟨a1, ha1⟩ : ∃ a1, sk (a 1) len 240 at' = a1 := ⟨_, rfl⟩
  rw [ha1] at hs0 hcl
  have kc := lk_bd hw (a := a1) (by omega)
  obtain ⟨c, hc⟩ : ∃ c, lk (a 1) len a1 = c := ⟨_, rfl⟩
  rw [hc] at hcl kc
  have fin : ∀ (a' : Nat → Int → Int) (b w : Int) (M1 : sw_M), RS G M1 (upn (upn x 3 b) 4 w) a' → frR M M1 → frA s a a' → w = C.2.1 → (w = -1 → b = C.1 ∧ rowR a' s C.2.2) → (0 ≤ b ∧ b ≤ 600) → Zq none M1 := by
    intro a' b w M1 g1 g2 g3 g4 g5 g6
    rw [hZ]
    exact ⟨a', b, w, rfl, g1, g2, g3, g4, g5, g6.1, g6.2⟩
  have tail : ∀ (M1 : sw_M), RS G M1 (upn x 3 a1) a → frR M M1 → (c = 116 ∧ sTr σ < 8 ∨ c = 110 ∨ c = 108 ∨ c = 119) → V l G μX10_statement sw_E0 (sw_Zq G μX10_statement (sw_q0 G Zq)) 51 [(0, .ref (sw_al G 70)), (1, sw_i s), (2, sw_i c)] [] M1 0 0 := by
    intro M1 hM hF hcc
    have k3 : ∀ b, upn x 3 b 3 = b := fun b => upn_s
    have k2 : ∀ b, upn x 3 b 2 = len := fun b => (upn_o (by decide)).trans h2
    have k4 : ∀ b, upn x 3 b 4 = -1 := fun b => (upn_o (by decide)).trans h4
    have f3 := k3 a1
    have nx : ∀ lo hi, nmx (a 1) len (a1 + 1) (-1) lo hi = nmb (a 1) len (a1 + 1) lo hi := fun lo hi => if_pos rfl
    refine v_aload_n dX10_statement_51 rfl ?_
    refine v_dup dX10_statement_52 rfl ?_
    refine v_rgi 3 hM f3 fl_X10_87 rfl dX10_statement_53 ?_
    refine v_iconst dX10_statement_56 ?_
    refine v_iadd dX10_statement_57 ?_
    refine v_rp 3 hM hF (flS_3 G _ _) fp_X10_87 rfl rfl (Nat.le_of_ble_eq_true rfl) dX10_statement_58 (fun M hM hF => ?_)
    replace hM := hM.xe upn_upn
    refine v_iload_n dX10_statement_61 rfl ?_
    refine v_bipush dX10_statement_62 (by decide +kernel) ?_
    refine v_icmp_ne (tgt := 75) dX10_statement_64 (by decide) ⟨by omega, by omega⟩ ⟨by omega, by omega⟩ (fun h64 => ?_) (fun h64 => ?_)
    · skip
      refine v_iload_n dX10_statement_75 rfl ?_
      refine v_bipush dX10_statement_76 (by decide +kernel) ?_
      refine v_icmp_ne (tgt := 96) dX10_statement_78 (by decide) ⟨by omega, by omega⟩ ⟨by omega, by omega⟩ (fun h78 => ?_) (fun h78 => ?_)
      · skip
        refine v_iload_n dX10_statement_96 rfl ?_
        refine v_bipush dX10_statement_97 (by decide +kernel) ?_
        refine v_icmp_ne (tgt := 118) dX10_statement_99 (by decide) ⟨by omega, by omega⟩ ⟨by omega, by omega⟩ (fun h99 => ?_) (fun h99 => ?_)
        · skip
          refine v_aload_n dX10_statement_118 rfl ?_
          refine v_getfH 12 hM.1 fl_X10_34 rfl dX10_statement_119 ?_
          refine v_iload_n dX10_statement_122 rfl ?_
          refine v_aload_n dX10_statement_123 rfl ?_
          refine v_iconst dX10_statement_124 ?_
          refine v_iconst dX10_statement_125 ?_
          refine v_callV (ci := 10) (K10_number hM (at' := a1 + 1) (len := len) (wr := -1) (k3 _) (k2 _) (k4 _) hw ⟨by omega, by omega⟩ (fun _ => by omega) ⟨by omega, by omega⟩ ⟨by omega, by omega⟩ ⟨by omega, by omega⟩) ⟨rfl, rfl⟩ (Nat.le_refl _) (Nat.le_refl _) hM.1 rfl ⟨ml_X10_111, mm_X10_number⟩ ⟨(Nat.le_of_ble_eq_true rfl), (Nat.le_of_ble_eq_true rfl)⟩ mp_X10_number rfl rfl (Nat.le_of_ble_eq_true rfl) dX10_statement_126 (fun r M' h => ?_)
          obtain ⟨v, b, w, rfl, hM1, hF1, n1, n2, n3, n4⟩ := h
          rw [nx] at n1 n2
          replace hM := hM1.xe (x' := upn (upn x 3 b) 4 w) (by rw [upn_upn])
          replace hF := hF.tr hF1
          have eC : C = ((nmb (a 1) len (a1 + 1) 0 2).2.1, (nmb (a 1) len (a1 + 1) 0 2).2.2, (sSg σ, sTr σ, sNb σ, sLe σ, (nmb (a 1) len (a1 + 1) 0 2).1, sV σ, sW σ, sO σ, sSt σ)) := by rw [hcl]; exact (if_neg (by omega)).trans ((if_neg (by omega)).trans ((if_neg (by omega)).trans (if_pos (by omega))))
          refine v_ris hM hF ar_12 (by omega) (by omega) dX10_statement_129 (fun M hM hF => ?_)
          exact v_vret dX10_statement_130 rfl (Nat.le_refl _) (Nat.le_refl _) (fin _ b w _ hM hF (frA.s1 (by omega) v) (by rw [eC]; exact n1) (fun h => by rw [eC]; exact ⟨(n2 h).2, q5, q6, q10, q11, up_eq.trans (n2 h).1, qr⟩) n3)
        · skip
          refine v_aload_n dX10_statement_102 rfl ?_
          refine v_getfH 11 hM.1 fl_X10_31 rfl dX10_statement_103 ?_
          refine v_iload_n dX10_statement_106 rfl ?_
          refine v_aload_n dX10_statement_107 rfl ?_
          refine v_iconst dX10_statement_108 ?_
          refine v_bipush dX10_statement_109 (by decide +kernel) ?_
          refine v_callV (ci := 10) (K10_number hM (at' := a1 + 1) (len := len) (wr := -1) (k3 _) (k2 _) (k4 _) hw ⟨by omega, by omega⟩ (fun _ => by omega) ⟨by omega, by omega⟩ ⟨by omega, by omega⟩ ⟨by omega, by omega⟩) ⟨rfl, rfl⟩ (Nat.le_refl _) (Nat.le_refl _) hM.1 rfl ⟨ml_X10_111, mm_X10_number⟩ ⟨(Nat.le_of_ble_eq_true rfl), (Nat.le_of_ble_eq_true rfl)⟩ mp_X10_number rfl rfl (Nat.le_of_ble_eq_true rfl) dX10_statement_111 (fun r M' h => ?_)
          obtain ⟨v, b, w, rfl, hM1, hF1, n1, n2, n3, n4⟩ := h
          rw [nx] at n1 n2
          replace hM := hM1.xe (x' := upn (upn x 3 b) 4 w) (by rw [upn_upn])
          replace hF := hF.tr hF1
          have eC : C = ((nmb (a 1) len (a1 + 1) 0 60).2.1, (nmb (a 1) len (a1 + 1) 0 60).2.2, (sSg σ, sTr σ, sNb σ, (nmb (a 1) len (a1 + 1) 0 60).1, sWy σ, sV σ, sW σ, sO σ, sSt σ)) := by rw [hcl]; exact (if_neg (by omega)).trans ((if_neg (by omega)).trans (if_pos (by omega)))
          refine v_ris hM hF ar_11 (by omega) (by omega) dX10_statement_114 (fun M hM hF => ?_)
          refine v_goto (tgt := 130) dX10_statement_115 (by decide) ?_
          exact v_vret dX10_statement_130 rfl (Nat.le_refl _) (Nat.le_refl _) (fin _ b w _ hM hF (frA.s1 (by omega) v) (by rw [eC]; exact n1) (fun h => by rw [eC]; exact ⟨(n2 h).2, q5, q6, q10, up_eq.trans (n2 h).1, q12, qr⟩) n3)
      · skip
        refine v_aload_n dX10_statement_81 rfl ?_
        refine v_getfH 10 hM.1 fl_X10_28 rfl dX10_statement_82 ?_
        refine v_iload_n dX10_statement_85 rfl ?_
        refine v_aload_n dX10_statement_86 rfl ?_
        refine v_iconst dX10_statement_87 ?_
        refine v_iconst dX10_statement_88 ?_
        refine v_callV (ci := 10) (K10_number hM (at' := a1 + 1) (len := len) (wr := -1) (k3 _) (k2 _) (k4 _) hw ⟨by omega, by omega⟩ (fun _ => by omega) ⟨by omega, by omega⟩ ⟨by omega, by omega⟩ ⟨by omega, by omega⟩) ⟨rfl, rfl⟩ (Nat.le_refl _) (Nat.le_refl _) hM.1 rfl ⟨ml_X10_111, mm_X10_number⟩ ⟨(Nat.le_of_ble_eq_true rfl), (Nat.le_of_ble_eq_true rfl)⟩ mp_X10_number rfl rfl (Nat.le_of_ble_eq_true rfl) dX10_statement_89 (fun r M' h => ?_)
        obtain ⟨v, b, w, rfl, hM1, hF1, n1, n2, n3, n4⟩ := h
        rw [nx] at n1 n2
        replace hM := hM1.xe (x' := upn (upn x 3 b) 4 w) (by rw [upn_upn])
        replace hF := hF.tr hF1
        have eC : C = ((nmb (a 1) len (a1 + 1) 1 4).2.1, (nmb (a 1) len (a1 + 1) 1 4).2.2, (sSg σ, sTr σ, (nmb (a 1) len (a1 + 1) 1 4).1, sLe σ, sWy σ, sV σ, sW σ, sO σ, sSt σ)) := by rw [hcl]; exact (if_neg (by omega)).trans (if_pos (by omega))
        refine v_ris hM hF ar_10 (by omega) (by omega) dX10_statement_92 (fun M hM hF => ?_)
        refine v_goto (tgt := 130) dX10_statement_93 (by decide) ?_
        exact v_vret dX10_statement_130 rfl (Nat.le_refl _) (Nat.le_refl _) (fin _ b w _ hM hF (frA.s1 (by omega) v) (by rw [eC]; exact n1) (fun h => by rw [eC]; exact ⟨(n2 h).2, q5, q6, up_eq.trans (n2 h).1, q11, q12, qr⟩) n3)
    · skip
      refine v_aload_n dX10_statement_67 rfl ?_
      refine v_iload_n dX10_statement_68 rfl ?_
      refine v_callV (ci := 10) (K10_readTruth hM (at' := a1 + 1) (len := len) (σ := σ) (k3 _) (k2 _) (k4 _) hw ⟨by omega, by omega⟩ hs hr ⟨by omega, by omega⟩ hsg) ⟨rfl, rfl⟩ (Nat.le_refl _) (Nat.le_refl _) hM.1 rfl ⟨ml_X10_119, mm_X10_readTruth⟩ ⟨(Nat.le_of_ble_eq_true rfl), (Nat.le_of_ble_eq_true rfl)⟩ mp_X10_readTruth rfl rfl (Nat.le_of_ble_eq_true rfl) dX10_statement_69 (fun r M' h => ?_)
      obtain ⟨a', b, w, rfl, hM1, hF1, hA, e1, e2, e3⟩ := h
      have eC : C = tcl (a 1) len (a1 + 1) σ := by rw [hcl]; exact if_pos ⟨by omega, by omega⟩
      refine v_goto (tgt := 130) dX10_statement_72 (by decide) ?_
      exact v_vret dX10_statement_130 rfl (Nat.le_refl _) (Nat.le_refl _) (fin a' b w _ (hM1.xe (by rw [upn_upn])) (hF.tr hF1) hA (by rw [eC]; exact e1) (fun h => by rw [eC]; exact e2 h) e3)
  have none' : ∀ (M1 : sw_M), RS G M1 (upn x 3 a1) a → frR M M1 → ¬ (c = 116 ∧ sTr σ < 8 ∨ c = 110 ∨ c = 108 ∨ c = 119) → V l G μX10_statement sw_E0 (sw_Zq G μX10_statement (sw_q0 G Zq)) 46 [(0, .ref (sw_al G 70)), (1, sw_i s), (2, sw_i c)] [] M1 0 0 := by
    intro M1 hM hF hcc
    have eC : C = (a1, a1, σ) := by rw [hcl]; exact (if_neg (by omega)).trans ((if_neg (by omega)).trans ((if_neg (by omega)).trans (if_neg (by omega))))
    refine v_aload_n dX10_statement_46 rfl ?_
    refine v_callV (ci := 10) (K10_bad hM (at' := a1) (wr := -1) upn_s ((upn_o (by decide)).trans h4) ⟨by omega, by omega⟩) ⟨rfl, rfl⟩ (Nat.le_refl _) (Nat.le_refl _) hM.1 rfl ⟨ml_X10_104, mm_X10_bad⟩ ⟨(Nat.le_of_ble_eq_true rfl), (Nat.le_of_ble_eq_true rfl)⟩ mp_X10_bad rfl rfl (Nat.le_of_ble_eq_true rfl) dX10_statement_47 (fun r M' h => ?_)
    obtain ⟨rfl, hM1, hF1⟩ := h
    replace hM := hM1
    replace hF := hF.tr hF1
    exact v_vret dX10_statement_50 rfl (Nat.le_refl _) (Nat.le_refl _) (fin a a1 a1 _ hM hF frA.rf (by rw [eC]) (fun h => by omega) ⟨by omega, by omega⟩)
  refine v_aload_n dX10_statement_0 rfl ?_
  refine v_callV (ci := 10) (K10_look hM h3 h2 hw ⟨by omega, by omega⟩) ⟨rfl, rfl⟩ (Nat.le_refl _) (Nat.le_refl _) hM.1 rfl ⟨ml_X10_97, mm_X10_look⟩ ⟨(Nat.le_of_ble_eq_true rfl), (Nat.le_of_ble_eq_true rfl)⟩ mp_X10_look rfl rfl (Nat.le_of_ble_eq_true rfl) dX10_statement_1 (fun r M' h => ?_)
  obtain ⟨rfl, hM1, hF1⟩ := h
  replace hM := hM1
  replace hF := hF.tr hF1
  rw [ha1] at hM ⊢
  rw [hc]
  refine v_istore_n dX10_statement_4 (Nat.le_of_ble_eq_true rfl) ?_
  refine v_iload_n dX10_statement_5 rfl ?_
  refine v_bipush dX10_statement_6 (by decide +kernel) ?_
  refine v_icmp_eq (tgt := 29) dX10_statement_8 (by decide) ⟨by omega, by omega⟩ ⟨by omega, by omega⟩ (fun h8 => ?_) (fun h8 => ?_)
  · skip
    refine v_iload_n dX10_statement_29 rfl ?_
    refine v_bipush dX10_statement_30 (by decide +kernel) ?_
    refine v_icmp_ne (tgt := 51) dX10_statement_32 (by decide) ⟨by omega, by omega⟩ ⟨by omega, by omega⟩ (fun h32 => ?_) (fun h32 => ?_)
    · skip
      first | exact v_to (tail _ hM hF (by omega)) rfl (sw_h1 rfl (sw_h1 rfl (sw_h1 rfl sw_h0))) | (exfalso; omega)
    · skip
      refine v_aload_n dX10_statement_35 rfl ?_
      refine v_getfH 6 hM.1 fl_X10_16 rfl dX10_statement_36 ?_
      refine v_iload_n dX10_statement_39 rfl ?_
      refine v_ria hM ar_6 (by omega) (by omega) q6 dX10_statement_40 ?_
      refine v_bipush dX10_statement_41 (by decide +kernel) ?_
      refine v_icmp_ne (tgt := 51) dX10_statement_43 (by decide) ⟨by omega, by omega⟩ ⟨by omega, by omega⟩ (fun h43 => ?_) (fun h43 => ?_)
      · skip
        first | exact v_to (tail _ hM hF (by omega)) rfl (sw_h1 rfl (sw_h1 rfl (sw_h1 rfl sw_h0))) | (exfalso; omega)
      · skip
        first | exact v_to (none' _ hM hF (by omega)) rfl (sw_h1 rfl (sw_h1 rfl (sw_h1 rfl sw_h0))) | (exfalso; omega)
  · skip
    refine v_iload_n dX10_statement_11 rfl ?_
    refine v_bipush dX10_statement_12 (by decide +kernel) ?_
    refine v_icmp_eq (tgt := 29) dX10_statement_14 (by decide) ⟨by omega, by omega⟩ ⟨by omega, by omega⟩ (fun h14 => ?_) (fun h14 => ?_)
    · skip
      refine v_iload_n dX10_statement_29 rfl ?_
      refine v_bipush dX10_statement_30 (by decide +kernel) ?_
      refine v_icmp_ne (tgt := 51) dX10_statement_32 (by decide) ⟨by omega, by omega⟩ ⟨by omega, by omega⟩ (fun h32 => ?_) (fun h32 => ?_)
      · skip
        first | exact v_to (tail _ hM hF (by omega)) rfl (sw_h1 rfl (sw_h1 rfl (sw_h1 rfl sw_h0))) | (exfalso; omega)
      · skip
        refine v_aload_n dX10_statement_35 rfl ?_
        refine v_getfH 6 hM.1 fl_X10_16 rfl dX10_statement_36 ?_
        refine v_iload_n dX10_statement_39 rfl ?_
        refine v_ria hM ar_6 (by omega) (by omega) q6 dX10_statement_40 ?_
        refine v_bipush dX10_statement_41 (by decide +kernel) ?_
        refine v_icmp_ne (tgt := 51) dX10_statement_43 (by decide) ⟨by omega, by omega⟩ ⟨by omega, by omega⟩ (fun h43 => ?_) (fun h43 => ?_)
        · skip
          first | exact v_to (tail _ hM hF (by omega)) rfl (sw_h1 rfl (sw_h1 rfl (sw_h1 rfl sw_h0))) | (exfalso; omega)
        · skip
          first | exact v_to (none' _ hM hF (by omega)) rfl (sw_h1 rfl (sw_h1 rfl (sw_h1 rfl sw_h0))) | (exfalso; omega)
    · skip
      refine v_iload_n dX10_statement_17 rfl ?_
      refine v_bipush dX10_statement_18 (by decide +kernel) ?_
      refine v_icmp_eq (tgt := 29) dX10_statement_20 (by decide) ⟨by omega, by omega⟩ ⟨by omega, by omega⟩ (fun h20 => ?_) (fun h20 => ?_)
      · skip
        refine v_iload_n dX10_statement_29 rfl ?_
        refine v_bipush dX10_statement_30 (by decide +kernel) ?_
        refine v_icmp_ne (tgt := 51) dX10_statement_32 (by decide) ⟨by omega, by omega⟩ ⟨by omega, by omega⟩ (fun h32 => ?_) (fun h32 => ?_)
        · skip
          first | exact v_to (tail _ hM hF (by omega)) rfl (sw_h1 rfl (sw_h1 rfl (sw_h1 rfl sw_h0))) | (exfalso; omega)
        · skip
          refine v_aload_n dX10_statement_35 rfl ?_
          refine v_getfH 6 hM.1 fl_X10_16 rfl dX10_statement_36 ?_
          refine v_iload_n dX10_statement_39 rfl ?_
          refine v_ria hM ar_6 (by omega) (by omega) q6 dX10_statement_40 ?_
          refine v_bipush dX10_statement_41 (by decide +kernel) ?_
          refine v_icmp_ne (tgt := 51) dX10_statement_43 (by decide) ⟨by omega, by omega⟩ ⟨by omega, by omega⟩ (fun h43 => ?_) (fun h43 => ?_)
          · skip
            first | exact v_to (tail _ hM hF (by omega)) rfl (sw_h1 rfl (sw_h1 rfl (sw_h1 rfl sw_h0))) | (exfalso; omega)
          · skip
            first | exact v_to (none' _ hM hF (by omega)) rfl (sw_h1 rfl (sw_h1 rfl (sw_h1 rfl sw_h0))) | (exfalso; omega)
      · skip
        refine v_iload_n dX10_statement_23 rfl ?_
        refine v_bipush dX10_statement_24 (by decide +kernel) ?_
        refine v_icmp_ne (tgt := 46) dX10_statement_26 (by decide) ⟨by omega, by omega⟩ ⟨by omega, by omega⟩ (fun h26 => ?_) (fun h26 => ?_)
        · skip
          first | exact v_to (none' _ hM hF (by omega)) rfl (sw_h1 rfl (sw_h1 rfl (sw_h1 rfl sw_h0))) | (exfalso; omega)
        · skip
          refine v_iload_n dX10_statement_29 rfl ?_
          refine v_bipush dX10_statement_30 (by decide +kernel) ?_
          refine v_icmp_ne (tgt := 51) dX10_statement_32 (by decide) ⟨by omega, by omega⟩ ⟨by omega, by omega⟩ (fun h32 => ?_) (fun h32 => ?_)
          · skip
            first | exact v_to (tail _ hM hF (by omega)) rfl (sw_h1 rfl (sw_h1 rfl (sw_h1 rfl sw_h0))) | (exfalso; omega)
          · skip
            refine v_aload_n dX10_statement_35 rfl ?_
            refine v_getfH 6 hM.1 fl_X10_16 rfl dX10_statement_36 ?_
            refine v_iload_n dX10_statement_39 rfl ?_
            refine v_ria hM ar_6 (by omega) (by omega) q6 dX10_statement_40 ?_
            refine v_bipush dX10_statement_41 (by decide +kernel) ?_
            refine v_icmp_ne (tgt := 51) dX10_statement_43 (by decide) ⟨by omega, by omega⟩ ⟨by omega, by omega⟩ (fun h43 => ?_) (fun h43 => ?_)
            · skip
              first | exact v_to (tail _ hM hF (by omega)) rfl (sw_h1 rfl (sw_h1 rfl (sw_h1 rfl sw_h0))) | (exfalso; omega)
            · skip
              first | exact v_to (none' _ hM hF (by omega)) rfl (sw_h1 rfl (sw_h1 rfl (sw_h1 rfl sw_h0))) | (exfalso; omega)
theorem K10_readSale {s len : Int} (V' W' O' St : Int → Int) (hM : RS G M x a) (h2 : x 2 = len) (hw : wfT (a 1) len) (hs : 0 ≤ s ∧ s ≤ 8) : Kt l G μX10_readSale [.ref (sw_al G 70), sw_i s] M (fun r M' => ∃ a' b w, r = some (sw_i w) ∧ RS G M' (upn (upn x 3 b) 4 w) a' ∧ frR M M' ∧ frA s a a' ∧ w = (rd (a 1) len V' W' O' St).1 ∧ (w = -1 → rowR a' s (rd (a 1) len V' W' O' St).2)) := by
  refine KtA.of (by decide +kernel) (Nat.le_of_ble_eq_true rfl) ?_
  have hF : frR M M := frR.rf
  obtain ⟨l0, l1, hby⟩ := id hw
  obtain ⟨f, hf⟩ : ∃ f, a 1 = f := ⟨_, rfl⟩
  rw [hf] at hw hby ⊢
  obtain ⟨RD, hR⟩ : ∃ RD, rd f len V' W' O' St = RD := ⟨_, rfl⟩
  rw [hR]
  obtain ⟨Zq, hZ⟩ : ∃ Zq : Option Value → sw_M → Prop, Zq = (fun r M' => ∃ a' b w, r = some (sw_i w) ∧ RS G M' (upn (upn x 3 b) 4 w) a' ∧ frR M M' ∧ frA s a a' ∧ w = RD.1 ∧ (w = -1 → rowR a' s RD.2)) := ⟨_, rfl⟩
  rw [← hZ]
  have fin : ∀ (a' : Nat → Int → Int) (b w : Int) (M1 : sw_M), RS G M1 (upn (upn x 3 b) 4 w) a' → frR M M1 → frA s a a' → w = RD.1 → (w = -1 → rowR a' s RD.2) → Zq (some (sw_i w)) M1 := by
    intro a' b w M1 g1 g2 g3 g4 g5
    rw [hZ]
    exact ⟨a', b, w, rfl, g1, g2, g3, g4, g5⟩
  have k2 : ∀ b w, upn (upn x 3 b) 4 w 2 = len := fun b w => (upn_o (by decide)).trans ((upn_o (by decide)).trans h2)
  have k3 : ∀ b w, upn (upn x 3 b) 4 w 3 = b := fun b w => (upn_o (by decide)).trans upn_s
  have k4 : ∀ b w, upn (upn x 3 b) 4 w 4 = w := fun b w => upn_s
  have kx : ∀ b w c, upn (upn (upn x 3 b) 4 w) 3 c = upn (upn x 3 c) 4 w := fun b w c => by rw [upn_comm (show (4 : Nat) ≠ 3 by decide), upn_upn]
  have kb : ∀ b w c, upn (upn (upn x 3 b) 4 w) 4 c = upn (upn x 3 b) 4 c := fun b w c => upn_upn
  have lkn : ∀ b, 0 ≤ b → (lk f len b = -1 ↔ len ≤ b) := fun b hb => by
    unfold lk
    by_cases c : b < len
    · rw [if_pos c]
      have := hby b hb c
      omega
    · rw [if_neg c]; omega
  -- a fault stands: the end
  have stop : ∀ (b w : Int) (a1 : Nat → Int → Int) (M1 : sw_M), w ≠ -1 → (-1 ≤ w ∧ w ≤ 600) → RS G M1 (upn (upn x 3 b) 4 w) a1 → frR M M1 → frA s a a1 → w = RD.1 → V l G μX10_readSale sw_E0 (sw_Zq G μX10_readSale (sw_q0 G Zq)) 73 [(0, .ref (sw_al G 70)), (1, sw_i s)] [] M1 0 0 := by
    intro b w a1 M1 hne hwb hM hF hA e
    have f4 := k4 b w
    refine v_aload_n dX10_readSale_73 rfl ?_
    refine v_rgi 4 hM f4 fl_X10_94 rfl dX10_readSale_74 ?_
    refine v_iconst dX10_readSale_77 ?_
    refine v_icmp_ne (tgt := 108) dX10_readSale_78 (by decide) ⟨by omega, by omega⟩ ⟨by omega, by omega⟩ (fun h78 => ?_) (fun h78 => ?_)
    · skip
      refine v_aload_n dX10_readSale_108 rfl ?_
      refine v_rgi 4 hM f4 fl_X10_94 rfl dX10_readSale_109 ?_
      refine v_iconst dX10_readSale_112 ?_
      refine v_icmp_ne (tgt := 137) dX10_readSale_113 (by decide) ⟨by omega, by omega⟩ ⟨by omega, by omega⟩ (fun h113 => ?_) (fun h113 => ?_)
      · skip
        refine v_aload_n dX10_readSale_137 rfl ?_
        refine v_rgi 4 hM f4 fl_X10_94 rfl dX10_readSale_138 ?_
        exact v_iret dX10_readSale_141 rfl (Nat.le_refl _) (Nat.le_refl _) (fin a1 b w _ hM hF hA e (fun h => absurd h hne))
      · skip
        exfalso; omega
    · skip
      exfalso; omega
  have loop : ∀ (n : Nat) (i b : Int) (σ : SaleT) (a1 : Nat → Int → Int) (M1 : sw_M), 0 ≤ i → i + n = 241 → i ≤ b → b ≤ len → RS G M1 (upn (upn x 3 b) 4 (-1)) a1 → frR M M1 → frA s a a1 → rowR a1 s σ → (0 ≤ sTr σ ∧ sTr σ ≤ 8) → (2 ≤ sSg σ ∧ sSg σ ≤ 5) → RD = rdl f len n b (-1) σ → V l G μX10_readSale sw_E0 (sw_Zq G μX10_readSale (sw_q0 G Zq)) 73 [(0, .ref (sw_al G 70)), (1, sw_i s)] [] M1 0 0 := by
    intro n
    induction n with
    | zero => intro i b σ a1 M1 i0 i1 hib hbl; exfalso; omega
    | succ n ih =>
      intro i b σ a1 M1 i0 i1 hib hbl hM hF hA hr ht hsg hRD
      have ef : a1 1 = f := by rw [hA.1 1 (by omega), hf]
      have hw1 : wfT (a1 1) len := by rw [ef]; exact hw
      have hs0 := sk_le f len 240 b
      obtain ⟨c1, hc1⟩ : ∃ c1, sk f len 240 b = c1 := ⟨_, rfl⟩
      have hnb : lk f len c1 ≠ 32 := by rw [← hc1]; exact sk_end 240 (by omega)
      have hst : rdl f len (n + 1) b (-1) σ = (if len ≤ sk f len 240 b then (if 0 < sTr σ then -1 else sk f len 240 b, σ) else if lk f len (sk f len 240 b) = 59 then rdl f len n (cla f len (sk f len 240 b + 1) σ).1 (cla f len (sk f len 240 b + 1) σ).2.1 (cla f len (sk f len 240 b + 1) σ).2.2 else (sk f len 240 b, σ)) := if_pos rfl
      rw [hst, hc1] at hRD
      rw [hc1] at hs0
      have kc := lk_bd hw (a := c1) (by omega)
      have hsk : sk f len 240 c1 = c1 := sk_no 240 hnb
      have cok := cla_ok (f := f) (len := len) (a := c1 + 1) (σ := σ) (by omega) ht
      have f4 := k4 b (-1)
      have K3c := k3 c1 (-1)
      have K4c := k4 c1 (-1)
      have K4d := k4 c1 c1
      refine v_aload_n dX10_readSale_73 rfl ?_
      refine v_rgi 4 hM f4 fl_X10_94 rfl dX10_readSale_74 ?_
      refine v_iconst dX10_readSale_77 ?_
      refine v_icmp_ne (tgt := 108) dX10_readSale_78 (by decide) ⟨by omega, by omega⟩ ⟨by omega, by omega⟩ (fun h78 => ?_) (fun h78 => ?_)
      · skip
        exfalso; omega
      · skip
        refine v_aload_n dX10_readSale_81 rfl ?_
        refine v_callV (ci := 10) (K10_look hM (k3 b (-1)) (k2 b (-1)) hw1 ⟨by omega, by omega⟩) ⟨rfl, rfl⟩ (Nat.le_refl _) (Nat.le_refl _) hM.1 rfl ⟨ml_X10_97, mm_X10_look⟩ ⟨(Nat.le_of_ble_eq_true rfl), (Nat.le_of_ble_eq_true rfl)⟩ mp_X10_look rfl rfl (Nat.le_of_ble_eq_true rfl) dX10_readSale_82 (fun r M' h => ?_)
        obtain ⟨rfl, hM1, hF1⟩ := h
        replace hM := hM1
        replace hF := hF.tr hF1
        rw [ef, hc1] at hM ⊢
        replace hM := hM.xe (kx b (-1) c1)
        refine v_bipush dX10_readSale_85 (by decide +kernel) ?_
        refine v_icmp_ne (tgt := 108) dX10_readSale_87 (by decide) ⟨by omega, by omega⟩ ⟨by omega, by omega⟩ (fun h87 => ?_) (fun h87 => ?_)
        · skip
          refine v_aload_n dX10_readSale_108 rfl ?_
          refine v_rgi 4 hM K4c fl_X10_94 rfl dX10_readSale_109 ?_
          refine v_iconst dX10_readSale_112 ?_
          refine v_icmp_ne (tgt := 137) dX10_readSale_113 (by decide) ⟨by omega, by omega⟩ ⟨by omega, by omega⟩ (fun h113 => ?_) (fun h113 => ?_)
          · skip
            exfalso; omega
          · skip
            refine v_aload_n dX10_readSale_116 rfl ?_
            refine v_callV (ci := 10) (K10_look hM (k3 c1 (-1)) (k2 c1 (-1)) hw1 ⟨by omega, by omega⟩) ⟨rfl, rfl⟩ (Nat.le_refl _) (Nat.le_refl _) hM.1 rfl ⟨ml_X10_97, mm_X10_look⟩ ⟨(Nat.le_of_ble_eq_true rfl), (Nat.le_of_ble_eq_true rfl)⟩ mp_X10_look rfl rfl (Nat.le_of_ble_eq_true rfl) dX10_readSale_117 (fun r M' h => ?_)
            obtain ⟨rfl, hM1, hF1⟩ := h
            replace hM := hM1
            replace hF := hF.tr hF1
            rw [ef, hsk] at hM ⊢
            replace hM := hM.xe (kx c1 (-1) c1)
            refine v_iconst dX10_readSale_120 ?_
            refine v_icmp_ne (tgt := 133) dX10_readSale_121 (by decide) ⟨by omega, by omega⟩ ⟨by omega, by omega⟩ (fun h121 => ?_) (fun h121 => ?_)
            · skip
              have ew : c1 = RD.1 := by
                rw [hRD]
                by_cases q : len ≤ c1
                · rw [if_pos q]
                  have := (lkn c1 (by omega)).mpr q
                  dsimp only
                  rw [if_neg (by omega)]
                · rw [if_neg q, if_neg (by omega)]
              refine v_aload_n dX10_readSale_133 rfl ?_
              refine v_callV (ci := 10) (K10_bad hM (at' := c1) (wr := -1) (k3 c1 (-1)) (k4 c1 (-1)) ⟨by omega, by omega⟩) ⟨rfl, rfl⟩ (Nat.le_refl _) (Nat.le_refl _) hM.1 rfl ⟨ml_X10_104, mm_X10_bad⟩ ⟨(Nat.le_of_ble_eq_true rfl), (Nat.le_of_ble_eq_true rfl)⟩ mp_X10_bad rfl rfl (Nat.le_of_ble_eq_true rfl) dX10_readSale_134 (fun r M' h => ?_)
              obtain ⟨rfl, hM1, hF1⟩ := h
              replace hM := hM1
              replace hF := hF.tr hF1
              replace hM := hM.xe (x' := upn (upn x 3 c1) 4 c1) (kb _ _ _)
              refine v_aload_n dX10_readSale_137 rfl ?_
              refine v_rgi 4 hM K4d fl_X10_94 rfl dX10_readSale_138 ?_
              exact v_iret dX10_readSale_141 rfl (Nat.le_refl _) (Nat.le_refl _) (fin a1 c1 c1 _ hM hF hA ew (fun h => by omega))
            · skip
              refine v_aload_n dX10_readSale_124 rfl ?_
              refine v_getfH 6 hM.1 fl_X10_16 rfl dX10_readSale_125 ?_
              refine v_iload_n dX10_readSale_128 rfl ?_
              refine v_ria hM ar_6 (by omega) (by omega) hr.2.1 dX10_readSale_129 ?_
              refine v_if_ne (tgt := 137) dX10_readSale_130 (by decide) ⟨by omega, by omega⟩ (fun h130 => ?_) (fun h130 => ?_)
              · skip
                refine v_aload_n dX10_readSale_137 rfl ?_
                refine v_rgi 4 hM K4c fl_X10_94 rfl dX10_readSale_138 ?_
                refine v_iret dX10_readSale_141 rfl (Nat.le_refl _) (Nat.le_refl _) ?_
                skip
                have q : len ≤ c1 := (lkn c1 (by omega)).mp (by omega)
                rw [if_pos q, if_pos (by omega)] at hRD
                exact fin a1 c1 (-1) _ hM hF hA (by rw [hRD]) (fun _ => by rw [hRD]; exact hr)
              · skip
                have ew : c1 = RD.1 := by
                  rw [hRD]
                  by_cases q : len ≤ c1
                  · rw [if_pos q]
                    have := (lkn c1 (by omega)).mpr q
                    dsimp only
                    rw [if_neg (by omega)]
                  · rw [if_neg q, if_neg (by omega)]
                refine v_aload_n dX10_readSale_133 rfl ?_
                refine v_callV (ci := 10) (K10_bad hM (at' := c1) (wr := -1) (k3 c1 (-1)) (k4 c1 (-1)) ⟨by omega, by omega⟩) ⟨rfl, rfl⟩ (Nat.le_refl _) (Nat.le_refl _) hM.1 rfl ⟨ml_X10_104, mm_X10_bad⟩ ⟨(Nat.le_of_ble_eq_true rfl), (Nat.le_of_ble_eq_true rfl)⟩ mp_X10_bad rfl rfl (Nat.le_of_ble_eq_true rfl) dX10_readSale_134 (fun r M' h => ?_)
                obtain ⟨rfl, hM1, hF1⟩ := h
                replace hM := hM1
                replace hF := hF.tr hF1
                replace hM := hM.xe (x' := upn (upn x 3 c1) 4 c1) (kb _ _ _)
                refine v_aload_n dX10_readSale_137 rfl ?_
                refine v_rgi 4 hM K4d fl_X10_94 rfl dX10_readSale_138 ?_
                exact v_iret dX10_readSale_141 rfl (Nat.le_refl _) (Nat.le_refl _) (fin a1 c1 c1 _ hM hF hA ew (fun h => by omega))
        · skip
          refine v_aload_n dX10_readSale_90 rfl ?_
          refine v_dup dX10_readSale_91 rfl ?_
          refine v_rgi 3 hM K3c fl_X10_87 rfl dX10_readSale_92 ?_
          refine v_iconst dX10_readSale_95 ?_
          refine v_iadd dX10_readSale_96 ?_
          refine v_rp 3 hM hF (flS_3 G _ _) fp_X10_87 rfl rfl (Nat.le_of_ble_eq_true rfl) dX10_readSale_97 (fun M hM hF => ?_)
          replace hM := hM.xe (kx c1 (-1) (c1 + 1))
          have hlt : c1 < len := by
            by_cases q : len ≤ c1
            · have := (lkn c1 (by omega)).mpr q
              omega
            · omega
          have cok := cok (by omega)
          refine v_aload_n dX10_readSale_100 rfl ?_
          refine v_iload_n dX10_readSale_101 rfl ?_
          refine v_callV (ci := 10) (K10_statement hM (at' := c1 + 1) (len := len) (σ := σ) (k3 _ _) (k2 _ _) (k4 _ _) hw1 ⟨by omega, by omega⟩ hs hr ht hsg) ⟨rfl, rfl⟩ (Nat.le_refl _) (Nat.le_refl _) hM.1 rfl ⟨ml_X10_115, mm_X10_statement⟩ ⟨(Nat.le_of_ble_eq_true rfl), (Nat.le_of_ble_eq_true rfl)⟩ mp_X10_statement rfl rfl (Nat.le_of_ble_eq_true rfl) dX10_readSale_102 (fun r M' h => ?_)
          obtain ⟨a2, b2, w2, rfl, hM1, hF1, hA1, e1, e2, e3⟩ := h
          replace hM := hM1.xe (x' := upn (upn x 3 b2) 4 w2) (by rw [kx, kb])
          replace hF := hF.tr hF1
          rw [ef] at e1 e2
          have hRD : RD = rdl f len n (cla f len (c1 + 1) σ).1 (cla f len (c1 + 1) σ).2.1 (cla f len (c1 + 1) σ).2.2 := by rw [hRD, if_neg (by omega), if_pos (by omega)]
          refine v_goto (tgt := 73) dX10_readSale_105 (by decide) ?_
          by_cases cw : w2 = -1
          · obtain ⟨e4, e5⟩ := e2 cw
            subst cw
            rw [← e1, ← e4] at hRD
            exact v_to (ih (i + 1) b2 _ a2 _ (by omega) (by omega) (by omega) (by omega) hM hF (hA.tr hA1) e5 (by omega) (by omega) hRD) rfl (sw_h1 rfl (sw_h1 rfl sw_h0))
          · refine v_to (stop b2 w2 a2 _ cw (by omega) hM hF (hA.tr hA1) ?_) rfl (sw_h1 rfl (sw_h1 rfl sw_h0))
            rw [hRD, ← e1, rdl_wr n cw]
  obtain ⟨a0, ha0⟩ : ∃ a0, sk f len 240 0 = a0 := ⟨_, rfl⟩
  have hs0 := sk_le f len 240 0
  rw [ha0] at hs0
  have kc := lk_bd hw (a := a0) (by omega)
  have hRD : RD = if lk f len a0 = 115 then rdl f len 241 (nmb f len (a0 + 1) 2 5).2.1 (nmb f len (a0 + 1) 2 5).2.2 ((nmb f len (a0 + 1) 2 5).1, 0, 2, 0, 0, V', W', O', fl St (-1) 4) else (a0, (0, 0, 2, 0, 0, V', W', O', fl St (-1) 4)) := by
    rw [← hR, ← ha0]; rfl
  have hA0 : frA s a (upa (upa (upa (upa a 6 (up (a 6) s 0)) 10 (up (a 10) s 2)) 11 (up (a 11) s 0)) 12 (up (a 12) s 0)) := (((frA.s1 (by omega) 0).tr (frA.s1 (a := upa a 6 (up (a 6) s 0)) (q := 10) (by omega) 2)).tr (frA.s1 (a := upa (upa a 6 (up (a 6) s 0)) 10 (up (a 10) s 2)) (q := 11) (by omega) 0)).tr (frA.s1 (a := upa (upa (upa a 6 (up (a 6) s 0)) 10 (up (a 10) s 2)) 11 (up (a 11) s 0)) (q := 12) (by omega) 0)
  obtain ⟨aq, haq⟩ : ∃ aq, upa (upa (upa (upa a 6 (up (a 6) s 0)) 10 (up (a 10) s 2)) 11 (up (a 11) s 0)) 12 (up (a 12) s 0) = aq := ⟨_, rfl⟩
  have g6 : aq 6 s = 0 := by rw [← haq]; exact up_eq
  have g10 : aq 10 s = 2 := by rw [← haq]; exact up_eq
  have g11 : aq 11 s = 0 := by rw [← haq]; exact up_eq
  have g12 : aq 12 s = 0 := by rw [← haq]; exact up_eq
  rw [haq] at hA0
  have ef : aq 1 = f := by rw [hA0.1 1 (by omega), hf]
  have hw1 : wfT (aq 1) len := by rw [ef]; exact hw
  have K3a := k3 a0 a0
  have K3b := k3 a0 (-1)
  refine v_aload_n dX10_readSale_0 rfl ?_
  refine v_iconst dX10_readSale_1 ?_
  refine v_rp 3 hM hF (flS_3 G _ _) fp_X10_87 rfl rfl (Nat.le_of_ble_eq_true rfl) dX10_readSale_2 (fun M hM hF => ?_)
  refine v_aload_n dX10_readSale_5 rfl ?_
  refine v_iconst dX10_readSale_6 ?_
  refine v_rp 4 hM hF (flS_4 G _ _) fp_X10_94 rfl rfl (Nat.le_of_ble_eq_true rfl) dX10_readSale_7 (fun M hM hF => ?_)
  refine v_aload_n dX10_readSale_10 rfl ?_
  refine v_getfH 6 hM.1 fl_X10_16 rfl dX10_readSale_11 ?_
  refine v_iload_n dX10_readSale_14 rfl ?_
  refine v_iconst dX10_readSale_15 ?_
  refine v_ris hM hF ar_6 (by omega) (by omega) dX10_readSale_16 (fun M hM hF => ?_)
  refine v_aload_n dX10_readSale_17 rfl ?_
  refine v_getfH 10 hM.1 fl_X10_28 rfl dX10_readSale_18 ?_
  refine v_iload_n dX10_readSale_21 rfl ?_
  refine v_iconst dX10_readSale_22 ?_
  refine v_ris hM hF ar_10 (by omega) (by omega) dX10_readSale_23 (fun M hM hF => ?_)
  refine v_aload_n dX10_readSale_24 rfl ?_
  refine v_getfH 11 hM.1 fl_X10_31 rfl dX10_readSale_25 ?_
  refine v_iload_n dX10_readSale_28 rfl ?_
  refine v_iconst dX10_readSale_29 ?_
  refine v_ris hM hF ar_11 (by omega) (by omega) dX10_readSale_30 (fun M hM hF => ?_)
  refine v_aload_n dX10_readSale_31 rfl ?_
  refine v_getfH 12 hM.1 fl_X10_34 rfl dX10_readSale_32 ?_
  refine v_iload_n dX10_readSale_35 rfl ?_
  refine v_iconst dX10_readSale_36 ?_
  refine v_ris hM hF ar_12 (by omega) (by omega) dX10_readSale_37 (fun M hM hF => ?_)
  replace hM : RS G M (upn (upn x 3 0) 4 (-1)) aq := by rw [← haq]; exact hM
  refine v_aload_n dX10_readSale_38 rfl ?_
  refine v_callV (ci := 10) (K10_look hM (k3 0 (-1)) (k2 0 (-1)) hw1 ⟨by omega, by omega⟩) ⟨rfl, rfl⟩ (Nat.le_refl _) (Nat.le_refl _) hM.1 rfl ⟨ml_X10_97, mm_X10_look⟩ ⟨(Nat.le_of_ble_eq_true rfl), (Nat.le_of_ble_eq_true rfl)⟩ mp_X10_look rfl rfl (Nat.le_of_ble_eq_true rfl) dX10_readSale_39 (fun r M' h => ?_)
  obtain ⟨rfl, hM1, hF1⟩ := h
  replace hM := hM1
  replace hF := hF.tr hF1
  rw [ef, ha0] at hM ⊢
  replace hM := hM.xe (kx 0 (-1) a0)
  refine v_bipush dX10_readSale_42 (by decide +kernel) ?_
  refine v_icmp_eq (tgt := 51) dX10_readSale_44 (by decide) ⟨by omega, by omega⟩ ⟨by omega, by omega⟩ (fun q1 => ?_) (fun q1 => ?_)
  · skip
    refine v_aload_n dX10_readSale_51 rfl ?_
    refine v_dup dX10_readSale_52 rfl ?_
    refine v_rgi 3 hM K3b fl_X10_87 rfl dX10_readSale_53 ?_
    refine v_iconst dX10_readSale_56 ?_
    refine v_iadd dX10_readSale_57 ?_
    refine v_rp 3 hM hF (flS_3 G _ _) fp_X10_87 rfl rfl (Nat.le_of_ble_eq_true rfl) dX10_readSale_58 (fun M hM hF => ?_)
    replace hM := hM.xe (kx a0 (-1) (a0 + 1))
    refine v_aload_n dX10_readSale_61 rfl ?_
    refine v_getfH 5 hM.1 fl_X10_13 rfl dX10_readSale_62 ?_
    refine v_iload_n dX10_readSale_65 rfl ?_
    refine v_aload_n dX10_readSale_66 rfl ?_
    refine v_iconst dX10_readSale_67 ?_
    refine v_iconst dX10_readSale_68 ?_
    refine v_callV (ci := 10) (K10_number hM (at' := a0 + 1) (len := len) (wr := -1) (k3 _ _) (k2 _ _) (k4 _ _) hw1 ⟨by omega, by omega⟩ (fun _ => by omega) ⟨by omega, by omega⟩ ⟨by omega, by omega⟩ ⟨by omega, by omega⟩) ⟨rfl, rfl⟩ (Nat.le_refl _) (Nat.le_refl _) hM.1 rfl ⟨ml_X10_111, mm_X10_number⟩ ⟨(Nat.le_of_ble_eq_true rfl), (Nat.le_of_ble_eq_true rfl)⟩ mp_X10_number rfl rfl (Nat.le_of_ble_eq_true rfl) dX10_readSale_69 (fun r M' h => ?_)
    obtain ⟨v, b, w, rfl, hM1, hF1, n1, n2, n3, n4⟩ := h
    replace hM := hM1.xe (x' := upn (upn x 3 b) 4 w) (by rw [kx, kb])
    replace hF := hF.tr hF1
    rw [ef] at n1 n2
    have e9 : nmx f len (a0 + 1) (-1) 2 5 = nmb f len (a0 + 1) 2 5 := if_pos rfl
    rw [e9] at n1 n2
    rw [if_pos (by omega)] at hRD
    have nok := nmb_ok (f := f) (len := len) (a := a0 + 1) (lo := 2) (hi := 5)
    refine v_ris hM hF ar_5 (by omega) (by omega) dX10_readSale_72 (fun M hM hF => ?_)
    by_cases cw : w = -1
    · obtain ⟨e4, e5⟩ := n2 cw
      subst cw
      refine v_to (loop 241 0 b ((nmb f len (a0 + 1) 2 5).1, 0, 2, 0, 0, V', W', O', fl St (-1) 4) _ _ (by omega) (by omega) (by omega) (by omega) hM hF (hA0.tr (frA.s1 (by omega) v)) ⟨up_eq.trans e4, g6, g10, g11, g12, fun t t0 t1 => ?_⟩ ⟨Int.le_refl 0, by show (0 : Int) ≤ 8; omega⟩ (show 2 ≤ (nmb f len (a0 + 1) 2 5).1 ∧ (nmb f len (a0 + 1) 2 5).1 ≤ 5 by omega) (by rw [hRD, ← n1, ← e5])) rfl (sw_h1 rfl (sw_h1 rfl sw_h0))
      have t1 : t < 0 := t1
      omega
    · refine v_to (stop b w _ _ cw (by omega) hM hF (hA0.tr (frA.s1 (by omega) v)) ?_) rfl (sw_h1 rfl (sw_h1 rfl sw_h0))
      rw [hRD, ← n1, rdl_wr 241 cw]
  · skip
    refine v_aload_n dX10_readSale_47 rfl ?_
    refine v_callV (ci := 10) (K10_bad hM (at' := a0) (wr := -1) (k3 a0 (-1)) (k4 a0 (-1)) ⟨by omega, by omega⟩) ⟨rfl, rfl⟩ (Nat.le_refl _) (Nat.le_refl _) hM.1 rfl ⟨ml_X10_104, mm_X10_bad⟩ ⟨(Nat.le_of_ble_eq_true rfl), (Nat.le_of_ble_eq_true rfl)⟩ mp_X10_bad rfl rfl (Nat.le_of_ble_eq_true rfl) dX10_readSale_48 (fun r M' h => ?_)
    obtain ⟨rfl, hM1, hF1⟩ := h
    replace hM := hM1
    replace hF := hF.tr hF1
    replace hM := hM.xe (x' := upn (upn x 3 a0) 4 a0) (kb _ _ _)
    refine v_aload_n dX10_readSale_51 rfl ?_
    refine v_dup dX10_readSale_52 rfl ?_
    refine v_rgi 3 hM K3a fl_X10_87 rfl dX10_readSale_53 ?_
    refine v_iconst dX10_readSale_56 ?_
    refine v_iadd dX10_readSale_57 ?_
    refine v_rp 3 hM hF (flS_3 G _ _) fp_X10_87 rfl rfl (Nat.le_of_ble_eq_true rfl) dX10_readSale_58 (fun M hM hF => ?_)
    replace hM := hM.xe (kx a0 a0 (a0 + 1))
    refine v_aload_n dX10_readSale_61 rfl ?_
    refine v_getfH 5 hM.1 fl_X10_13 rfl dX10_readSale_62 ?_
    refine v_iload_n dX10_readSale_65 rfl ?_
    refine v_aload_n dX10_readSale_66 rfl ?_
    refine v_iconst dX10_readSale_67 ?_
    refine v_iconst dX10_readSale_68 ?_
    refine v_callV (ci := 10) (K10_number hM (at' := a0 + 1) (len := len) (wr := a0) (k3 _ _) (k2 _ _) (k4 _ _) hw1 ⟨by omega, by omega⟩ (fun _ => by omega) ⟨by omega, by omega⟩ ⟨by omega, by omega⟩ ⟨by omega, by omega⟩) ⟨rfl, rfl⟩ (Nat.le_refl _) (Nat.le_refl _) hM.1 rfl ⟨ml_X10_111, mm_X10_number⟩ ⟨(Nat.le_of_ble_eq_true rfl), (Nat.le_of_ble_eq_true rfl)⟩ mp_X10_number rfl rfl (Nat.le_of_ble_eq_true rfl) dX10_readSale_69 (fun r M' h => ?_)
    obtain ⟨v, b, w, rfl, hM1, hF1, n1, n2, n3, n4⟩ := h
    replace hM := hM1.xe (x' := upn (upn x 3 b) 4 w) (by rw [kx, kb])
    replace hF := hF.tr hF1
    have e9 : nmx (aq 1) len (a0 + 1) a0 2 5 = (0, a0 + 1, a0) := if_neg (by omega)
    rw [e9] at n1
    have n1 : w = a0 := n1
    rw [if_neg (by omega)] at hRD
    refine v_ris hM hF ar_5 (by omega) (by omega) dX10_readSale_72 (fun M hM hF => ?_)
    exact v_to (stop b w _ _ (by omega) (by omega) hM hF (hA0.tr (frA.s1 (by omega) v)) (by rw [hRD, n1])) rfl (sw_h1 rfl (sw_h1 rfl sw_h0))
end

