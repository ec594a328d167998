/-! the reference: what one still in would leave at, its walk -/
theorem bit_at {n o : Nat} (hn : n < 16) (ho : o < 4) : iN (((iN (n : Int)) >>> ((iN (o : Int)) &&& 31)).toInt) &&& iN 1 = iN ((n / 2 ^ o % 2 : Nat) : Int) := by
  have h4 : o = 0 ∨ o = 1 ∨ o = 2 ∨ o = 3 := by omega
  rcases h4 with rfl | rfl | rfl | rfl <;> rcases lt16 hn with rfl | rfl | rfl | rfl | rfl | rfl | rfl | rfl | rfl | rfl | rfl | rfl | rfl | rfl | rfl | rfl <;> decide +kernel
section
variable {l : Launch} {G : sw_G} {M : sw_M} {s : CSt} {k : Int} {x : Nat → Int} {a : Nat → Int → Int}
theorem K10_heldOf {σ : SaleT} {n m i : Nat} {Gn Ld : Int → Int} (hM : RS G M x a) (hr : rowR a k σ) (hk : 0 ≤ k ∧ k < 8) (hw : wfS σ) (hm : (m : Int) = sNb σ) (h21 : x 21 = (m : Int)) (h42 : ∀ j, 0 ≤ j → j < 4 → a 42 j = Ld j) (hLd : ∀ j : Nat, j < m → 0 ≤ Ld j ∧ Ld j < sSg σ) (hi : i < m) (hn : inB n m Gn) : Kt l G μX10_heldOf [.ref (sw_al G 70), sw_i k, sw_i (i : Int), sw_i (n : Int)] M (fun r M' => ∃ x' a', r = some (sw_i (lmt σ Gn Ld i)) ∧ RS G M' x' a' ∧ frR M M' ∧ xfr [16, 17] x x' ∧ afr [15] a a') := by
  refine KtA.of (by decide +kernel) (Nat.le_of_ble_eq_true rfl) ?_
  have hF : frR M M := frR.rf
  have hsg := hw.1
  have hnb := hw.2.2.1
  have hn16 := hn.1
  have hli := hLd i hi
  have g42i := h42 i (by omega) (by omega)
  have hbc : 0 ≤ bc4 n ∧ bc4 n ≤ 4 := by unfold bc4; omega
  have hlm : ∀ o : Nat, o < 4 → soN σ (lmS (sNb σ) Gn Ld i o) := fun o ho => by
    unfold lmS soN
    by_cases c : (o : Int) < sNb σ
    · rw [if_pos c]
      by_cases d : Gn o = 0
      · rw [if_pos d]; exact Or.inr hli
      · rw [if_neg d]; exact Or.inr (hLd o (by omega))
    · rw [if_neg c]; exact Or.inl rfl
  have hlt : lmt σ Gn Ld i = hld σ (lmS m Gn Ld i 0) (lmS m Gn Ld i 1) (lmS m Gn Ld i 2) (lmS m Gn Ld i 3) := by unfold lmt; rw [hm]
  obtain ⟨Zq, hZ⟩ : ∃ Zq : Option Value → sw_M → Prop, Zq = (fun r M' => ∃ x' a', r = some (sw_i (lmt σ Gn Ld i)) ∧ RS G M' x' a' ∧ frR M M' ∧ xfr [16, 17] x x' ∧ afr [15] a a') := ⟨_, rfl⟩
  rw [← hZ]
  have out : ∀ (c o : Nat) (a1 : Nat → Int → Int) (M1 : sw_M), o + c = m → RS G M1 x a1 → frR M M1 → afr [15] a a1 → (∀ j, 0 ≤ j → j < 5 → a1 15 j = (if j = Ld i then bc4 n else 0) + ctO n Ld o j) → V l G μX10_heldOf sw_E0 (sw_Zq G μX10_heldOf (sw_q0 G Zq)) 44 [(0, .ref (sw_al G 70)), (1, sw_i k), (2, sw_i (i : Int)), (3, sw_i (n : Int)), (4, sw_i (o : Int))] [] M1 0 0 := by
    intro c
    induction c with
    | zero =>
      intro o a1 M1 ho hM hF ha h15
      have e : o = m := by omega
      subst e
      refine v_iload dX10_heldOf_44 rfl ?_
      refine v_aload_n dX10_heldOf_46 rfl ?_
      refine v_rgi 21 hM h21 fl_X10_176 rfl dX10_heldOf_47 ?_
      refine v_icmp_ge (tgt := 88) dX10_heldOf_50 (by decide) ⟨by omega, by omega⟩ ⟨by omega, by omega⟩ (fun h50 => ?_) (fun h50 => ?_)
      · skip
        refine v_aload_n dX10_heldOf_88 rfl ?_
        refine v_iload_n dX10_heldOf_89 rfl ?_
        refine v_callV (ci := 10) (K10_heldNow hM (hr.fr ha (by decide)) ⟨by omega, by omega⟩ hw (p := lmS o Gn Ld i 0) (q := lmS o Gn Ld i 1) (r' := lmS o Gn Ld i 2) (s' := lmS o Gn Ld i 3) (fun j j0 j1 => by rw [h15 j j0 j1]; exact lm_cn (by omega) hn i j0) (by rw [hm]; exact hlm 0 (by omega)) (by rw [hm]; exact hlm 1 (by omega)) (by rw [hm]; exact hlm 2 (by omega)) (by rw [hm]; exact hlm 3 (by omega))) ⟨rfl, rfl⟩ (Nat.le_refl _) (Nat.le_refl _) hM.1 rfl ⟨ml_X10_149, mm_X10_heldNow⟩ ⟨(Nat.le_of_ble_eq_true rfl), (Nat.le_of_ble_eq_true rfl)⟩ mp_X10_heldNow rfl rfl (Nat.le_of_ble_eq_true rfl) dX10_heldOf_90 (fun r M' h => ?_)
        obtain ⟨x2, rfl, hM2, hF2, hx2⟩ := h
        exact v_iret dX10_heldOf_93 rfl (Nat.le_refl _) (Nat.le_refl _) (by rw [hZ, hlt]; exact ⟨x2, a1, rfl, hM2, hF.tr hF2, hx2, ha⟩)
      · skip
        exfalso; omega
    | succ c ih =>
      intro o a1 M1 ho hM hF ha h15
      have g42 : a1 42 o = Ld o := by rw [ha 42 (by decide)]; exact h42 o (by omega) (by omega)
      have hlo := hLd o (by omega)
      have g15 := h15 (Ld o) hlo.1 (by omega)
      have hb2 : n / 2 ^ o % 2 < 2 := Nat.mod_lt _ (by omega)
      have nxt : ∀ (z : Int) (M2 : sw_M), z = (if n / 2 ^ o % 2 = 0 then 1 else 0) → RS G M2 x (upa a1 15 (up (a1 15) (Ld o) ((if Ld o = Ld i then bc4 n else 0) + ctO n Ld o (Ld o) + z))) → frR M M2 → V l G μX10_heldOf sw_E0 (sw_Zq G μX10_heldOf (sw_q0 G Zq)) 44 [(0, .ref (sw_al G 70)), (1, sw_i k), (2, sw_i (i : Int)), (3, sw_i (n : Int)), (4, sw_i ((o : Int) + 1))] [] M2 0 0 := fun z M2 e1 q1 q2 => v_to (ih (o + 1) _ M2 (by omega) q1 q2 (ha.up (k := 15) (by decide)) (fun j j0 j1 => by
        show up (a1 15) (Ld o) _ j = (if j = Ld i then bc4 n else 0) + (ctO n Ld o j + (if Ld o = j ∧ n / 2 ^ o % 2 = 0 then 1 else 0))
        by_cases c : j = Ld o
        · subst c
          rw [up_eq, e1]
          by_cases d : n / 2 ^ o % 2 = 0
          · have hz : Ld o = Ld o ∧ n / 2 ^ o % 2 = 0 := ⟨rfl, d⟩
            rw [if_pos d, if_pos hz]; omega
          · have hz : ¬ (Ld o = Ld o ∧ n / 2 ^ o % 2 = 0) := fun hh => d hh.2
            rw [if_neg d, if_neg hz]; omega
        · rw [up_ne c, h15 j j0 j1, if_neg (fun hh : Ld o = j ∧ n / 2 ^ o % 2 = 0 => c hh.1.symm)]; omega)) rfl (sw_h1 rfl (sw_h1 rfl (sw_h1 rfl (sw_h1 rfl (sw_h1 rfl sw_h0)))))
      refine v_iload dX10_heldOf_44 rfl ?_
      refine v_aload_n dX10_heldOf_46 rfl ?_
      refine v_rgi 21 hM h21 fl_X10_176 rfl dX10_heldOf_47 ?_
      refine v_icmp_ge (tgt := 88) dX10_heldOf_50 (by decide) ⟨by omega, by omega⟩ ⟨by omega, by omega⟩ (fun h50 => ?_) (fun h50 => ?_)
      · skip
        exfalso; omega
      · skip
        refine v_aload_n dX10_heldOf_53 rfl ?_
        refine v_getfH 15 hM.1 fl_X10_40 rfl dX10_heldOf_54 ?_
        refine v_aload_n dX10_heldOf_57 rfl ?_
        refine v_getfH 42 hM.1 fl_X10_61 rfl dX10_heldOf_58 ?_
        refine v_iload dX10_heldOf_61 rfl ?_
        refine v_ria hM ar_42 (by omega) (by omega) g42 dX10_heldOf_63 ?_
        refine v_dup2 dX10_heldOf_64 rfl rfl ?_
        refine v_ria hM ar_15 (by omega) (by omega) g15 dX10_heldOf_65 ?_
        refine v_iload_n dX10_heldOf_66 rfl ?_
        refine v_iload dX10_heldOf_67 rfl ?_
        refine v_ishr (z := _) dX10_heldOf_69 (sw_ofI _) ?_
        refine v_iconst dX10_heldOf_70 ?_
        refine v_iand (z := ((n / 2 ^ o % 2 : Nat) : Int)) dX10_heldOf_71 (bit_at hn16 (by omega)) ?_
        refine v_if_ne (tgt := 79) dX10_heldOf_72 (by decide) ⟨by omega, by omega⟩ (fun h72 => ?_) (fun h72 => ?_)
        · skip
          refine v_iconst dX10_heldOf_79 ?_
          refine v_iadd dX10_heldOf_80 ?_
          refine v_ris hM hF ar_15 (by omega) (by omega) dX10_heldOf_81 (fun M hM hF => ?_)
          refine v_iinc dX10_heldOf_82 rfl (Nat.le_of_ble_eq_true rfl) ?_
          refine v_goto (tgt := 44) dX10_heldOf_85 (by decide) ?_
          exact v_to (nxt _ _ (by rw [if_neg (by omega)]) hM hF) rfl (sw_h1 rfl (sw_h1 rfl (sw_h1 rfl (sw_h1 rfl (sw_h1 rfl sw_h0)))))
        · skip
          refine v_iconst dX10_heldOf_75 ?_
          refine v_goto (tgt := 80) dX10_heldOf_76 (by decide) ?_
          refine v_iadd dX10_heldOf_80 ?_
          refine v_ris hM hF ar_15 (by omega) (by omega) dX10_heldOf_81 (fun M hM hF => ?_)
          refine v_iinc dX10_heldOf_82 rfl (Nat.le_of_ble_eq_true rfl) ?_
          refine v_goto (tgt := 44) dX10_heldOf_85 (by decide) ?_
          exact v_to (nxt _ _ (by rw [if_pos (by omega)]) hM hF) rfl (sw_h1 rfl (sw_h1 rfl (sw_h1 rfl (sw_h1 rfl (sw_h1 rfl sw_h0)))))
  have fst : ∀ (c : Nat) (j : Int) (a1 : Nat → Int → Int) (M1 : sw_M), 0 ≤ j → j + c = 5 → RS G M1 x a1 → frR M M1 → afr [15] a a1 → (∀ z, 0 ≤ z → z < j → a1 15 z = if z = Ld i then bc4 n else 0) → V l G μX10_heldOf sw_E0 (sw_Zq G μX10_heldOf (sw_q0 G Zq)) 3 [(0, .ref (sw_al G 70)), (1, sw_i k), (2, sw_i (i : Int)), (3, sw_i (n : Int)), (4, sw_i j)] [] M1 0 0 := by
    intro c
    induction c with
    | zero =>
      intro j a1 M1 j0 jc hM hF ha h15
      refine v_iload dX10_heldOf_3 rfl ?_
      refine v_iconst dX10_heldOf_5 ?_
      refine v_icmp_ge (tgt := 41) dX10_heldOf_6 (by decide) ⟨by omega, by omega⟩ ⟨by omega, by omega⟩ (fun h6 => ?_) (fun h6 => ?_)
      · skip
        refine v_iconst dX10_heldOf_41 ?_
        refine v_istore dX10_heldOf_42 (Nat.le_of_ble_eq_true rfl) ?_
        exact v_to (out m 0 a1 _ (by omega) hM hF ha (fun z z0 z1 => by rw [h15 z z0 (by omega)]; show _ = _ + 0; omega)) rfl (sw_h1 rfl (sw_h1 rfl (sw_h1 rfl (sw_h1 rfl (sw_h1 rfl sw_h0)))))
      · skip
        exfalso; omega
    | succ c ih =>
      intro j a1 M1 j0 jc hM hF ha h15
      have g42 : a1 42 i = Ld i := by rw [ha 42 (by decide)]; exact g42i
      have nxt : ∀ (v : Int) (M2 : sw_M), v = (if j = Ld i then bc4 n else 0) → RS G M2 x (upa a1 15 (up (a1 15) j v)) → frR M M2 → V l G μX10_heldOf sw_E0 (sw_Zq G μX10_heldOf (sw_q0 G Zq)) 3 [(0, .ref (sw_al G 70)), (1, sw_i k), (2, sw_i (i : Int)), (3, sw_i (n : Int)), (4, sw_i (j + 1))] [] M2 0 0 := fun v M2 e1 q1 q2 => v_to (ih (j + 1) _ M2 (by omega) (by omega) q1 q2 (ha.up (k := 15) (by decide)) (fun z z0 z1 => by
        show up (a1 15) j v z = _
        by_cases c : z = j
        · subst c; rw [up_eq, e1]
        · rw [up_ne c]; exact h15 z z0 (by omega))) rfl (sw_h1 rfl (sw_h1 rfl (sw_h1 rfl (sw_h1 rfl (sw_h1 rfl sw_h0)))))
      refine v_iload dX10_heldOf_3 rfl ?_
      refine v_iconst dX10_heldOf_5 ?_
      refine v_icmp_ge (tgt := 41) dX10_heldOf_6 (by decide) ⟨by omega, by omega⟩ ⟨by omega, by omega⟩ (fun h6 => ?_) (fun h6 => ?_)
      · skip
        exfalso; omega
      · skip
        refine v_aload_n dX10_heldOf_9 rfl ?_
        refine v_getfH 15 hM.1 fl_X10_40 rfl dX10_heldOf_10 ?_
        refine v_iload dX10_heldOf_13 rfl ?_
        refine v_iload dX10_heldOf_15 rfl ?_
        refine v_aload_n dX10_heldOf_17 rfl ?_
        refine v_getfH 42 hM.1 fl_X10_61 rfl dX10_heldOf_18 ?_
        refine v_iload_n dX10_heldOf_21 rfl ?_
        refine v_ria hM ar_42 (by omega) (by omega) g42 dX10_heldOf_22 ?_
        refine v_icmp_ne (tgt := 33) dX10_heldOf_23 (by decide) ⟨by omega, by omega⟩ ⟨by omega, by omega⟩ (fun h23 => ?_) (fun h23 => ?_)
        · skip
          refine v_iconst dX10_heldOf_33 ?_
          refine v_ris hM hF ar_15 (by omega) (by omega) dX10_heldOf_34 (fun M hM hF => ?_)
          refine v_iinc dX10_heldOf_35 rfl (Nat.le_of_ble_eq_true rfl) ?_
          refine v_goto (tgt := 3) dX10_heldOf_38 (by decide) ?_
          exact v_to (nxt _ _ (by rw [if_neg (by omega)]) hM hF) rfl (sw_h1 rfl (sw_h1 rfl (sw_h1 rfl (sw_h1 rfl (sw_h1 rfl sw_h0)))))
        · skip
          refine v_iload_n dX10_heldOf_26 rfl ?_
          refine v_callS (J6_bc hn16) ⟨rfl, rfl⟩ (Nat.le_refl _) (Nat.le_refl _) ⟨ml_X10_319, mm_J6_bitCount_0f7a4⟩ ⟨(Nat.le_of_ble_eq_true rfl), (Nat.le_of_ble_eq_true rfl)⟩ mp_J6_bitCount_0f7a4 rfl rfl (Nat.le_of_ble_eq_true rfl) dX10_heldOf_27 (fun r M' h => ?_)
          obtain ⟨rfl, rfl⟩ := h
          refine v_goto (tgt := 34) dX10_heldOf_30 (by decide) ?_
          refine v_ris hM hF ar_15 (by omega) (by omega) dX10_heldOf_34 (fun M hM hF => ?_)
          refine v_iinc dX10_heldOf_35 rfl (Nat.le_of_ble_eq_true rfl) ?_
          refine v_goto (tgt := 3) dX10_heldOf_38 (by decide) ?_
          exact v_to (nxt _ _ (by rw [if_pos (by omega)]) hM hF) rfl (sw_h1 rfl (sw_h1 rfl (sw_h1 rfl (sw_h1 rfl (sw_h1 rfl sw_h0)))))
  refine v_iconst dX10_heldOf_0 ?_
  refine v_istore dX10_heldOf_1 (Nat.le_of_ble_eq_true rfl) ?_
  exact v_to (fst 5 0 a M (by omega) (by omega) hM hF afr.rf (fun z z0 z1 => by omega)) rfl (sw_h1 rfl (sw_h1 rfl (sw_h1 rfl (sw_h1 rfl (sw_h1 rfl sw_h0)))))
end

