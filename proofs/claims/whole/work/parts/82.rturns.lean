/-! the reference's face: find, its turns -/
section
variable {l : Launch} {G : sw_G} {M : sw_M} {s : CSt} {k : Int} {x : Nat → Int} {a : Nat → Int → Int}
theorem K10_turns {σ : SaleT} {n : Nat} (hM : RS G M x a) (hk : 0 ≤ k ∧ k < 8) (hw : wfS σ) (hn : (sNb σ - 1).toNat = n) (hn3 : n ≤ 3) (hBG : BG σ k x a (fun _ j => rhF σ 0 j) (n + 1) (sLe σ) (sWy σ)) (hH : ∀ j, 0 ≤ j → j < sSg σ → a 40 j = rhF σ 0 j) : Kt l G μX10_turns [.ref (sw_al G 70), sw_i k] M (fun r M' => ∃ x' a', r = some (sw_i (fnd σ 20 0).1) ∧ RS G M' x' a' ∧ frR M M' ∧ xfr XB x x' ∧ afr [15, 20, 24, 25, 40, 41] a a' ∧ BG σ k x' a' (fun _ j => rhF σ (fnd σ 20 0).2 j) (n + 1) (sLe σ) (sWy σ)) := by
  refine KtA.of (by decide +kernel) (Nat.le_of_ble_eq_true rfl) ?_
  have hsg := hw.1
  have hsgN : ∀ j : Nat, j < (sSg σ).toNat ↔ (j : Int) < sSg σ := fun j => by omega
  obtain ⟨Zq, hZ⟩ : ∃ Zq : Option Value → sw_M → Prop, Zq = (fun r M' => ∃ x' a', r = some (sw_i (fnd σ 20 0).1) ∧ RS G M' x' a' ∧ frR M M' ∧ xfr XB x x' ∧ afr [15, 20, 24, 25, 40, 41] a a' ∧ BG σ k x' a' (fun _ j => rhF σ (fnd σ 20 0).2 j) (n + 1) (sLe σ) (sWy σ)) := ⟨_, rfl⟩
  rw [← hZ]
  have hbd := fun t j => rhF_bd hw t j
  have outer : ∀ (c t : Nat) (x1 : Nat → Int) (a1 : Nat → Int → Int) (M1 : sw_M), c + t = 20 → RS G M1 x1 a1 → frR M M1 → xfr XB x x1 → afr [15, 20, 24, 25, 40, 41] a a1 → BG σ k x1 a1 (fun _ j => rhF σ t j) (n + 1) (sLe σ) (sWy σ) → (∀ i : Nat, i ≤ t → ∀ j, 0 ≤ j → j < sSg σ → a1 40 (5 * (i : Int) + j) = rhF σ i j) → (∀ j, 1 ≤ j → j ≤ t → enT σ j = 2) → fnd σ 20 0 = fnd σ c t → V l G μX10_turns sw_E0 (sw_Zq G μX10_turns (sw_q0 G Zq)) 2 [(0, .ref (sw_al G 70)), (1, sw_i k), (2, sw_i ((t : Int) + 1))] [] M1 0 0 := by
    intro c
    induction c with
    | zero =>
      intro t x1 a1 M1 hc hM hF hx ha hBG hH hp hf
      have e : t = 20 := by omega
      subst e
      refine v_iload_n dX10_turns_2 rfl ?_
      refine v_bipush dX10_turns_3 (by decide +kernel) ?_
      refine v_icmp_gt (tgt := 144) dX10_turns_5 (by decide) ⟨by omega, by omega⟩ ⟨by omega, by omega⟩ (fun h5 => ?_) (fun h5 => ?_)
      · skip
        refine v_iconst dX10_turns_144 ?_
        exact v_iret dX10_turns_145 rfl (Nat.le_refl _) (Nat.le_refl _) (by rw [hZ]; exact ⟨x1, a1, by rw [hf]; rfl, hM, hF, hx, ha, by rw [hf]; exact hBG⟩)
      · skip
        exfalso; omega
    | succ c ih =>
      intro t x1 a1 M1 hc hM hF hx ha hBG hH hp hf
      have hfn : fnd σ (c + 1) t = if enT σ (t + 1) = 2 then fnd σ c (t + 1) else (enT σ (t + 1), t + 1) := rfl
      have hBd : fBd (fun _ j => rhF σ t j) (n + 1) (sSg σ) := fun _ j _ _ _ _ => hbd t j
      have look : ∀ (c2 i : Nat) (x2 : Nat → Int) (a2 : Nat → Int → Int) (M2 : sw_M), i + c2 = t → RS G M2 x2 a2 → frR M M2 → xfr XB x x2 → afr [15, 20, 24, 25, 40, 41] a a2 → BG σ k x2 a2 (fun _ j => rhF σ (t + 1) j) (n + 1) (sLe σ) (sWy σ) → (∀ i : Nat, i ≤ t → ∀ j, 0 ≤ j → j < sSg σ → a2 40 (5 * (i : Int) + j) = rhF σ i j) → (∀ l, l < i → ¬ rhE σ l (t + 1)) → ¬ rhE σ t (t + 1) → V l G μX10_turns sw_E0 (sw_Zq G μX10_turns (sw_q0 G Zq)) 108 [(0, .ref (sw_al G 70)), (1, sw_i k), (2, sw_i ((t : Int) + 1)), (3, sw_i (i : Int))] [] M2 0 0 := by
        intro c2
        induction c2 with
        | zero =>
          intro i x2 a2 M2 hi hM hF hx ha hBG hH hl ht
          have e : i = t := by omega
          subst e
          have h2 : enT σ (i + 1) = 2 := enT_2 σ hsg.2 (fun l hl2 => by
            by_cases e : l = i
            · rw [e]; exact ht
            · exact hl l (by omega))
          have g20 : ∀ j, 0 ≤ j → j < sSg σ → a2 20 j = rhF σ (i + 1) j := fun j j0 j1 => by
            have := hBG.2.2.2.2 0 j (by omega) (by omega) j0 j1
            rw [show (5 * 0 + j : Int) = j by omega] at this
            exact this
          refine v_iload_n dX10_turns_108 rfl ?_
          refine v_iload_n dX10_turns_109 rfl ?_
          refine v_iconst dX10_turns_110 ?_
          refine v_isub dX10_turns_111 ?_
          refine v_icmp_ge (tgt := 132) dX10_turns_112 (by decide) ⟨by omega, by omega⟩ ⟨by omega, by omega⟩ (fun h112 => ?_) (fun h112 => ?_)
          · skip
            refine v_aload_n dX10_turns_132 rfl ?_
            refine v_iload_n dX10_turns_133 rfl ?_
            refine v_iload_n dX10_turns_134 rfl ?_
            refine v_callV (ci := 10) (K10_keep (turn := i + 1) hM hk hBG.1.1 ⟨by omega, by omega⟩ (by omega) g20) ⟨rfl, rfl⟩ (Nat.le_refl _) (Nat.le_refl _) hM.1 rfl ⟨ml_X10_294, mm_X10_keep⟩ ⟨(Nat.le_of_ble_eq_true rfl), (Nat.le_of_ble_eq_true rfl)⟩ mp_X10_keep rfl rfl (Nat.le_of_ble_eq_true rfl) dX10_turns_135 (fun r M' h => ?_)
            obtain ⟨a3, rfl, hM3, hF3, ha3, hk1, hk2⟩ := h
            refine v_iinc dX10_turns_138 rfl (Nat.le_of_ble_eq_true rfl) ?_
            refine v_goto (tgt := 2) dX10_turns_141 (by decide) ?_
            refine v_to (ih (i + 1) x2 a3 _ (by omega) hM3 (hF.tr hF3) hx (ha.tr ha3 (fun t h => h) (by decide)) (hBG.fr (xfr.rf (L := [])) ha3 (by decide) (by decide)) (fun z hz j j0 j1 => ?_) (fun j j1 j2 => ?_) (by rw [hf, hfn, if_pos h2])) rfl (sw_h1 rfl (sw_h1 rfl (sw_h1 rfl sw_h0)))
            · by_cases e : z = i + 1
              · rw [e]; exact hk1 j j0 j1
              · rw [hk2 _ (by omega)]; exact hH z (by omega) j j0 j1
            · by_cases e : j = i + 1
              · rw [e]; exact h2
              · exact hp j j1 (by omega)
          · skip
            exfalso; omega
        | succ c2 ih2 =>
          intro i x2 a2 M2 hi hM hF hx ha hBG hH hl ht
          have g20 : ∀ j, 0 ≤ j → j < sSg σ → a2 20 j = rhF σ (t + 1) j := fun j j0 j1 => by
            have := hBG.2.2.2.2 0 j (by omega) (by omega) j0 j1
            rw [show (5 * 0 + j : Int) = j by omega] at this
            exact this
          refine v_iload_n dX10_turns_108 rfl ?_
          refine v_iload_n dX10_turns_109 rfl ?_
          refine v_iconst dX10_turns_110 ?_
          refine v_isub dX10_turns_111 ?_
          refine v_icmp_ge (tgt := 132) dX10_turns_112 (by decide) ⟨by omega, by omega⟩ ⟨by omega, by omega⟩ (fun h112 => ?_) (fun h112 => ?_)
          · skip
            exfalso; omega
          · skip
            refine v_aload_n dX10_turns_115 rfl ?_
            refine v_iload_n dX10_turns_116 rfl ?_
            refine v_iload_n dX10_turns_117 rfl ?_
            refine v_callV (ci := 10) (K10_isKept (turn := i) (N := rhF σ (t + 1)) (H := rhF σ i) hM hk hBG.1.1 ⟨by omega, by omega⟩ (by omega) g20 (hH i (by omega)) (fun j _ _ => ⟨⟨by have := hbd (t + 1) j; omega, by have := hbd (t + 1) j; omega⟩, ⟨by have := hbd i j; omega, by have := hbd i j; omega⟩⟩)) ⟨rfl, rfl⟩ (Nat.le_refl _) (Nat.le_refl _) hM.1 rfl ⟨ml_X10_291, mm_X10_isKept⟩ ⟨(Nat.le_of_ble_eq_true rfl), (Nat.le_of_ble_eq_true rfl)⟩ mp_X10_isKept rfl rfl (Nat.le_of_ble_eq_true rfl) dX10_turns_118 (fun r M' h => ?_)
            obtain ⟨⟨z, rfl, hz⟩, rfl⟩ := h
            refine v_if_eq (tgt := 126) dX10_turns_121 (by decide) ⟨by omega, by omega⟩ (fun q => ?_) (fun q => ?_)
            · skip
              refine v_iinc dX10_turns_126 rfl (Nat.le_of_ble_eq_true rfl) ?_
              refine v_goto (tgt := 108) dX10_turns_129 (by decide) ?_
              refine v_to (ih2 (i + 1) x2 a2 _ (by omega) hM hF hx ha hBG hH (fun l hl2 => ?_) ht) rfl (sw_h1 rfl (sw_h1 rfl (sw_h1 rfl (sw_h1 rfl sw_h0))))
              by_cases e : l = i
              · rw [e]; exact hz.elim (fun h => by omega) (fun h => h.2)
              · exact hl l (by omega)
            · skip
              refine v_iconst dX10_turns_124 ?_
              refine v_iret dX10_turns_125 rfl (Nat.le_refl _) (Nat.le_refl _) ?_
              skip
              have hr : rhE σ i (t + 1) := hz.elim (fun h => h.2) (fun h => absurd h.1 q)
              have h1 : enT σ (t + 1) = 1 := enT_1 σ hsg.2 ht (by omega) hr
              rw [hfn, if_neg (by omega)] at hf
              rw [hZ]
              exact ⟨x2, a2, by rw [hf, h1], hM, hF, hx, ha, by rw [hf]; exact hBG⟩
      have copy : ∀ (c2 p : Nat) (a2 : Nat → Int → Int) (x2 : Nat → Int) (M2 : sw_M), p + c2 = n + 1 → RS G M2 x2 a2 → frR M M2 → xfr XB x x2 → afr [15, 20, 24, 25, 40, 41] a a2 → (rowR a2 k σ ∧ x2 21 = ((n + 1 : Nat) : Int) ∧ x2 22 = sLe σ ∧ x2 23 = sWy σ) → (∀ i : Nat, i ≤ t → ∀ j, 0 ≤ j → j < sSg σ → a2 40 (5 * (i : Int) + j) = rhF σ i j) → (∀ j, 0 ≤ j → j < sSg σ → a2 41 j = rhF σ (t + 1) j) → (∀ i j, 0 ≤ i → i < (p : Int) → 0 ≤ j → j < sSg σ → a2 20 (5 * i + j) = rhF σ (t + 1) j) → V l G μX10_turns sw_E0 (sw_Zq G μX10_turns (sw_q0 G Zq)) 41 [(0, .ref (sw_al G 70)), (1, sw_i k), (2, sw_i ((t : Int) + 1)), (3, sw_i (p : Int))] [] M2 0 0 := by
        intro c2
        induction c2 with
        | zero =>
          intro p a2 x2 M2 hp2 hM hF hx ha hB hH hfr hR
          have e : p = n + 1 := by omega
          subst e
          have hBG : BG σ k x2 a2 (fun _ j => rhF σ (t + 1) j) (n + 1) (sLe σ) (sWy σ) := ⟨hB.1, hB.2.1, hB.2.2.1, hB.2.2.2, hR⟩
          have g21 : x2 21 = ((n + 1 : Nat) : Int) := hB.2.1
          have g20 : ∀ j, 0 ≤ j → j < sSg σ → a2 20 j = rhF σ (t + 1) j := fun j j0 j1 => by
            have := hR 0 j (by omega) (by omega) j0 j1
            rw [show (5 * 0 + j : Int) = j by omega] at this
            exact this
          refine v_iload_n dX10_turns_41 rfl ?_
          refine v_aload_n dX10_turns_42 rfl ?_
          refine v_rgi 21 hM g21 fl_X10_176 rfl dX10_turns_43 ?_
          refine v_icmp_ge (tgt := 93) dX10_turns_46 (by decide) ⟨by omega, by omega⟩ ⟨by omega, by omega⟩ (fun h46 => ?_) (fun h46 => ?_)
          · skip
            refine v_aload_n dX10_turns_93 rfl ?_
            refine v_iload_n dX10_turns_94 rfl ?_
            refine v_iload_n dX10_turns_95 rfl ?_
            refine v_iconst dX10_turns_96 ?_
            refine v_isub dX10_turns_97 ?_
            rw [show (t : Int) + 1 - 1 = (t : Int) by omega]
            refine v_callV (ci := 10) (K10_isKept (turn := t) (N := rhF σ (t + 1)) (H := rhF σ t) hM hk hBG.1.1 ⟨by omega, by omega⟩ (by omega) g20 (hH t (Nat.le_refl _)) (fun j _ _ => ⟨⟨by have := hbd (t + 1) j; omega, by have := hbd (t + 1) j; omega⟩, ⟨by have := hbd t j; omega, by have := hbd t j; omega⟩⟩)) ⟨rfl, rfl⟩ (Nat.le_refl _) (Nat.le_refl _) hM.1 rfl ⟨ml_X10_291, mm_X10_isKept⟩ ⟨(Nat.le_of_ble_eq_true rfl), (Nat.le_of_ble_eq_true rfl)⟩ mp_X10_isKept rfl rfl (Nat.le_of_ble_eq_true rfl) dX10_turns_98 (fun r M' h => ?_)
            obtain ⟨⟨z, rfl, hz⟩, rfl⟩ := h
            refine v_if_eq (tgt := 106) dX10_turns_101 (by decide) ⟨by omega, by omega⟩ (fun q => ?_) (fun q => ?_)
            · skip
              refine v_iconst dX10_turns_106 ?_
              refine v_istore_n dX10_turns_107 (Nat.le_of_ble_eq_true rfl) ?_
              exact v_to (look t 0 x2 a2 _ (by omega) hM hF hx ha hBG hH (fun l hl => by omega) (hz.elim (fun h => by omega) (fun h => h.2))) rfl (sw_h1 rfl (sw_h1 rfl (sw_h1 rfl (sw_h1 rfl sw_h0))))
            · skip
              refine v_iconst dX10_turns_104 ?_
              refine v_iret dX10_turns_105 rfl (Nat.le_refl _) (Nat.le_refl _) ?_
              skip
              have hr : rhE σ t (t + 1) := hz.elim (fun h => h.2) (fun h => absurd h.1 q)
              have h1 : enT σ (t + 1) = 0 := enT_0 σ hsg.2 hp hr
              rw [hfn, if_neg (by omega)] at hf
              rw [hZ]
              exact ⟨x2, a2, by rw [hf, h1], hM, hF, hx, ha, by rw [hf]; exact hBG⟩
          · skip
            exfalso; omega
        | succ c2 ih2 =>
          intro p a2 x2 M2 hp2 hM hF hx ha hB hH hfr hR
          have inner : ∀ (c3 : Nat) (q : Int) (a3 : Nat → Int → Int) (M3 : sw_M), 0 ≤ q → q + c3 = sSg σ → RS G M3 x2 a3 → frR M M3 → afr [20] a2 a3 → (∀ i j, 0 ≤ i → i < (p : Int) → 0 ≤ j → j < sSg σ → a3 20 (5 * i + j) = rhF σ (t + 1) j) → (∀ j, 0 ≤ j → j < q → a3 20 (5 * (p : Int) + j) = rhF σ (t + 1) j) → V l G μX10_turns sw_E0 (sw_Zq G μX10_turns (sw_q0 G Zq)) 52 [(0, .ref (sw_al G 70)), (1, sw_i k), (2, sw_i ((t : Int) + 1)), (3, sw_i (p : Int)), (4, sw_i q)] [] M3 0 0 := by
            intro c3
            induction c3 with
            | zero =>
              intro q a3 M3 q0 qc hM hF ha3 h1 h2
              have e : q = sSg σ := by omega
              subst e
              have g5 : a3 5 k = sSg σ := by rw [ha3 5 (by decide)]; exact hB.1.1
              refine v_iload dX10_turns_52 rfl ?_
              refine v_aload_n dX10_turns_54 rfl ?_
              refine v_getfH 5 hM.1 fl_X10_13 rfl dX10_turns_55 ?_
              refine v_iload_n dX10_turns_58 rfl ?_
              refine v_ria hM ar_5 (by omega) (by omega) g5 dX10_turns_59 ?_
              refine v_icmp_ge (tgt := 87) dX10_turns_60 (by decide) ⟨by omega, by omega⟩ ⟨by omega, by omega⟩ (fun h60 => ?_) (fun h60 => ?_)
              · skip
                refine v_iinc dX10_turns_87 rfl (Nat.le_of_ble_eq_true rfl) ?_
                refine v_goto (tgt := 41) dX10_turns_90 (by decide) ?_
                exact v_to (ih2 (p + 1) a3 x2 _ (by omega) hM hF hx (ha.tr ha3 (fun t h => h) (by decide)) ⟨hB.1.fr ha3 (by decide), hB.2⟩ (by rw [ha3 40 (by decide)]; exact hH) (by rw [ha3 41 (by decide)]; exact hfr) (fun i j i0 i1 j0 j1 => by
                  by_cases e : i = (p : Int)
                  · subst e; exact h2 j j0 j1
                  · exact h1 i j i0 (by omega) j0 j1)) rfl (sw_h1 rfl (sw_h1 rfl (sw_h1 rfl (sw_h1 rfl sw_h0))))
              · skip
                exfalso; omega
            | succ c3 ih3 =>
              intro q a3 M3 q0 qc hM hF ha3 h1 h2
              have g5 : a3 5 k = sSg σ := by rw [ha3 5 (by decide)]; exact hB.1.1
              have g41 : a3 41 q = rhF σ (t + 1) q := by rw [ha3 41 (by decide)]; exact hfr q q0 (by omega)
              refine v_iload dX10_turns_52 rfl ?_
              refine v_aload_n dX10_turns_54 rfl ?_
              refine v_getfH 5 hM.1 fl_X10_13 rfl dX10_turns_55 ?_
              refine v_iload_n dX10_turns_58 rfl ?_
              refine v_ria hM ar_5 (by omega) (by omega) g5 dX10_turns_59 ?_
              refine v_icmp_ge (tgt := 87) dX10_turns_60 (by decide) ⟨by omega, by omega⟩ ⟨by omega, by omega⟩ (fun h60 => ?_) (fun h60 => ?_)
              · skip
                exfalso; omega
              · skip
                refine v_aload_n dX10_turns_63 rfl ?_
                refine v_getfH 20 hM.1 fl_X10_46 rfl dX10_turns_64 ?_
                refine v_iconst dX10_turns_67 ?_
                refine v_iload_n dX10_turns_68 rfl ?_
                refine v_imul dX10_turns_69 ?_
                refine v_iload dX10_turns_70 rfl ?_
                refine v_iadd dX10_turns_72 ?_
                refine v_aload_n dX10_turns_73 rfl ?_
                refine v_getfH 41 hM.1 fl_X10_58 rfl dX10_turns_74 ?_
                refine v_iload dX10_turns_77 rfl ?_
                refine v_ria hM ar_41 (by omega) (by omega) g41 dX10_turns_79 ?_
                refine v_ris hM hF ar_20 (by omega) (by omega) dX10_turns_80 (fun M hM hF => ?_)
                refine v_iinc dX10_turns_81 rfl (Nat.le_of_ble_eq_true rfl) ?_
                refine v_goto (tgt := 52) dX10_turns_84 (by decide) ?_
                refine v_to (ih3 (q + 1) _ _ (by omega) (by omega) hM hF (ha3.up (k := 20) (by decide)) (fun i j i0 i1 j0 j1 => ?_) (fun j j0 j1 => ?_)) rfl (sw_h1 rfl (sw_h1 rfl (sw_h1 rfl (sw_h1 rfl (sw_h1 rfl sw_h0)))))
                · show up (a3 20) (5 * (p : Int) + q) _ (5 * i + j) = _
                  rw [up_ne (by omega)]; exact h1 i j i0 i1 j0 j1
                · show up (a3 20) (5 * (p : Int) + q) _ (5 * (p : Int) + j) = _
                  by_cases e : j = q
                  · subst e; rw [up_eq]
                  · rw [up_ne (by omega)]; exact h2 j j0 (by omega)
          have g21 : x2 21 = ((n + 1 : Nat) : Int) := hB.2.1
          refine v_iload_n dX10_turns_41 rfl ?_
          refine v_aload_n dX10_turns_42 rfl ?_
          refine v_rgi 21 hM g21 fl_X10_176 rfl dX10_turns_43 ?_
          refine v_icmp_ge (tgt := 93) dX10_turns_46 (by decide) ⟨by omega, by omega⟩ ⟨by omega, by omega⟩ (fun h46 => ?_) (fun h46 => ?_)
          · skip
            exfalso; omega
          · skip
            refine v_iconst dX10_turns_49 ?_
            refine v_istore dX10_turns_50 (Nat.le_of_ble_eq_true rfl) ?_
            exact v_to (inner (sSg σ).toNat 0 a2 M2 (by omega) (by omega) hM hF afr.rf hR (fun j j0 j1 => by omega)) rfl (sw_h1 rfl (sw_h1 rfl (sw_h1 rfl (sw_h1 rfl (sw_h1 rfl sw_h0)))))
      have fresh : ∀ (c2 : Nat) (j : Int) (x2 : Nat → Int) (a2 : Nat → Int → Int) (M2 : sw_M), 0 ≤ j → j + c2 = sSg σ → RS G M2 x2 a2 → frR M M2 → xfr XB x1 x2 → afr [15, 24, 25, 41] a1 a2 → BG σ k x2 a2 (fun _ j => rhF σ t j) (n + 1) (sLe σ) (sWy σ) → (∀ i, 0 ≤ i → i < j → a2 41 i = rhF σ (t + 1) i) → V l G μX10_turns sw_E0 (sw_Zq G μX10_turns (sw_q0 G Zq)) 10 [(0, .ref (sw_al G 70)), (1, sw_i k), (2, sw_i ((t : Int) + 1)), (3, sw_i j)] [] M2 0 0 := by
        intro c2
        induction c2 with
        | zero =>
          intro j x2 a2 M2 j0 jc hM hF hx2 ha2 hBG hfr
          have e : j = sSg σ := by omega
          subst e
          have g5 : a2 5 k = sSg σ := hBG.1.1
          refine v_iload_n dX10_turns_10 rfl ?_
          refine v_aload_n dX10_turns_11 rfl ?_
          refine v_getfH 5 hM.1 fl_X10_13 rfl dX10_turns_12 ?_
          refine v_iload_n dX10_turns_15 rfl ?_
          refine v_ria hM ar_5 (by omega) (by omega) g5 dX10_turns_16 ?_
          refine v_icmp_ge (tgt := 39) dX10_turns_17 (by decide) ⟨by omega, by omega⟩ ⟨by omega, by omega⟩ (fun h17 => ?_) (fun h17 => ?_)
          · skip
            refine v_iconst dX10_turns_39 ?_
            refine v_istore_n dX10_turns_40 (Nat.le_of_ble_eq_true rfl) ?_
            exact v_to (copy (n + 1) 0 a2 x2 _ (by omega) hM hF (hx.tr hx2 (fun t h => h) (fun t h => h)) (ha.tr ha2 (fun t h => h) (by decide)) ⟨hBG.1, hBG.2.1, hBG.2.2.1, hBG.2.2.2.1⟩ (by rw [ha2 40 (by decide)]; exact hH) hfr (fun i j i0 i1 => by omega)) rfl (sw_h1 rfl (sw_h1 rfl (sw_h1 rfl (sw_h1 rfl sw_h0))))
          · skip
            exfalso; omega
        | succ c2 ih2 =>
          intro j x2 a2 M2 j0 jc hM hF hx2 ha2 hBG hfr
          have g5 : a2 5 k = sSg σ := hBG.1.1
          have hv : rhF σ (t + 1) j = pk (RG σ (shF (fun _ j => rhF σ t j) ((0 : Nat) : Int)) (pS σ j) n) 60 := by
            show trF σ (rhF σ t) j = _
            unfold trF
            rw [hn]; rfl
          refine v_iload_n dX10_turns_10 rfl ?_
          refine v_aload_n dX10_turns_11 rfl ?_
          refine v_getfH 5 hM.1 fl_X10_13 rfl dX10_turns_12 ?_
          refine v_iload_n dX10_turns_15 rfl ?_
          refine v_ria hM ar_5 (by omega) (by omega) g5 dX10_turns_16 ?_
          refine v_icmp_ge (tgt := 39) dX10_turns_17 (by decide) ⟨by omega, by omega⟩ ⟨by omega, by omega⟩ (fun h17 => ?_) (fun h17 => ?_)
          · skip
            exfalso; omega
          · skip
            refine v_aload_n dX10_turns_20 rfl ?_
            refine v_getfH 41 hM.1 fl_X10_58 rfl dX10_turns_21 ?_
            refine v_iload_n dX10_turns_24 rfl ?_
            refine v_aload_n dX10_turns_25 rfl ?_
            refine v_iload_n dX10_turns_26 rfl ?_
            refine v_iconst dX10_turns_27 ?_
            refine v_iload_n dX10_turns_28 rfl ?_
            refine v_callV (ci := 10) (K10_bestOf (i := 0) hM hBG hk hw hBd hn3 (Nat.zero_le _) (d := j) ⟨by omega, by omega⟩) ⟨rfl, rfl⟩ (Nat.le_refl _) (Nat.le_refl _) hM.1 rfl ⟨ml_X10_287, mm_X10_bestOf⟩ ⟨(Nat.le_of_ble_eq_true rfl), (Nat.le_of_ble_eq_true rfl)⟩ mp_X10_bestOf rfl rfl (Nat.le_of_ble_eq_true rfl) dX10_turns_29 (fun r M' h => ?_)
            obtain ⟨x3, a3, rfl, hM3, hF3, hx3, ha3, hBG3⟩ := h
            replace hM := hM3
            replace hF := hF.tr hF3
            rw [← hv]
            refine v_ris hM hF ar_41 (by omega) (by omega) dX10_turns_32 (fun M hM hF => ?_)
            refine v_iinc dX10_turns_33 rfl (Nat.le_of_ble_eq_true rfl) ?_
            refine v_goto (tgt := 10) dX10_turns_36 (by decide) ?_
            refine v_to (ih2 (j + 1) x3 _ _ (by omega) (by omega) hM hF (hx2.tr hx3 (fun t h => h) (fun t h => h)) ((ha2.tr ha3 (fun t h => h) (by decide)).up (k := 41) (by decide)) (hBG3.fr (xfr.rf (L := [])) (afr.rf.up (L := [41]) (k := 41) (by decide)) (by decide) (by decide)) (fun i i0 i1 => ?_)) rfl (sw_h1 rfl (sw_h1 rfl (sw_h1 rfl (sw_h1 rfl sw_h0))))
            show up (a3 41) j _ i = _
            by_cases e : i = j
            · subst e; rw [up_eq]
            · rw [up_ne e, ha3 41 (by decide)]; exact hfr i i0 (by omega)
      refine v_iload_n dX10_turns_2 rfl ?_
      refine v_bipush dX10_turns_3 (by decide +kernel) ?_
      refine v_icmp_gt (tgt := 144) dX10_turns_5 (by decide) ⟨by omega, by omega⟩ ⟨by omega, by omega⟩ (fun h5 => ?_) (fun h5 => ?_)
      · skip
        exfalso; omega
      · skip
        refine v_iconst dX10_turns_8 ?_
        refine v_istore_n dX10_turns_9 (Nat.le_of_ble_eq_true rfl) ?_
        exact v_to (fresh (sSg σ).toNat 0 x1 a1 M1 (by omega) (by omega) hM hF xfr.rf afr.rf hBG (fun i i0 i1 => by omega)) rfl (sw_h1 rfl (sw_h1 rfl (sw_h1 rfl (sw_h1 rfl sw_h0))))
  refine v_iconst dX10_turns_0 ?_
  refine v_istore_n dX10_turns_1 (Nat.le_of_ble_eq_true rfl) ?_
  exact v_to (outer 20 0 x a M (by omega) hM frR.rf xfr.rf afr.rf hBG (fun i hi j j0 j1 => by rw [show i = 0 by omega]; have := hH j j0 j1; rw [show (5 * ((0 : Nat) : Int) + j) = j by omega]; exact this) (fun j j1 j2 => by omega) rfl) rfl (sw_h1 rfl (sw_h1 rfl (sw_h1 rfl sw_h0)))
end

