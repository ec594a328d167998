/-! the reference: laying bids, counting a case -/
/-- the bids that are laid -/
def ly0 (f : Int → Int → Int) (S : Int → Int) (ask ab : Int) (i : Int) : Int := if i = ask ∧ ab ≠ -1 then ab else f i (S i)
def lyB (σ : SaleT) (f : Int → Int → Int) (S : Int → Int) (ask ab sil : Int) (i : Int) : Int := if sil ≠ -1 ∧ i = 0 then hld σ (S 0) (S 1) (-1) (-1) else if sil ≠ -1 ∧ i = 1 then -1 else ly0 f S ask ab i
def fBd (f : Int → Int → Int) (m : Nat) (sg : Int) : Prop := ∀ i k, 0 ≤ i → i < (m : Int) → 0 ≤ k → k < sg → 0 ≤ f i k ∧ f i k ≤ 60
theorem lyB_bd {σ : SaleT} (hw : wfS σ) {f : Int → Int → Int} {S : Int → Int} {ask ab sil : Int} {m : Nat} (hf : fBd f m (sSg σ)) (hS : sOK σ S m) (hab : -1 ≤ ab ∧ ab ≤ 60) : bbO (lyB σ f S ask ab sil) m := fun i i0 i1 => by
  have h0 := hld_bd hw (S 0) (S 1) (-1) (-1)
  have hs := hS i.toNat (by omega)
  rw [show ((i.toNat : Nat) : Int) = i by omega] at hs
  have h1 := hf i (S i) i0 i1 hs.1 hs.2
  unfold lyB ly0
  (repeat' split) <;> omega
section
variable {l : Launch} {G : sw_G} {M : sw_M} {x : Nat → Int} {a : Nat → Int → Int}
theorem K10_lay {s le wy ask ab sil : Int} {m : Nat} {σ : SaleT} {f : Int → Int → Int} {S : Int → Int} (hM : RS G M x a) (hr : rowR a s σ) (hs : 0 ≤ s ∧ s < 8) (hwf : wfS σ) (h21 : x 21 = (m : Int)) (h22 : x 22 = le) (h23 : x 23 = wy) (h35 : x 35 = ask) (h37 : x 37 = ab) (h39 : x 39 = sil) (hm : m ≤ 4) (hle : 0 ≤ le ∧ le ≤ 60) (hR : rwR a f m (sSg σ)) (hf : fBd f m (sSg σ)) (hS : sOK σ S m) (hSa : ∀ i, 0 ≤ i → i < (m : Int) → a 25 i = S i) (hask : -1 ≤ ask ∧ ask ≤ 4) (hab : -1 ≤ ab ∧ ab ≤ 60) (hsi : -1 ≤ sil ∧ sil ≤ 1) (hm2 : sil ≠ -1 → 2 ≤ m) : Kt l G μX10_lay [.ref (sw_al G 70), sw_i s] M (fun r M' => ∃ x' a', r = none ∧ RS G M' x' a' ∧ frR M M' ∧ xfr [16, 17, 26, 27] x x' ∧ afr [15, 24] a a' ∧ StB x' a' (lyB σ f S ask ab sil) le wy m) := by
  refine KtA.of (by decide +kernel) (Nat.le_of_ble_eq_true rfl) ?_
  have hF : frR M M := frR.rf
  have hB := lyB_bd hwf (ask := ask) (ab := ab) (sil := sil) hf hS hab
  have hsg := hwf.1
  obtain ⟨Zq, hZ⟩ : ∃ Zq : Option Value → sw_M → Prop, Zq = (fun r M' => ∃ x' a', r = none ∧ RS G M' x' a' ∧ frR M M' ∧ xfr [16, 17, 26, 27] x x' ∧ afr [15, 24] a a' ∧ StB x' a' (lyB σ f S ask ab sil) le wy m) := ⟨_, rfl⟩
  rw [← hZ]
  have loop : ∀ (n k : Nat) (a1 : Nat → Int → Int) (M1 : sw_M), k + n = m → RS G M1 x a1 → frR M M1 → afr [15, 24] a a1 → (∀ i, 0 ≤ i → i < (k : Int) → a1 24 i = ly0 f S ask ab i) → V l G μX10_lay sw_E0 (sw_Zq G μX10_lay (sw_q0 G Zq)) 2 [(0, .ref (sw_al G 70)), (1, sw_i s), (2, sw_i (k : Int))] [] M1 0 0 := by
    intro n
    induction n with
    | zero =>
      intro k a1 M1 hk hM hF ha gN
      have e : k = m := by omega
      subst e
      have g25 : a1 25 = a 25 := ha 25 (by decide)
      have l0 : sil ≠ -1 → a1 25 0 = S 0 := fun h => by rw [g25]; exact hSa 0 (by omega) (by have := hm2 h; omega)
      have l1 : sil ≠ -1 → a1 25 1 = S 1 := fun h => by rw [g25]; exact hSa 1 (by omega) (by have := hm2 h; omega)
      have hS0 : sil ≠ -1 → soN σ (S 0) ∧ soN σ (S 1) := fun h => ⟨Or.inr (hS 0 (by have := hm2 h; omega)), Or.inr (hS 1 (by have := hm2 h; omega))⟩
      refine v_iload_n dX10_lay_2 rfl ?_
      refine v_aload_n dX10_lay_3 rfl ?_
      refine v_rgi 21 hM h21 fl_X10_176 rfl dX10_lay_4 ?_
      refine v_icmp_ge (tgt := 60) dX10_lay_7 (by decide) ⟨by omega, by omega⟩ ⟨by omega, by omega⟩ (fun h7 => ?_) (fun h7 => ?_)
      · skip
        refine v_aload_n dX10_lay_60 rfl ?_
        refine v_rgi 39 hM h39 fl_X10_228 rfl dX10_lay_61 ?_
        refine v_iconst dX10_lay_64 ?_
        refine v_icmp_eq (tgt := 99) dX10_lay_65 (by decide) ⟨by omega, by omega⟩ ⟨by omega, by omega⟩ (fun h65 => ?_) (fun h65 => ?_)
        · skip
          refine v_aload_n dX10_lay_99 rfl ?_
          refine v_callV (ci := 10) (K10_settle hM h21 h22 h23 (fun i i0 i1 => by rw [gN i i0 i1]; unfold lyB; rw [if_neg (fun h => h.1 (by omega)), if_neg (fun h => h.1 (by omega))]) hm hle hB) ⟨rfl, rfl⟩ (Nat.le_refl _) (Nat.le_refl _) hM.1 rfl ⟨ml_X10_258, mm_X10_settle⟩ ⟨(Nat.le_of_ble_eq_true rfl), (Nat.le_of_ble_eq_true rfl)⟩ mp_X10_settle rfl rfl (Nat.le_of_ble_eq_true rfl) dX10_lay_100 (fun r M' h => ?_)
          obtain ⟨x2, a2, rfl, hM2, hF2, hx2, ha2, hq2⟩ := h
          exact v_vret dX10_lay_103 rfl (Nat.le_refl _) (Nat.le_refl _) (by rw [hZ]; exact ⟨x2, a2, rfl, hM2, hF.tr hF2, (xfr.rf (L := [16, 17, 26, 27])).tr hx2 (fun t h => h) (by decide), ha.tr ha2 (fun t h => h) (by decide), hq2⟩)
        · skip
          refine v_aload_n dX10_lay_68 rfl ?_
          refine v_getfH 24 hM.1 fl_X10_49 rfl dX10_lay_69 ?_
          refine v_iconst dX10_lay_72 ?_
          refine v_aload_n dX10_lay_73 rfl ?_
          refine v_iload_n dX10_lay_74 rfl ?_
          refine v_aload_n dX10_lay_75 rfl ?_
          refine v_getfH 25 hM.1 fl_X10_52 rfl dX10_lay_76 ?_
          refine v_iconst dX10_lay_79 ?_
          refine v_ria hM ar_25 (by omega) (by omega) (l0 (by omega)) dX10_lay_80 ?_
          refine v_aload_n dX10_lay_81 rfl ?_
          refine v_getfH 25 hM.1 fl_X10_52 rfl dX10_lay_82 ?_
          refine v_iconst dX10_lay_85 ?_
          refine v_ria hM ar_25 (by omega) (by omega) (l1 (by omega)) dX10_lay_86 ?_
          refine v_iconst dX10_lay_87 ?_
          refine v_callV (ci := 10) (K10_held hM (hr.fr ha (by decide)) ⟨by omega, by omega⟩ hwf (p := S 0) (q := S 1) (r' := -1) (hS0 (by omega)).1 (hS0 (by omega)).2 (Or.inl rfl)) ⟨rfl, rfl⟩ (Nat.le_refl _) (Nat.le_refl _) hM.1 rfl ⟨ml_X10_179, mm_X10_held⟩ ⟨(Nat.le_of_ble_eq_true rfl), (Nat.le_of_ble_eq_true rfl)⟩ mp_X10_held rfl rfl (Nat.le_of_ble_eq_true rfl) dX10_lay_88 (fun r M' h => ?_)
          obtain ⟨x1, a2, rfl, hM2, hF2, hx1, ha2⟩ := h
          replace hM := hM2
          replace hF := hF.tr hF2
          refine v_ris hM hF ar_24 (by omega) (by omega) dX10_lay_91 (fun M hM hF => ?_)
          refine v_aload_n dX10_lay_92 rfl ?_
          refine v_getfH 24 hM.1 fl_X10_49 rfl dX10_lay_93 ?_
          refine v_iconst dX10_lay_96 ?_
          refine v_iconst dX10_lay_97 ?_
          refine v_ris hM hF ar_24 (by omega) (by omega) dX10_lay_98 (fun M hM hF => ?_)
          refine v_aload_n dX10_lay_99 rfl ?_
          refine v_callV (ci := 10) (K10_settle hM ((hx1 21 (by decide)).trans h21) ((hx1 22 (by decide)).trans h22) ((hx1 23 (by decide)).trans h23) (B := lyB σ f S ask ab sil) (fun i i0 i1 => ?_) hm hle hB) ⟨rfl, rfl⟩ (Nat.le_refl _) (Nat.le_refl _) hM.1 rfl ⟨ml_X10_258, mm_X10_settle⟩ ⟨(Nat.le_of_ble_eq_true rfl), (Nat.le_of_ble_eq_true rfl)⟩ mp_X10_settle rfl rfl (Nat.le_of_ble_eq_true rfl) dX10_lay_100 (fun r M' h => ?_)
          · show up (up (a2 24) 0 _) 1 _ i = _
            unfold lyB
            by_cases c0 : i = 0
            · subst c0; rw [up_ne (by omega), up_eq, if_pos ⟨by omega, rfl⟩]
            · by_cases c1 : i = 1
              · subst c1; rw [up_eq, if_neg (by omega), if_pos ⟨by omega, rfl⟩]
              · rw [up_ne c1, up_ne c0, if_neg (fun h => c0 h.2), if_neg (fun h => c1 h.2), ha2 24 (by decide)]
                exact gN i i0 i1
          obtain ⟨x2, a3, rfl, hM3, hF3, hx2, ha3, hq2⟩ := h
          exact v_vret dX10_lay_103 rfl (Nat.le_refl _) (Nat.le_refl _) (by rw [hZ]; exact ⟨x2, a3, rfl, hM3, hF.tr hF3, hx1.tr hx2 (by decide) (by decide), ((ha.tr ha2 (fun t h => h) (by decide)).up (k := 24) (by decide)).up (k := 24) (by decide) |>.tr ha3 (fun t h => h) (by decide), hq2⟩)
      · skip
        exfalso; omega
    | succ n ih =>
      intro k a1 M1 hk hM hF ha gN
      have g25 : a1 25 = a 25 := ha 25 (by decide)
      have g20 : a1 20 = a 20 := ha 20 (by decide)
      have hSk := hS k (by omega)
      have l50 : a1 25 k = S k := by rw [g25]; exact hSa k (by omega) (by omega)
      have l52 : a1 20 (5 * (k : Int) + S k) = f k (S k) := by rw [g20]; exact hR k (S k) (by omega) (by omega) hSk.1 hSk.2
      have nxt : ∀ (v : Int) (M2 : sw_M), v = ly0 f S ask ab k → RS G M2 x (upa a1 24 (up (a1 24) k v)) → frR M M2 → V l G μX10_lay sw_E0 (sw_Zq G μX10_lay (sw_q0 G Zq)) 2 [(0, .ref (sw_al G 70)), (1, sw_i s), (2, sw_i ((k : Int) + 1))] [] M2 0 0 := fun v M2 h1 g1 g2 => v_to (ih (k + 1) _ M2 (by omega) g1 g2 (ha.up (k := 24) (by decide)) (fun i i0 i1 => by
        show up (a1 24) k v i = _
        by_cases c : i = (k : Int)
        · subst c; rw [up_eq, h1]
        · rw [up_ne c]; exact gN i i0 (by omega))) rfl (sw_h1 rfl (sw_h1 rfl (sw_h1 rfl sw_h0)))
      refine v_iload_n dX10_lay_2 rfl ?_
      refine v_aload_n dX10_lay_3 rfl ?_
      refine v_rgi 21 hM h21 fl_X10_176 rfl dX10_lay_4 ?_
      refine v_icmp_ge (tgt := 60) dX10_lay_7 (by decide) ⟨by omega, by omega⟩ ⟨by omega, by omega⟩ (fun h7 => ?_) (fun h7 => ?_)
      · skip
        exfalso; omega
      · skip
        refine v_aload_n dX10_lay_10 rfl ?_
        refine v_getfH 24 hM.1 fl_X10_49 rfl dX10_lay_11 ?_
        refine v_iload_n dX10_lay_14 rfl ?_
        refine v_iload_n dX10_lay_15 rfl ?_
        refine v_aload_n dX10_lay_16 rfl ?_
        refine v_rgi 35 hM h35 fl_X10_216 rfl dX10_lay_17 ?_
        refine v_icmp_ne (tgt := 38) dX10_lay_20 (by decide) ⟨by omega, by omega⟩ ⟨by omega, by omega⟩ (fun h20 => ?_) (fun h20 => ?_)
        · skip
          refine v_aload_n dX10_lay_38 rfl ?_
          refine v_getfH 20 hM.1 fl_X10_46 rfl dX10_lay_39 ?_
          refine v_iconst dX10_lay_42 ?_
          refine v_iload_n dX10_lay_43 rfl ?_
          refine v_imul dX10_lay_44 ?_
          refine v_aload_n dX10_lay_45 rfl ?_
          refine v_getfH 25 hM.1 fl_X10_52 rfl dX10_lay_46 ?_
          refine v_iload_n dX10_lay_49 rfl ?_
          refine v_ria hM ar_25 (by omega) (by omega) l50 dX10_lay_50 ?_
          refine v_iadd dX10_lay_51 ?_
          refine v_ria hM ar_20 (by omega) (by omega) l52 dX10_lay_52 ?_
          refine v_ris hM hF ar_24 (by omega) (by omega) dX10_lay_53 (fun M hM hF => ?_)
          refine v_iinc dX10_lay_54 rfl (Nat.le_of_ble_eq_true rfl) ?_
          refine v_goto (tgt := 2) dX10_lay_57 (by decide) ?_
          exact v_to (nxt _ _ (by unfold ly0; rw [if_neg (by omega)]) hM hF) rfl (sw_h1 rfl (sw_h1 rfl (sw_h1 rfl sw_h0)))
        · skip
          refine v_aload_n dX10_lay_23 rfl ?_
          refine v_rgi 37 hM h37 fl_X10_222 rfl dX10_lay_24 ?_
          refine v_iconst dX10_lay_27 ?_
          refine v_icmp_eq (tgt := 38) dX10_lay_28 (by decide) ⟨by omega, by omega⟩ ⟨by omega, by omega⟩ (fun h28 => ?_) (fun h28 => ?_)
          · skip
            refine v_aload_n dX10_lay_38 rfl ?_
            refine v_getfH 20 hM.1 fl_X10_46 rfl dX10_lay_39 ?_
            refine v_iconst dX10_lay_42 ?_
            refine v_iload_n dX10_lay_43 rfl ?_
            refine v_imul dX10_lay_44 ?_
            refine v_aload_n dX10_lay_45 rfl ?_
            refine v_getfH 25 hM.1 fl_X10_52 rfl dX10_lay_46 ?_
            refine v_iload_n dX10_lay_49 rfl ?_
            refine v_ria hM ar_25 (by omega) (by omega) l50 dX10_lay_50 ?_
            refine v_iadd dX10_lay_51 ?_
            refine v_ria hM ar_20 (by omega) (by omega) l52 dX10_lay_52 ?_
            refine v_ris hM hF ar_24 (by omega) (by omega) dX10_lay_53 (fun M hM hF => ?_)
            refine v_iinc dX10_lay_54 rfl (Nat.le_of_ble_eq_true rfl) ?_
            refine v_goto (tgt := 2) dX10_lay_57 (by decide) ?_
            exact v_to (nxt _ _ (by unfold ly0; rw [if_neg (by omega)]) hM hF) rfl (sw_h1 rfl (sw_h1 rfl (sw_h1 rfl sw_h0)))
          · skip
            refine v_aload_n dX10_lay_31 rfl ?_
            refine v_rgi 37 hM h37 fl_X10_222 rfl dX10_lay_32 ?_
            refine v_goto (tgt := 53) dX10_lay_35 (by decide) ?_
            refine v_ris hM hF ar_24 (by omega) (by omega) dX10_lay_53 (fun M hM hF => ?_)
            refine v_iinc dX10_lay_54 rfl (Nat.le_of_ble_eq_true rfl) ?_
            refine v_goto (tgt := 2) dX10_lay_57 (by decide) ?_
            exact v_to (nxt _ _ (by unfold ly0; rw [if_pos (by omega)]) hM hF) rfl (sw_h1 rfl (sw_h1 rfl (sw_h1 rfl sw_h0)))
  refine v_iconst dX10_lay_0 ?_
  refine v_istore_n dX10_lay_1 (Nat.le_of_ble_eq_true rfl) ?_
  exact v_to (loop m 0 a M (by omega) hM hF afr.rf (fun i i0 i1 => by omega)) rfl (sw_h1 rfl (sw_h1 rfl (sw_h1 rfl sw_h0)))
end

