/-! the reference: all cases are gone through -/
theorem dgF_at {sg : Nat} (h : 0 < sg) : ∀ (m c i : Nat), i < m → c < sg ^ m → dgF sg m c (i : Int) = ((c / sg ^ i % sg : Nat) : Int)
  | 0, _, _, hi, _ => by omega
  | m + 1, c, i, hi, hc => by
    show (if (i : Int) = (m : Int) then ((c / sg ^ m : Nat) : Int) else dgF sg m (c % sg ^ m) i) = _
    by_cases e : i = m
    · subst e
      rw [if_pos rfl, Nat.mod_eq_of_lt (Nat.div_lt_of_lt_mul (by rw [← Nat.pow_succ]; exact hc))]
    · rw [if_neg (by omega), dgF_at h m _ i (by omega) (Nat.mod_lt _ (Nat.pow_pos h))]
      have e1 : sg ^ m = sg ^ i * sg ^ (m - i) := by rw [← Nat.pow_add]; congr 1; omega
      rw [e1, Nat.mod_mul_right_div_self, Nat.mod_mod_of_dvd _ (show sg ∣ sg ^ (m - i) from ⟨sg ^ (m - i - 1), by rw [Nat.mul_comm, ← Nat.pow_succ]; congr 1; omega⟩)]
theorem dgF_ok {sg : Nat} (h : 0 < sg) {m c : Nat} (hc : c < sg ^ m) (i : Nat) (hi : i < m) : 0 ≤ dgF sg m c i ∧ dgF sg m c i < (sg : Int) := by
  rw [dgF_at h m c i hi hc]
  have := Nat.mod_lt (c / sg ^ i) h
  omega
/-- what a count gets of all truths by one code -/
def goT (σ : SaleT) (le wy : Int) (m : Nat) (f : Int → Int → Int) (ask as' ab kn sil told : Int) (j : Nat) (S : Int → Int) : Int := if (as' = -1 ∨ S ask = as') ∧ (kn = -1 ∨ S 0 = 0) then sm (fun t => cnD wy le (rkb (lyB σ f S ask ab sil) le m) ask (nwB (lyB σ f S ask ab sil) le ask) (sV σ t) (cwt σ S kn told m t) j) (sTr σ).toNat else 0
section
variable {l : Launch} {G : sw_G} {M : sw_M} {x : Nat → Int} {a : Nat → Int → Int}
theorem K10_goThrough {s le wy ask as' ab kn sil told : Int} {m : Nat} {σ : SaleT} {f : Int → Int → Int} (hM : RS G M x a) (hr : rowR a s σ) (hs : 0 ≤ s ∧ s < 8) (hwf : wfS σ) (h21 : x 21 = (m : Int)) (h22 : x 22 = le) (h23 : x 23 = wy) (h35 : x 35 = ask) (h36 : x 36 = as') (h37 : x 37 = ab) (h38 : x 38 = kn) (h39 : x 39 = sil) (hm : 1 ≤ m ∧ m ≤ 4) (hle : 0 ≤ le ∧ le ≤ 60) (hwy : 0 ≤ wy ∧ wy ≤ 2) (hR : rwR a f m (sSg σ)) (hf : fBd f m (sSg σ)) (hask : -1 ≤ ask ∧ ask < (m : Int)) (has : -1 ≤ as' ∧ as' ≤ 4) (hasA : as' ≠ -1 → 0 ≤ ask) (hab : -1 ≤ ab ∧ ab ≤ 60) (hkn : -1 ≤ kn ∧ kn < sTr σ) (hsi : -1 ≤ sil ∧ sil ≤ 1) (hm2 : sil ≠ -1 → 2 ≤ m) (hto : soN σ told) : Kt l G μX10_goThrough [.ref (sw_al G 70), sw_i s, sw_i told] M (fun r M' => ∃ x' a', r = none ∧ RS G M' x' a' ∧ frR M M' ∧ xfr [16, 17, 26, 27, 28, 29, 30, 31, 32, 33, 34] x x' ∧ afr [15, 24, 25] a a' ∧ ∀ j, 28 ≤ j → j ≤ 34 → x' j = x j + ms (sSg σ).toNat m (goT σ le wy m f ask as' ab kn sil told j)) := by
  refine KtA.of (by decide +kernel) (Nat.le_of_ble_eq_true rfl) ?_
  have hF : frR M M := frR.rf
  have hsg := hwf.1
  have htr := hwf.2.1
  obtain ⟨g, hg⟩ : ∃ g : Nat, (g : Int) = sSg σ := ⟨(sSg σ).toNat, by omega⟩
  have hg' : (sSg σ).toNat = g := by omega
  have hg0 : 0 < g := by omega
  have hpw : ∀ i, i ≤ m → g ^ i ≤ 625 := fun i hi => Nat.le_trans (Nat.pow_le_pow_left (show g ≤ 5 by omega) i) (Nat.le_trans (Nat.pow_le_pow_right (show 5 > 0 by omega) (show i ≤ 4 by omega)) (by decide))
  obtain ⟨Zq, hZ⟩ : ∃ Zq : Option Value → sw_M → Prop, Zq = (fun r M' => ∃ x' a', r = none ∧ RS G M' x' a' ∧ frR M M' ∧ xfr [16, 17, 26, 27, 28, 29, 30, 31, 32, 33, 34] x x' ∧ afr [15, 24, 25] a a' ∧ ∀ j, 28 ≤ j → j ≤ 34 → x' j = x j + ms (sSg σ).toNat m (goT σ le wy m f ask as' ab kn sil told j)) := ⟨_, rfl⟩
  rw [← hZ]
  rw [hg'] at hZ
  have hpm := hpw m (Nat.le_refl _)
  have outer : ∀ (n c : Nat) (x1 : Nat → Int) (a1 : Nat → Int → Int) (M1 : sw_M), c + n = g ^ m → RS G M1 x1 a1 → frR M M1 → xfr [16, 17, 26, 27, 28, 29, 30, 31, 32, 33, 34] x x1 → afr [15, 24, 25] a a1 → (∀ j, 28 ≤ j → j ≤ 34 → x1 j = x j + sn (fun c => goT σ le wy m f ask as' ab kn sil told j (dgF g m c)) c) → V l G μX10_goThrough sw_E0 (sw_Zq G μX10_goThrough (sw_q0 G Zq)) 32 [(0, .ref (sw_al G 70)), (1, sw_i s), (2, sw_i told), (3, sw_i ((g ^ m : Nat) : Int)), (4, sw_i (c : Int))] [] M1 0 0 := by
    intro n
    induction n with
    | zero =>
      intro c x1 a1 M1 hc hM hF hx ha hj
      have e : c = g ^ m := by omega
      subst e
      refine v_iload dX10_goThrough_32 rfl ?_
      refine v_iload_n dX10_goThrough_34 rfl ?_
      refine v_icmp_ge (tgt := 157) dX10_goThrough_35 (by decide) ⟨by omega, by omega⟩ ⟨by omega, by omega⟩ (fun h35 => ?_) (fun h35 => ?_)
      · skip
        exact v_vret dX10_goThrough_157 rfl (Nat.le_refl _) (Nat.le_refl _) (by rw [hZ]; exact ⟨x1, a1, rfl, hM, hF, hx, ha, fun j j0 j1 => by rw [hj j j0 j1, gd_ms hg0 m (goT σ le wy m f ask as' ab kn sil told j)]⟩)
      · skip
        exfalso; omega
    | succ n ih =>
      intro c x1 a1 M1 hc hM hF hx ha hj
      have hcl : c < g ^ m := by omega
      have nxt : ∀ (y : Nat → Int) (b : Nat → Int → Int) (M2 : sw_M), RS G M2 y b → frR M M2 → xfr [16, 17, 26, 27, 28, 29, 30, 31, 32, 33, 34] x1 y → afr [15, 24, 25] a1 b → (∀ j, 28 ≤ j → j ≤ 34 → y j = x1 j + goT σ le wy m f ask as' ab kn sil told j (dgF g m c)) → V l G μX10_goThrough sw_E0 (sw_Zq G μX10_goThrough (sw_q0 G Zq)) 32 [(0, .ref (sw_al G 70)), (1, sw_i s), (2, sw_i told), (3, sw_i ((g ^ m : Nat) : Int)), (4, sw_i ((c : Int) + 1))] [] M2 0 0 := fun y b M2 g1 g2 g3 g4 g5 => ih (c + 1) y b M2 (by omega) g1 g2 (hx.tr g3 (fun t h => h) (fun t h => h)) (ha.tr g4 (fun t h => h) (fun t h => h)) (fun j j0 j1 => by
        rw [g5 j j0 j1, hj j j0 j1, Int.add_assoc]; rfl)
      have digs : ∀ (n2 i : Nat) (v : Nat) (b : Nat → Int → Int) (M2 : sw_M), i + n2 = m → v = c / g ^ i → RS G M2 x1 b → frR M M2 → afr [15, 24, 25] a1 b → (∀ z : Nat, z < i → b 25 z = dgF g m c z) → V l G μX10_goThrough sw_E0 (sw_Zq G μX10_goThrough (sw_q0 G Zq)) 45 [(0, .ref (sw_al G 70)), (1, sw_i s), (2, sw_i told), (3, sw_i ((g ^ m : Nat) : Int)), (4, sw_i (c : Int)), (5, sw_i (v : Int)), (6, sw_i (i : Int))] [] M2 0 0 := by
        intro n2
        induction n2 with
        | zero =>
          intro i v b M2 hi hv hM hF hb hz
          have e : i = m := by omega
          subst e
          have g21 : x1 21 = (i : Int) := (hx 21 (by decide)).trans h21
          have g22 : x1 22 = le := (hx 22 (by decide)).trans h22
          have g23 : x1 23 = wy := (hx 23 (by decide)).trans h23
          have g35 : x1 35 = ask := (hx 35 (by decide)).trans h35
          have g36 : x1 36 = as' := (hx 36 (by decide)).trans h36
          have g37 : x1 37 = ab := (hx 37 (by decide)).trans h37
          have g38 : x1 38 = kn := (hx 38 (by decide)).trans h38
          have g39 : x1 39 = sil := (hx 39 (by decide)).trans h39
          have hok := dgF_ok hg0 hcl
          have hSo : sOK σ (dgF g i c) i := fun z hz => by have := hok z hz; omega
          have hz' : ∀ z : Int, 0 ≤ z → z < (i : Int) → b 25 z = dgF g i c z := fun z z0 z1 => by
            have := hz z.toNat (by omega)
            rw [show ((z.toNat : Nat) : Int) = z by omega] at this
            exact this
          have hd : ∀ z : Int, 0 ≤ z → z < (i : Int) → 0 ≤ dgF g i c z ∧ dgF g i c z < 5 := fun z z0 z1 => by
            have := hok z.toNat (by omega)
            rw [show ((z.toNat : Nat) : Int) = z by omega] at this
            omega
          have hd0 := hd 0 (by omega) (by omega)
          have zro : ¬ ((as' = -1 ∨ dgF g i c ask = as') ∧ (kn = -1 ∨ dgF g i c 0 = 0)) → ∀ j, 28 ≤ j → j ≤ 34 → x1 j = x1 j + goT σ le wy i f ask as' ab kn sil told j (dgF g i c) := fun h j _ _ => by
            unfold goT
            rw [if_neg h]; omega
          have hb2 : afr [15, 24, 25] a b := ha.tr hb (fun t h => h) (fun t h => h)
          refine v_iload dX10_goThrough_45 rfl ?_
          refine v_aload_n dX10_goThrough_47 rfl ?_
          refine v_rgi 21 hM g21 fl_X10_176 rfl dX10_goThrough_48 ?_
          refine v_icmp_ge (tgt := 87) dX10_goThrough_51 (by decide) ⟨by omega, by omega⟩ ⟨by omega, by omega⟩ (fun h51 => ?_) (fun h51 => ?_)
          · skip
            refine v_aload_n dX10_goThrough_87 rfl ?_
            refine v_rgi 36 hM g36 fl_X10_219 rfl dX10_goThrough_88 ?_
            refine v_iconst dX10_goThrough_91 ?_
            refine v_icmp_eq (tgt := 111) dX10_goThrough_92 (by decide) ⟨by omega, by omega⟩ ⟨by omega, by omega⟩ (fun h92 => ?_) (fun h92 => ?_)
            · skip
              refine v_iconst dX10_goThrough_111 ?_
              refine v_goto (tgt := 116) dX10_goThrough_112 (by decide) ?_
              refine v_istore dX10_goThrough_116 (Nat.le_of_ble_eq_true rfl) ?_
              refine v_iload dX10_goThrough_118 rfl ?_
              refine v_if_eq (tgt := 151) dX10_goThrough_120 (by decide) ⟨by omega, by omega⟩ (fun h120 => ?_) (fun h120 => ?_)
              · skip
                exfalso; omega
              · skip
                refine v_aload_n dX10_goThrough_123 rfl ?_
                refine v_rgi 38 hM g38 fl_X10_225 rfl dX10_goThrough_124 ?_
                refine v_iconst dX10_goThrough_127 ?_
                refine v_icmp_eq (tgt := 140) dX10_goThrough_128 (by decide) ⟨by omega, by omega⟩ ⟨by omega, by omega⟩ (fun h128 => ?_) (fun h128 => ?_)
                · skip
                  refine v_aload_n dX10_goThrough_140 rfl ?_
                  refine v_iload_n dX10_goThrough_141 rfl ?_
                  refine v_callV (ci := 10) (K10_lay hM (hr.fr hb2 (by decide)) hs hwf g21 g22 g23 g35 g37 g39 (by omega) hle (f := f) (S := dgF g i c) (by rw [show rwR b f i (sSg σ) = rwR a f i (sSg σ) from by unfold rwR; rw [hb2 20 (by decide)]]; exact hR) hf hSo hz' ⟨by omega, by omega⟩ hab hsi hm2) ⟨rfl, rfl⟩ (Nat.le_refl _) (Nat.le_refl _) hM.1 rfl ⟨ml_X10_252, mm_X10_lay⟩ ⟨(Nat.le_of_ble_eq_true rfl), (Nat.le_of_ble_eq_true rfl)⟩ mp_X10_lay rfl rfl (Nat.le_of_ble_eq_true rfl) dX10_goThrough_142 (fun r M' h => ?_)
                  obtain ⟨x2, b2, rfl, hM2, hF2, hx2, hb3, hq2⟩ := h
                  replace hM := hM2
                  replace hF := hF.tr hF2
                  refine v_aload_n dX10_goThrough_145 rfl ?_
                  refine v_iload_n dX10_goThrough_146 rfl ?_
                  refine v_iload_n dX10_goThrough_147 rfl ?_
                  refine v_callV (ci := 10) (K10_count hM ((hr.fr hb2 (by decide)).fr hb3 (by decide)) hs hwf hq2 (by omega) (by omega) hle (lyB_bd hwf hf hSo hab) hwy ((hx2 35 (by decide)).trans g35) ((hx2 38 (by decide)).trans g38) hask hkn hto (S := dgF g i c) hSo (fun z z0 z1 => by rw [hb3 25 (by decide)]; exact hz' z z0 z1)) ⟨rfl, rfl⟩ (Nat.le_refl _) (Nat.le_refl _) hM.1 rfl ⟨ml_X10_255, mm_X10_count⟩ ⟨(Nat.le_of_ble_eq_true rfl), (Nat.le_of_ble_eq_true rfl)⟩ mp_X10_count rfl rfl (Nat.le_of_ble_eq_true rfl) dX10_goThrough_148 (fun r M' h => ?_)
                  obtain ⟨x3, rfl, hM3, hF3, hx3, hj3⟩ := h
                  replace hM := hM3
                  replace hF := hF.tr hF3
                  refine v_iinc dX10_goThrough_151 rfl (Nat.le_of_ble_eq_true rfl) ?_
                  refine v_goto (tgt := 32) dX10_goThrough_154 (by decide) ?_
                  refine v_to (nxt x3 b2 _ hM hF (hx2.tr hx3 (by decide) (by decide)) (hb.tr hb3 (fun t h => h) (by decide)) (fun j j0 j1 => ?_)) rfl (sw_h1 rfl (sw_h1 rfl (sw_h1 rfl (sw_h1 rfl (sw_h1 rfl sw_h0)))))
                  rw [hj3 j j0 j1, hx2 j (by simp; omega)]
                  unfold goT
                  rw [if_pos (by omega)]
                · skip
                  refine v_aload_n dX10_goThrough_131 rfl ?_
                  refine v_getfH 25 hM.1 fl_X10_52 rfl dX10_goThrough_132 ?_
                  refine v_iconst dX10_goThrough_135 ?_
                  refine v_ria hM ar_25 (by omega) (by omega) (hz' 0 (by omega) (by omega)) dX10_goThrough_136 ?_
                  refine v_if_ne (tgt := 151) dX10_goThrough_137 (by decide) ⟨by omega, by omega⟩ (fun h137 => ?_) (fun h137 => ?_)
                  · skip
                    refine v_iinc dX10_goThrough_151 rfl (Nat.le_of_ble_eq_true rfl) ?_
                    refine v_goto (tgt := 32) dX10_goThrough_154 (by decide) ?_
                    exact v_to (nxt x1 b _ hM hF xfr.rf hb (zro (by omega))) rfl (sw_h1 rfl (sw_h1 rfl (sw_h1 rfl (sw_h1 rfl (sw_h1 rfl sw_h0)))))
                  · skip
                    refine v_aload_n dX10_goThrough_140 rfl ?_
                    refine v_iload_n dX10_goThrough_141 rfl ?_
                    refine v_callV (ci := 10) (K10_lay hM (hr.fr hb2 (by decide)) hs hwf g21 g22 g23 g35 g37 g39 (by omega) hle (f := f) (S := dgF g i c) (by rw [show rwR b f i (sSg σ) = rwR a f i (sSg σ) from by unfold rwR; rw [hb2 20 (by decide)]]; exact hR) hf hSo hz' ⟨by omega, by omega⟩ hab hsi hm2) ⟨rfl, rfl⟩ (Nat.le_refl _) (Nat.le_refl _) hM.1 rfl ⟨ml_X10_252, mm_X10_lay⟩ ⟨(Nat.le_of_ble_eq_true rfl), (Nat.le_of_ble_eq_true rfl)⟩ mp_X10_lay rfl rfl (Nat.le_of_ble_eq_true rfl) dX10_goThrough_142 (fun r M' h => ?_)
                    obtain ⟨x2, b2, rfl, hM2, hF2, hx2, hb3, hq2⟩ := h
                    replace hM := hM2
                    replace hF := hF.tr hF2
                    refine v_aload_n dX10_goThrough_145 rfl ?_
                    refine v_iload_n dX10_goThrough_146 rfl ?_
                    refine v_iload_n dX10_goThrough_147 rfl ?_
                    refine v_callV (ci := 10) (K10_count hM ((hr.fr hb2 (by decide)).fr hb3 (by decide)) hs hwf hq2 (by omega) (by omega) hle (lyB_bd hwf hf hSo hab) hwy ((hx2 35 (by decide)).trans g35) ((hx2 38 (by decide)).trans g38) hask hkn hto (S := dgF g i c) hSo (fun z z0 z1 => by rw [hb3 25 (by decide)]; exact hz' z z0 z1)) ⟨rfl, rfl⟩ (Nat.le_refl _) (Nat.le_refl _) hM.1 rfl ⟨ml_X10_255, mm_X10_count⟩ ⟨(Nat.le_of_ble_eq_true rfl), (Nat.le_of_ble_eq_true rfl)⟩ mp_X10_count rfl rfl (Nat.le_of_ble_eq_true rfl) dX10_goThrough_148 (fun r M' h => ?_)
                    obtain ⟨x3, rfl, hM3, hF3, hx3, hj3⟩ := h
                    replace hM := hM3
                    replace hF := hF.tr hF3
                    refine v_iinc dX10_goThrough_151 rfl (Nat.le_of_ble_eq_true rfl) ?_
                    refine v_goto (tgt := 32) dX10_goThrough_154 (by decide) ?_
                    refine v_to (nxt x3 b2 _ hM hF (hx2.tr hx3 (by decide) (by decide)) (hb.tr hb3 (fun t h => h) (by decide)) (fun j j0 j1 => ?_)) rfl (sw_h1 rfl (sw_h1 rfl (sw_h1 rfl (sw_h1 rfl (sw_h1 rfl sw_h0)))))
                    rw [hj3 j j0 j1, hx2 j (by simp; omega)]
                    unfold goT
                    rw [if_pos (by omega)]
            · skip
              have hda := hd ask (by omega) (by omega)
              refine v_aload_n dX10_goThrough_95 rfl ?_
              refine v_getfH 25 hM.1 fl_X10_52 rfl dX10_goThrough_96 ?_
              refine v_aload_n dX10_goThrough_99 rfl ?_
              refine v_rgi 35 hM g35 fl_X10_216 rfl dX10_goThrough_100 ?_
              refine v_ria hM ar_25 (by omega) (by omega) (hz' ask (by omega) (by omega)) dX10_goThrough_103 ?_
              refine v_aload_n dX10_goThrough_104 rfl ?_
              refine v_rgi 36 hM g36 fl_X10_219 rfl dX10_goThrough_105 ?_
              refine v_icmp_ne (tgt := 115) dX10_goThrough_108 (by decide) ⟨by omega, by omega⟩ ⟨by omega, by omega⟩ (fun h108 => ?_) (fun h108 => ?_)
              · skip
                refine v_iconst dX10_goThrough_115 ?_
                refine v_istore dX10_goThrough_116 (Nat.le_of_ble_eq_true rfl) ?_
                refine v_iload dX10_goThrough_118 rfl ?_
                refine v_if_eq (tgt := 151) dX10_goThrough_120 (by decide) ⟨by omega, by omega⟩ (fun h120 => ?_) (fun h120 => ?_)
                · skip
                  refine v_iinc dX10_goThrough_151 rfl (Nat.le_of_ble_eq_true rfl) ?_
                  refine v_goto (tgt := 32) dX10_goThrough_154 (by decide) ?_
                  exact v_to (nxt x1 b _ hM hF xfr.rf hb (zro (by omega))) rfl (sw_h1 rfl (sw_h1 rfl (sw_h1 rfl (sw_h1 rfl (sw_h1 rfl sw_h0)))))
                · skip
                  exfalso; omega
              · skip
                refine v_iconst dX10_goThrough_111 ?_
                refine v_goto (tgt := 116) dX10_goThrough_112 (by decide) ?_
                refine v_istore dX10_goThrough_116 (Nat.le_of_ble_eq_true rfl) ?_
                refine v_iload dX10_goThrough_118 rfl ?_
                refine v_if_eq (tgt := 151) dX10_goThrough_120 (by decide) ⟨by omega, by omega⟩ (fun h120 => ?_) (fun h120 => ?_)
                · skip
                  exfalso; omega
                · skip
                  refine v_aload_n dX10_goThrough_123 rfl ?_
                  refine v_rgi 38 hM g38 fl_X10_225 rfl dX10_goThrough_124 ?_
                  refine v_iconst dX10_goThrough_127 ?_
                  refine v_icmp_eq (tgt := 140) dX10_goThrough_128 (by decide) ⟨by omega, by omega⟩ ⟨by omega, by omega⟩ (fun h128 => ?_) (fun h128 => ?_)
                  · skip
                    refine v_aload_n dX10_goThrough_140 rfl ?_
                    refine v_iload_n dX10_goThrough_141 rfl ?_
                    refine v_callV (ci := 10) (K10_lay hM (hr.fr hb2 (by decide)) hs hwf g21 g22 g23 g35 g37 g39 (by omega) hle (f := f) (S := dgF g i c) (by rw [show rwR b f i (sSg σ) = rwR a f i (sSg σ) from by unfold rwR; rw [hb2 20 (by decide)]]; exact hR) hf hSo hz' ⟨by omega, by omega⟩ hab hsi hm2) ⟨rfl, rfl⟩ (Nat.le_refl _) (Nat.le_refl _) hM.1 rfl ⟨ml_X10_252, mm_X10_lay⟩ ⟨(Nat.le_of_ble_eq_true rfl), (Nat.le_of_ble_eq_true rfl)⟩ mp_X10_lay rfl rfl (Nat.le_of_ble_eq_true rfl) dX10_goThrough_142 (fun r M' h => ?_)
                    obtain ⟨x2, b2, rfl, hM2, hF2, hx2, hb3, hq2⟩ := h
                    replace hM := hM2
                    replace hF := hF.tr hF2
                    refine v_aload_n dX10_goThrough_145 rfl ?_
                    refine v_iload_n dX10_goThrough_146 rfl ?_
                    refine v_iload_n dX10_goThrough_147 rfl ?_
                    refine v_callV (ci := 10) (K10_count hM ((hr.fr hb2 (by decide)).fr hb3 (by decide)) hs hwf hq2 (by omega) (by omega) hle (lyB_bd hwf hf hSo hab) hwy ((hx2 35 (by decide)).trans g35) ((hx2 38 (by decide)).trans g38) hask hkn hto (S := dgF g i c) hSo (fun z z0 z1 => by rw [hb3 25 (by decide)]; exact hz' z z0 z1)) ⟨rfl, rfl⟩ (Nat.le_refl _) (Nat.le_refl _) hM.1 rfl ⟨ml_X10_255, mm_X10_count⟩ ⟨(Nat.le_of_ble_eq_true rfl), (Nat.le_of_ble_eq_true rfl)⟩ mp_X10_count rfl rfl (Nat.le_of_ble_eq_true rfl) dX10_goThrough_148 (fun r M' h => ?_)
                    obtain ⟨x3, rfl, hM3, hF3, hx3, hj3⟩ := h
                    replace hM := hM3
                    replace hF := hF.tr hF3
                    refine v_iinc dX10_goThrough_151 rfl (Nat.le_of_ble_eq_true rfl) ?_
                    refine v_goto (tgt := 32) dX10_goThrough_154 (by decide) ?_
                    refine v_to (nxt x3 b2 _ hM hF (hx2.tr hx3 (by decide) (by decide)) (hb.tr hb3 (fun t h => h) (by decide)) (fun j j0 j1 => ?_)) rfl (sw_h1 rfl (sw_h1 rfl (sw_h1 rfl (sw_h1 rfl (sw_h1 rfl sw_h0)))))
                    rw [hj3 j j0 j1, hx2 j (by simp; omega)]
                    unfold goT
                    rw [if_pos (by omega)]
                  · skip
                    refine v_aload_n dX10_goThrough_131 rfl ?_
                    refine v_getfH 25 hM.1 fl_X10_52 rfl dX10_goThrough_132 ?_
                    refine v_iconst dX10_goThrough_135 ?_
                    refine v_ria hM ar_25 (by omega) (by omega) (hz' 0 (by omega) (by omega)) dX10_goThrough_136 ?_
                    refine v_if_ne (tgt := 151) dX10_goThrough_137 (by decide) ⟨by omega, by omega⟩ (fun h137 => ?_) (fun h137 => ?_)
                    · skip
                      refine v_iinc dX10_goThrough_151 rfl (Nat.le_of_ble_eq_true rfl) ?_
                      refine v_goto (tgt := 32) dX10_goThrough_154 (by decide) ?_
                      exact v_to (nxt x1 b _ hM hF xfr.rf hb (zro (by omega))) rfl (sw_h1 rfl (sw_h1 rfl (sw_h1 rfl (sw_h1 rfl (sw_h1 rfl sw_h0)))))
                    · skip
                      refine v_aload_n dX10_goThrough_140 rfl ?_
                      refine v_iload_n dX10_goThrough_141 rfl ?_
                      refine v_callV (ci := 10) (K10_lay hM (hr.fr hb2 (by decide)) hs hwf g21 g22 g23 g35 g37 g39 (by omega) hle (f := f) (S := dgF g i c) (by rw [show rwR b f i (sSg σ) = rwR a f i (sSg σ) from by unfold rwR; rw [hb2 20 (by decide)]]; exact hR) hf hSo hz' ⟨by omega, by omega⟩ hab hsi hm2) ⟨rfl, rfl⟩ (Nat.le_refl _) (Nat.le_refl _) hM.1 rfl ⟨ml_X10_252, mm_X10_lay⟩ ⟨(Nat.le_of_ble_eq_true rfl), (Nat.le_of_ble_eq_true rfl)⟩ mp_X10_lay rfl rfl (Nat.le_of_ble_eq_true rfl) dX10_goThrough_142 (fun r M' h => ?_)
                      obtain ⟨x2, b2, rfl, hM2, hF2, hx2, hb3, hq2⟩ := h
                      replace hM := hM2
                      replace hF := hF.tr hF2
                      refine v_aload_n dX10_goThrough_145 rfl ?_
                      refine v_iload_n dX10_goThrough_146 rfl ?_
                      refine v_iload_n dX10_goThrough_147 rfl ?_
                      refine v_callV (ci := 10) (K10_count hM ((hr.fr hb2 (by decide)).fr hb3 (by decide)) hs hwf hq2 (by omega) (by omega) hle (lyB_bd hwf hf hSo hab) hwy ((hx2 35 (by decide)).trans g35) ((hx2 38 (by decide)).trans g38) hask hkn hto (S := dgF g i c) hSo (fun z z0 z1 => by rw [hb3 25 (by decide)]; exact hz' z z0 z1)) ⟨rfl, rfl⟩ (Nat.le_refl _) (Nat.le_refl _) hM.1 rfl ⟨ml_X10_255, mm_X10_count⟩ ⟨(Nat.le_of_ble_eq_true rfl), (Nat.le_of_ble_eq_true rfl)⟩ mp_X10_count rfl rfl (Nat.le_of_ble_eq_true rfl) dX10_goThrough_148 (fun r M' h => ?_)
                      obtain ⟨x3, rfl, hM3, hF3, hx3, hj3⟩ := h
                      replace hM := hM3
                      replace hF := hF.tr hF3
                      refine v_iinc dX10_goThrough_151 rfl (Nat.le_of_ble_eq_true rfl) ?_
                      refine v_goto (tgt := 32) dX10_goThrough_154 (by decide) ?_
                      refine v_to (nxt x3 b2 _ hM hF (hx2.tr hx3 (by decide) (by decide)) (hb.tr hb3 (fun t h => h) (by decide)) (fun j j0 j1 => ?_)) rfl (sw_h1 rfl (sw_h1 rfl (sw_h1 rfl (sw_h1 rfl (sw_h1 rfl sw_h0)))))
                      rw [hj3 j j0 j1, hx2 j (by simp; omega)]
                      unfold goT
                      rw [if_pos (by omega)]
          · skip
            exfalso; omega
        | succ n2 ih2 =>
          intro i v b M2 hi hv hM hF hb hz
          have g21 : x1 21 = (m : Int) := (hx 21 (by decide)).trans h21
          have g5 : b 5 s = (g : Int) := by rw [hb 5 (by decide), ha 5 (by decide), hr.1, hg]
          have hv2 : v ≤ c := by rw [hv]; exact Nat.div_le_self _ _
          refine v_iload dX10_goThrough_45 rfl ?_
          refine v_aload_n dX10_goThrough_47 rfl ?_
          refine v_rgi 21 hM g21 fl_X10_176 rfl dX10_goThrough_48 ?_
          refine v_icmp_ge (tgt := 87) dX10_goThrough_51 (by decide) ⟨by omega, by omega⟩ ⟨by omega, by omega⟩ (fun h51 => ?_) (fun h51 => ?_)
          · skip
            exfalso; omega
          · skip
            refine v_aload_n dX10_goThrough_54 rfl ?_
            refine v_getfH 25 hM.1 fl_X10_52 rfl dX10_goThrough_55 ?_
            refine v_iload dX10_goThrough_58 rfl ?_
            refine v_iload dX10_goThrough_60 rfl ?_
            refine v_aload_n dX10_goThrough_62 rfl ?_
            refine v_getfH 5 hM.1 fl_X10_13 rfl dX10_goThrough_63 ?_
            refine v_iload_n dX10_goThrough_66 rfl ?_
            refine v_ria hM ar_5 (by omega) (by omega) g5 dX10_goThrough_67 ?_
            refine v_irem dX10_goThrough_68 ⟨by omega, by omega⟩ (by omega) ⟨by omega, by omega⟩ (by omega) ?_
            refine v_ris hM hF ar_25 (by omega) (by omega) dX10_goThrough_69 (fun M hM hF => ?_)
            refine v_iload dX10_goThrough_70 rfl ?_
            refine v_aload_n dX10_goThrough_72 rfl ?_
            refine v_getfH 5 hM.1 fl_X10_13 rfl dX10_goThrough_73 ?_
            refine v_iload_n dX10_goThrough_76 rfl ?_
            refine v_ria hM ar_5 (by omega) (by omega) g5 dX10_goThrough_77 ?_
            refine v_idiv dX10_goThrough_78 ⟨by omega, by omega⟩ (by omega) ⟨by omega, by omega⟩ (by omega) ?_
            refine v_istore dX10_goThrough_79 (Nat.le_of_ble_eq_true rfl) ?_
            refine v_iinc dX10_goThrough_81 rfl (Nat.le_of_ble_eq_true rfl) ?_
            refine v_goto (tgt := 45) dX10_goThrough_84 (by decide) ?_
            refine v_to (ih2 (i + 1) (v / g) _ _ (by omega) (by rw [hv, Nat.div_div_eq_div_mul, ← Nat.pow_succ]) hM hF (hb.up (k := 25) (by decide)) (fun z hz2 => ?_)) rfl (sw_h1 rfl (sw_h1 rfl (sw_h1 rfl (sw_h1 rfl (sw_h1 rfl (sw_h1 rfl (sw_h1 rfl sw_h0)))))))
            show up (b 25) (i : Int) _ (z : Int) = _
            by_cases e : z = i
            · subst e; rw [up_eq, dgF_at hg0 m c z (by omega) hcl, ← hv]; rfl
            · rw [up_ne (by omega)]; exact hz z (by omega)
      refine v_iload dX10_goThrough_32 rfl ?_
      refine v_iload_n dX10_goThrough_34 rfl ?_
      refine v_icmp_ge (tgt := 157) dX10_goThrough_35 (by decide) ⟨by omega, by omega⟩ ⟨by omega, by omega⟩ (fun h35 => ?_) (fun h35 => ?_)
      · skip
        exfalso; omega
      · skip
        refine v_iload dX10_goThrough_38 rfl ?_
        refine v_istore dX10_goThrough_40 (Nat.le_of_ble_eq_true rfl) ?_
        refine v_iconst dX10_goThrough_42 ?_
        refine v_istore dX10_goThrough_43 (Nat.le_of_ble_eq_true rfl) ?_
        exact v_to (digs m 0 c a1 M1 (by omega) (by rw [Nat.pow_zero, Nat.div_one]) hM hF afr.rf (fun z hz => by omega)) rfl (sw_h1 rfl (sw_h1 rfl (sw_h1 rfl (sw_h1 rfl (sw_h1 rfl (sw_h1 rfl (sw_h1 rfl sw_h0)))))))
  have codes : ∀ (n i : Nat), i + n = m → V l G μX10_goThrough sw_E0 (sw_Zq G μX10_goThrough (sw_q0 G Zq)) 5 [(0, .ref (sw_al G 70)), (1, sw_i s), (2, sw_i told), (3, sw_i ((g ^ i : Nat) : Int)), (4, sw_i (i : Int))] [] M 0 0 := by
    intro n
    induction n with
    | zero =>
      intro i hi
      have e : i = m := by omega
      subst e
      refine v_iload dX10_goThrough_5 rfl ?_
      refine v_aload_n dX10_goThrough_7 rfl ?_
      refine v_rgi 21 hM h21 fl_X10_176 rfl dX10_goThrough_8 ?_
      refine v_icmp_ge (tgt := 29) dX10_goThrough_11 (by decide) ⟨by omega, by omega⟩ ⟨by omega, by omega⟩ (fun h11 => ?_) (fun h11 => ?_)
      · skip
        refine v_iconst dX10_goThrough_29 ?_
        refine v_istore dX10_goThrough_30 (Nat.le_of_ble_eq_true rfl) ?_
        exact v_to (outer (g ^ i) 0 x a M (by omega) hM hF xfr.rf afr.rf (fun j _ _ => by show _ = x j + 0; omega)) rfl (sw_h1 rfl (sw_h1 rfl (sw_h1 rfl (sw_h1 rfl (sw_h1 rfl sw_h0)))))
      · skip
        exfalso; omega
    | succ n ih =>
      intro i hi
      have g5 : a 5 s = (g : Int) := by rw [hr.1, hg]
      refine v_iload dX10_goThrough_5 rfl ?_
      refine v_aload_n dX10_goThrough_7 rfl ?_
      refine v_rgi 21 hM h21 fl_X10_176 rfl dX10_goThrough_8 ?_
      refine v_icmp_ge (tgt := 29) dX10_goThrough_11 (by decide) ⟨by omega, by omega⟩ ⟨by omega, by omega⟩ (fun h11 => ?_) (fun h11 => ?_)
      · skip
        exfalso; omega
      · skip
        refine v_iload_n dX10_goThrough_14 rfl ?_
        refine v_aload_n dX10_goThrough_15 rfl ?_
        refine v_getfH 5 hM.1 fl_X10_13 rfl dX10_goThrough_16 ?_
        refine v_iload_n dX10_goThrough_19 rfl ?_
        refine v_ria hM ar_5 (by omega) (by omega) g5 dX10_goThrough_20 ?_
        refine v_imul dX10_goThrough_21 ?_
        refine v_istore_n dX10_goThrough_22 (Nat.le_of_ble_eq_true rfl) ?_
        refine v_iinc dX10_goThrough_23 rfl (Nat.le_of_ble_eq_true rfl) ?_
        refine v_goto (tgt := 5) dX10_goThrough_26 (by decide) ?_
        refine v_to (ih (i + 1) (by omega)) rfl ?_
        rw [show ((g ^ (i + 1) : Nat) : Int) = ((g ^ i : Nat) : Int) * (g : Int) from by rw [Nat.pow_succ, Int.natCast_mul]]
        exact sw_h1 rfl (sw_h1 rfl (sw_h1 rfl (sw_h1 rfl (sw_h1 rfl sw_h0))))
  refine v_iconst dX10_goThrough_0 ?_
  refine v_istore_n dX10_goThrough_1 (Nat.le_of_ble_eq_true rfl) ?_
  refine v_iconst dX10_goThrough_2 ?_
  refine v_istore dX10_goThrough_3 (Nat.le_of_ble_eq_true rfl) ?_
  exact v_to (codes m 0 (by omega)) rfl (sw_h1 rfl (sw_h1 rfl (sw_h1 rfl (sw_h1 rfl (sw_h1 rfl sw_h0)))))
end

