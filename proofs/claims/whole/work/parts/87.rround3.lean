/-! a round of LEARN by the reference: paying, who wins -/
section
variable {l : Launch} {G : sw_G} {M : sw_M} {s : CSt} {k : Int} {x : Nat → Int} {a : Nat → Int → Int}
theorem K10_rnPay {σ : SaleT} {m w : Nat} {t v tk sk j0 : Int} {Rw S Gd : Int → Int} {P : Int → (Nat → Int) → (Nat → Int → Int) → sw_M → Prop} (hwf : wfS σ) (hm : 1 ≤ m ∧ m ≤ 4) (hS : sOK σ S m) (hin : ∀ j, 0 ≤ j → j < 20 → 0 ≤ Rw j ∧ Rw j ≤ 60) (hv : 0 ≤ v ∧ v ≤ 60) (hw : w < m) (hB : bbO (bdN Rw S) m) (hwin : bdN Rw S w = (rkb (bdN Rw S) (sLe σ) m).1) (hne : (rkb (bdN Rw S) (sLe σ) m).1 ≠ -1) (hb0 : ∀ i : Int, 0 ≤ i → i < (m : Int) → 0 ≤ bdN Rw S i ∧ bdN Rw S i ≤ 60) {x1 : Nat → Int} {a1 : Nat → Int → Int} {M1 : sw_M} (hM : RS G M1 x1 a1) (hF : frR M M1) (hq : StB x1 a1 (bdN Rw S) (sLe σ) (sWy σ) m) (h25 : ∀ i, 0 ≤ i → i < (m : Int) → a1 25 i = S i) (h48 : ∀ p j, 0 ≤ p → p < (m : Int) → 0 ≤ j → j < sSg σ → a1 48 (5 * p + j) = Rw (p * 5 + j)) (h49 : ∀ i, 0 ≤ i → i < (m : Int) → a1 49 i = Gd i) (h52 : x1 52 = tk) (fin : ∀ (x2 : Nat → Int) (a2 : Nat → Int → Int) (M2 : sw_M), RS G M2 x2 a2 → frR M M2 → xfr [52] x1 x2 → afr [48, 49] a1 a2 → x2 52 = tkL σ Rw S w (prL σ Rw S m w) tk m → (∀ p j, 0 ≤ p → p < (m : Int) → 0 ≤ j → j < sSg σ → a2 48 (5 * p + j) = rwL Rw S m v w (prL σ Rw S m w) (p * 5 + j)) → (∀ i, 0 ≤ i → i < (m : Int) → a2 49 i = gdL σ Rw S Gd v w (prL σ Rw S m w) m i) → P (if v < prL σ Rw S m w then 1 else 0) x2 a2 M2) : V l G μX10_round sw_E0 (sw_Zq G μX10_round (sw_q0 G (fun r M' => ∃ z x' a', r = some (sw_i z) ∧ P z x' a' M'))) 182 [(0, .ref (sw_al G 70)), (1, sw_i k), (2, sw_i t), (3, sw_i v), (4, sw_i sk), (5, sw_i (w : Int)), (6, sw_i j0)] [] M1 0 0 := by
  have hle := hwf.2.2.2.1
  have hwy := hwf.2.2.2.2.1
  have hsg := hwf.1
  have o := rkb_ok hle.1 m hB
  have hpb := payB_bd (wy := sWy σ) hle o.1 ⟨o.2.2.2.1, o.2.1⟩
  have hpp := pay_prL (σ := σ) hle.1 hB hw hwin hne
  have oq := o.1
  unfold qkO at oq
  have hp0 : 0 ≤ payB (sWy σ) (sLe σ) (rkb (bdN Rw S) (sLe σ) m) := by
    unfold payB
    (repeat' split) <;> omega
  rw [hpp] at hpb hp0
  obtain ⟨pr, hpr⟩ : ∃ pr, prL σ Rw S m w = pr := ⟨_, rfl⟩
  rw [hpr] at hpb hp0 hpp
  rw [hpr] at fin
  obtain ⟨g21, g22, g23, g26, g27, gN⟩ := id hq
  have loop : ∀ (n i : Nat) (x2 : Nat → Int) (a2 : Nat → Int → Int) (M2 : sw_M), i + n = m → RS G M2 x2 a2 → frR M M2 → xfr [52] x1 x2 → afr [49] a1 a2 → x2 52 = tkL σ Rw S w pr tk i → (∀ j, 0 ≤ j → j < (m : Int) → a2 49 j = if j < (i : Int) then gdL σ Rw S Gd v w pr m j else Gd j) → V l G μX10_round sw_E0 (sw_Zq G μX10_round (sw_q0 G (fun r M' => ∃ z x' a', r = some (sw_i z) ∧ P z x' a' M'))) 191 [(0, .ref (sw_al G 70)), (1, sw_i k), (2, sw_i t), (3, sw_i v), (5, sw_i (w : Int)), (6, sw_i pr), (7, sw_i (i : Int))] [] M2 0 0 := by
    intro n
    induction n with
    | zero =>
      intro i x2 a2 M2 hi hM hF hx ha g52 h49
      have e : i = m := by omega
      subst e
      have g21' : x2 21 = (i : Int) := (hx 21 (by decide)).trans g21
      refine v_iload dX10_round_191 rfl ?_
      refine v_aload_n dX10_round_193 rfl ?_
      refine v_rgi 21 hM g21' fl_X10_176 rfl dX10_round_194 ?_
      refine v_icmp_ge (tgt := 279) dX10_round_197 (by decide) ⟨by omega, by omega⟩ ⟨by omega, by omega⟩ (fun h197 => ?_) (fun h197 => ?_)
      · skip
        refine v_to (K10_rnEnd (P := P) (w := (w : Int)) (v := v) (pr := pr) (S := S) (Rw := Rw) (A0 := Rw) ⟨by omega, by omega⟩ hm hS hin hv ⟨by omega, by omega⟩ ⟨by omega, by omega⟩ g21' hM hF (by rw [ha 25 (by decide)]; exact h25) (by rw [ha 48 (by decide)]; exact h48) (fun a3 M3 q1 q2 q3 q4 => fin x2 a3 M3 q1 q2 hx (ha.tr q3 (by decide) (by decide)) g52 q4 (fun j j0 j1 => by rw [q3 49 (by decide), h49 j j0 j1, if_pos j1]))) rfl (sw_h1 rfl (sw_h1 rfl (sw_h1 rfl (sw_h1 rfl (sw_h1 rfl (sw_h1 rfl (sw_h1 rfl sw_h0)))))))
      · skip
        exfalso; omega
    | succ n ih =>
      intro i x2 a2 M2 hi hM hF hx ha g52 h49
      have g21' : x2 21 = (m : Int) := (hx 21 (by decide)).trans g21
      have g23' : x2 23 = sWy σ := (hx 23 (by decide)).trans g23
      have g24 : a2 24 i = nwB (bdN Rw S) (sLe σ) i := by rw [ha 24 (by decide)]; exact gN i (by omega) (by omega)
      have g49 : a2 49 i = Gd i := by rw [h49 i (by omega) (by omega), if_neg (by omega)]
      have hbi := hb0 i (by omega) (by omega)
      have hv2 : bdN Rw S i < sLe σ ∧ nwB (bdN Rw S) (sLe σ) i = -1 ∨ ¬ bdN Rw S i < sLe σ ∧ nwB (bdN Rw S) (sLe σ) i = bdN Rw S i := by unfold nwB; split <;> omega
      have hgd := gdL_at (σ := σ) (Rw := Rw) (Sg := S) (Gd := Gd) (v := v) (w := (w : Int)) (pr := pr) m (i : Int)
      rw [if_pos (show 0 ≤ (i : Int) ∧ (i : Int) < (m : Int) by omega)] at hgd
      have nxt : ∀ (py z : Int) (M3 : sw_M), py = pyL σ Rw S w pr i → Gd i + (z - py) = gdL σ Rw S Gd v w pr m i → RS G M3 (upn x2 52 (tkL σ Rw S w pr tk i + py)) (upa a2 49 (up (a2 49) i (Gd i + (z - py)))) → frR M M3 → V l G μX10_round sw_E0 (sw_Zq G μX10_round (sw_q0 G (fun r M' => ∃ z x' a', r = some (sw_i z) ∧ P z x' a' M'))) 191 [(0, .ref (sw_al G 70)), (1, sw_i k), (2, sw_i t), (3, sw_i v), (5, sw_i (w : Int)), (6, sw_i pr), (7, sw_i ((i : Int) + 1))] [] M3 0 0 := fun py z M3 e1 e2 q1 q2 => v_to (ih (i + 1) _ _ M3 (by omega) q1 q2 (hx.up (k := 52) (by decide)) (ha.up (k := 49) (by decide)) (upn_s.trans (by rw [e1]; rfl)) (fun j j0 j1 => by
        show up (a2 49) i _ j = _
        by_cases c : j = (i : Int)
        · subst c; rw [up_eq, if_pos (by omega), e2]
        · rw [up_ne c, h49 j j0 j1]
          by_cases d : j < (i : Int)
          · rw [if_pos d, if_pos (by omega)]
          · rw [if_neg d, if_neg (by omega)])) rfl (sw_h1 rfl (sw_h1 rfl (sw_h1 rfl (sw_h1 rfl (sw_h1 rfl (sw_h1 rfl (sw_h1 rfl sw_h0)))))))
      have hlv : ∀ {z : Int}, z = z := rfl
      refine v_iload dX10_round_191 rfl ?_
      refine v_aload_n dX10_round_193 rfl ?_
      refine v_rgi 21 hM g21' fl_X10_176 rfl dX10_round_194 ?_
      refine v_icmp_ge (tgt := 279) dX10_round_197 (by decide) ⟨by omega, by omega⟩ ⟨by omega, by omega⟩ (fun h197 => ?_) (fun h197 => ?_)
      · skip
        exfalso; omega
      · skip
        refine v_iload dX10_round_200 rfl ?_
        refine v_iload dX10_round_202 rfl ?_
        refine v_icmp_ne (tgt := 212) dX10_round_204 (by decide) ⟨by omega, by omega⟩ ⟨by omega, by omega⟩ (fun h204 => ?_) (fun h204 => ?_)
        · skip
          refine v_aload_n dX10_round_212 rfl ?_
          refine v_rgi 23 hM g23' fl_X10_186 rfl dX10_round_213 ?_
          refine v_iconst dX10_round_216 ?_
          refine v_icmp_ne (tgt := 234) dX10_round_217 (by decide) ⟨by omega, by omega⟩ ⟨by omega, by omega⟩ (fun h217 => ?_) (fun h217 => ?_)
          · skip
            refine v_iconst dX10_round_234 ?_
            refine v_istore dX10_round_235 (Nat.le_of_ble_eq_true rfl) ?_
            refine v_aload_n dX10_round_237 rfl ?_
            refine v_getfH 49 hM.1 fl_X10_73 rfl dX10_round_238 ?_
            refine v_iload dX10_round_241 rfl ?_
            refine v_dup2 dX10_round_243 rfl rfl ?_
            refine v_ria hM ar_49 (by omega) (by omega) g49 dX10_round_244 ?_
            refine v_iload dX10_round_245 rfl ?_
            refine v_iload dX10_round_247 rfl ?_
            refine v_icmp_ne (tgt := 256) dX10_round_249 (by decide) ⟨by omega, by omega⟩ ⟨by omega, by omega⟩ (fun h249 => ?_) (fun h249 => ?_)
            · skip
              refine v_iconst dX10_round_256 ?_
              refine v_iload dX10_round_257 rfl ?_
              refine v_isub dX10_round_259 ?_
              refine v_iadd dX10_round_260 ?_
              refine v_ris hM hF ar_49 (by omega) (by omega) dX10_round_261 (fun M hM hF => ?_)
              refine v_aload_n dX10_round_262 rfl ?_
              refine v_dup dX10_round_263 rfl ?_
              refine v_rgi 52 hM g52 fl_X10_352 rfl dX10_round_264 ?_
              refine v_iload dX10_round_267 rfl ?_
              refine v_iadd dX10_round_269 ?_
              refine v_rp 52 hM hF (flS_52 G _ _) fp_X10_352 rfl rfl (Nat.le_of_ble_eq_true rfl) dX10_round_270 (fun M hM hF => ?_)
              refine v_iinc dX10_round_273 rfl (Nat.le_of_ble_eq_true rfl) ?_
              refine v_goto (tgt := 191) dX10_round_276 (by decide) ?_
              skip
              have hpy : (0 : Int) = pyL σ Rw S w pr i := by
                unfold pyL
                rw [if_neg (show ¬ (i : Int) = (w : Int) by omega), if_neg (fun h => by have := h.1; omega)]
              exact v_to (nxt _ _ _ hpy (by rw [hgd, if_neg (show ¬ (i : Int) = (w : Int) by omega), ← hpy]; omega) hM hF) rfl (sw_h1 rfl (sw_h1 rfl (sw_h1 rfl (sw_h1 rfl (sw_h1 rfl (sw_h1 rfl (sw_h1 rfl sw_h0)))))))
            · skip
              exfalso; omega
          · skip
            refine v_iconst dX10_round_220 ?_
            refine v_aload_n dX10_round_221 rfl ?_
            refine v_getfH 24 hM.1 fl_X10_49 rfl dX10_round_222 ?_
            refine v_iload dX10_round_225 rfl ?_
            refine v_ria hM ar_24 (by omega) (by omega) g24 dX10_round_227 ?_
            refine v_max ⟨by omega, by omega⟩ ⟨by omega, by omega⟩ ql_X10_208 ⟨Nat.le_of_ble_eq_true rfl, Nat.le_of_ble_eq_true rfl⟩ (Nat.le_refl _) (Nat.le_refl _) dX10_round_228 ?_
            refine v_goto (tgt := 235) dX10_round_231 (by decide) ?_
            refine v_istore dX10_round_235 (Nat.le_of_ble_eq_true rfl) ?_
            refine v_aload_n dX10_round_237 rfl ?_
            refine v_getfH 49 hM.1 fl_X10_73 rfl dX10_round_238 ?_
            refine v_iload dX10_round_241 rfl ?_
            refine v_dup2 dX10_round_243 rfl rfl ?_
            refine v_ria hM ar_49 (by omega) (by omega) g49 dX10_round_244 ?_
            refine v_iload dX10_round_245 rfl ?_
            refine v_iload dX10_round_247 rfl ?_
            refine v_icmp_ne (tgt := 256) dX10_round_249 (by decide) ⟨by omega, by omega⟩ ⟨by omega, by omega⟩ (fun h249 => ?_) (fun h249 => ?_)
            · skip
              refine v_iconst dX10_round_256 ?_
              refine v_iload dX10_round_257 rfl ?_
              refine v_isub dX10_round_259 ?_
              refine v_iadd dX10_round_260 ?_
              refine v_ris hM hF ar_49 (by omega) (by omega) dX10_round_261 (fun M hM hF => ?_)
              refine v_aload_n dX10_round_262 rfl ?_
              refine v_dup dX10_round_263 rfl ?_
              refine v_rgi 52 hM g52 fl_X10_352 rfl dX10_round_264 ?_
              refine v_iload dX10_round_267 rfl ?_
              refine v_iadd dX10_round_269 ?_
              refine v_rp 52 hM hF (flS_52 G _ _) fp_X10_352 rfl rfl (Nat.le_of_ble_eq_true rfl) dX10_round_270 (fun M hM hF => ?_)
              refine v_iinc dX10_round_273 rfl (Nat.le_of_ble_eq_true rfl) ?_
              refine v_goto (tgt := 191) dX10_round_276 (by decide) ?_
              skip
              have hpy : (if 0 < nwB (bdN Rw S) (sLe σ) i then nwB (bdN Rw S) (sLe σ) i else 0) = pyL σ Rw S w pr i := by
                unfold pyL
                rw [if_neg (show ¬ (i : Int) = (w : Int) by omega)]
                (repeat' split) <;> omega
              exact v_to (nxt _ _ _ hpy (by rw [hgd, if_neg (show ¬ (i : Int) = (w : Int) by omega), hpy]; omega) hM hF) rfl (sw_h1 rfl (sw_h1 rfl (sw_h1 rfl (sw_h1 rfl (sw_h1 rfl (sw_h1 rfl (sw_h1 rfl sw_h0)))))))
            · skip
              exfalso; omega
        · skip
          refine v_iload dX10_round_207 rfl ?_
          refine v_goto (tgt := 235) dX10_round_209 (by decide) ?_
          refine v_istore dX10_round_235 (Nat.le_of_ble_eq_true rfl) ?_
          refine v_aload_n dX10_round_237 rfl ?_
          refine v_getfH 49 hM.1 fl_X10_73 rfl dX10_round_238 ?_
          refine v_iload dX10_round_241 rfl ?_
          refine v_dup2 dX10_round_243 rfl rfl ?_
          refine v_ria hM ar_49 (by omega) (by omega) g49 dX10_round_244 ?_
          refine v_iload dX10_round_245 rfl ?_
          refine v_iload dX10_round_247 rfl ?_
          refine v_icmp_ne (tgt := 256) dX10_round_249 (by decide) ⟨by omega, by omega⟩ ⟨by omega, by omega⟩ (fun h249 => ?_) (fun h249 => ?_)
          · skip
            exfalso; omega
          · skip
            refine v_iload_n dX10_round_252 rfl ?_
            refine v_goto (tgt := 257) dX10_round_253 (by decide) ?_
            refine v_iload dX10_round_257 rfl ?_
            refine v_isub dX10_round_259 ?_
            refine v_iadd dX10_round_260 ?_
            refine v_ris hM hF ar_49 (by omega) (by omega) dX10_round_261 (fun M hM hF => ?_)
            refine v_aload_n dX10_round_262 rfl ?_
            refine v_dup dX10_round_263 rfl ?_
            refine v_rgi 52 hM g52 fl_X10_352 rfl dX10_round_264 ?_
            refine v_iload dX10_round_267 rfl ?_
            refine v_iadd dX10_round_269 ?_
            refine v_rp 52 hM hF (flS_52 G _ _) fp_X10_352 rfl rfl (Nat.le_of_ble_eq_true rfl) dX10_round_270 (fun M hM hF => ?_)
            refine v_iinc dX10_round_273 rfl (Nat.le_of_ble_eq_true rfl) ?_
            refine v_goto (tgt := 191) dX10_round_276 (by decide) ?_
            exact v_to (nxt _ _ _ (by unfold pyL; rw [if_pos (by omega)]) (by rw [hgd, if_pos (by omega)]; unfold pyL; rw [if_pos (by omega)]; omega) hM hF) rfl (sw_h1 rfl (sw_h1 rfl (sw_h1 rfl (sw_h1 rfl (sw_h1 rfl (sw_h1 rfl (sw_h1 rfl sw_h0)))))))
  refine v_aload_n dX10_round_182 rfl ?_
  refine v_callV (ci := 10) (K10_pays hM hq hm.2 hle hB hwy (by omega)) ⟨rfl, rfl⟩ (Nat.le_refl _) (Nat.le_refl _) hM.1 rfl ⟨ml_X10_213, mm_X10_pays⟩ ⟨(Nat.le_of_ble_eq_true rfl), (Nat.le_of_ble_eq_true rfl)⟩ mp_X10_pays rfl rfl (Nat.le_of_ble_eq_true rfl) dX10_round_183 (fun r M' h => ?_)
  obtain ⟨rfl, rfl⟩ := h
  rw [hpp]
  refine v_istore dX10_round_186 (Nat.le_of_ble_eq_true rfl) ?_
  refine v_iconst dX10_round_188 ?_
  refine v_istore dX10_round_189 (Nat.le_of_ble_eq_true rfl) ?_
  exact v_to (loop m 0 x1 a1 _ (by omega) hM hF xfr.rf afr.rf h52 (fun j j0 j1 => by rw [if_neg (by omega), h49 j j0 j1])) rfl (sw_h1 rfl (sw_h1 rfl (sw_h1 rfl (sw_h1 rfl (sw_h1 rfl (sw_h1 rfl (sw_h1 rfl sw_h0)))))))
end

