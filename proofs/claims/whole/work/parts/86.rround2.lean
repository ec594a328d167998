/-! a round of LEARN by the reference -/
def LR (σ : SaleT) (m : Nat) (q : LsT) (x : Nat → Int) (a : Nat → Int → Int) : Prop := x 53 = q.1 ∧ x 52 = q.2.1 ∧ (∀ p j, 0 ≤ p → p < (m : Int) → 0 ≤ j → j < sSg σ → a 48 (5 * p + j) = q.2.2.2.1 (p * 5 + j)) ∧ ∀ i, 0 ≤ i → i < (m : Int) → a 49 i = q.2.2.2.2.1 i
theorem gdL_at {σ : SaleT} {Rw Sg Gd : Int → Int} {v w pr : Int} : ∀ (k : Nat) (i : Int), gdL σ Rw Sg Gd v w pr k i = (if i = w then Gd i + v else Gd i) - (if 0 ≤ i ∧ i < (k : Int) then pyL σ Rw Sg w pr i else 0)
  | 0, i => by
    show (if i = w then Gd w + v else Gd i) = _
    rw [if_neg (show ¬ (0 ≤ i ∧ i < ((0 : Nat) : Int)) by omega)]
    by_cases c : i = w
    · rw [if_pos c, if_pos c, c]; omega
    · rw [if_neg c, if_neg c]; omega
  | k + 1, i => by
    show (if i = (k : Int) then gdL σ Rw Sg Gd v w pr k k - pyL σ Rw Sg w pr k else gdL σ Rw Sg Gd v w pr k i) = _
    by_cases c : i = (k : Int)
    · rw [if_pos c, gdL_at k k, if_neg (show ¬ (0 ≤ (k : Int) ∧ (k : Int) < (k : Int)) by omega), if_pos (show 0 ≤ i ∧ i < ((k + 1 : Nat) : Int) by omega), c]; omega
    · rw [if_neg c, gdL_at k i]
      by_cases d : 0 ≤ i ∧ i < (k : Int)
      · rw [if_pos d, if_pos (show 0 ≤ i ∧ i < ((k + 1 : Nat) : Int) by omega)]
      · rw [if_neg d, if_neg (show ¬ (0 ≤ i ∧ i < ((k + 1 : Nat) : Int)) by omega)]
/-- rows moved so far -/
def rwP (Rw Sg : Int → Int) (v w pr : Int) (k : Nat) : Int → Int := if v < pr then (if w < (k : Int) then mvR Rw Sg w (-1) else Rw) else if pr < v then mvO Rw Sg w k else Rw
theorem rwP_in {Rw Sg : Int → Int} {v w pr : Int} {k : Nat} (h : ∀ j, 0 ≤ j → j < 20 → 0 ≤ Rw j ∧ Rw j ≤ 60) : ∀ j, 0 ≤ j → j < 20 → 0 ≤ rwP Rw Sg v w pr k j ∧ rwP Rw Sg v w pr k j ≤ 60 := by
  unfold rwP
  by_cases c : v < pr
  · rw [if_pos c]
    by_cases d : w < (k : Int)
    · rw [if_pos d]; exact mvR_in h
    · rw [if_neg d]; exact h
  · rw [if_neg c]
    by_cases d : pr < v
    · rw [if_pos d]; exact mvO_in w h k
    · rw [if_neg d]; exact h
theorem rwP_m {Rw Sg : Int → Int} {v w pr : Int} {m : Nat} (hw : w < (m : Int)) : rwP Rw Sg v w pr m = rwL Rw Sg m v w pr := by
  unfold rwP rwL
  rw [if_pos hw]
theorem mvO_fr {Rw Sg : Int → Int} {w : Int} : ∀ (k : Nat) (z : Int), (∀ i : Nat, i < k → z ≠ (i : Int) * 5 + Sg i) → mvO Rw Sg w k z = Rw z
  | 0, _, _ => rfl
  | k + 1, z, h => by
    unfold mvO
    have ih := mvO_fr (Rw := Rw) (Sg := Sg) (w := w) k z (fun i hi => h i (by omega))
    by_cases c : (k : Int) = w
    · rw [if_pos c]; exact ih
    · rw [if_neg c]
      show (if z = (k : Int) * 5 + Sg k then _ else mvO Rw Sg w k z) = Rw z
      rw [if_neg (h k (by omega))]; exact ih
section
variable {l : Launch} {G : sw_G} {M : sw_M} {s : CSt} {k : Int} {x : Nat → Int} {a : Nat → Int → Int}
/-- the rows told by place and sign after a move -/
theorem rows_up {A R : Int → Int} {m : Nat} {sg i d c : Int} (h : ∀ p j, 0 ≤ p → p < (m : Int) → 0 ≤ j → j < sg → A (5 * p + j) = R (p * 5 + j)) (hd : 0 ≤ d ∧ d < 5) (hsg : sg ≤ 5) : ∀ p j, 0 ≤ p → p < (m : Int) → 0 ≤ j → j < sg → up A (5 * i + d) c (5 * p + j) = up R (i * 5 + d) c (p * 5 + j) := fun p j p0 p1 j0 j1 => by
  by_cases e : p = i ∧ j = d
  · rw [e.1, e.2, up_eq, up_eq]
  · rw [up_ne (by omega), up_ne (by omega)]; exact h p j p0 p1 j0 j1
theorem K10_rnEnd {σ : SaleT} {m : Nat} {t v w pr : Int} {Rw S A0 : Int → Int} {P : Int → (Nat → Int) → (Nat → Int → Int) → sw_M → Prop} (hsg : 2 ≤ sSg σ ∧ sSg σ ≤ 5) (hm : 1 ≤ m ∧ m ≤ 4) (hS : sOK σ S m) (hin : ∀ j, 0 ≤ j → j < 20 → 0 ≤ Rw j ∧ Rw j ≤ 60) (hv : 0 ≤ v ∧ v ≤ 60) (hp : 0 ≤ pr ∧ pr ≤ 60) (hw : 0 ≤ w ∧ w < (m : Int)) {x1 : Nat → Int} (g21 : x1 21 = (m : Int)) {a1 : Nat → Int → Int} {M1 : sw_M} {j0 : Int} (hM : RS G M1 x1 a1) (hF : frR M M1) (h25 : ∀ i, 0 ≤ i → i < (m : Int) → a1 25 i = S i) (h48 : ∀ p j, 0 ≤ p → p < (m : Int) → 0 ≤ j → j < sSg σ → a1 48 (5 * p + j) = Rw (p * 5 + j)) (fin : ∀ (a2 : Nat → Int → Int) (M2 : sw_M), RS G M2 x1 a2 → frR M M2 → afr [48] a1 a2 → (∀ p j, 0 ≤ p → p < (m : Int) → 0 ≤ j → j < sSg σ → a2 48 (5 * p + j) = rwL Rw S m v w pr (p * 5 + j)) → P (if v < pr then 1 else 0) x1 a2 M2) : V l G μX10_round sw_E0 (sw_Zq G μX10_round (sw_q0 G (fun r M' => ∃ z x' a', r = some (sw_i z) ∧ P z x' a' M'))) 279 [(0, .ref (sw_al G 70)), (1, sw_i k), (2, sw_i t), (3, sw_i v), (5, sw_i w), (6, sw_i pr), (7, sw_i j0)] [] M1 0 0 := by
  have loop : ∀ (n i : Nat) (a2 : Nat → Int → Int) (M2 : sw_M), i + n = m → RS G M2 x1 a2 → frR M M2 → afr [48] a1 a2 → (∀ p j, 0 ≤ p → p < (m : Int) → 0 ≤ j → j < sSg σ → a2 48 (5 * p + j) = rwP Rw S v w pr i (p * 5 + j)) → V l G μX10_round sw_E0 (sw_Zq G μX10_round (sw_q0 G (fun r M' => ∃ z x' a', r = some (sw_i z) ∧ P z x' a' M'))) 282 [(0, .ref (sw_al G 70)), (1, sw_i k), (2, sw_i t), (3, sw_i v), (5, sw_i w), (6, sw_i pr), (7, sw_i (i : Int))] [] M2 0 0 := by
    intro n
    induction n with
    | zero =>
      intro i a2 M2 hi hM hF ha h48
      have e : i = m := by omega
      subst e
      have h := fin a2 M2 hM hF ha (fun p j p0 p1 q0 q1 => by rw [h48 p j p0 p1 q0 q1, rwP_m hw.2])
      refine v_iload dX10_round_282 rfl ?_
      refine v_aload_n dX10_round_284 rfl ?_
      refine v_rgi 21 hM g21 fl_X10_176 rfl dX10_round_285 ?_
      refine v_icmp_ge (tgt := 337) dX10_round_288 (by decide) ⟨by omega, by omega⟩ ⟨by omega, by omega⟩ (fun h288 => ?_) (fun h288 => ?_)
      · skip
        refine v_iload dX10_round_337 rfl ?_
        refine v_iload_n dX10_round_339 rfl ?_
        refine v_icmp_le (tgt := 347) dX10_round_340 (by decide) ⟨by omega, by omega⟩ ⟨by omega, by omega⟩ (fun h340 => ?_) (fun h340 => ?_)
        · skip
          refine v_iconst dX10_round_347 ?_
          exact v_zret rfl dX10_round_348 rfl (Nat.le_refl _) (Nat.le_refl _) (⟨_, _, _, rfl, by rw [if_neg (by omega)] at h; exact h⟩)
        · skip
          refine v_iconst dX10_round_343 ?_
          refine v_goto (tgt := 348) dX10_round_344 (by decide) ?_
          exact v_zret rfl dX10_round_348 rfl (Nat.le_refl _) (Nat.le_refl _) (⟨_, _, _, rfl, by rw [if_pos (by omega)] at h; exact h⟩)
      · skip
        exfalso; omega
    | succ n ih =>
      intro i a2 M2 hi hM hF ha h48
      have hSi := hS i (by omega)
      have g25 : a2 25 i = S i := by rw [ha 25 (by decide)]; exact h25 i (by omega) (by omega)
      have g48 := h48 i (S i) (by omega) (by omega) hSi.1 hSi.2
      have hb := rwP_in (Sg := S) (v := v) (w := w) (pr := pr) (k := i) hin ((i : Int) * 5 + S i) (by omega) (by omega)
      have nxt : ∀ (a3 : Nat → Int → Int) (M3 : sw_M), RS G M3 x1 a3 → frR M M3 → afr [48] a1 a3 → (∀ p j, 0 ≤ p → p < (m : Int) → 0 ≤ j → j < sSg σ → a3 48 (5 * p + j) = rwP Rw S v w pr (i + 1) (p * 5 + j)) → V l G μX10_round sw_E0 (sw_Zq G μX10_round (sw_q0 G (fun r M' => ∃ z x' a', r = some (sw_i z) ∧ P z x' a' M'))) 282 [(0, .ref (sw_al G 70)), (1, sw_i k), (2, sw_i t), (3, sw_i v), (5, sw_i w), (6, sw_i pr), (7, sw_i ((i : Int) + 1))] [] M3 0 0 := fun a3 M3 g1 g2 g3 g4 => v_to (ih (i + 1) a3 M3 (by omega) g1 g2 g3 g4) rfl (sw_h1 rfl (sw_h1 rfl (sw_h1 rfl (sw_h1 rfl (sw_h1 rfl (sw_h1 rfl (sw_h1 rfl sw_h0)))))))
      have same : (¬ ((i : Int) = w ∧ v < pr ∨ (i : Int) ≠ w ∧ pr < v)) → rwP Rw S v w pr (i + 1) = rwP Rw S v w pr i := fun h => by
        unfold rwP
        by_cases c : v < pr
        · rw [if_pos c, if_pos c]
          by_cases d : w < (i : Int)
          · rw [if_pos d, if_pos (by omega)]
          · rw [if_neg d, if_neg (by omega)]
        · rw [if_neg c, if_neg c]
          by_cases d : pr < v
          · rw [if_pos d, if_pos d]
            show (if (i : Int) = w then mvO Rw S w i else _) = _
            rw [if_pos (by omega)]
          · rw [if_neg d, if_neg d]
      have s1 : (i : Int) = w → v < pr → rwP Rw S v w pr (i + 1) = up (rwP Rw S v w pr i) ((i : Int) * 5 + S i) (clp (rwP Rw S v w pr i ((i : Int) * 5 + S i) + -1)) := fun h1 h2 => by
        have e : rwP Rw S v w pr i = Rw := by unfold rwP; rw [if_pos h2, if_neg (by omega)]
        rw [e]
        unfold rwP
        rw [if_pos h2, if_pos (by omega), ← h1]; rfl
      have s2 : (i : Int) ≠ w → pr < v → rwP Rw S v w pr (i + 1) = up (rwP Rw S v w pr i) ((i : Int) * 5 + S i) (clp (rwP Rw S v w pr i ((i : Int) * 5 + S i) + 1)) := fun h1 h2 => by
        have e : ∀ z, rwP Rw S v w pr z = mvO Rw S w z := fun z => by unfold rwP; rw [if_neg (by omega), if_pos h2]
        rw [e, e]
        show (if (i : Int) = w then mvO Rw S w i else mvR (mvO Rw S w i) S i 1) = _
        rw [if_neg h1]; rfl
      refine v_iload dX10_round_282 rfl ?_
      refine v_aload_n dX10_round_284 rfl ?_
      refine v_rgi 21 hM g21 fl_X10_176 rfl dX10_round_285 ?_
      refine v_icmp_ge (tgt := 337) dX10_round_288 (by decide) ⟨by omega, by omega⟩ ⟨by omega, by omega⟩ (fun h288 => ?_) (fun h288 => ?_)
      · skip
        exfalso; omega
      · skip
        refine v_iload dX10_round_291 rfl ?_
        refine v_iload dX10_round_293 rfl ?_
        refine v_icmp_ne (tgt := 307) dX10_round_295 (by decide) ⟨by omega, by omega⟩ ⟨by omega, by omega⟩ (fun h295 => ?_) (fun h295 => ?_)
        · skip
          refine v_iload_n dX10_round_307 rfl ?_
          refine v_iload dX10_round_308 rfl ?_
          refine v_icmp_le (tgt := 331) dX10_round_310 (by decide) ⟨by omega, by omega⟩ ⟨by omega, by omega⟩ (fun h310 => ?_) (fun h310 => ?_)
          · skip
            refine v_iinc dX10_round_331 rfl (Nat.le_of_ble_eq_true rfl) ?_
            refine v_goto (tgt := 282) dX10_round_334 (by decide) ?_
            exact v_to (nxt a2 _ hM hF ha (by rw [same (by omega)]; exact h48)) rfl (sw_h1 rfl (sw_h1 rfl (sw_h1 rfl (sw_h1 rfl (sw_h1 rfl (sw_h1 rfl (sw_h1 rfl sw_h0)))))))
          · skip
            refine v_aload_n dX10_round_313 rfl ?_
            refine v_iload dX10_round_314 rfl ?_
            refine v_iload dX10_round_316 rfl ?_
            refine v_iload dX10_round_318 rfl ?_
            refine v_icmp_ne (tgt := 327) dX10_round_320 (by decide) ⟨by omega, by omega⟩ ⟨by omega, by omega⟩ (fun h320 => ?_) (fun h320 => ?_)
            · skip
              refine v_iconst dX10_round_327 ?_
              refine v_callV (ci := 10) (K10_change hM ⟨by omega, by omega⟩ g25 ⟨by omega, by omega⟩ g48 hb (b := 1) ⟨by omega, by omega⟩) ⟨rfl, rfl⟩ (Nat.le_refl _) (Nat.le_refl _) hM.1 rfl ⟨ml_X10_364, mm_X10_change_⟩ ⟨(Nat.le_of_ble_eq_true rfl), (Nat.le_of_ble_eq_true rfl)⟩ mp_X10_change_ rfl rfl (Nat.le_of_ble_eq_true rfl) dX10_round_328 (fun r M' h => ?_)
              obtain ⟨rfl, hM1, hF1⟩ := h
              replace hM := hM1
              replace hF := hF.tr hF1
              refine v_iinc dX10_round_331 rfl (Nat.le_of_ble_eq_true rfl) ?_
              refine v_goto (tgt := 282) dX10_round_334 (by decide) ?_
              exact v_to (nxt _ _ hM hF (ha.up (k := 48) (by decide)) (by rw [s2 (by omega) (by omega)]; exact rows_up h48 ⟨by omega, by omega⟩ hsg.2)) rfl (sw_h1 rfl (sw_h1 rfl (sw_h1 rfl (sw_h1 rfl (sw_h1 rfl (sw_h1 rfl (sw_h1 rfl sw_h0)))))))
            · skip
              exfalso; omega
        · skip
          refine v_iload dX10_round_298 rfl ?_
          refine v_iload_n dX10_round_300 rfl ?_
          refine v_icmp_le (tgt := 331) dX10_round_301 (by decide) ⟨by omega, by omega⟩ ⟨by omega, by omega⟩ (fun h301 => ?_) (fun h301 => ?_)
          · skip
            refine v_iinc dX10_round_331 rfl (Nat.le_of_ble_eq_true rfl) ?_
            refine v_goto (tgt := 282) dX10_round_334 (by decide) ?_
            exact v_to (nxt a2 _ hM hF ha (by rw [same (by omega)]; exact h48)) rfl (sw_h1 rfl (sw_h1 rfl (sw_h1 rfl (sw_h1 rfl (sw_h1 rfl (sw_h1 rfl (sw_h1 rfl sw_h0)))))))
          · skip
            refine v_goto (tgt := 313) dX10_round_304 (by decide) ?_
            refine v_aload_n dX10_round_313 rfl ?_
            refine v_iload dX10_round_314 rfl ?_
            refine v_iload dX10_round_316 rfl ?_
            refine v_iload dX10_round_318 rfl ?_
            refine v_icmp_ne (tgt := 327) dX10_round_320 (by decide) ⟨by omega, by omega⟩ ⟨by omega, by omega⟩ (fun h320 => ?_) (fun h320 => ?_)
            · skip
              exfalso; omega
            · skip
              refine v_iconst dX10_round_323 ?_
              refine v_goto (tgt := 328) dX10_round_324 (by decide) ?_
              refine v_callV (ci := 10) (K10_change hM ⟨by omega, by omega⟩ g25 ⟨by omega, by omega⟩ g48 hb (b := -1) ⟨by omega, by omega⟩) ⟨rfl, rfl⟩ (Nat.le_refl _) (Nat.le_refl _) hM.1 rfl ⟨ml_X10_364, mm_X10_change_⟩ ⟨(Nat.le_of_ble_eq_true rfl), (Nat.le_of_ble_eq_true rfl)⟩ mp_X10_change_ rfl rfl (Nat.le_of_ble_eq_true rfl) dX10_round_328 (fun r M' h => ?_)
              obtain ⟨rfl, hM1, hF1⟩ := h
              replace hM := hM1
              replace hF := hF.tr hF1
              refine v_iinc dX10_round_331 rfl (Nat.le_of_ble_eq_true rfl) ?_
              refine v_goto (tgt := 282) dX10_round_334 (by decide) ?_
              exact v_to (nxt _ _ hM hF (ha.up (k := 48) (by decide)) (by rw [s1 (by omega) (by omega)]; exact rows_up h48 ⟨by omega, by omega⟩ hsg.2)) rfl (sw_h1 rfl (sw_h1 rfl (sw_h1 rfl (sw_h1 rfl (sw_h1 rfl (sw_h1 rfl (sw_h1 rfl sw_h0)))))))
  have e0 : rwP Rw S v w pr 0 = Rw := by
    unfold rwP
    by_cases c : v < pr
    · rw [if_pos c, if_neg (by omega)]
    · rw [if_neg c]
      by_cases d : pr < v
      · rw [if_pos d]; rfl
      · rw [if_neg d]
  refine v_iconst dX10_round_279 ?_
  refine v_istore dX10_round_280 (Nat.le_of_ble_eq_true rfl) ?_
  exact v_to (loop m 0 a1 M1 (by omega) hM hF afr.rf (by rw [e0]; exact h48)) rfl (sw_h1 rfl (sw_h1 rfl (sw_h1 rfl (sw_h1 rfl (sw_h1 rfl (sw_h1 rfl (sw_h1 rfl sw_h0)))))))
end

