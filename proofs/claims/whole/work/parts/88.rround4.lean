/-! a round of LEARN by the reference: who wins; the whole round -/
theorem ctH_le {Rw Sg : Int → Int} {z : Int} : ∀ (d k : Nat), ctH Rw Sg z k ≤ ctH Rw Sg z (k + d)
  | 0, k => Int.le_refl _
  | d + 1, k => by
    have ih := ctH_le (Rw := Rw) (Sg := Sg) (z := z) d k
    show _ ≤ (if bdN Rw Sg ((k + d : Nat) : Int) = z then ctH Rw Sg z (k + d) + 1 else ctH Rw Sg z (k + d))
    split <;> omega
section
variable {l : Launch} {G : sw_G} {M : sw_M} {s : CSt} {k : Int} {x : Nat → Int} {a : Nat → Int → Int}
theorem K10_rnWin {m : Nat} {t v hi sk : Int} {Rw S : Int → Int} {le wy : Int} {Zq : Option Value → sw_M → Prop} (hm : 1 ≤ m ∧ m ≤ 4) (hBd : bbO (bdN Rw S) m) (hle : 0 ≤ le ∧ le ≤ 60) {x1 : Nat → Int} {a1 : Nat → Int → Int} {M1 : sw_M} (hM : RS G M1 x1 a1) (hq : StB x1 a1 (bdN Rw S) le wy m) (hhi : (rkb (bdN Rw S) le m).1 = hi) (hne : hi ≠ -1) (hsk : 0 ≤ sk ∧ sk < ctH Rw S hi m) (fin : ∀ (w : Nat) (sk' j0 : Int), w < m → bdN Rw S w = hi → pkW Rw S hi m 0 sk = (w : Int) → V l G μX10_round sw_E0 (sw_Zq G μX10_round (sw_q0 G Zq)) 182 [(0, .ref (sw_al G 70)), (1, sw_i k), (2, sw_i t), (3, sw_i v), (4, sw_i sk'), (5, sw_i (w : Int)), (6, sw_i j0)] [] M1 0 0) : V l G μX10_round sw_E0 (sw_Zq G μX10_round (sw_q0 G Zq)) 130 [(0, .ref (sw_al G 70)), (1, sw_i k), (2, sw_i t), (3, sw_i v), (4, sw_i sk)] [] M1 0 0 := by
  obtain ⟨g21, g22, g23, g26, g27, gN⟩ := id hq
  rw [hhi] at g26
  have o := rkb_ok hle.1 m hBd
  rw [hhi] at o
  have oq := o.1
  unfold qkO at oq
  rw [hhi] at oq
  have hN : ∀ i : Nat, i < m → (bdN Rw S i < le ∧ nwB (bdN Rw S) le i = -1 ∨ ¬ bdN Rw S i < le ∧ nwB (bdN Rw S) le i = bdN Rw S i) ∧ bdN Rw S i ≤ 60 := fun i hi => by
    have := hBd i (by omega) (by omega)
    unfold nwB
    split <;> omega
  have found : ∀ (n i : Nat) (w : Nat) (sk' : Int), i + n = m → w < m → bdN Rw S w = hi → pkW Rw S hi m 0 sk = (w : Int) → -10 - (i : Int) ≤ sk' + -6 + 0 ∧ sk' < 0 → -2 - (i : Int) ≤ sk' → V l G μX10_round sw_E0 (sw_Zq G μX10_round (sw_q0 G Zq)) 136 [(0, .ref (sw_al G 70)), (1, sw_i k), (2, sw_i t), (3, sw_i v), (4, sw_i sk'), (5, sw_i (w : Int)), (6, sw_i (i : Int))] [] M1 0 0 := by
    intro n
    induction n with
    | zero =>
      intro i w sk' hi2 h1 h2 h3 h4 h5
      have e : i = m := by omega
      subst e
      refine v_iload dX10_round_136 rfl ?_
      refine v_aload_n dX10_round_138 rfl ?_
      refine v_rgi 21 hM g21 fl_X10_176 rfl dX10_round_139 ?_
      refine v_icmp_ge (tgt := 182) dX10_round_142 (by decide) ⟨by omega, by omega⟩ ⟨by omega, by omega⟩ (fun h142 => ?_) (fun h142 => ?_)
      · skip
        exact v_to (fin w sk' _ h1 h2 h3) rfl (sw_h1 rfl (sw_h1 rfl (sw_h1 rfl (sw_h1 rfl (sw_h1 rfl (sw_h1 rfl (sw_h1 rfl sw_h0)))))))
      · skip
        exfalso; omega
    | succ n ih =>
      intro i w sk' hi2 h1 h2 h3 h4 h5
      have g24 := gN i (by omega) (by omega)
      have hb := hN i (by omega)
      refine v_iload dX10_round_136 rfl ?_
      refine v_aload_n dX10_round_138 rfl ?_
      refine v_rgi 21 hM g21 fl_X10_176 rfl dX10_round_139 ?_
      refine v_icmp_ge (tgt := 182) dX10_round_142 (by decide) ⟨by omega, by omega⟩ ⟨by omega, by omega⟩ (fun h142 => ?_) (fun h142 => ?_)
      · skip
        exfalso; omega
      · skip
        refine v_aload_n dX10_round_145 rfl ?_
        refine v_getfH 24 hM.1 fl_X10_49 rfl dX10_round_146 ?_
        refine v_iload dX10_round_149 rfl ?_
        refine v_ria hM ar_24 (by omega) (by omega) g24 dX10_round_151 ?_
        refine v_aload_n dX10_round_152 rfl ?_
        refine v_rgi 26 hM g26 fl_X10_202 rfl dX10_round_153 ?_
        refine v_icmp_ne (tgt := 176) dX10_round_156 (by decide) ⟨by omega, by omega⟩ ⟨by omega, by omega⟩ (fun h156 => ?_) (fun h156 => ?_)
        · skip
          refine v_iinc dX10_round_176 rfl (Nat.le_of_ble_eq_true rfl) ?_
          refine v_goto (tgt := 136) dX10_round_179 (by decide) ?_
          exact v_to (ih (i + 1) w sk' (by omega) h1 h2 h3 ⟨by omega, h4.2⟩ (by omega)) rfl (sw_h1 rfl (sw_h1 rfl (sw_h1 rfl (sw_h1 rfl (sw_h1 rfl (sw_h1 rfl (sw_h1 rfl sw_h0)))))))
        · skip
          refine v_iload dX10_round_159 rfl ?_
          refine v_if_ne (tgt := 169) dX10_round_161 (by decide) ⟨by omega, by omega⟩ (fun h161 => ?_) (fun h161 => ?_)
          · skip
            refine v_iload dX10_round_169 rfl ?_
            refine v_istore dX10_round_171 (Nat.le_of_ble_eq_true rfl) ?_
            refine v_iinc dX10_round_173 rfl (Nat.le_of_ble_eq_true rfl) ?_
            refine v_iinc dX10_round_176 rfl (Nat.le_of_ble_eq_true rfl) ?_
            refine v_goto (tgt := 136) dX10_round_179 (by decide) ?_
            exact v_to (ih (i + 1) w (sk' + -1) (by omega) h1 h2 h3 ⟨by omega, by omega⟩ (by omega)) rfl (sw_h1 rfl (sw_h1 rfl (sw_h1 rfl (sw_h1 rfl (sw_h1 rfl (sw_h1 rfl (sw_h1 rfl sw_h0)))))))
          · skip
            exfalso; omega
  have seek : ∀ (n i : Nat) (sk' : Int), i + n = m → 0 ≤ sk' → sk' ≤ 4 → sk' < ctH Rw S hi m - ctH Rw S hi i → pkW Rw S hi m 0 sk = pkW Rw S hi n i sk' → V l G μX10_round sw_E0 (sw_Zq G μX10_round (sw_q0 G Zq)) 136 [(0, .ref (sw_al G 70)), (1, sw_i k), (2, sw_i t), (3, sw_i v), (4, sw_i sk'), (5, sw_i (-1)), (6, sw_i (i : Int))] [] M1 0 0 := by
    intro n
    induction n with
    | zero =>
      intro i sk' hi2 h1 h1b h2 h3
      have e : i = m := by omega
      subst e
      omega
    | succ n ih =>
      intro i sk' hi2 h1 h1b h2 h3
      have g24 := gN i (by omega) (by omega)
      have hb := hN i (by omega)
      have hpk : pkW Rw S hi (n + 1) i sk' = if bdN Rw S i = hi then (if sk' = 0 then (i : Int) else pkW Rw S hi n ((i : Int) + 1) (sk' - 1)) else pkW Rw S hi n ((i : Int) + 1) sk' := rfl
      have hct : ctH Rw S hi (i + 1) = if bdN Rw S i = hi then ctH Rw S hi i + 1 else ctH Rw S hi i := rfl
      rw [hpk] at h3
      refine v_iload dX10_round_136 rfl ?_
      refine v_aload_n dX10_round_138 rfl ?_
      refine v_rgi 21 hM g21 fl_X10_176 rfl dX10_round_139 ?_
      refine v_icmp_ge (tgt := 182) dX10_round_142 (by decide) ⟨by omega, by omega⟩ ⟨by omega, by omega⟩ (fun h142 => ?_) (fun h142 => ?_)
      · skip
        exfalso; omega
      · skip
        refine v_aload_n dX10_round_145 rfl ?_
        refine v_getfH 24 hM.1 fl_X10_49 rfl dX10_round_146 ?_
        refine v_iload dX10_round_149 rfl ?_
        refine v_ria hM ar_24 (by omega) (by omega) g24 dX10_round_151 ?_
        refine v_aload_n dX10_round_152 rfl ?_
        refine v_rgi 26 hM g26 fl_X10_202 rfl dX10_round_153 ?_
        refine v_icmp_ne (tgt := 176) dX10_round_156 (by decide) ⟨by omega, by omega⟩ ⟨by omega, by omega⟩ (fun h156 => ?_) (fun h156 => ?_)
        · skip
          rw [if_neg (by omega)] at hct h3
          refine v_iinc dX10_round_176 rfl (Nat.le_of_ble_eq_true rfl) ?_
          refine v_goto (tgt := 136) dX10_round_179 (by decide) ?_
          exact v_to (ih (i + 1) sk' (by omega) h1 h1b (by omega) h3) rfl (sw_h1 rfl (sw_h1 rfl (sw_h1 rfl (sw_h1 rfl (sw_h1 rfl (sw_h1 rfl (sw_h1 rfl sw_h0)))))))
        · skip
          rw [if_pos (by omega)] at hct h3
          refine v_iload dX10_round_159 rfl ?_
          refine v_if_ne (tgt := 169) dX10_round_161 (by decide) ⟨by omega, by omega⟩ (fun h161 => ?_) (fun h161 => ?_)
          · skip
            refine v_iload dX10_round_169 rfl ?_
            refine v_istore dX10_round_171 (Nat.le_of_ble_eq_true rfl) ?_
            refine v_iinc dX10_round_173 rfl (Nat.le_of_ble_eq_true rfl) ?_
            refine v_iinc dX10_round_176 rfl (Nat.le_of_ble_eq_true rfl) ?_
            refine v_goto (tgt := 136) dX10_round_179 (by decide) ?_
            skip
            rw [if_neg (by omega)] at h3
            exact v_to (ih (i + 1) (sk' + -1) (by omega) (by omega) (by omega) (by omega) h3) rfl (sw_h1 rfl (sw_h1 rfl (sw_h1 rfl (sw_h1 rfl (sw_h1 rfl (sw_h1 rfl (sw_h1 rfl sw_h0)))))))
          · skip
            refine v_iload dX10_round_164 rfl ?_
            refine v_goto (tgt := 171) dX10_round_166 (by decide) ?_
            refine v_istore dX10_round_171 (Nat.le_of_ble_eq_true rfl) ?_
            refine v_iinc dX10_round_173 rfl (Nat.le_of_ble_eq_true rfl) ?_
            refine v_iinc dX10_round_176 rfl (Nat.le_of_ble_eq_true rfl) ?_
            refine v_goto (tgt := 136) dX10_round_179 (by decide) ?_
            skip
            rw [if_pos (by omega)] at h3
            exact v_to (found n (i + 1) i (sk' + -1) (by omega) (by omega) (by omega) h3 ⟨by omega, by omega⟩ (by omega)) rfl (sw_h1 rfl (sw_h1 rfl (sw_h1 rfl (sw_h1 rfl (sw_h1 rfl (sw_h1 rfl (sw_h1 rfl sw_h0)))))))
  have hcb := ctH_bd Rw S hi m
  refine v_iconst dX10_round_130 ?_
  refine v_istore dX10_round_131 (Nat.le_of_ble_eq_true rfl) ?_
  refine v_iconst dX10_round_133 ?_
  refine v_istore dX10_round_134 (Nat.le_of_ble_eq_true rfl) ?_
  exact v_to (seek m 0 sk (by omega) hsk.1 (by omega) (by show sk < ctH Rw S hi m - 0; omega) rfl) rfl (sw_h1 rfl (sw_h1 rfl (sw_h1 rfl (sw_h1 rfl (sw_h1 rfl (sw_h1 rfl (sw_h1 rfl sw_h0)))))))
end

