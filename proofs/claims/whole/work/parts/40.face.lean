/-! the face: got, count -/
section
variable {l : Launch} {G : sw_G} {M : sw_M} {s : CSt}
theorem F9_got (hI : InvC G M s) : Kt l G μX9_got [.ref (sw_al G 0)] M (fun r M' => r = some (sw_i (qK s)) ∧ InvC G M' s ∧ frC M M') := by
  refine KtA.of (by decide +kernel) (Nat.le_of_ble_eq_true rfl) ?_
  have i0 := hI.1
  obtain ⟨b, x, so, Sg, il⟩ := hI.2.2.2.2.2.2.2.2.1
  have hself : sw_ov M [c0 G (qN s) (qT s), cL G b x (qM s) (qK s) so] = M := sw_ov_self (sw_hold1 i0 (sw_hold1 il.hd sw_hold0))
  refine v_mem hself.symm ?_
  have hn : sw_nd [0, 30] := sw_nd_of (by simp)
  refine v_aload_n dX9_got_0 rfl ?_
  refine v_getf 0 12 fl_X9_81 hn rfl rfl dX9_got_1 ?_
  refine v_getf 1 6 fl_X9_320 hn rfl rfl dX9_got_4 ?_
  exact v_iret dX9_got_7 rfl (Nat.le_refl _) (Nat.le_refl _) (⟨rfl, by rw [hself]; exact hI, by rw [hself]; exact frC.rf⟩)
theorem F9_count {w : Int} (hI : InvC G M s) (hz : sw_rg w) : Kt l G μX9_count [.ref (sw_al G 0), sw_i w] M (fun r M' => r = some (sw_i (if w = 0 then (qN s : Int) else if w = 1 then qT s else if w = 2 then qL s else -1)) ∧ InvC G M' s ∧ frC M M') := by
  refine KtA.of (by decide +kernel) (Nat.le_of_ble_eq_true rfl) ?_
  have i0 := hI.1
  obtain ⟨a, wr, i1⟩ := hI.2.2.2.2.2.1
  have hself : sw_ov M [c0 G (qN s) (qT s), cT G (100 + 5 * qN s) (qL s) a wr] = M := sw_ov_self (sw_hold1 i0 (sw_hold1 i1 sw_hold0))
  refine v_mem hself.symm ?_
  have hn : sw_nd [0, 1] := sw_nd_of (by simp)
  have fin : InvC G (sw_ov M [c0 G (qN s) (qT s), cT G (100 + 5 * qN s) (qL s) a wr]) s ∧ frC M (sw_ov M [c0 G (qN s) (qT s), cT G (100 + 5 * qN s) (qL s) a wr]) := by rw [hself]; exact ⟨hI, frC.rf⟩
  refine v_iload_n dX9_count_0 rfl ?_
  by_cases e0 : w = 0
  · subst e0
    refine v_tabIn (tgt := 28) dX9_count_1 hz (by omega) (by omega) rfl (by decide) ?_
    refine v_aload_n dX9_count_28 rfl ?_
    refine v_getf 0 2 fl_X9_22 hn rfl rfl dX9_count_29 ?_
    exact v_iret dX9_count_32 rfl (Nat.le_refl _) (Nat.le_refl _) (⟨rfl, fin⟩)
  by_cases e1 : w = 1
  · subst e1
    refine v_tabIn (tgt := 33) dX9_count_1 hz (by omega) (by omega) rfl (by decide) ?_
    refine v_aload_n dX9_count_33 rfl ?_
    refine v_getf 0 4 fl_X9_30 hn rfl rfl dX9_count_34 ?_
    exact v_iret dX9_count_37 rfl (Nat.le_refl _) (Nat.le_refl _) (⟨rfl, fin⟩)
  by_cases e2 : w = 2
  · subst e2
    refine v_tabIn (tgt := 38) dX9_count_1 hz (by omega) (by omega) rfl (by decide) ?_
    refine v_aload_n dX9_count_38 rfl ?_
    refine v_getf 0 0 fl_X9_10 hn rfl rfl dX9_count_39 ?_
    refine v_getf 1 1 fl_X9_89 hn rfl rfl dX9_count_42 ?_
    exact v_iret dX9_count_45 rfl (Nat.le_refl _) (Nat.le_refl _) (⟨rfl, fin⟩)
  refine v_tabOut (tgt := 46) dX9_count_1 hz (by omega) (by decide) ?_
  refine v_iconst dX9_count_46 ?_
  exact v_iret dX9_count_47 rfl (Nat.le_refl _) (Nat.le_refl _) (⟨by rw [if_neg e0, if_neg e1, if_neg e2], fin⟩)
end

