/-! the reference: its small methods, its reader's -/
theorem upn_s {x : Nat → Int} {k : Nat} {v : Int} : upn x k v k = v := if_pos rfl
theorem upn_o {x : Nat → Int} {k j : Nat} {v : Int} (h : j ≠ k) : upn x k v j = x j := if_neg h
theorem upn_self {x : Nat → Int} {k : Nat} {v : Int} (h : x k = v) : upn x k v = x := by
  funext j
  show (if j = k then v else x j) = x j
  by_cases c : j = k
  · rw [if_pos c, c, h]
  · rw [if_neg c]
theorem upn_upn {x : Nat → Int} {k : Nat} {v w : Int} : upn (upn x k v) k w = upn x k w := by
  funext j
  show (if j = k then w else if j = k then v else x j) = if j = k then w else x j
  by_cases c : j = k
  · rw [if_pos c, if_pos c]
  · rw [if_neg c, if_neg c, if_neg c]
theorem upn_comm {x : Nat → Int} {k i : Nat} {v w : Int} (h : k ≠ i) : upn (upn x k v) i w = upn (upn x i w) k v := by
  funext j
  show (if j = i then w else if j = k then v else x j) = (if j = k then v else if j = i then w else x j)
  by_cases c : j = i
  · rw [if_pos c, if_neg (fun e => h (e.symm.trans c)), if_pos c]
  · rw [if_neg c, if_neg c]
theorem upa_s {a : Nat → Int → Int} {k : Nat} {f : Int → Int} : upa a k f k = f := if_pos rfl
theorem upa_o {a : Nat → Int → Int} {k j : Nat} {f : Int → Int} (h : j ≠ k) : upa a k f j = a j := if_neg h
theorem upa_self {a : Nat → Int → Int} {k : Nat} : upa a k (a k) = a := by
  funext j
  show (if j = k then a k else a j) = a j
  by_cases c : j = k
  · rw [if_pos c, c]
  · rw [if_neg c]
theorem upa_upa {a : Nat → Int → Int} {k : Nat} {f g : Int → Int} : upa (upa a k f) k g = upa a k g := by
  funext j
  show (if j = k then g else if j = k then f else a j) = if j = k then g else a j
  by_cases c : j = k
  · rw [if_pos c, if_pos c]
  · rw [if_neg c, if_neg c, if_neg c]
theorem RS.xe {G : sw_G} {M : sw_M} {x x' : Nat → Int} {a : Nat → Int → Int} (h : RS G M x a) (e : x = x') : RS G M x' a := e ▸ h
section
variable {l : Launch} {G : sw_G} {M : sw_M} {x : Nat → Int} {a : Nat → Int → Int}
theorem K10_in {v lo hi : Int} (h1 : sw_rg v) (h2 : sw_rg lo) (h3 : sw_rg hi) : Kt l G μX10_in [sw_i v, sw_i lo, sw_i hi] M (fun r M' => r = some (sw_i (bI (lo ≤ v ∧ v ≤ hi))) ∧ M' = M) := by
  refine KtA.of (by decide +kernel) (Nat.le_of_ble_eq_true rfl) ?_
  obtain ⟨a1, a2⟩ := h1
  obtain ⟨b1, b2⟩ := h2
  obtain ⟨c1, c2⟩ := h3
  refine v_iload_n dX10_in_0 rfl ?_
  refine v_iload_n dX10_in_1 rfl ?_
  refine v_icmp_lt (tgt := 14) dX10_in_2 (by decide) ⟨by omega, by omega⟩ ⟨by omega, by omega⟩ (fun h2 => ?_) (fun h2 => ?_)
  · skip
    refine v_iconst dX10_in_14 ?_
    exact v_zret rfl dX10_in_15 rfl (Nat.le_refl _) (Nat.le_refl _) (⟨by unfold bI; rw [if_neg (by omega)], rfl⟩)
  · skip
    refine v_iload_n dX10_in_5 rfl ?_
    refine v_iload_n dX10_in_6 rfl ?_
    refine v_icmp_gt (tgt := 14) dX10_in_7 (by decide) ⟨by omega, by omega⟩ ⟨by omega, by omega⟩ (fun h7 => ?_) (fun h7 => ?_)
    · skip
      refine v_iconst dX10_in_14 ?_
      exact v_zret rfl dX10_in_15 rfl (Nat.le_refl _) (Nat.le_refl _) (⟨by unfold bI; rw [if_neg (by omega)], rfl⟩)
    · skip
      refine v_iconst dX10_in_10 ?_
      refine v_goto (tgt := 15) dX10_in_11 (by decide) ?_
      exact v_zret rfl dX10_in_15 rfl (Nat.le_refl _) (Nat.le_refl _) (⟨by unfold bI; rw [if_pos (by omega)], rfl⟩)
theorem K10_isDigit {c : Int} (h1 : sw_rg c) : Kt l G μX10_isDigit [sw_i c] M (fun r M' => r = some (sw_i (bI (dg c ≠ -1))) ∧ M' = M) := by
  refine KtA.of (by decide +kernel) (Nat.le_of_ble_eq_true rfl) ?_
  obtain ⟨a1, a2⟩ := h1
  have e : dg c ≠ -1 ↔ 48 ≤ c ∧ c ≤ 57 := by
    unfold dg
    by_cases q : 48 ≤ c ∧ c ≤ 57
    · rw [if_pos q]; omega
    · rw [if_neg q]; omega
  refine v_iload_n dX10_isDigit_0 rfl ?_
  refine v_bipush dX10_isDigit_1 (by decide +kernel) ?_
  refine v_icmp_lt (tgt := 16) dX10_isDigit_3 (by decide) ⟨by omega, by omega⟩ ⟨by omega, by omega⟩ (fun h3 => ?_) (fun h3 => ?_)
  · skip
    refine v_iconst dX10_isDigit_16 ?_
    exact v_zret rfl dX10_isDigit_17 rfl (Nat.le_refl _) (Nat.le_refl _) (⟨by unfold bI; rw [if_neg (fun h => by have := e.mp h; omega)], rfl⟩)
  · skip
    refine v_iload_n dX10_isDigit_6 rfl ?_
    refine v_bipush dX10_isDigit_7 (by decide +kernel) ?_
    refine v_icmp_gt (tgt := 16) dX10_isDigit_9 (by decide) ⟨by omega, by omega⟩ ⟨by omega, by omega⟩ (fun h9 => ?_) (fun h9 => ?_)
    · skip
      refine v_iconst dX10_isDigit_16 ?_
      exact v_zret rfl dX10_isDigit_17 rfl (Nat.le_refl _) (Nat.le_refl _) (⟨by unfold bI; rw [if_neg (fun h => by have := e.mp h; omega)], rfl⟩)
    · skip
      refine v_iconst dX10_isDigit_12 ?_
      refine v_goto (tgt := 17) dX10_isDigit_13 (by decide) ?_
      exact v_zret rfl dX10_isDigit_17 rfl (Nat.le_refl _) (Nat.le_refl _) (⟨by unfold bI; rw [if_pos (e.mpr (by omega))], rfl⟩)
theorem K10_here {at' len : Int} (hM : RS G M x a) (h3 : x 3 = at') (h2 : x 2 = len) (hw : wfT (a 1) len) (hb : 0 ≤ at' ∧ at' ≤ 1000) : Kt l G μX10_here [.ref (sw_al G 70)] M (fun r M' => r = some (sw_i (lk (a 1) len at')) ∧ M' = M) := by
  refine KtA.of (by decide +kernel) (Nat.le_of_ble_eq_true rfl) ?_
  obtain ⟨l0, l1, -⟩ := id hw
  refine v_aload_n dX10_here_0 rfl ?_
  refine v_rgi 3 hM h3 fl_X10_87 rfl dX10_here_1 ?_
  refine v_aload_n dX10_here_4 rfl ?_
  refine v_rgi 2 hM h2 fl_X10_84 rfl dX10_here_5 ?_
  refine v_icmp_ge (tgt := 23) dX10_here_8 (by decide) ⟨by omega, by omega⟩ ⟨by omega, by omega⟩ (fun h8 => ?_) (fun h8 => ?_)
  · skip
    refine v_iconst dX10_here_23 ?_
    exact v_iret dX10_here_24 rfl (Nat.le_refl _) (Nat.le_refl _) (⟨by unfold lk; rw [if_neg (by omega)], rfl⟩)
  · skip
    refine v_aload_n dX10_here_11 rfl ?_
    refine v_getfH 1 hM.1 fl_X10_7 rfl dX10_here_12 ?_
    refine v_aload_n dX10_here_15 rfl ?_
    refine v_rgi 3 hM h3 fl_X10_87 rfl dX10_here_16 ?_
    refine v_ria hM ar_1 (by omega) (by omega) rfl dX10_here_19 ?_
    refine v_goto (tgt := 24) dX10_here_20 (by decide) ?_
    exact v_iret dX10_here_24 rfl (Nat.le_refl _) (Nat.le_refl _) (⟨by unfold lk; rw [if_pos (by omega)], rfl⟩)
theorem K10_bad {at' wr : Int} (hM : RS G M x a) (h3 : x 3 = at') (h4 : x 4 = wr) (hb : sw_rg wr) : Kt l G μX10_bad [.ref (sw_al G 70)] M (fun r M' => r = none ∧ RS G M' (upn x 4 (if wr = -1 then at' else wr)) a ∧ frR M M') := by
  refine KtA.of (by decide +kernel) (Nat.le_of_ble_eq_true rfl) ?_
  have hF : frR M M := frR.rf
  obtain ⟨b1, b2⟩ := hb
  refine v_aload_n dX10_bad_0 rfl ?_
  refine v_aload_n dX10_bad_1 rfl ?_
  refine v_rgi 4 hM h4 fl_X10_94 rfl dX10_bad_2 ?_
  refine v_iconst dX10_bad_5 ?_
  refine v_icmp_ne (tgt := 16) dX10_bad_6 (by decide) ⟨by omega, by omega⟩ ⟨by omega, by omega⟩ (fun h6 => ?_) (fun h6 => ?_)
  · skip
    refine v_aload_n dX10_bad_16 rfl ?_
    refine v_rgi 4 hM h4 fl_X10_94 rfl dX10_bad_17 ?_
    refine v_rp 4 hM hF (flS_4 G _ _) fp_X10_94 rfl rfl (Nat.le_of_ble_eq_true rfl) dX10_bad_20 (fun M hM hF => ?_)
    exact v_vret dX10_bad_23 rfl (Nat.le_refl _) (Nat.le_refl _) (⟨rfl, by rw [if_neg (by omega)]; exact hM, hF⟩)
  · skip
    refine v_aload_n dX10_bad_9 rfl ?_
    refine v_rgi 3 hM h3 fl_X10_87 rfl dX10_bad_10 ?_
    refine v_goto (tgt := 20) dX10_bad_13 (by decide) ?_
    refine v_rp 4 hM hF (flS_4 G _ _) fp_X10_94 rfl rfl (Nat.le_of_ble_eq_true rfl) dX10_bad_20 (fun M hM hF => ?_)
    exact v_vret dX10_bad_23 rfl (Nat.le_refl _) (Nat.le_refl _) (⟨rfl, by rw [if_pos (by omega)]; exact hM, hF⟩)
theorem K10_look {at' len : Int} (hM : RS G M x a) (h3 : x 3 = at') (h2 : x 2 = len) (hw : wfT (a 1) len) (hb : 0 ≤ at' ∧ at' ≤ 600) : Kt l G μX10_look [.ref (sw_al G 70)] M (fun r M' => r = some (sw_i (lk (a 1) len (sk (a 1) len 240 at'))) ∧ RS G M' (upn x 3 (sk (a 1) len 240 at')) a ∧ frR M M') := by
  refine KtA.of (by decide +kernel) (Nat.le_of_ble_eq_true rfl) ?_
  obtain ⟨l0, l1, -⟩ := id hw
  obtain ⟨Zq, hZ⟩ : ∃ Zq : Option Value → sw_M → Prop, Zq = (fun r M' => r = some (sw_i (lk (a 1) len (sk (a 1) len 240 at'))) ∧ RS G M' (upn x 3 (sk (a 1) len 240 at')) a ∧ frR M M') := ⟨_, rfl⟩
  rw [← hZ]
  have loop : ∀ (n : Nat) (b : Int) (M1 : sw_M), 0 ≤ b → b ≤ 900 → len ≤ b + n → RS G M1 (upn x 3 b) a → frR M M1 → sk (a 1) len 240 at' = sk (a 1) len n b → V l G μX10_look sw_E0 (sw_Zq G μX10_look (sw_q0 G Zq)) 0 [(0, .ref (sw_al G 70))] [] M1 0 0 := by
    intro n
    induction n with
    | zero =>
      intro b M1 b0 b1 hn hM hF he
      have h3' : upn x 3 b 3 = b := upn_s
      have h2' : upn x 3 b 2 = len := (upn_o (by decide)).trans h2
      have hlk := lk_bd hw b0
      have hne : lk (a 1) len b ≠ 32 := sk_end 0 (by omega)
      refine v_aload_n dX10_look_0 rfl ?_
      refine v_callV (ci := 10) (K10_here hM h3' h2' hw ⟨by omega, by omega⟩) ⟨rfl, rfl⟩ (Nat.le_refl _) (Nat.le_refl _) hM.1 rfl ⟨ml_X10_90, mm_X10_here⟩ ⟨(Nat.le_of_ble_eq_true rfl), (Nat.le_of_ble_eq_true rfl)⟩ mp_X10_here rfl rfl (Nat.le_of_ble_eq_true rfl) dX10_look_1 (fun r M' h => ?_)
      obtain ⟨rfl, rfl⟩ := h
      refine v_bipush dX10_look_4 (by decide +kernel) ?_
      refine v_icmp_ne (tgt := 22) dX10_look_6 (by decide) ⟨by omega, by omega⟩ ⟨by omega, by omega⟩ (fun h6 => ?_) (fun h6 => ?_)
      · skip
        refine v_aload_n dX10_look_22 rfl ?_
        refine v_callV (ci := 10) (K10_here hM h3' h2' hw ⟨by omega, by omega⟩) ⟨rfl, rfl⟩ (Nat.le_refl _) (Nat.le_refl _) hM.1 rfl ⟨ml_X10_90, mm_X10_here⟩ ⟨(Nat.le_of_ble_eq_true rfl), (Nat.le_of_ble_eq_true rfl)⟩ mp_X10_here rfl rfl (Nat.le_of_ble_eq_true rfl) dX10_look_23 (fun r M' h => ?_)
        obtain ⟨rfl, rfl⟩ := h
        exact v_iret dX10_look_26 rfl (Nat.le_refl _) (Nat.le_refl _) (by rw [hZ, he]; exact ⟨rfl, hM, hF⟩)
      · skip
        exact absurd (by omega) hne
    | succ n ih =>
      intro b M1 b0 b1 hn hM hF he
      have h3' : upn x 3 b 3 = b := upn_s
      have h2' : upn x 3 b 2 = len := (upn_o (by decide)).trans h2
      have hlk := lk_bd hw b0
      refine v_aload_n dX10_look_0 rfl ?_
      refine v_callV (ci := 10) (K10_here hM h3' h2' hw ⟨by omega, by omega⟩) ⟨rfl, rfl⟩ (Nat.le_refl _) (Nat.le_refl _) hM.1 rfl ⟨ml_X10_90, mm_X10_here⟩ ⟨(Nat.le_of_ble_eq_true rfl), (Nat.le_of_ble_eq_true rfl)⟩ mp_X10_here rfl rfl (Nat.le_of_ble_eq_true rfl) dX10_look_1 (fun r M' h => ?_)
      obtain ⟨rfl, rfl⟩ := h
      refine v_bipush dX10_look_4 (by decide +kernel) ?_
      refine v_icmp_ne (tgt := 22) dX10_look_6 (by decide) ⟨by omega, by omega⟩ ⟨by omega, by omega⟩ (fun h6 => ?_) (fun h6 => ?_)
      · skip
        refine v_aload_n dX10_look_22 rfl ?_
        refine v_callV (ci := 10) (K10_here hM h3' h2' hw ⟨by omega, by omega⟩) ⟨rfl, rfl⟩ (Nat.le_refl _) (Nat.le_refl _) hM.1 rfl ⟨ml_X10_90, mm_X10_here⟩ ⟨(Nat.le_of_ble_eq_true rfl), (Nat.le_of_ble_eq_true rfl)⟩ mp_X10_here rfl rfl (Nat.le_of_ble_eq_true rfl) dX10_look_23 (fun r M' h => ?_)
        obtain ⟨rfl, rfl⟩ := h
        exact v_iret dX10_look_26 rfl (Nat.le_refl _) (Nat.le_refl _) (by rw [hZ, he, show sk (a 1) len (n + 1) b = b from if_neg (by omega)]; exact ⟨rfl, hM, hF⟩)
      · skip
        refine v_aload_n dX10_look_9 rfl ?_
        refine v_dup dX10_look_10 rfl ?_
        refine v_rgi 3 hM h3' fl_X10_87 rfl dX10_look_11 ?_
        refine v_iconst dX10_look_14 ?_
        refine v_iadd dX10_look_15 ?_
        refine v_rp 3 hM hF (flS_3 G _ _) fp_X10_87 rfl rfl (Nat.le_of_ble_eq_true rfl) dX10_look_16 (fun M hM hF => ?_)
        refine v_goto (tgt := 0) dX10_look_19 (by decide) ?_
        have hl : b < len := by
          have q : lk (a 1) len b = 32 := by omega
          unfold lk at q
          by_cases c : b < len
          · exact c
          · rw [if_neg c] at q; omega
        exact v_to (ih (b + 1) M (by omega) (by omega) (by omega) (hM.xe upn_upn) hF (he.trans (if_pos (show lk (a 1) len b = 32 by omega)))) rfl (sw_h1 rfl sw_h0)
  exact loop 240 at' M (by omega) (by omega) (by omega) (hM.xe (upn_self h3).symm) frR.rf rfl
end

