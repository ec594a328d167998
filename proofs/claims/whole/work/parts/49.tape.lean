/-! the face: end, fault, feed -/
abbrev sF (s : CSt) (f : Int → Int) (len : Int) : CSt := (f, len, qN s, qS s, qT s, qB s, qD s, qM s, qK s, qR s, qG s)
theorem InvC.setT {G : sw_G} {M M' : sw_M} {s : CSt} (hI : InvC G M s) (hf : ∀ t, (t = 0 ∨ 3 ≤ t) ∧ (t < 100 + 5 * qN s ∨ 100 + 5 * qN s + 4 < t) → M' t = M t) {f : Int → Int} {len a wr sg tr nb le wy : Int} {V W O St : Int → Int} {u d : Int} (h1 : M' 1 = some (cT G (100 + 5 * qN s) len a wr).2) (h2 : M' 2 = some (cB f).2) (hd : sw_hold M' (cSf G (100 + 5 * qN s) sg tr nb le wy V W O St u d)) : InvC G M' (sF s f len) := by
  obtain ⟨i0, i3, i4, i5, i2, -, -, is', ⟨b, x, so, Sg, il⟩, ic⟩ := hI
  have fx : ∀ (t : Nat) (ob : sw_Ob), (t = 0 ∨ 3 ≤ t) ∧ (t < 100 + 5 * qN s ∨ 100 + 5 * qN s + 4 < t) → M t = some ob → M' t = some ob := fun t ob h hm => (hf t h).trans hm
  have fxH : ∀ l, sw_hold M l → (∀ c ∈ l, (c.1 = 0 ∨ 3 ≤ c.1) ∧ (c.1 < 100 + 5 * qN s ∨ 100 + 5 * qN s + 4 < c.1)) → sw_hold M' l := fun l hl hx c hc => fx _ _ (hx c hc) (hl c hc)
  refine ⟨fx _ _ (by omega) i0, fx _ _ (by omega) i3, fx _ _ (by omega) i4, fx _ _ (by omega) i5, h2, ⟨a, wr, h1⟩, ⟨sg, tr, nb, le, wy, V, W, O, St, u, d, hd⟩, fun k hk => ?_, ⟨b, x, so, Sg, fxH _ il ?_⟩, fun t h1 h2 => ?_⟩
  · have hk' : k < qN s := hk
    obtain ⟨u', d', hu⟩ := is' k hk
    refine ⟨u', d', fxH _ hu ?_⟩
    intro c hcl
    simp only [List.mem_cons, List.not_mem_nil, or_false] at hcl
    rcases hcl with rfl | rfl | rfl | rfl | rfl <;> (dsimp only; omega)
  · intro c hcl
    simp only [List.mem_cons, List.not_mem_nil, or_false] at hcl
    rcases hcl with rfl | rfl | rfl | rfl <;> (dsimp only; omega)
  · obtain ⟨ob, g1, g2⟩ := ic t h1 h2
    exact ⟨ob, fx _ _ (by omega) g1, g2⟩
section
variable {l : Launch} {G : sw_G} {M : sw_M} {s : CSt}
theorem F9_end {n : Int} (hI : InvC G M s) (hs : stOK s) (hn : 0 ≤ n ∧ n ≤ qL s) : Kt l G μX9_end [.ref (sw_al G 0), sw_i n] M (fun r M' => r = some (sw_i 1) ∧ InvC G M' (sF s (qF s) n) ∧ frC M M') := by
  refine KtA.of (by decide +kernel) (Nat.le_of_ble_eq_true rfl) ?_
  have i0 := hI.1
  obtain ⟨a, wr, i1⟩ := hI.2.2.2.2.2.1
  obtain ⟨sg, tr, nb, le, wy, Va, Wa, Oa, St, u, d, id'⟩ := hI.2.2.2.2.2.2.1
  have hL := hs.1
  obtain ⟨l0, l1, -⟩ := hL
  refine v_iload_n dX9_end_0 rfl ?_
  refine v_if_lt (tgt := 15) dX9_end_1 (by decide) ⟨by omega, by omega⟩ (fun h1 => ?_) (fun h1 => ?_)
  · skip
    exfalso; omega
  · skip
    refine v_iload_n dX9_end_4 rfl ?_
    refine v_aload_n dX9_end_5 rfl ?_
    refine v_getfH 0 i0 fl_X9_10 rfl dX9_end_6 ?_
    refine v_getfH 1 i1 fl_X9_89 rfl dX9_end_9 ?_
    refine v_icmp_le (tgt := 17) dX9_end_12 (by decide) ⟨by omega, by omega⟩ ⟨by omega, by omega⟩ (fun h12 => ?_) (fun h12 => ?_)
    · skip
      refine v_aload_n dX9_end_17 rfl ?_
      refine v_getfH 0 i0 fl_X9_10 rfl dX9_end_18 ?_
      refine v_iload_n dX9_end_21 rfl ?_
      refine v_putfH 1 i1 fp_X9_89 rfl rfl (Nat.le_of_ble_eq_true rfl) dX9_end_22 ?_
      refine v_iconst dX9_end_25 ?_
      exact v_zret rfl dX9_end_26 rfl (Nat.le_refl _) (Nat.le_refl _) (⟨rfl, hI.setT (M' := sw_ov M [cT G (100 + 5 * qN s) n a wr]) (fun t ht => sw_ov_out (by simp; omega)) rfl hI.2.2.2.2.1 (id'.out (by simp; omega)), frC.ov (fun c hc => by rw [List.mem_singleton.mp hc]; exact Or.inl (by dsimp only; omega))⟩)
    · skip
      exfalso; omega
theorem F9_endX {n : Int} (hI : InvC G M s) (hs : stOK s) (hn : ¬ (0 ≤ n ∧ n ≤ qL s)) (hg : sw_rg n) : Kt l G μX9_end [.ref (sw_al G 0), sw_i n] M (fun r M' => r = some (sw_i 0) ∧ InvC G M' s ∧ frC M M') := by
  refine KtA.of (by decide +kernel) (Nat.le_of_ble_eq_true rfl) ?_
  have i0 := hI.1
  obtain ⟨a, wr, i1⟩ := hI.2.2.2.2.2.1
  obtain ⟨l0, l1, -⟩ := hs.1
  obtain ⟨g1, g2⟩ := hg
  refine v_iload_n dX9_end_0 rfl ?_
  refine v_if_lt (tgt := 15) dX9_end_1 (by decide) ⟨by omega, by omega⟩ (fun h1 => ?_) (fun h1 => ?_)
  · skip
    refine v_iconst dX9_end_15 ?_
    exact v_zret rfl dX9_end_16 rfl (Nat.le_refl _) (Nat.le_refl _) (⟨rfl, hI, frC.rf⟩)
  · skip
    refine v_iload_n dX9_end_4 rfl ?_
    refine v_aload_n dX9_end_5 rfl ?_
    refine v_getfH 0 i0 fl_X9_10 rfl dX9_end_6 ?_
    refine v_getfH 1 i1 fl_X9_89 rfl dX9_end_9 ?_
    refine v_icmp_le (tgt := 17) dX9_end_12 (by decide) ⟨by omega, by omega⟩ ⟨by omega, by omega⟩ (fun h12 => ?_) (fun h12 => ?_)
    · skip
      exfalso; omega
    · skip
      refine v_iconst dX9_end_15 ?_
      exact v_zret rfl dX9_end_16 rfl (Nat.le_refl _) (Nat.le_refl _) (⟨rfl, hI, frC.rf⟩)
theorem W_read (hI : InvC G M s) (hs : stOK s) : Kt l G μX7_read [.ref (sw_al G 1)] M (fun r M' => ∃ Va Wa Oa St a wr u d σ, r = some (sw_i (rd (qF s) (qL s) Va Wa Oa St).1) ∧ InvC G M' s ∧ frK [1] M M' ∧ M' 1 = some (cT G (100 + 5 * qN s) (qL s) a wr).2 ∧ sw_hold M' (cS G (100 + 5 * qN s) σ u d) ∧ ((rd (qF s) (qL s) Va Wa Oa St).1 = -1 → σ = (rd (qF s) (qL s) Va Wa Oa St).2)) := by
  obtain ⟨a, wr, i1⟩ := hI.2.2.2.2.2.1
  obtain ⟨sg, tr, nb, le, wy, Va, Wa, Oa, St, u, d, id'⟩ := hI.2.2.2.2.2.2.1
  refine (K7_read (b := 100 + 5 * qN s) (by omega) (sw_hold1 i1 (sw_hold1 hI.2.2.2.2.1 id')) hs.1).mono (fun r M' h => ?_)
  obtain ⟨a', w', rfl, rfl⟩ := h
  have hn : sw_nd [1, 100 + 5 * qN s, 100 + 5 * qN s + 1, 100 + 5 * qN s + 2, 100 + 5 * qN s + 3, 100 + 5 * qN s + 4] := sw_nd_of (by simp; omega)
  have ho := rdr_or hs.1 Va Wa Oa St
  have ha := sw_hold_all (M := M) (cs := cTP G (100 + 5 * qN s) (qL s) a' w' (rdr (qF s) (qL s) Va Wa Oa St).2 u d) hn
  refine ⟨Va, Wa, Oa, St, a', w', u, d, (rdr (qF s) (qL s) Va Wa Oa St).2, by rw [ho.1], ?_, frK.ov (fun t ht => ?_), ha.hd, ha.tl, fun h => by rw [ho.2 h]⟩
  · exact hI.setT (f := qF s) (len := qL s) (fun t ht => sw_ov_out (by simp; omega)) ha.hd ((sw_ov_out (by simp; omega)).trans hI.2.2.2.2.1) ha.tl
  · simp only [List.map_cons, List.map_nil, List.mem_cons, List.not_mem_nil, or_false] at ht
    rcases ht with rfl | ht
    · exact Or.inl (List.mem_singleton.mpr rfl)
    · exact Or.inr (by omega)
theorem F9_fault (hI : InvC G M s) (hs : stOK s) : Kt l G μX9_fault [.ref (sw_al G 0)] M (fun r M' => ∃ Va Wa Oa St, r = some (sw_i (rd (qF s) (qL s) Va Wa Oa St).1) ∧ InvC G M' s ∧ frC M M') := by
  refine KtA.of (by decide +kernel) (Nat.le_of_ble_eq_true rfl) ?_
  have i0 := hI.1
  obtain ⟨a, wr, i1⟩ := hI.2.2.2.2.2.1
  refine v_aload_n dX9_fault_0 rfl ?_
  refine v_getfH 0 i0 fl_X9_10 rfl dX9_fault_1 ?_
  refine v_callV (ci := 7) (W_read hI hs) ⟨rfl, rfl⟩ (Nat.le_refl _) (Nat.le_refl _) i1 rfl ⟨ml_X9_96, mm_X7_read⟩ ⟨(Nat.le_of_ble_eq_true rfl), (Nat.le_of_ble_eq_true rfl)⟩ mp_X7_read rfl rfl (Nat.le_of_ble_eq_true rfl) dX9_fault_4 (fun r M1 h => ?_)
  obtain ⟨Va, Wa, Oa, St, a1, wr1, u, d, σ1, rfl, hI1, f1, -, -, -⟩ := h
  exact v_iret dX9_fault_7 rfl (Nat.le_refl _) (Nat.le_refl _) (⟨Va, Wa, Oa, St, rfl, hI1, f1.c (by decide)⟩)
theorem W_put {w : Int} (hI : InvC G M s) (hw : wfT (qF s) (qL s)) (hl : qL s + cnt4 w 4 ≤ 240) : Kt l G μX7_put [.ref (sw_al G 1), sw_i w] M (fun r M' => r = none ∧ InvC G M' (sF s (ap4 w (qF s, qL s) 4).1 (ap4 w (qF s, qL s) 4).2) ∧ frK [1, 2] M M') := by
  obtain ⟨a, wr, i1⟩ := hI.2.2.2.2.2.1
  obtain ⟨sg, tr, nb, le, wy, Va, Wa, Oa, St, u, d, id'⟩ := hI.2.2.2.2.2.2.1
  refine (K7_put i1 hI.2.2.2.2.1 hw hl).mono (fun r M' h => ?_)
  obtain ⟨rfl, rfl⟩ := h
  exact ⟨rfl, hI.setT (fun t ht => sw_ov_out (by simp; omega)) rfl rfl (id'.out (by simp; omega)), frK.ov (fun t ht => Or.inl ht)⟩
/-- the tape behind five words -/
def fd5 (s : CSt) (a b c d e : Int) : (Int → Int) × Int := ap4 e (ap4 d (ap4 c (ap4 b (ap4 a (qF s, qL s) 4) 4) 4) 4) 4
theorem InvC.g1 (hI : InvC G M s) : ∃ fs, M 1 = some (sw_o 7 fs) := by
  obtain ⟨a, wr, i1⟩ := hI.2.2.2.2.2.1
  exact ⟨_, i1⟩
theorem F9_feed {a b c d e : Int} (hI : InvC G M s) (hs : stOK s) : Kt l G μX9_feed [.ref (sw_al G 0), sw_i a, sw_i b, sw_i c, sw_i d, sw_i e] M (fun r M' => r = some (sw_i (if 240 < qL s + (cnt4 a 4 + cnt4 b 4 + cnt4 c 4 + cnt4 d 4 + cnt4 e 4) then -1 else (fd5 s a b c d e).2)) ∧ InvC G M' (if 240 < qL s + (cnt4 a 4 + cnt4 b 4 + cnt4 c 4 + cnt4 d 4 + cnt4 e 4) then s else sF s (fd5 s a b c d e).1 (fd5 s a b c d e).2) ∧ frC M M') := by
  refine KtA.of (by decide +kernel) (Nat.le_of_ble_eq_true rfl) ?_
  have i0 := hI.1
  obtain ⟨at0, wr, i1⟩ := hI.2.2.2.2.2.1
  have hT := hs.1
  have l0 := hT.1
  have l1 := hT.2.1
  have ca := cnt4_bd a 4
  have cb := cnt4_bd b 4
  have cc := cnt4_bd c 4
  have cd := cnt4_bd d 4
  have ce := cnt4_bd e 4
  refine v_iload_n dX9_feed_0 rfl ?_
  refine v_callS (K7_bytesIn (w := a)) ⟨rfl, rfl⟩ (Nat.le_refl _) (Nat.le_refl _) ⟨ml_X9_85, mm_X7_bytesIn⟩ ⟨(Nat.le_of_ble_eq_true rfl), (Nat.le_of_ble_eq_true rfl)⟩ mp_X7_bytesIn rfl rfl (Nat.le_of_ble_eq_true rfl) dX9_feed_1 (fun r M' h => ?_)
  obtain ⟨rfl, rfl⟩ := h
  refine v_iload_n dX9_feed_4 rfl ?_
  refine v_callS (K7_bytesIn (w := b)) ⟨rfl, rfl⟩ (Nat.le_refl _) (Nat.le_refl _) ⟨ml_X9_85, mm_X7_bytesIn⟩ ⟨(Nat.le_of_ble_eq_true rfl), (Nat.le_of_ble_eq_true rfl)⟩ mp_X7_bytesIn rfl rfl (Nat.le_of_ble_eq_true rfl) dX9_feed_5 (fun r M' h => ?_)
  obtain ⟨rfl, rfl⟩ := h
  refine v_iadd dX9_feed_8 ?_
  refine v_iload_n dX9_feed_9 rfl ?_
  refine v_callS (K7_bytesIn (w := c)) ⟨rfl, rfl⟩ (Nat.le_refl _) (Nat.le_refl _) ⟨ml_X9_85, mm_X7_bytesIn⟩ ⟨(Nat.le_of_ble_eq_true rfl), (Nat.le_of_ble_eq_true rfl)⟩ mp_X7_bytesIn rfl rfl (Nat.le_of_ble_eq_true rfl) dX9_feed_10 (fun r M' h => ?_)
  obtain ⟨rfl, rfl⟩ := h
  refine v_iadd dX9_feed_13 ?_
  refine v_iload dX9_feed_14 rfl ?_
  refine v_callS (K7_bytesIn (w := d)) ⟨rfl, rfl⟩ (Nat.le_refl _) (Nat.le_refl _) ⟨ml_X9_85, mm_X7_bytesIn⟩ ⟨(Nat.le_of_ble_eq_true rfl), (Nat.le_of_ble_eq_true rfl)⟩ mp_X7_bytesIn rfl rfl (Nat.le_of_ble_eq_true rfl) dX9_feed_16 (fun r M' h => ?_)
  obtain ⟨rfl, rfl⟩ := h
  refine v_iadd dX9_feed_19 ?_
  refine v_iload dX9_feed_20 rfl ?_
  refine v_callS (K7_bytesIn (w := e)) ⟨rfl, rfl⟩ (Nat.le_refl _) (Nat.le_refl _) ⟨ml_X9_85, mm_X7_bytesIn⟩ ⟨(Nat.le_of_ble_eq_true rfl), (Nat.le_of_ble_eq_true rfl)⟩ mp_X7_bytesIn rfl rfl (Nat.le_of_ble_eq_true rfl) dX9_feed_22 (fun r M' h => ?_)
  obtain ⟨rfl, rfl⟩ := h
  refine v_iadd dX9_feed_25 ?_
  refine v_istore dX9_feed_26 (Nat.le_of_ble_eq_true rfl) ?_
  refine v_aload_n dX9_feed_28 rfl ?_
  refine v_getfH 0 i0 fl_X9_10 rfl dX9_feed_29 ?_
  refine v_getfH 1 i1 fl_X9_89 rfl dX9_feed_32 ?_
  refine v_iload dX9_feed_35 rfl ?_
  refine v_iadd dX9_feed_37 ?_
  refine v_sipush dX9_feed_38 (by decide +kernel) ?_
  refine v_icmp_le (tgt := 46) dX9_feed_41 (by decide) ⟨by omega, by omega⟩ ⟨by omega, by omega⟩ (fun h41 => ?_) (fun h41 => ?_)
  · skip
    rw [if_neg (by omega), if_neg (by omega)]
    have w1 := ap4_wf (s := (qF s, qL s)) hT a 4 (show qL s + cnt4 a 4 ≤ 240 by omega)
    have n1 := ap4_len a (qF s, qL s) 4
    dsimp only at n1
    obtain ⟨t1, ht1⟩ : ∃ t1, ap4 a (qF s, qL s) 4 = t1 := ⟨_, rfl⟩
    rw [ht1] at w1 n1
    have w2 := ap4_wf (s := t1) w1 b 4 (by omega)
    have n2 := ap4_len b t1 4
    obtain ⟨t2, ht2⟩ : ∃ t2, ap4 b t1 4 = t2 := ⟨_, rfl⟩
    rw [ht2] at w2 n2
    have w3 := ap4_wf (s := t2) w2 c 4 (by omega)
    have n3 := ap4_len c t2 4
    obtain ⟨t3, ht3⟩ : ∃ t3, ap4 c t2 4 = t3 := ⟨_, rfl⟩
    rw [ht3] at w3 n3
    have w4 := ap4_wf (s := t3) w3 d 4 (by omega)
    have n4 := ap4_len d t3 4
    obtain ⟨t4, ht4⟩ : ∃ t4, ap4 d t3 4 = t4 := ⟨_, rfl⟩
    rw [ht4] at w4 n4
    have hfd : fd5 s a b c d e = ap4 e t4 4 := by
      unfold fd5
      rw [ht1, ht2, ht3, ht4]
    rw [hfd]
    refine v_aload_n dX9_feed_46 rfl ?_
    refine v_getfH 0 i0 fl_X9_10 rfl dX9_feed_47 ?_
    refine v_iload_n dX9_feed_50 rfl ?_
    obtain ⟨fs1, g1⟩ := hI.g1
    refine v_callV (ci := 7) (W_put (w := a) hI hT (by omega)) ⟨rfl, rfl⟩ (Nat.le_refl _) (Nat.le_refl _) g1 rfl ⟨ml_X9_92, mm_X7_put⟩ ⟨(Nat.le_of_ble_eq_true rfl), (Nat.le_of_ble_eq_true rfl)⟩ mp_X7_put rfl rfl (Nat.le_of_ble_eq_true rfl) dX9_feed_51 (fun r M1 h => ?_)
    obtain ⟨rfl, hI1, f1⟩ := h
    rw [ht1] at hI1
    refine v_aload_n dX9_feed_54 rfl ?_
    refine v_getfH 0 hI1.1 fl_X9_10 rfl dX9_feed_55 ?_
    refine v_iload_n dX9_feed_58 rfl ?_
    obtain ⟨fs1, g1⟩ := hI1.g1
    refine v_callV (ci := 7) (W_put (w := b) hI1 w1 (show t1.2 + cnt4 b 4 ≤ 240 by omega)) ⟨rfl, rfl⟩ (Nat.le_refl _) (Nat.le_refl _) g1 rfl ⟨ml_X9_92, mm_X7_put⟩ ⟨(Nat.le_of_ble_eq_true rfl), (Nat.le_of_ble_eq_true rfl)⟩ mp_X7_put rfl rfl (Nat.le_of_ble_eq_true rfl) dX9_feed_59 (fun r M2 h => ?_)
    obtain ⟨rfl, hI2, f2⟩ := h
    replace hI2 : InvC G M2 (sF s t2.1 t2.2) := by rw [← ht2]; exact hI2
    refine v_aload_n dX9_feed_62 rfl ?_
    refine v_getfH 0 hI2.1 fl_X9_10 rfl dX9_feed_63 ?_
    refine v_iload_n dX9_feed_66 rfl ?_
    obtain ⟨fs1, g1⟩ := hI2.g1
    refine v_callV (ci := 7) (W_put (w := c) hI2 w2 (show t2.2 + cnt4 c 4 ≤ 240 by omega)) ⟨rfl, rfl⟩ (Nat.le_refl _) (Nat.le_refl _) g1 rfl ⟨ml_X9_92, mm_X7_put⟩ ⟨(Nat.le_of_ble_eq_true rfl), (Nat.le_of_ble_eq_true rfl)⟩ mp_X7_put rfl rfl (Nat.le_of_ble_eq_true rfl) dX9_feed_67 (fun r M3 h => ?_)
    obtain ⟨rfl, hI3, f3⟩ := h
    replace hI3 : InvC G M3 (sF s t3.1 t3.2) := by rw [← ht3]; exact hI3
    refine v_aload_n dX9_feed_70 rfl ?_
    refine v_getfH 0 hI3.1 fl_X9_10 rfl dX9_feed_71 ?_
    refine v_iload dX9_feed_74 rfl ?_
    obtain ⟨fs1, g1⟩ := hI3.g1
    refine v_callV (ci := 7) (W_put (w := d) hI3 w3 (show t3.2 + cnt4 d 4 ≤ 240 by omega)) ⟨rfl, rfl⟩ (Nat.le_refl _) (Nat.le_refl _) g1 rfl ⟨ml_X9_92, mm_X7_put⟩ ⟨(Nat.le_of_ble_eq_true rfl), (Nat.le_of_ble_eq_true rfl)⟩ mp_X7_put rfl rfl (Nat.le_of_ble_eq_true rfl) dX9_feed_76 (fun r M4 h => ?_)
    obtain ⟨rfl, hI4, f4⟩ := h
    replace hI4 : InvC G M4 (sF s t4.1 t4.2) := by rw [← ht4]; exact hI4
    refine v_aload_n dX9_feed_79 rfl ?_
    refine v_getfH 0 hI4.1 fl_X9_10 rfl dX9_feed_80 ?_
    refine v_iload dX9_feed_83 rfl ?_
    obtain ⟨fs1, g1⟩ := hI4.g1
    refine v_callV (ci := 7) (W_put (w := e) hI4 w4 (show t4.2 + cnt4 e 4 ≤ 240 by omega)) ⟨rfl, rfl⟩ (Nat.le_refl _) (Nat.le_refl _) g1 rfl ⟨ml_X9_92, mm_X7_put⟩ ⟨(Nat.le_of_ble_eq_true rfl), (Nat.le_of_ble_eq_true rfl)⟩ mp_X7_put rfl rfl (Nat.le_of_ble_eq_true rfl) dX9_feed_85 (fun r M5 h => ?_)
    obtain ⟨rfl, hI5, f5⟩ := h
    obtain ⟨at5, wr5, i15⟩ := hI5.2.2.2.2.2.1
    refine v_aload_n dX9_feed_88 rfl ?_
    refine v_getfH 0 hI5.1 fl_X9_10 rfl dX9_feed_89 ?_
    refine v_getfH 1 i15 fl_X9_89 rfl dX9_feed_92 ?_
    exact v_iret dX9_feed_95 rfl (Nat.le_refl _) (Nat.le_refl _) (⟨rfl, hI5, ((((f1.c (by decide)).trk f2 (by decide)).trk f3 (by decide)).trk f4 (by decide)).trk f5 (by decide)⟩)
  · skip
    refine v_iconst dX9_feed_44 ?_
    exact v_iret dX9_feed_45 rfl (Nat.le_refl _) (Nat.le_refl _) (⟨by rw [if_pos (by omega)], by rw [if_pos (by omega)]; exact hI, frC.rf⟩)
end

