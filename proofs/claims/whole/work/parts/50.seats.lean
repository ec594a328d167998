/-! the face: table, bid, seat, change, worth -/
abbrev sQ (s : CSt) (nt : Int) : CSt := (qF s, qL s, qN s, qS s, nt, qB s, qD s, qM s, qK s, qR s, qG s)
theorem InvC.setQ {G : sw_G} {M : sw_M} {s : CSt} (hI : InvC G M s) (nt : Int) : InvC G (sw_ov M [c0 G (qN s) nt]) (sQ s nt) := by
  obtain ⟨i0, i3, i4, i5, i2, ⟨a, wr, i1⟩, ⟨sg, tr, nb, le, wy, Va, Wa, Oa, St, u, d, id'⟩, is', ⟨b, x, so, Sg, il⟩, ic⟩ := hI
  have fx : ∀ (t : Nat) (ob : sw_Ob), t ≠ 0 → M t = some ob → sw_ov M [c0 G (qN s) nt] t = some ob := fun t ob h hm => (if_neg h).trans hm
  have fxH : ∀ l, sw_hold M l → (∀ c ∈ l, c.1 ≠ 0) → sw_hold (sw_ov M [c0 G (qN s) nt]) l := fun l hl hx c hc => fx _ _ (hx c hc) (hl c hc)
  refine ⟨rfl, fx _ _ (by omega) i3, fx _ _ (by omega) i4, fx _ _ (by omega) i5, fx _ _ (by omega) i2, ⟨a, wr, fx _ _ (by omega) i1⟩, ⟨sg, tr, nb, le, wy, Va, Wa, Oa, St, u, d, fxH _ id' ?_⟩, fun k hk => ?_, ⟨b, x, so, Sg, fxH _ il ?_⟩, fun t h1 h2 => ?_⟩
  · intro c hcl
    simp only [List.mem_cons, List.not_mem_nil, or_false] at hcl
    rcases hcl with rfl | rfl | rfl | rfl | rfl <;> (dsimp only; omega)
  · obtain ⟨u', d', hu⟩ := is' k hk
    refine ⟨u', d', fxH _ hu ?_⟩
    intro c hcl
    simp only [List.mem_cons, List.not_mem_nil, or_false] at hcl
    rcases hcl with rfl | rfl | rfl | rfl | rfl <;> (dsimp only; omega)
  · intro c hcl
    simp only [List.mem_cons, List.not_mem_nil, or_false] at hcl
    rcases hcl with rfl | rfl | rfl | rfl <;> (dsimp only; omega)
  · obtain ⟨ob, g1, g2⟩ := ic t h1 h2
    exact ⟨ob, fx _ _ (by omega) g1, g2⟩
/-- one SALE is another -/
abbrev sS (s : CSt) (n : Nat) (σ : SaleT) : CSt := (qF s, qL s, qN s, fun j => if j = n then σ else qS s j, qT s, qB s, qD s, qM s, qK s, qR s, qG s)
theorem InvC.setS {G : sw_G} {M M' : sw_M} {s : CSt} (hI : InvC G M s) {n : Nat} (hn : n < qN s) (hf : ∀ t, t < 100 + 5 * n ∨ 100 + 5 * n + 4 < t → M' t = M t) {σ : SaleT} {u d : Int} (hd : sw_hold M' (cS G (100 + 5 * n) σ u d)) : InvC G M' (sS s n σ) := by
  obtain ⟨i0, i3, i4, i5, i2, ⟨a, wr, i1⟩, ⟨sg, tr, nb, le, wy, Va, Wa, Oa, St, u0, d0, id'⟩, is', ⟨b, x, so, Sg, il⟩, ic⟩ := hI
  have fx : ∀ (t : Nat) (ob : sw_Ob), t < 100 + 5 * n ∨ 100 + 5 * n + 4 < t → M t = some ob → M' t = some ob := fun t ob h hm => (hf t h).trans hm
  have fxH : ∀ l, sw_hold M l → (∀ c ∈ l, c.1 < 100 + 5 * n ∨ 100 + 5 * n + 4 < c.1) → sw_hold M' l := fun l hl hx c hc => fx _ _ (hx c hc) (hl c hc)
  have hdr := fxH _ id' (by
    intro c hcl
    simp only [List.mem_cons, List.not_mem_nil, or_false] at hcl
    rcases hcl with rfl | rfl | rfl | rfl | rfl <;> (dsimp only; omega))
  refine ⟨fx _ _ (by omega) i0, fx _ _ (by omega) i3, fx _ _ (by omega) i4, fx _ _ (by omega) i5, fx _ _ (by omega) i2, ⟨a, wr, fx _ _ (by omega) i1⟩, ⟨sg, tr, nb, le, wy, Va, Wa, Oa, St, u0, d0, hdr⟩, fun k hk => ?_, ⟨b, x, so, Sg, fxH _ il ?_⟩, fun t h1 h2 => ?_⟩
  · by_cases e : k = n
    · subst e
      refine ⟨u, d, ?_⟩
      show sw_hold M' (cS G (100 + 5 * k) (if k = k then σ else qS s k) u d)
      rw [if_pos rfl]; exact hd
    · obtain ⟨u', d', hu⟩ := is' k hk
      refine ⟨u', d', ?_⟩
      show sw_hold M' (cS G (100 + 5 * k) (if k = n then σ else qS s k) u' d')
      rw [if_neg e]
      refine fxH _ hu ?_
      intro c hcl
      simp only [List.mem_cons, List.not_mem_nil, or_false] at hcl
      rcases hcl with rfl | rfl | rfl | rfl | rfl <;> (dsimp only; omega)
  · intro c hcl
    simp only [List.mem_cons, List.not_mem_nil, or_false] at hcl
    rcases hcl with rfl | rfl | rfl | rfl <;> (dsimp only; omega)
  · obtain ⟨ob, g1, g2⟩ := ic t h1 h2
    exact ⟨ob, fx _ _ (by omega) g1, g2⟩
section
variable {l : Launch} {G : sw_G} {M : sw_M} {s : CSt} {k : Int}
theorem F9_table (hI : InvC G M s) (hs : stOK s) : Kt l G μX9_table [.ref (sw_al G 0)] M (fun r M' => r = some (sw_i (if qT s < 10 then qT s else -1)) ∧ InvC G M' (if qT s < 10 then sQ s (qT s + 1) else s) ∧ frC M M') := by
  refine KtA.of (by decide +kernel) (Nat.le_of_ble_eq_true rfl) ?_
  have i0 := hI.1
  have hnt := hs.c.1
  have hI1 := hI.setQ (qT s + 1)
  by_cases c : qT s < 10
  · rw [if_pos c, if_pos c]
    refine v_aload_n dX9_table_0 rfl ?_
    refine v_getfH 4 i0 fl_X9_30 rfl dX9_table_1 ?_
    refine v_bipush dX9_table_4 (by decide +kernel) ?_
    refine v_icmp_lt (tgt := 11) dX9_table_6 (by decide) ⟨by omega, by omega⟩ ⟨by omega, by omega⟩ (fun h6 => ?_) (fun h6 => ?_)
    · skip
      refine v_aload_n dX9_table_11 rfl ?_
      refine v_dup dX9_table_12 rfl ?_
      refine v_getfH 4 i0 fl_X9_30 rfl dX9_table_13 ?_
      refine v_iconst dX9_table_16 ?_
      refine v_iadd dX9_table_17 ?_
      refine v_putfH 4 i0 fp_X9_30 rfl rfl (Nat.le_of_ble_eq_true rfl) dX9_table_18 ?_
      refine v_aload_n dX9_table_21 rfl ?_
      refine v_getfH 4 hI1.1 fl_X9_30 rfl dX9_table_22 ?_
      refine v_iconst dX9_table_25 ?_
      refine v_isub dX9_table_26 ?_
      exact v_iret dX9_table_27 rfl (Nat.le_refl _) (Nat.le_refl _) (⟨by rw [show qT s + 1 - 1 = qT s by omega], hI1, frC.ov (fun c hc => by rw [List.mem_singleton.mp hc]; exact Or.inl (by dsimp only; omega))⟩)
    · skip
      exfalso; omega
  · rw [if_neg c, if_neg c]
    refine v_aload_n dX9_table_0 rfl ?_
    refine v_getfH 4 i0 fl_X9_30 rfl dX9_table_1 ?_
    refine v_bipush dX9_table_4 (by decide +kernel) ?_
    refine v_icmp_lt (tgt := 11) dX9_table_6 (by decide) ⟨by omega, by omega⟩ ⟨by omega, by omega⟩ (fun h6 => ?_) (fun h6 => ?_)
    · skip
      exfalso; omega
    · skip
      refine v_iconst dX9_table_9 ?_
      exact v_iret dX9_table_10 rfl (Nat.le_refl _) (Nat.le_refl _) (⟨rfl, hI, frC.rf⟩)
theorem F9_bid {table sign v : Int} (hI : InvC G M s) (hs : stOK s) (hc : (0 ≤ table ∧ table < qT s) ∧ (0 ≤ sign ∧ sign < 5) ∧ 0 ≤ v ∧ v ≤ 60) : Kt l G μX9_bid [.ref (sw_al G 0), sw_i table, sw_i sign, sw_i v] M (fun r M' => r = some (sw_i 1) ∧ InvC G M' (sB s (up (qB s) (table * 5 + sign) v)) ∧ frC M M') := by
  refine KtA.of (by decide +kernel) (Nat.le_of_ble_eq_true rfl) ?_
  have i0 := hI.1
  have i4 := hI.2.2.1
  have hnt := hs.c.1
  obtain ⟨c1, ⟨c2, c3⟩, c4, c5⟩ := hc
  refine v_aload_n dX9_bid_0 rfl ?_
  refine v_iload_n dX9_bid_1 rfl ?_
  refine v_callV (ci := 9) (K9_hasTable (ns := qN s) (nt := qT s) (k := table) i0 hnt ⟨by omega, by omega⟩) ⟨rfl, rfl⟩ (Nat.le_refl _) (Nat.le_refl _) i0 rfl ⟨ml_X9_171, mm_X9_hasTable⟩ ⟨(Nat.le_of_ble_eq_true rfl), (Nat.le_of_ble_eq_true rfl)⟩ mp_X9_hasTable rfl rfl (Nat.le_of_ble_eq_true rfl) dX9_bid_2 (fun r M' h => ?_)
  obtain ⟨rfl, rfl⟩ := h
  refine v_ifb_eq (tgt := 27) dX9_bid_5 (by decide) (fun h5 => ?_) (fun h5 => ?_)
  · skip
    exact absurd c1 h5
  · skip
    refine v_iload_n dX9_bid_8 rfl ?_
    refine v_if_lt (tgt := 27) dX9_bid_9 (by decide) ⟨by omega, by omega⟩ (fun h9 => ?_) (fun h9 => ?_)
    · skip
      exfalso; omega
    · skip
      refine v_iload_n dX9_bid_12 rfl ?_
      refine v_iconst dX9_bid_13 ?_
      refine v_icmp_ge (tgt := 27) dX9_bid_14 (by decide) ⟨by omega, by omega⟩ ⟨by omega, by omega⟩ (fun h14 => ?_) (fun h14 => ?_)
      · skip
        exfalso; omega
      · skip
        refine v_iload_n dX9_bid_17 rfl ?_
        refine v_if_lt (tgt := 27) dX9_bid_18 (by decide) ⟨by omega, by omega⟩ (fun h18 => ?_) (fun h18 => ?_)
        · skip
          exfalso; omega
        · skip
          refine v_iload_n dX9_bid_21 rfl ?_
          refine v_bipush dX9_bid_22 (by decide +kernel) ?_
          refine v_icmp_le (tgt := 29) dX9_bid_24 (by decide) ⟨by omega, by omega⟩ ⟨by omega, by omega⟩ (fun h24 => ?_) (fun h24 => ?_)
          · skip
            refine v_aload_n dX9_bid_29 rfl ?_
            refine v_getfH 3 i0 fl_X9_26 rfl dX9_bid_30 ?_
            refine v_iload_n dX9_bid_33 rfl ?_
            refine v_iconst dX9_bid_34 ?_
            refine v_imul dX9_bid_35 ?_
            refine v_iload_n dX9_bid_36 rfl ?_
            refine v_iadd dX9_bid_37 ?_
            refine v_iload_n dX9_bid_38 rfl ?_
            refine v_iastH i4 (Nat.le_of_ble_eq_true rfl) (by omega) (by omega) dX9_bid_39 ?_
            refine v_iconst dX9_bid_40 ?_
            exact v_zret rfl dX9_bid_41 rfl (Nat.le_refl _) (Nat.le_refl _) (⟨rfl, hI.setB _, frC.ov (fun c hc => by rw [List.mem_singleton.mp hc]; exact Or.inl (by dsimp only; omega))⟩)
          · skip
            exfalso; omega
theorem F9_bidX {table sign v : Int} (hI : InvC G M s) (hs : stOK s) (hc : ¬ ((0 ≤ table ∧ table < qT s) ∧ (0 ≤ sign ∧ sign < 5) ∧ 0 ≤ v ∧ v ≤ 60)) (g1 : sw_rg table) (g2 : sw_rg sign) (g3 : sw_rg v) : Kt l G μX9_bid [.ref (sw_al G 0), sw_i table, sw_i sign, sw_i v] M (fun r M' => r = some (sw_i 0) ∧ InvC G M' s ∧ frC M M') := by
  refine KtA.of (by decide +kernel) (Nat.le_of_ble_eq_true rfl) ?_
  have i0 := hI.1
  have hnt := hs.c.1
  obtain ⟨g4, g5⟩ := g2
  obtain ⟨g6, g7⟩ := g3
  refine v_aload_n dX9_bid_0 rfl ?_
  refine v_iload_n dX9_bid_1 rfl ?_
  refine v_callV (ci := 9) (K9_hasTable (ns := qN s) (nt := qT s) (k := table) i0 hnt g1) ⟨rfl, rfl⟩ (Nat.le_refl _) (Nat.le_refl _) i0 rfl ⟨ml_X9_171, mm_X9_hasTable⟩ ⟨(Nat.le_of_ble_eq_true rfl), (Nat.le_of_ble_eq_true rfl)⟩ mp_X9_hasTable rfl rfl (Nat.le_of_ble_eq_true rfl) dX9_bid_2 (fun r M' h => ?_)
  obtain ⟨rfl, rfl⟩ := h
  refine v_ifb_eq (tgt := 27) dX9_bid_5 (by decide) (fun h5 => ?_) (fun h5 => ?_)
  · skip
    refine v_iconst dX9_bid_27 ?_
    exact v_zret rfl dX9_bid_28 rfl (Nat.le_refl _) (Nat.le_refl _) (⟨rfl, hI, frC.rf⟩)
  · skip
    refine v_iload_n dX9_bid_8 rfl ?_
    refine v_if_lt (tgt := 27) dX9_bid_9 (by decide) ⟨by omega, by omega⟩ (fun h9 => ?_) (fun h9 => ?_)
    · skip
      refine v_iconst dX9_bid_27 ?_
      exact v_zret rfl dX9_bid_28 rfl (Nat.le_refl _) (Nat.le_refl _) (⟨rfl, hI, frC.rf⟩)
    · skip
      refine v_iload_n dX9_bid_12 rfl ?_
      refine v_iconst dX9_bid_13 ?_
      refine v_icmp_ge (tgt := 27) dX9_bid_14 (by decide) ⟨by omega, by omega⟩ ⟨by omega, by omega⟩ (fun h14 => ?_) (fun h14 => ?_)
      · skip
        refine v_iconst dX9_bid_27 ?_
        exact v_zret rfl dX9_bid_28 rfl (Nat.le_refl _) (Nat.le_refl _) (⟨rfl, hI, frC.rf⟩)
      · skip
        refine v_iload_n dX9_bid_17 rfl ?_
        refine v_if_lt (tgt := 27) dX9_bid_18 (by decide) ⟨by omega, by omega⟩ (fun h18 => ?_) (fun h18 => ?_)
        · skip
          refine v_iconst dX9_bid_27 ?_
          exact v_zret rfl dX9_bid_28 rfl (Nat.le_refl _) (Nat.le_refl _) (⟨rfl, hI, frC.rf⟩)
        · skip
          refine v_iload_n dX9_bid_21 rfl ?_
          refine v_bipush dX9_bid_22 (by decide +kernel) ?_
          refine v_icmp_le (tgt := 29) dX9_bid_24 (by decide) ⟨by omega, by omega⟩ ⟨by omega, by omega⟩ (fun h24 => ?_) (fun h24 => ?_)
          · skip
            exfalso; omega
          · skip
            refine v_iconst dX9_bid_27 ?_
            exact v_zret rfl dX9_bid_28 rfl (Nat.le_refl _) (Nat.le_refl _) (⟨rfl, hI, frC.rf⟩)
/-- the SALE with another on a seat -/
def σSt (σ : SaleT) (seat table : Int) : SaleT := (sSg σ, sTr σ, sNb σ, sLe σ, sWy σ, sV σ, sW σ, sO σ, up (sSt σ) seat table)
theorem F9_seat {seat table : Int} (hI : InvC G M s) (hs : stOK s) (hk : isS s k) (hc : (0 ≤ seat ∧ seat < 4) ∧ -2 ≤ table ∧ table < qT s) : Kt l G μX9_seat [.ref (sw_al G 0), sw_i k, sw_i seat, sw_i table] M (fun r M' => r = some (sw_i 1) ∧ InvC G M' (sS s k.toNat (σSt (sl s k) seat table)) ∧ frC M M') := by
  refine KtA.of (by decide +kernel) (Nat.le_of_ble_eq_true rfl) ?_
  have i0 := hI.1
  have hnt := hs.c.1
  obtain ⟨hk0, hk1⟩ := id hk
  have hns : qN s ≤ 8 := hs.2.1
  obtain ⟨u, d, h5⟩ := hI.sale hk
  obtain ⟨⟨c1, c2⟩, c3, c4⟩ := hc
  have fin : InvC G (sw_ov M [(100 + 5 * k.toNat + 4, sw_ia 4 (up (sSt (sl s k)) seat table))]) (sS s k.toNat (σSt (sl s k) seat table)) ∧ frC M (sw_ov M [(100 + 5 * k.toNat + 4, sw_ia 4 (up (sSt (sl s k)) seat table))]) := by
    refine ⟨hI.setS (by omega) (fun t ht => sw_ov_out (by simp; omega)) (u := u) (d := d) ?_, frC.ov (fun c hc => by rw [List.mem_singleton.mp hc]; exact Or.inr (by dsimp only; omega))⟩
    refine sw_hold1 ((sw_ov_out (by simp)).trans h5.hd) (sw_hold1 ((sw_ov_out (by simp)).trans h5.tl.hd) (sw_hold1 ((sw_ov_out (by simp)).trans h5.tl.tl.hd) (sw_hold1 ((sw_ov_out (by simp)).trans h5.tl.tl.tl.hd) (sw_hold1 (if_pos rfl) sw_hold0))))
  refine v_aload_n dX9_seat_0 rfl ?_
  refine v_iload_n dX9_seat_1 rfl ?_
  refine v_callV (ci := 9) (K9_saleAt (ns := qN s) (nt := qT s) (k := k) i0 hI.2.1 hns hk) ⟨rfl, rfl⟩ (Nat.le_refl _) (Nat.le_refl _) i0 rfl ⟨ml_X9_104, mm_X9_saleAt⟩ ⟨(Nat.le_of_ble_eq_true rfl), (Nat.le_of_ble_eq_true rfl)⟩ mp_X9_saleAt rfl rfl (Nat.le_of_ble_eq_true rfl) dX9_seat_2 (fun r M' h => ?_)
  obtain ⟨rfl, rfl⟩ := h
  refine v_astore dX9_seat_5 (Nat.le_of_ble_eq_true rfl) ?_
  refine v_aload dX9_seat_7 rfl ?_
  refine v_ifnull dX9_seat_9 ?_
  refine v_iload_n dX9_seat_12 rfl ?_
  refine v_if_lt (tgt := 21) dX9_seat_13 (by decide) ⟨by omega, by omega⟩ (fun h13 => ?_) (fun h13 => ?_)
  · skip
    exfalso; omega
  · skip
    refine v_iload_n dX9_seat_16 rfl ?_
    refine v_iconst dX9_seat_17 ?_
    refine v_icmp_lt (tgt := 23) dX9_seat_18 (by decide) ⟨by omega, by omega⟩ ⟨by omega, by omega⟩ (fun h18 => ?_) (fun h18 => ?_)
    · skip
      refine v_iload_n dX9_seat_23 rfl ?_
      refine v_iconst dX9_seat_24 ?_
      refine v_icmp_eq (tgt := 44) dX9_seat_25 (by decide) ⟨by omega, by omega⟩ ⟨by omega, by omega⟩ (fun h25 => ?_) (fun h25 => ?_)
      · skip
        refine v_aload dX9_seat_44 rfl ?_
        refine v_getfH 3 h5.hd fl_X9_174 rfl dX9_seat_46 ?_
        refine v_iload_n dX9_seat_49 rfl ?_
        refine v_iload_n dX9_seat_50 rfl ?_
        refine v_iastH h5.tl.tl.tl.tl.hd (Nat.le_of_ble_eq_true rfl) (by omega) (by omega) dX9_seat_51 ?_
        refine v_iconst dX9_seat_52 ?_
        exact v_zret rfl dX9_seat_53 rfl (Nat.le_refl _) (Nat.le_refl _) (⟨rfl, fin⟩)
      · skip
        refine v_iload_n dX9_seat_28 rfl ?_
        refine v_bipush dX9_seat_29 (by decide +kernel) ?_
        refine v_icmp_eq (tgt := 44) dX9_seat_31 (by decide) ⟨by omega, by omega⟩ ⟨by omega, by omega⟩ (fun h31 => ?_) (fun h31 => ?_)
        · skip
          refine v_aload dX9_seat_44 rfl ?_
          refine v_getfH 3 h5.hd fl_X9_174 rfl dX9_seat_46 ?_
          refine v_iload_n dX9_seat_49 rfl ?_
          refine v_iload_n dX9_seat_50 rfl ?_
          refine v_iastH h5.tl.tl.tl.tl.hd (Nat.le_of_ble_eq_true rfl) (by omega) (by omega) dX9_seat_51 ?_
          refine v_iconst dX9_seat_52 ?_
          exact v_zret rfl dX9_seat_53 rfl (Nat.le_refl _) (Nat.le_refl _) (⟨rfl, fin⟩)
        · skip
          refine v_aload_n dX9_seat_34 rfl ?_
          refine v_iload_n dX9_seat_35 rfl ?_
          refine v_callV (ci := 9) (K9_hasTable (ns := qN s) (nt := qT s) (k := table) i0 hnt ⟨by omega, by omega⟩) ⟨rfl, rfl⟩ (Nat.le_refl _) (Nat.le_refl _) i0 rfl ⟨ml_X9_171, mm_X9_hasTable⟩ ⟨(Nat.le_of_ble_eq_true rfl), (Nat.le_of_ble_eq_true rfl)⟩ mp_X9_hasTable rfl rfl (Nat.le_of_ble_eq_true rfl) dX9_seat_36 (fun r M' h => ?_)
          obtain ⟨rfl, rfl⟩ := h
          refine v_ifb_ne (tgt := 44) dX9_seat_39 (by decide) (fun h39 => ?_) (fun h39 => ?_)
          · skip
            refine v_aload dX9_seat_44 rfl ?_
            refine v_getfH 3 h5.hd fl_X9_174 rfl dX9_seat_46 ?_
            refine v_iload_n dX9_seat_49 rfl ?_
            refine v_iload_n dX9_seat_50 rfl ?_
            refine v_iastH h5.tl.tl.tl.tl.hd (Nat.le_of_ble_eq_true rfl) (by omega) (by omega) dX9_seat_51 ?_
            refine v_iconst dX9_seat_52 ?_
            exact v_zret rfl dX9_seat_53 rfl (Nat.le_refl _) (Nat.le_refl _) (⟨rfl, fin⟩)
          · skip
            exfalso; omega
    · skip
      exfalso; omega
theorem F9_seatX {seat table : Int} (hI : InvC G M s) (hs : stOK s) (hk : isS s k) (hc : ¬ ((0 ≤ seat ∧ seat < 4) ∧ -2 ≤ table ∧ table < qT s)) (g1 : sw_rg seat) (g2 : sw_rg table) : Kt l G μX9_seat [.ref (sw_al G 0), sw_i k, sw_i seat, sw_i table] M (fun r M' => r = some (sw_i 0) ∧ InvC G M' s ∧ frC M M') := by
  refine KtA.of (by decide +kernel) (Nat.le_of_ble_eq_true rfl) ?_
  have i0 := hI.1
  have hnt := hs.c.1
  have hns : qN s ≤ 8 := hs.2.1
  obtain ⟨u, d, h5⟩ := hI.sale hk
  obtain ⟨g3, g4⟩ := g1
  obtain ⟨g5, g6⟩ := id g2
  refine v_aload_n dX9_seat_0 rfl ?_
  refine v_iload_n dX9_seat_1 rfl ?_
  refine v_callV (ci := 9) (K9_saleAt (ns := qN s) (nt := qT s) (k := k) i0 hI.2.1 hns hk) ⟨rfl, rfl⟩ (Nat.le_refl _) (Nat.le_refl _) i0 rfl ⟨ml_X9_104, mm_X9_saleAt⟩ ⟨(Nat.le_of_ble_eq_true rfl), (Nat.le_of_ble_eq_true rfl)⟩ mp_X9_saleAt rfl rfl (Nat.le_of_ble_eq_true rfl) dX9_seat_2 (fun r M' h => ?_)
  obtain ⟨rfl, rfl⟩ := h
  refine v_astore dX9_seat_5 (Nat.le_of_ble_eq_true rfl) ?_
  refine v_aload dX9_seat_7 rfl ?_
  refine v_ifnull dX9_seat_9 ?_
  refine v_iload_n dX9_seat_12 rfl ?_
  refine v_if_lt (tgt := 21) dX9_seat_13 (by decide) ⟨by omega, by omega⟩ (fun h13 => ?_) (fun h13 => ?_)
  · skip
    refine v_iconst dX9_seat_21 ?_
    exact v_zret rfl dX9_seat_22 rfl (Nat.le_refl _) (Nat.le_refl _) (⟨rfl, hI, frC.rf⟩)
  · skip
    refine v_iload_n dX9_seat_16 rfl ?_
    refine v_iconst dX9_seat_17 ?_
    refine v_icmp_lt (tgt := 23) dX9_seat_18 (by decide) ⟨by omega, by omega⟩ ⟨by omega, by omega⟩ (fun h18 => ?_) (fun h18 => ?_)
    · skip
      refine v_iload_n dX9_seat_23 rfl ?_
      refine v_iconst dX9_seat_24 ?_
      refine v_icmp_eq (tgt := 44) dX9_seat_25 (by decide) ⟨by omega, by omega⟩ ⟨by omega, by omega⟩ (fun h25 => ?_) (fun h25 => ?_)
      · skip
        exfalso; omega
      · skip
        refine v_iload_n dX9_seat_28 rfl ?_
        refine v_bipush dX9_seat_29 (by decide +kernel) ?_
        refine v_icmp_eq (tgt := 44) dX9_seat_31 (by decide) ⟨by omega, by omega⟩ ⟨by omega, by omega⟩ (fun h31 => ?_) (fun h31 => ?_)
        · skip
          exfalso; omega
        · skip
          refine v_aload_n dX9_seat_34 rfl ?_
          refine v_iload_n dX9_seat_35 rfl ?_
          refine v_callV (ci := 9) (K9_hasTable (ns := qN s) (nt := qT s) (k := table) i0 hnt g2) ⟨rfl, rfl⟩ (Nat.le_refl _) (Nat.le_refl _) i0 rfl ⟨ml_X9_171, mm_X9_hasTable⟩ ⟨(Nat.le_of_ble_eq_true rfl), (Nat.le_of_ble_eq_true rfl)⟩ mp_X9_hasTable rfl rfl (Nat.le_of_ble_eq_true rfl) dX9_seat_36 (fun r M' h => ?_)
          obtain ⟨rfl, rfl⟩ := h
          refine v_ifb_ne (tgt := 44) dX9_seat_39 (by decide) (fun h39 => ?_) (fun h39 => ?_)
          · skip
            exfalso; omega
          · skip
            refine v_iconst dX9_seat_42 ?_
            exact v_zret rfl dX9_seat_43 rfl (Nat.le_refl _) (Nat.le_refl _) (⟨rfl, hI, frC.rf⟩)
    · skip
      refine v_iconst dX9_seat_21 ?_
      exact v_zret rfl dX9_seat_22 rfl (Nat.le_refl _) (Nat.le_refl _) (⟨rfl, hI, frC.rf⟩)
theorem F9_seatN {seat table : Int} (hI : InvC G M s) (hs : stOK s) (hk : ¬ isS s k) (hg : sw_rg k) : Kt l G μX9_seat [.ref (sw_al G 0), sw_i k, sw_i seat, sw_i table] M (fun r M' => r = some (sw_i 0) ∧ InvC G M' s ∧ frC M M') := by
  refine KtA.of (by decide +kernel) (Nat.le_of_ble_eq_true rfl) ?_
  have i0 := hI.1
  have hns : qN s ≤ 8 := hs.2.1
  refine v_aload_n dX9_seat_0 rfl ?_
  refine v_iload_n dX9_seat_1 rfl ?_
  refine v_callV (ci := 9) (K9_saleAtN (ns := qN s) (nt := qT s) (k := k) i0 hns hk hg) ⟨rfl, rfl⟩ (Nat.le_refl _) (Nat.le_refl _) i0 rfl ⟨ml_X9_104, mm_X9_saleAt⟩ ⟨(Nat.le_of_ble_eq_true rfl), (Nat.le_of_ble_eq_true rfl)⟩ mp_X9_saleAt rfl rfl (Nat.le_of_ble_eq_true rfl) dX9_seat_2 (fun r M' h => ?_)
  obtain ⟨rfl, rfl⟩ := h
  refine v_astoreN dX9_seat_5 (Nat.le_of_ble_eq_true rfl) ?_
  refine v_aloadN dX9_seat_7 rfl ?_
  refine v_ifnullN (tgt := 21) dX9_seat_9 (by decide) ?_
  refine v_iconst dX9_seat_21 ?_
  exact v_zret rfl dX9_seat_22 rfl (Nat.le_refl _) (Nat.le_refl _) (⟨rfl, hI, frC.rf⟩)
/-- the SALE with another rule: 0 bidders, 1 the LEAST, 2 the WAY -/
def chOK (what v : Int) : Prop := what = 0 ∧ 1 ≤ v ∧ v ≤ 4 ∨ what = 1 ∧ 0 ≤ v ∧ v ≤ 60 ∨ what = 2 ∧ 0 ≤ v ∧ v ≤ 2
def σCh (σ : SaleT) (what v : Int) : SaleT := (sSg σ, sTr σ, if what = 0 then v else sNb σ, if what = 1 then v else sLe σ, if what = 2 then v else sWy σ, sV σ, sW σ, sO σ, sSt σ)
theorem ch_fin {n : Nat} (hI : InvC G M s) (hn : n < qN s) {σ σ' : SaleT} {u d : Int} (hσ : qS s n = σ) (h5 : sw_hold M (cS G (100 + 5 * n) σ u d)) (e1 : sV σ' = sV σ) (e2 : sW σ' = sW σ) (e3 : sO σ' = sO σ) (e4 : sSt σ' = sSt σ) : InvC G (sw_ov M [cO G (100 + 5 * n) σ' u d]) (sS s n σ') ∧ frC M (sw_ov M [cO G (100 + 5 * n) σ' u d]) := by
  refine ⟨hI.setS hn (fun t ht => sw_ov_out (by simp; omega)) (u := u) (d := d) ?_, frC.ov (fun c hc => by rw [List.mem_singleton.mp hc]; exact Or.inr (by dsimp only; omega))⟩
  refine sw_hold1 (if_pos rfl) ?_
  rw [e1, e2, e3, e4]
  exact h5.tl.out (by simp)
theorem F9_change {what v : Int} (hI : InvC G M s) (hs : stOK s) (hk : isS s k) (g1 : sw_rg what) (g2 : sw_rg v) (hc : chOK what v) : Kt l G μX9_change [.ref (sw_al G 0), sw_i k, sw_i what, sw_i v] M (fun r M' => r = some (sw_i 1) ∧ InvC G M' (sS s k.toNat (σCh (sl s k) what v)) ∧ frC M M') := by
  refine KtA.of (by decide +kernel) (Nat.le_of_ble_eq_true rfl) ?_
  have i0 := hI.1
  obtain ⟨hk0, hk1⟩ := id hk
  have hns : qN s ≤ 8 := hs.2.1
  obtain ⟨u, d, h5⟩ := hI.sale hk
  obtain ⟨g3, g4⟩ := g1
  obtain ⟨g5, g6⟩ := g2
  unfold chOK at hc
  refine v_aload_n dX9_change_0 rfl ?_
  refine v_iload_n dX9_change_1 rfl ?_
  refine v_callV (ci := 9) (K9_saleAt (ns := qN s) (nt := qT s) (k := k) i0 hI.2.1 hns hk) ⟨rfl, rfl⟩ (Nat.le_refl _) (Nat.le_refl _) i0 rfl ⟨ml_X9_104, mm_X9_saleAt⟩ ⟨(Nat.le_of_ble_eq_true rfl), (Nat.le_of_ble_eq_true rfl)⟩ mp_X9_saleAt rfl rfl (Nat.le_of_ble_eq_true rfl) dX9_change_2 (fun r M' h => ?_)
  obtain ⟨rfl, rfl⟩ := h
  refine v_astore dX9_change_5 (Nat.le_of_ble_eq_true rfl) ?_
  refine v_aload dX9_change_7 rfl ?_
  refine v_ifnonnull (tgt := 14) dX9_change_9 (by decide) ?_
  refine v_iload_n dX9_change_14 rfl ?_
  refine v_if_ne (tgt := 36) dX9_change_15 (by decide) ⟨by omega, by omega⟩ (fun q0 => ?_) (fun q0 => ?_)
  · skip
    refine v_iload_n dX9_change_36 rfl ?_
    refine v_iconst dX9_change_37 ?_
    refine v_icmp_ne (tgt := 59) dX9_change_38 (by decide) ⟨by omega, by omega⟩ ⟨by omega, by omega⟩ (fun q3 => ?_) (fun q3 => ?_)
    · skip
      refine v_iload_n dX9_change_59 rfl ?_
      refine v_iconst dX9_change_60 ?_
      refine v_icmp_ne (tgt := 81) dX9_change_61 (by decide) ⟨by omega, by omega⟩ ⟨by omega, by omega⟩ (fun q6 => ?_) (fun q6 => ?_)
      · skip
        exfalso; omega
      · skip
        refine v_iload_n dX9_change_64 rfl ?_
        refine v_if_lt (tgt := 81) dX9_change_65 (by decide) ⟨by omega, by omega⟩ (fun q7 => ?_) (fun q7 => ?_)
        · skip
          exfalso; omega
        · skip
          refine v_iload_n dX9_change_68 rfl ?_
          refine v_iconst dX9_change_69 ?_
          refine v_icmp_gt (tgt := 81) dX9_change_70 (by decide) ⟨by omega, by omega⟩ ⟨by omega, by omega⟩ (fun q8 => ?_) (fun q8 => ?_)
          · skip
            exfalso; omega
          · skip
            refine v_aload dX9_change_73 rfl ?_
            refine v_iload_n dX9_change_75 rfl ?_
            refine v_putfH 8 h5.hd fp_X9_120 rfl rfl (Nat.le_of_ble_eq_true rfl) dX9_change_76 ?_
            refine v_iconst dX9_change_79 ?_
            refine v_zret rfl dX9_change_80 rfl (Nat.le_refl _) (Nat.le_refl _) ?_
            skip
            have e := ch_fin (σ' := σCh (sl s k) what v) hI (show k.toNat < qN s by omega) rfl h5 rfl rfl rfl rfl
            unfold σCh at e ⊢
            rw [if_neg (show ¬ what = 0 by omega), if_neg (show ¬ what = 1 by omega), if_pos (show what = 2 by omega)] at e ⊢
            exact ⟨rfl, e⟩
    · skip
      refine v_iload_n dX9_change_41 rfl ?_
      refine v_if_lt (tgt := 59) dX9_change_42 (by decide) ⟨by omega, by omega⟩ (fun q4 => ?_) (fun q4 => ?_)
      · skip
        exfalso; omega
      · skip
        refine v_iload_n dX9_change_45 rfl ?_
        refine v_bipush dX9_change_46 (by decide +kernel) ?_
        refine v_icmp_gt (tgt := 59) dX9_change_48 (by decide) ⟨by omega, by omega⟩ ⟨by omega, by omega⟩ (fun q5 => ?_) (fun q5 => ?_)
        · skip
          exfalso; omega
        · skip
          refine v_aload dX9_change_51 rfl ?_
          refine v_iload_n dX9_change_53 rfl ?_
          refine v_putfH 7 h5.hd fp_X9_117 rfl rfl (Nat.le_of_ble_eq_true rfl) dX9_change_54 ?_
          refine v_iconst dX9_change_57 ?_
          refine v_zret rfl dX9_change_58 rfl (Nat.le_refl _) (Nat.le_refl _) ?_
          skip
          have e := ch_fin (σ' := σCh (sl s k) what v) hI (show k.toNat < qN s by omega) rfl h5 rfl rfl rfl rfl
          unfold σCh at e ⊢
          rw [if_neg (show ¬ what = 0 by omega), if_pos (show what = 1 by omega), if_neg (show ¬ what = 2 by omega)] at e ⊢
          exact ⟨rfl, e⟩
  · skip
    refine v_iload_n dX9_change_18 rfl ?_
    refine v_iconst dX9_change_19 ?_
    refine v_icmp_lt (tgt := 36) dX9_change_20 (by decide) ⟨by omega, by omega⟩ ⟨by omega, by omega⟩ (fun q1 => ?_) (fun q1 => ?_)
    · skip
      exfalso; omega
    · skip
      refine v_iload_n dX9_change_23 rfl ?_
      refine v_iconst dX9_change_24 ?_
      refine v_icmp_gt (tgt := 36) dX9_change_25 (by decide) ⟨by omega, by omega⟩ ⟨by omega, by omega⟩ (fun q2 => ?_) (fun q2 => ?_)
      · skip
        exfalso; omega
      · skip
        refine v_aload dX9_change_28 rfl ?_
        refine v_iload_n dX9_change_30 rfl ?_
        refine v_putfH 6 h5.hd fp_X9_114 rfl rfl (Nat.le_of_ble_eq_true rfl) dX9_change_31 ?_
        refine v_iconst dX9_change_34 ?_
        refine v_zret rfl dX9_change_35 rfl (Nat.le_refl _) (Nat.le_refl _) ?_
        skip
        have e := ch_fin (σ' := σCh (sl s k) what v) hI (show k.toNat < qN s by omega) rfl h5 rfl rfl rfl rfl
        unfold σCh at e ⊢
        rw [if_pos (show what = 0 by omega), if_neg (show ¬ what = 1 by omega), if_neg (show ¬ what = 2 by omega)] at e ⊢
        exact ⟨rfl, e⟩
theorem F9_changeX {what v : Int} (hI : InvC G M s) (hs : stOK s) (hk : isS s k) (g1 : sw_rg what) (g2 : sw_rg v) (hc : ¬ chOK what v) : Kt l G μX9_change [.ref (sw_al G 0), sw_i k, sw_i what, sw_i v] M (fun r M' => r = some (sw_i 0) ∧ InvC G M' s ∧ frC M M') := by
  refine KtA.of (by decide +kernel) (Nat.le_of_ble_eq_true rfl) ?_
  have i0 := hI.1
  have hns : qN s ≤ 8 := hs.2.1
  obtain ⟨g3, g4⟩ := g1
  obtain ⟨g5, g6⟩ := g2
  unfold chOK at hc
  refine v_aload_n dX9_change_0 rfl ?_
  refine v_iload_n dX9_change_1 rfl ?_
  refine v_callV (ci := 9) (K9_saleAt (ns := qN s) (nt := qT s) (k := k) i0 hI.2.1 hns hk) ⟨rfl, rfl⟩ (Nat.le_refl _) (Nat.le_refl _) i0 rfl ⟨ml_X9_104, mm_X9_saleAt⟩ ⟨(Nat.le_of_ble_eq_true rfl), (Nat.le_of_ble_eq_true rfl)⟩ mp_X9_saleAt rfl rfl (Nat.le_of_ble_eq_true rfl) dX9_change_2 (fun r M' h => ?_)
  obtain ⟨rfl, rfl⟩ := h
  refine v_astore dX9_change_5 (Nat.le_of_ble_eq_true rfl) ?_
  refine v_aload dX9_change_7 rfl ?_
  refine v_ifnonnull (tgt := 14) dX9_change_9 (by decide) ?_
  refine v_iload_n dX9_change_14 rfl ?_
  refine v_if_ne (tgt := 36) dX9_change_15 (by decide) ⟨by omega, by omega⟩ (fun q0 => ?_) (fun q0 => ?_)
  · skip
    refine v_iload_n dX9_change_36 rfl ?_
    refine v_iconst dX9_change_37 ?_
    refine v_icmp_ne (tgt := 59) dX9_change_38 (by decide) ⟨by omega, by omega⟩ ⟨by omega, by omega⟩ (fun q3 => ?_) (fun q3 => ?_)
    · skip
      refine v_iload_n dX9_change_59 rfl ?_
      refine v_iconst dX9_change_60 ?_
      refine v_icmp_ne (tgt := 81) dX9_change_61 (by decide) ⟨by omega, by omega⟩ ⟨by omega, by omega⟩ (fun q6 => ?_) (fun q6 => ?_)
      · skip
        refine v_iconst dX9_change_81 ?_
        exact v_zret rfl dX9_change_82 rfl (Nat.le_refl _) (Nat.le_refl _) (⟨rfl, hI, frC.rf⟩)
      · skip
        refine v_iload_n dX9_change_64 rfl ?_
        refine v_if_lt (tgt := 81) dX9_change_65 (by decide) ⟨by omega, by omega⟩ (fun q7 => ?_) (fun q7 => ?_)
        · skip
          refine v_iconst dX9_change_81 ?_
          exact v_zret rfl dX9_change_82 rfl (Nat.le_refl _) (Nat.le_refl _) (⟨rfl, hI, frC.rf⟩)
        · skip
          refine v_iload_n dX9_change_68 rfl ?_
          refine v_iconst dX9_change_69 ?_
          refine v_icmp_gt (tgt := 81) dX9_change_70 (by decide) ⟨by omega, by omega⟩ ⟨by omega, by omega⟩ (fun q8 => ?_) (fun q8 => ?_)
          · skip
            refine v_iconst dX9_change_81 ?_
            exact v_zret rfl dX9_change_82 rfl (Nat.le_refl _) (Nat.le_refl _) (⟨rfl, hI, frC.rf⟩)
          · skip
            exfalso; omega
    · skip
      refine v_iload_n dX9_change_41 rfl ?_
      refine v_if_lt (tgt := 59) dX9_change_42 (by decide) ⟨by omega, by omega⟩ (fun q4 => ?_) (fun q4 => ?_)
      · skip
        refine v_iload_n dX9_change_59 rfl ?_
        refine v_iconst dX9_change_60 ?_
        refine v_icmp_ne (tgt := 81) dX9_change_61 (by decide) ⟨by omega, by omega⟩ ⟨by omega, by omega⟩ (fun q6 => ?_) (fun q6 => ?_)
        · skip
          refine v_iconst dX9_change_81 ?_
          exact v_zret rfl dX9_change_82 rfl (Nat.le_refl _) (Nat.le_refl _) (⟨rfl, hI, frC.rf⟩)
        · skip
          refine v_iload_n dX9_change_64 rfl ?_
          refine v_if_lt (tgt := 81) dX9_change_65 (by decide) ⟨by omega, by omega⟩ (fun q7 => ?_) (fun q7 => ?_)
          · skip
            refine v_iconst dX9_change_81 ?_
            exact v_zret rfl dX9_change_82 rfl (Nat.le_refl _) (Nat.le_refl _) (⟨rfl, hI, frC.rf⟩)
          · skip
            refine v_iload_n dX9_change_68 rfl ?_
            refine v_iconst dX9_change_69 ?_
            refine v_icmp_gt (tgt := 81) dX9_change_70 (by decide) ⟨by omega, by omega⟩ ⟨by omega, by omega⟩ (fun q8 => ?_) (fun q8 => ?_)
            · skip
              refine v_iconst dX9_change_81 ?_
              exact v_zret rfl dX9_change_82 rfl (Nat.le_refl _) (Nat.le_refl _) (⟨rfl, hI, frC.rf⟩)
            · skip
              exfalso; omega
      · skip
        refine v_iload_n dX9_change_45 rfl ?_
        refine v_bipush dX9_change_46 (by decide +kernel) ?_
        refine v_icmp_gt (tgt := 59) dX9_change_48 (by decide) ⟨by omega, by omega⟩ ⟨by omega, by omega⟩ (fun q5 => ?_) (fun q5 => ?_)
        · skip
          refine v_iload_n dX9_change_59 rfl ?_
          refine v_iconst dX9_change_60 ?_
          refine v_icmp_ne (tgt := 81) dX9_change_61 (by decide) ⟨by omega, by omega⟩ ⟨by omega, by omega⟩ (fun q6 => ?_) (fun q6 => ?_)
          · skip
            refine v_iconst dX9_change_81 ?_
            exact v_zret rfl dX9_change_82 rfl (Nat.le_refl _) (Nat.le_refl _) (⟨rfl, hI, frC.rf⟩)
          · skip
            refine v_iload_n dX9_change_64 rfl ?_
            refine v_if_lt (tgt := 81) dX9_change_65 (by decide) ⟨by omega, by omega⟩ (fun q7 => ?_) (fun q7 => ?_)
            · skip
              refine v_iconst dX9_change_81 ?_
              exact v_zret rfl dX9_change_82 rfl (Nat.le_refl _) (Nat.le_refl _) (⟨rfl, hI, frC.rf⟩)
            · skip
              refine v_iload_n dX9_change_68 rfl ?_
              refine v_iconst dX9_change_69 ?_
              refine v_icmp_gt (tgt := 81) dX9_change_70 (by decide) ⟨by omega, by omega⟩ ⟨by omega, by omega⟩ (fun q8 => ?_) (fun q8 => ?_)
              · skip
                refine v_iconst dX9_change_81 ?_
                exact v_zret rfl dX9_change_82 rfl (Nat.le_refl _) (Nat.le_refl _) (⟨rfl, hI, frC.rf⟩)
              · skip
                exfalso; omega
        · skip
          exfalso; omega
  · skip
    refine v_iload_n dX9_change_18 rfl ?_
    refine v_iconst dX9_change_19 ?_
    refine v_icmp_lt (tgt := 36) dX9_change_20 (by decide) ⟨by omega, by omega⟩ ⟨by omega, by omega⟩ (fun q1 => ?_) (fun q1 => ?_)
    · skip
      refine v_iload_n dX9_change_36 rfl ?_
      refine v_iconst dX9_change_37 ?_
      refine v_icmp_ne (tgt := 59) dX9_change_38 (by decide) ⟨by omega, by omega⟩ ⟨by omega, by omega⟩ (fun q3 => ?_) (fun q3 => ?_)
      · skip
        refine v_iload_n dX9_change_59 rfl ?_
        refine v_iconst dX9_change_60 ?_
        refine v_icmp_ne (tgt := 81) dX9_change_61 (by decide) ⟨by omega, by omega⟩ ⟨by omega, by omega⟩ (fun q6 => ?_) (fun q6 => ?_)
        · skip
          refine v_iconst dX9_change_81 ?_
          exact v_zret rfl dX9_change_82 rfl (Nat.le_refl _) (Nat.le_refl _) (⟨rfl, hI, frC.rf⟩)
        · skip
          refine v_iload_n dX9_change_64 rfl ?_
          refine v_if_lt (tgt := 81) dX9_change_65 (by decide) ⟨by omega, by omega⟩ (fun q7 => ?_) (fun q7 => ?_)
          · skip
            refine v_iconst dX9_change_81 ?_
            exact v_zret rfl dX9_change_82 rfl (Nat.le_refl _) (Nat.le_refl _) (⟨rfl, hI, frC.rf⟩)
          · skip
            refine v_iload_n dX9_change_68 rfl ?_
            refine v_iconst dX9_change_69 ?_
            refine v_icmp_gt (tgt := 81) dX9_change_70 (by decide) ⟨by omega, by omega⟩ ⟨by omega, by omega⟩ (fun q8 => ?_) (fun q8 => ?_)
            · skip
              refine v_iconst dX9_change_81 ?_
              exact v_zret rfl dX9_change_82 rfl (Nat.le_refl _) (Nat.le_refl _) (⟨rfl, hI, frC.rf⟩)
            · skip
              exfalso; omega
      · skip
        refine v_iload_n dX9_change_41 rfl ?_
        refine v_if_lt (tgt := 59) dX9_change_42 (by decide) ⟨by omega, by omega⟩ (fun q4 => ?_) (fun q4 => ?_)
        · skip
          refine v_iload_n dX9_change_59 rfl ?_
          refine v_iconst dX9_change_60 ?_
          refine v_icmp_ne (tgt := 81) dX9_change_61 (by decide) ⟨by omega, by omega⟩ ⟨by omega, by omega⟩ (fun q6 => ?_) (fun q6 => ?_)
          · skip
            refine v_iconst dX9_change_81 ?_
            exact v_zret rfl dX9_change_82 rfl (Nat.le_refl _) (Nat.le_refl _) (⟨rfl, hI, frC.rf⟩)
          · skip
            refine v_iload_n dX9_change_64 rfl ?_
            refine v_if_lt (tgt := 81) dX9_change_65 (by decide) ⟨by omega, by omega⟩ (fun q7 => ?_) (fun q7 => ?_)
            · skip
              refine v_iconst dX9_change_81 ?_
              exact v_zret rfl dX9_change_82 rfl (Nat.le_refl _) (Nat.le_refl _) (⟨rfl, hI, frC.rf⟩)
            · skip
              refine v_iload_n dX9_change_68 rfl ?_
              refine v_iconst dX9_change_69 ?_
              refine v_icmp_gt (tgt := 81) dX9_change_70 (by decide) ⟨by omega, by omega⟩ ⟨by omega, by omega⟩ (fun q8 => ?_) (fun q8 => ?_)
              · skip
                refine v_iconst dX9_change_81 ?_
                exact v_zret rfl dX9_change_82 rfl (Nat.le_refl _) (Nat.le_refl _) (⟨rfl, hI, frC.rf⟩)
              · skip
                exfalso; omega
        · skip
          refine v_iload_n dX9_change_45 rfl ?_
          refine v_bipush dX9_change_46 (by decide +kernel) ?_
          refine v_icmp_gt (tgt := 59) dX9_change_48 (by decide) ⟨by omega, by omega⟩ ⟨by omega, by omega⟩ (fun q5 => ?_) (fun q5 => ?_)
          · skip
            refine v_iload_n dX9_change_59 rfl ?_
            refine v_iconst dX9_change_60 ?_
            refine v_icmp_ne (tgt := 81) dX9_change_61 (by decide) ⟨by omega, by omega⟩ ⟨by omega, by omega⟩ (fun q6 => ?_) (fun q6 => ?_)
            · skip
              refine v_iconst dX9_change_81 ?_
              exact v_zret rfl dX9_change_82 rfl (Nat.le_refl _) (Nat.le_refl _) (⟨rfl, hI, frC.rf⟩)
            · skip
              refine v_iload_n dX9_change_64 rfl ?_
              refine v_if_lt (tgt := 81) dX9_change_65 (by decide) ⟨by omega, by omega⟩ (fun q7 => ?_) (fun q7 => ?_)
              · skip
                refine v_iconst dX9_change_81 ?_
                exact v_zret rfl dX9_change_82 rfl (Nat.le_refl _) (Nat.le_refl _) (⟨rfl, hI, frC.rf⟩)
              · skip
                refine v_iload_n dX9_change_68 rfl ?_
                refine v_iconst dX9_change_69 ?_
                refine v_icmp_gt (tgt := 81) dX9_change_70 (by decide) ⟨by omega, by omega⟩ ⟨by omega, by omega⟩ (fun q8 => ?_) (fun q8 => ?_)
                · skip
                  refine v_iconst dX9_change_81 ?_
                  exact v_zret rfl dX9_change_82 rfl (Nat.le_refl _) (Nat.le_refl _) (⟨rfl, hI, frC.rf⟩)
                · skip
                  exfalso; omega
          · skip
            exfalso; omega
    · skip
      refine v_iload_n dX9_change_23 rfl ?_
      refine v_iconst dX9_change_24 ?_
      refine v_icmp_gt (tgt := 36) dX9_change_25 (by decide) ⟨by omega, by omega⟩ ⟨by omega, by omega⟩ (fun q2 => ?_) (fun q2 => ?_)
      · skip
        refine v_iload_n dX9_change_36 rfl ?_
        refine v_iconst dX9_change_37 ?_
        refine v_icmp_ne (tgt := 59) dX9_change_38 (by decide) ⟨by omega, by omega⟩ ⟨by omega, by omega⟩ (fun q3 => ?_) (fun q3 => ?_)
        · skip
          refine v_iload_n dX9_change_59 rfl ?_
          refine v_iconst dX9_change_60 ?_
          refine v_icmp_ne (tgt := 81) dX9_change_61 (by decide) ⟨by omega, by omega⟩ ⟨by omega, by omega⟩ (fun q6 => ?_) (fun q6 => ?_)
          · skip
            refine v_iconst dX9_change_81 ?_
            exact v_zret rfl dX9_change_82 rfl (Nat.le_refl _) (Nat.le_refl _) (⟨rfl, hI, frC.rf⟩)
          · skip
            refine v_iload_n dX9_change_64 rfl ?_
            refine v_if_lt (tgt := 81) dX9_change_65 (by decide) ⟨by omega, by omega⟩ (fun q7 => ?_) (fun q7 => ?_)
            · skip
              refine v_iconst dX9_change_81 ?_
              exact v_zret rfl dX9_change_82 rfl (Nat.le_refl _) (Nat.le_refl _) (⟨rfl, hI, frC.rf⟩)
            · skip
              refine v_iload_n dX9_change_68 rfl ?_
              refine v_iconst dX9_change_69 ?_
              refine v_icmp_gt (tgt := 81) dX9_change_70 (by decide) ⟨by omega, by omega⟩ ⟨by omega, by omega⟩ (fun q8 => ?_) (fun q8 => ?_)
              · skip
                refine v_iconst dX9_change_81 ?_
                exact v_zret rfl dX9_change_82 rfl (Nat.le_refl _) (Nat.le_refl _) (⟨rfl, hI, frC.rf⟩)
              · skip
                exfalso; omega
        · skip
          refine v_iload_n dX9_change_41 rfl ?_
          refine v_if_lt (tgt := 59) dX9_change_42 (by decide) ⟨by omega, by omega⟩ (fun q4 => ?_) (fun q4 => ?_)
          · skip
            refine v_iload_n dX9_change_59 rfl ?_
            refine v_iconst dX9_change_60 ?_
            refine v_icmp_ne (tgt := 81) dX9_change_61 (by decide) ⟨by omega, by omega⟩ ⟨by omega, by omega⟩ (fun q6 => ?_) (fun q6 => ?_)
            · skip
              refine v_iconst dX9_change_81 ?_
              exact v_zret rfl dX9_change_82 rfl (Nat.le_refl _) (Nat.le_refl _) (⟨rfl, hI, frC.rf⟩)
            · skip
              refine v_iload_n dX9_change_64 rfl ?_
              refine v_if_lt (tgt := 81) dX9_change_65 (by decide) ⟨by omega, by omega⟩ (fun q7 => ?_) (fun q7 => ?_)
              · skip
                refine v_iconst dX9_change_81 ?_
                exact v_zret rfl dX9_change_82 rfl (Nat.le_refl _) (Nat.le_refl _) (⟨rfl, hI, frC.rf⟩)
              · skip
                refine v_iload_n dX9_change_68 rfl ?_
                refine v_iconst dX9_change_69 ?_
                refine v_icmp_gt (tgt := 81) dX9_change_70 (by decide) ⟨by omega, by omega⟩ ⟨by omega, by omega⟩ (fun q8 => ?_) (fun q8 => ?_)
                · skip
                  refine v_iconst dX9_change_81 ?_
                  exact v_zret rfl dX9_change_82 rfl (Nat.le_refl _) (Nat.le_refl _) (⟨rfl, hI, frC.rf⟩)
                · skip
                  exfalso; omega
          · skip
            refine v_iload_n dX9_change_45 rfl ?_
            refine v_bipush dX9_change_46 (by decide +kernel) ?_
            refine v_icmp_gt (tgt := 59) dX9_change_48 (by decide) ⟨by omega, by omega⟩ ⟨by omega, by omega⟩ (fun q5 => ?_) (fun q5 => ?_)
            · skip
              refine v_iload_n dX9_change_59 rfl ?_
              refine v_iconst dX9_change_60 ?_
              refine v_icmp_ne (tgt := 81) dX9_change_61 (by decide) ⟨by omega, by omega⟩ ⟨by omega, by omega⟩ (fun q6 => ?_) (fun q6 => ?_)
              · skip
                refine v_iconst dX9_change_81 ?_
                exact v_zret rfl dX9_change_82 rfl (Nat.le_refl _) (Nat.le_refl _) (⟨rfl, hI, frC.rf⟩)
              · skip
                refine v_iload_n dX9_change_64 rfl ?_
                refine v_if_lt (tgt := 81) dX9_change_65 (by decide) ⟨by omega, by omega⟩ (fun q7 => ?_) (fun q7 => ?_)
                · skip
                  refine v_iconst dX9_change_81 ?_
                  exact v_zret rfl dX9_change_82 rfl (Nat.le_refl _) (Nat.le_refl _) (⟨rfl, hI, frC.rf⟩)
                · skip
                  refine v_iload_n dX9_change_68 rfl ?_
                  refine v_iconst dX9_change_69 ?_
                  refine v_icmp_gt (tgt := 81) dX9_change_70 (by decide) ⟨by omega, by omega⟩ ⟨by omega, by omega⟩ (fun q8 => ?_) (fun q8 => ?_)
                  · skip
                    refine v_iconst dX9_change_81 ?_
                    exact v_zret rfl dX9_change_82 rfl (Nat.le_refl _) (Nat.le_refl _) (⟨rfl, hI, frC.rf⟩)
                  · skip
                    exfalso; omega
            · skip
              exfalso; omega
      · skip
        exfalso; omega
theorem F9_changeN {what v : Int} (hI : InvC G M s) (hs : stOK s) (hk : ¬ isS s k) (hg : sw_rg k) : Kt l G μX9_change [.ref (sw_al G 0), sw_i k, sw_i what, sw_i v] M (fun r M' => r = some (sw_i 0) ∧ InvC G M' s ∧ frC M M') := by
  refine KtA.of (by decide +kernel) (Nat.le_of_ble_eq_true rfl) ?_
  have i0 := hI.1
  have hns : qN s ≤ 8 := hs.2.1
  refine v_aload_n dX9_change_0 rfl ?_
  refine v_iload_n dX9_change_1 rfl ?_
  refine v_callV (ci := 9) (K9_saleAtN (ns := qN s) (nt := qT s) (k := k) i0 hns hk hg) ⟨rfl, rfl⟩ (Nat.le_refl _) (Nat.le_refl _) i0 rfl ⟨ml_X9_104, mm_X9_saleAt⟩ ⟨(Nat.le_of_ble_eq_true rfl), (Nat.le_of_ble_eq_true rfl)⟩ mp_X9_saleAt rfl rfl (Nat.le_of_ble_eq_true rfl) dX9_change_2 (fun r M' h => ?_)
  obtain ⟨rfl, rfl⟩ := h
  refine v_astoreN dX9_change_5 (Nat.le_of_ble_eq_true rfl) ?_
  refine v_aloadN dX9_change_7 rfl ?_
  refine v_ifnonnullN dX9_change_9 ?_
  refine v_iconst dX9_change_12 ?_
  exact v_zret rfl dX9_change_13 rfl (Nat.le_refl _) (Nat.le_refl _) (⟨rfl, hI, frC.rf⟩)
/-- the signs of WORTH -/
def soN (σ : SaleT) (c : Int) : Prop := c = -1 ∨ 0 ≤ c ∧ c < sSg σ
def woF (σ : SaleT) (a b c d what : Int) : Int := (if what = 0 then upS σ a b c d (sTr σ).toNat else dnS σ a b c d (sTr σ).toNat).tdiv (gcdI (upS σ a b c d (sTr σ).toNat) (dnS σ a b c d (sTr σ).toNat))
def woP (σ : SaleT) (a b c d what : Int) : Prop := ((0 ≤ a ∧ a < sSg σ) ∧ (what = 0 ∨ what = 1)) ∧ soN σ b ∧ soN σ c ∧ soN σ d
theorem F9_worth {a b c d' what : Int} (hI : InvC G M s) (hs : stOK s) (hk : isS s k) (g1 : sw_rg a) (g2 : sw_rg b) (g3 : sw_rg c) (g4 : sw_rg d') (g5 : sw_rg what) (hp : woP (sl s k) a b c d' what) : Kt l G μX9_worth [.ref (sw_al G 0), sw_i k, sw_i a, sw_i b, sw_i c, sw_i d', sw_i what] M (fun r M' => r = some (sw_i (if 0 < dnS (sl s k) a b c d' (sTr (sl s k)).toNat then woF (sl s k) a b c d' what else -1)) ∧ InvC G M' s ∧ frC M M') := by
  refine KtA.of (by decide +kernel) (Nat.le_of_ble_eq_true rfl) ?_
  have i0 := hI.1
  obtain ⟨hk0, hk1⟩ := id hk
  have hw := hs.sale hk
  have hsg := hw.1
  have htr := hw.2.1
  have hns : qN s ≤ 8 := hs.2.1
  obtain ⟨u, d, h5⟩ := hI.sale hk
  have sg : sw_rg (sSg (sl s k)) := ⟨by omega, by omega⟩
  obtain ⟨⟨p1, p2⟩, p3, p4, p5⟩ := hp
  have b1 := up_bd hw a b c d' (n := (sTr (sl s k)).toNat) (by omega)
  have b2 := dn_bd hw a b c d' (n := (sTr (sl s k)).toNat) (by omega)
  have fin : ∀ u' d2, InvC G (sw_ov M [cO G (100 + 5 * k.toNat) (sl s k) u' d2]) s ∧ frC M (sw_ov M [cO G (100 + 5 * k.toNat) (sl s k) u' d2]) := fun u' d2 => ⟨hI.ov (fun c hc => by rw [List.mem_singleton.mp hc]; exact okS hk u' d2), frC.ov (fun c hc => by rw [List.mem_singleton.mp hc]; exact Or.inr (by dsimp only; omega))⟩
  have hM1 : ∀ u' d2, sw_ov M [cO G (100 + 5 * k.toNat) (sl s k) u' d2] (100 + 5 * k.toNat) = some (cO G (100 + 5 * k.toNat) (sl s k) u' d2).2 := fun u' d2 => if_pos rfl
  refine v_aload_n dX9_worth_0 rfl ?_
  refine v_iload_n dX9_worth_1 rfl ?_
  refine v_callV (ci := 9) (K9_saleAt (ns := qN s) (nt := qT s) (k := k) i0 hI.2.1 hns hk) ⟨rfl, rfl⟩ (Nat.le_refl _) (Nat.le_refl _) i0 rfl ⟨ml_X9_104, mm_X9_saleAt⟩ ⟨(Nat.le_of_ble_eq_true rfl), (Nat.le_of_ble_eq_true rfl)⟩ mp_X9_saleAt rfl rfl (Nat.le_of_ble_eq_true rfl) dX9_worth_2 (fun r M' h => ?_)
  obtain ⟨rfl, rfl⟩ := h
  refine v_astore dX9_worth_5 (Nat.le_of_ble_eq_true rfl) ?_
  refine v_aload dX9_worth_7 rfl ?_
  refine v_ifnull dX9_worth_9 ?_
  refine v_aload dX9_worth_12 rfl ?_
  refine v_iload_n dX9_worth_14 rfl ?_
  refine v_callV (ci := 5) (K5_hasSign (b := 100 + 5 * k.toNat) (σ := sl s k) (u := u) (d := d) h5.hd sg (k := a) g1) ⟨rfl, rfl⟩ (Nat.le_refl _) (Nat.le_refl _) (h5.hd) rfl ⟨ml_X9_145, mm_X5_hasSign⟩ ⟨(Nat.le_of_ble_eq_true rfl), (Nat.le_of_ble_eq_true rfl)⟩ mp_X5_hasSign rfl rfl (Nat.le_of_ble_eq_true rfl) dX9_worth_15 (fun r M' h => ?_)
  obtain ⟨rfl, rfl⟩ := h
  refine v_ifb_eq (tgt := 29) dX9_worth_18 (by decide) (fun q1 => ?_) (fun q1 => ?_)
  · skip
    exact absurd p1 q1
  · skip
    refine v_iload dX9_worth_21 rfl ?_
    refine v_callS (K9_isHalf (k := what) g5) ⟨rfl, rfl⟩ (Nat.le_refl _) (Nat.le_refl _) ⟨ml_X9_149, mm_X9_isHalf⟩ ⟨(Nat.le_of_ble_eq_true rfl), (Nat.le_of_ble_eq_true rfl)⟩ mp_X9_isHalf rfl rfl (Nat.le_of_ble_eq_true rfl) dX9_worth_23 (fun r M' h => ?_)
    obtain ⟨rfl, rfl⟩ := h
    refine v_ifb_ne (tgt := 31) dX9_worth_26 (by decide) (fun q2 => ?_) (fun q2 => ?_)
    · skip
      refine v_aload dX9_worth_31 rfl ?_
      refine v_iload_n dX9_worth_33 rfl ?_
      refine v_callS (K9_hasSignOrNone (b := 100 + 5 * k.toNat) (σ := sl s k) (u := u) (d := d) (k := b) h5.hd sg g2) ⟨rfl, rfl⟩ (Nat.le_refl _) (Nat.le_refl _) ⟨ml_X9_152, mm_X9_hasSignOrNone⟩ ⟨(Nat.le_of_ble_eq_true rfl), (Nat.le_of_ble_eq_true rfl)⟩ mp_X9_hasSignOrNone rfl rfl (Nat.le_of_ble_eq_true rfl) dX9_worth_34 (fun r M' h => ?_)
      obtain ⟨rfl, rfl⟩ := h
      refine v_ifb_eq (tgt := 74) dX9_worth_37 (by decide) (fun q3 => ?_) (fun q3 => ?_)
      · skip
        exact absurd p3 q3
      · skip
        refine v_aload dX9_worth_40 rfl ?_
        refine v_iload dX9_worth_42 rfl ?_
        refine v_callS (K9_hasSignOrNone (b := 100 + 5 * k.toNat) (σ := sl s k) (u := u) (d := d) (k := c) h5.hd sg g3) ⟨rfl, rfl⟩ (Nat.le_refl _) (Nat.le_refl _) ⟨ml_X9_152, mm_X9_hasSignOrNone⟩ ⟨(Nat.le_of_ble_eq_true rfl), (Nat.le_of_ble_eq_true rfl)⟩ mp_X9_hasSignOrNone rfl rfl (Nat.le_of_ble_eq_true rfl) dX9_worth_44 (fun r M' h => ?_)
        obtain ⟨rfl, rfl⟩ := h
        refine v_ifb_eq (tgt := 74) dX9_worth_47 (by decide) (fun q4 => ?_) (fun q4 => ?_)
        · skip
          exact absurd p4 q4
        · skip
          refine v_aload dX9_worth_50 rfl ?_
          refine v_iload dX9_worth_52 rfl ?_
          refine v_callS (K9_hasSignOrNone (b := 100 + 5 * k.toNat) (σ := sl s k) (u := u) (d := d) (k := d') h5.hd sg g4) ⟨rfl, rfl⟩ (Nat.le_refl _) (Nat.le_refl _) ⟨ml_X9_152, mm_X9_hasSignOrNone⟩ ⟨(Nat.le_of_ble_eq_true rfl), (Nat.le_of_ble_eq_true rfl)⟩ mp_X9_hasSignOrNone rfl rfl (Nat.le_of_ble_eq_true rfl) dX9_worth_54 (fun r M' h => ?_)
          obtain ⟨rfl, rfl⟩ := h
          refine v_ifb_eq (tgt := 74) dX9_worth_57 (by decide) (fun q5 => ?_) (fun q5 => ?_)
          · skip
            exact absurd p5 q5
          · skip
            refine v_aload dX9_worth_60 rfl ?_
            refine v_iload_n dX9_worth_62 rfl ?_
            refine v_iload_n dX9_worth_63 rfl ?_
            refine v_iload dX9_worth_64 rfl ?_
            refine v_iload dX9_worth_66 rfl ?_
            refine v_callV (ci := 5) (K5_weigh h5 hw g1 g2 g3 g4) ⟨rfl, rfl⟩ (Nat.le_refl _) (Nat.le_refl _) h5.hd rfl ⟨ml_X9_156, mm_X5_weigh⟩ ⟨(Nat.le_of_ble_eq_true rfl), (Nat.le_of_ble_eq_true rfl)⟩ mp_X5_weigh rfl rfl (Nat.le_of_ble_eq_true rfl) dX9_worth_68 (fun r M' h => ?_)
            obtain ⟨rfl, rfl⟩ := h
            refine v_ifb_ne (tgt := 76) dX9_worth_71 (by decide) (fun q6 => ?_) (fun q6 => ?_)
            · skip
              have hMx := hM1 (upS (sl s k) a b c d' (sTr (sl s k)).toNat) (dnS (sl s k) a b c d' (sTr (sl s k)).toNat)
              refine v_aload dX9_worth_76 rfl ?_
              refine v_getfH 9 hMx fl_X9_160 rfl dX9_worth_78 ?_
              refine v_aload dX9_worth_81 rfl ?_
              refine v_getfH 10 hMx fl_X9_164 rfl dX9_worth_83 ?_
              refine v_iload dX9_worth_86 rfl ?_
              refine v_callS (K9_half (up' := upS (sl s k) a b c d' (sTr (sl s k)).toNat) (dn := dnS (sl s k) a b c d' (sTr (sl s k)).toNat) (what := what) ⟨by omega, by omega⟩ ⟨by omega, by omega⟩ g5) ⟨rfl, rfl⟩ (Nat.le_refl _) (Nat.le_refl _) ⟨ml_X9_167, mm_X9_half⟩ ⟨(Nat.le_of_ble_eq_true rfl), (Nat.le_of_ble_eq_true rfl)⟩ mp_X9_half rfl rfl (Nat.le_of_ble_eq_true rfl) dX9_worth_88 (fun r M' h => ?_)
              obtain ⟨rfl, rfl⟩ := h
              refine v_l2i dX9_worth_91 ?_
              exact v_iret dX9_worth_92 rfl (Nat.le_refl _) (Nat.le_refl _) (⟨by rw [if_pos q6]; rfl, fin _ _⟩)
            · skip
              refine v_iconst dX9_worth_74 ?_
              exact v_iret dX9_worth_75 rfl (Nat.le_refl _) (Nat.le_refl _) (⟨by rw [if_neg q6], fin _ _⟩)
    · skip
      exact absurd p2 q2
theorem F9_worthX {a b c d' what : Int} (hI : InvC G M s) (hs : stOK s) (hk : isS s k) (g1 : sw_rg a) (g2 : sw_rg b) (g3 : sw_rg c) (g4 : sw_rg d') (g5 : sw_rg what) (hp : ¬ woP (sl s k) a b c d' what) : Kt l G μX9_worth [.ref (sw_al G 0), sw_i k, sw_i a, sw_i b, sw_i c, sw_i d', sw_i what] M (fun r M' => r = some (sw_i (-1)) ∧ InvC G M' s ∧ frC M M') := by
  refine KtA.of (by decide +kernel) (Nat.le_of_ble_eq_true rfl) ?_
  have i0 := hI.1
  have hw := hs.sale hk
  have hsg := hw.1
  have hns : qN s ≤ 8 := hs.2.1
  obtain ⟨u, d, h5⟩ := hI.sale hk
  have sg : sw_rg (sSg (sl s k)) := ⟨by omega, by omega⟩
  refine v_aload_n dX9_worth_0 rfl ?_
  refine v_iload_n dX9_worth_1 rfl ?_
  refine v_callV (ci := 9) (K9_saleAt (ns := qN s) (nt := qT s) (k := k) i0 hI.2.1 hns hk) ⟨rfl, rfl⟩ (Nat.le_refl _) (Nat.le_refl _) i0 rfl ⟨ml_X9_104, mm_X9_saleAt⟩ ⟨(Nat.le_of_ble_eq_true rfl), (Nat.le_of_ble_eq_true rfl)⟩ mp_X9_saleAt rfl rfl (Nat.le_of_ble_eq_true rfl) dX9_worth_2 (fun r M' h => ?_)
  obtain ⟨rfl, rfl⟩ := h
  refine v_astore dX9_worth_5 (Nat.le_of_ble_eq_true rfl) ?_
  refine v_aload dX9_worth_7 rfl ?_
  refine v_ifnull dX9_worth_9 ?_
  refine v_aload dX9_worth_12 rfl ?_
  refine v_iload_n dX9_worth_14 rfl ?_
  refine v_callV (ci := 5) (K5_hasSign (b := 100 + 5 * k.toNat) (σ := sl s k) (u := u) (d := d) h5.hd sg (k := a) g1) ⟨rfl, rfl⟩ (Nat.le_refl _) (Nat.le_refl _) (h5.hd) rfl ⟨ml_X9_145, mm_X5_hasSign⟩ ⟨(Nat.le_of_ble_eq_true rfl), (Nat.le_of_ble_eq_true rfl)⟩ mp_X5_hasSign rfl rfl (Nat.le_of_ble_eq_true rfl) dX9_worth_15 (fun r M' h => ?_)
  obtain ⟨rfl, rfl⟩ := h
  refine v_ifb_eq (tgt := 29) dX9_worth_18 (by decide) (fun q1 => ?_) (fun q1 => ?_)
  · skip
    refine v_iconst dX9_worth_29 ?_
    exact v_iret dX9_worth_30 rfl (Nat.le_refl _) (Nat.le_refl _) (⟨rfl, hI, frC.rf⟩)
  · skip
    refine v_iload dX9_worth_21 rfl ?_
    refine v_callS (K9_isHalf (k := what) g5) ⟨rfl, rfl⟩ (Nat.le_refl _) (Nat.le_refl _) ⟨ml_X9_149, mm_X9_isHalf⟩ ⟨(Nat.le_of_ble_eq_true rfl), (Nat.le_of_ble_eq_true rfl)⟩ mp_X9_isHalf rfl rfl (Nat.le_of_ble_eq_true rfl) dX9_worth_23 (fun r M' h => ?_)
    obtain ⟨rfl, rfl⟩ := h
    refine v_ifb_ne (tgt := 31) dX9_worth_26 (by decide) (fun q2 => ?_) (fun q2 => ?_)
    · skip
      refine v_aload dX9_worth_31 rfl ?_
      refine v_iload_n dX9_worth_33 rfl ?_
      refine v_callS (K9_hasSignOrNone (b := 100 + 5 * k.toNat) (σ := sl s k) (u := u) (d := d) (k := b) h5.hd sg g2) ⟨rfl, rfl⟩ (Nat.le_refl _) (Nat.le_refl _) ⟨ml_X9_152, mm_X9_hasSignOrNone⟩ ⟨(Nat.le_of_ble_eq_true rfl), (Nat.le_of_ble_eq_true rfl)⟩ mp_X9_hasSignOrNone rfl rfl (Nat.le_of_ble_eq_true rfl) dX9_worth_34 (fun r M' h => ?_)
      obtain ⟨rfl, rfl⟩ := h
      refine v_ifb_eq (tgt := 74) dX9_worth_37 (by decide) (fun q3 => ?_) (fun q3 => ?_)
      · skip
        refine v_iconst dX9_worth_74 ?_
        exact v_iret dX9_worth_75 rfl (Nat.le_refl _) (Nat.le_refl _) (⟨rfl, hI, frC.rf⟩)
      · skip
        refine v_aload dX9_worth_40 rfl ?_
        refine v_iload dX9_worth_42 rfl ?_
        refine v_callS (K9_hasSignOrNone (b := 100 + 5 * k.toNat) (σ := sl s k) (u := u) (d := d) (k := c) h5.hd sg g3) ⟨rfl, rfl⟩ (Nat.le_refl _) (Nat.le_refl _) ⟨ml_X9_152, mm_X9_hasSignOrNone⟩ ⟨(Nat.le_of_ble_eq_true rfl), (Nat.le_of_ble_eq_true rfl)⟩ mp_X9_hasSignOrNone rfl rfl (Nat.le_of_ble_eq_true rfl) dX9_worth_44 (fun r M' h => ?_)
        obtain ⟨rfl, rfl⟩ := h
        refine v_ifb_eq (tgt := 74) dX9_worth_47 (by decide) (fun q4 => ?_) (fun q4 => ?_)
        · skip
          refine v_iconst dX9_worth_74 ?_
          exact v_iret dX9_worth_75 rfl (Nat.le_refl _) (Nat.le_refl _) (⟨rfl, hI, frC.rf⟩)
        · skip
          refine v_aload dX9_worth_50 rfl ?_
          refine v_iload dX9_worth_52 rfl ?_
          refine v_callS (K9_hasSignOrNone (b := 100 + 5 * k.toNat) (σ := sl s k) (u := u) (d := d) (k := d') h5.hd sg g4) ⟨rfl, rfl⟩ (Nat.le_refl _) (Nat.le_refl _) ⟨ml_X9_152, mm_X9_hasSignOrNone⟩ ⟨(Nat.le_of_ble_eq_true rfl), (Nat.le_of_ble_eq_true rfl)⟩ mp_X9_hasSignOrNone rfl rfl (Nat.le_of_ble_eq_true rfl) dX9_worth_54 (fun r M' h => ?_)
          obtain ⟨rfl, rfl⟩ := h
          refine v_ifb_eq (tgt := 74) dX9_worth_57 (by decide) (fun q5 => ?_) (fun q5 => ?_)
          · skip
            refine v_iconst dX9_worth_74 ?_
            exact v_iret dX9_worth_75 rfl (Nat.le_refl _) (Nat.le_refl _) (⟨rfl, hI, frC.rf⟩)
          · skip
            exact absurd ⟨⟨q1, q2⟩, q3, q4, q5⟩ hp
    · skip
      refine v_iconst dX9_worth_29 ?_
      exact v_iret dX9_worth_30 rfl (Nat.le_refl _) (Nat.le_refl _) (⟨rfl, hI, frC.rf⟩)
theorem F9_worthN {a b c d' what : Int} (hI : InvC G M s) (hs : stOK s) (hk : ¬ isS s k) (hg : sw_rg k) : Kt l G μX9_worth [.ref (sw_al G 0), sw_i k, sw_i a, sw_i b, sw_i c, sw_i d', sw_i what] M (fun r M' => r = some (sw_i (-1)) ∧ InvC G M' s ∧ frC M M') := by
  refine KtA.of (by decide +kernel) (Nat.le_of_ble_eq_true rfl) ?_
  have i0 := hI.1
  have hns : qN s ≤ 8 := hs.2.1
  refine v_aload_n dX9_worth_0 rfl ?_
  refine v_iload_n dX9_worth_1 rfl ?_
  refine v_callV (ci := 9) (K9_saleAtN (ns := qN s) (nt := qT s) (k := k) i0 hns hk hg) ⟨rfl, rfl⟩ (Nat.le_refl _) (Nat.le_refl _) i0 rfl ⟨ml_X9_104, mm_X9_saleAt⟩ ⟨(Nat.le_of_ble_eq_true rfl), (Nat.le_of_ble_eq_true rfl)⟩ mp_X9_saleAt rfl rfl (Nat.le_of_ble_eq_true rfl) dX9_worth_2 (fun r M' h => ?_)
  obtain ⟨rfl, rfl⟩ := h
  refine v_astoreN dX9_worth_5 (Nat.le_of_ble_eq_true rfl) ?_
  refine v_aloadN dX9_worth_7 rfl ?_
  refine v_ifnullN (tgt := 29) dX9_worth_9 (by decide) ?_
  refine v_iconst dX9_worth_29 ?_
  exact v_iret dX9_worth_30 rfl (Nat.le_refl _) (Nat.le_refl _) (⟨rfl, hI, frC.rf⟩)
end

