/-! the face: best -/
section
variable {l : Launch} {G : sw_G} {M : sw_M} {s : CSt}
/-- the others' rows -/
def oF (σ : SaleT) (nt : Int) (T : Int → Int) (seat : Int) : Int → Int → Int := fun p k => bdF σ nt T (if p < seat then p else p + 1) k (-1)
theorem cRv_ok {b : Nat} {σ : SaleT} (h0 : 6 ≤ 6) {m le wt wo hi al nx su fw fo : Int} {S P Wt Wo g : Int → Int} : ∀ c ∈ cVs G fw fo Wt Wo g ++ [cC G b m le wt wo hi al nx su, cG S, cP P], okC G M s c := by
  intro c hc
  simp only [List.mem_append, List.mem_cons, List.not_mem_nil, or_false] at hc
  rcases hc with (rfl | rfl | rfl | rfl) | rfl | rfl | rfl
  · exact Or.inl ⟨by dsimp only; omega, by dsimp only; omega, fw, fo, rfl⟩
  · exact Or.inl ⟨by dsimp only; omega, by dsimp only; omega, Wt, rfl⟩
  · exact Or.inl ⟨by dsimp only; omega, by dsimp only; omega, Wo, rfl⟩
  · exact Or.inl ⟨by dsimp only; omega, by dsimp only; omega, g, rfl⟩
  · exact Or.inl ⟨by dsimp only; omega, by dsimp only; omega, b, m, le, wt, wo, hi, al, nx, su, rfl⟩
  · exact Or.inl ⟨by dsimp only; omega, by dsimp only; omega, S, rfl⟩
  · exact Or.inl ⟨by dsimp only; omega, by dsimp only; omega, P, rfl⟩
theorem cRv_fr {b : Nat} {m le wt wo hi al nx su fw fo : Int} {S P Wt Wo g : Int → Int} : ∀ c ∈ cVs G fw fo Wt Wo g ++ [cC G b m le wt wo hi al nx su, cG S, cP P], c.1 < 70 ∨ 100 ≤ c.1 := by
  intro c hc
  simp only [List.mem_append, List.mem_cons, List.not_mem_nil, or_false] at hc
  rcases hc with (rfl | rfl | rfl | rfl) | rfl | rfl | rfl <;> (dsimp only; omega)
theorem cRo_ok {b : Nat} {σ : SaleT} {u d : Int} {R : Int → Int} (oks : okC G M s (cO G b σ u d)) : ∀ c ∈ [cR R, cO G b σ u d], okC G M s c := by
  intro c hc
  simp only [List.mem_cons, List.not_mem_nil, or_false] at hc
  rcases hc with rfl | rfl
  · exact Or.inl ⟨by dsimp only; omega, by dsimp only; omega, R, rfl⟩
  · exact oks
theorem cRo_fr {b : Nat} (hb : 100 ≤ b) {σ : SaleT} {u d : Int} {R : Int → Int} : ∀ c ∈ [cR R, cO G b σ u d], c.1 < 70 ∨ 100 ≤ c.1 := by
  intro c hc
  simp only [List.mem_cons, List.not_mem_nil, or_false] at hc
  rcases hc with rfl | rfl <;> (dsimp only; omega)
theorem frC.tr {A B C : sw_M} (h : frC A B) (k : frC B C) : frC A C := fun t h1 h2 => (k t h1 h2).trans (h t h1 h2)
theorem RG_bd {σ : SaleT} (hw : wfS σ) (f : Int → Int → Int) {P0 : Int → Int} {n : Nat} (hP : pB σ P0) (hn : n ≤ 4) {j : Int} (h0 : 0 ≤ j) (h1 : j ≤ 60) : sw_rl (RG σ f P0 n j) := rvg_bd hw hP hn z0 h0 h1
theorem F9_best {k seat sign : Int} (hI : InvC G M s) (hs : stOK s) (hk : isS s k) (hp : (0 ≤ seat ∧ seat < sNb (sl s k)) ∧ 0 ≤ sign ∧ sign < sSg (sl s k)) : Kt l G μX9_best [.ref (sw_al G 0), sw_i k, sw_i seat, sw_i sign] M (fun r M' => r = some (sw_i (pk (RG (sl s k) (oF (sl s k) (qT s) (qB s) seat) (pS (sl s k) sign) (sNb (sl s k) - 1).toNat) 60)) ∧ InvC G M' s ∧ frC M M') := by
  refine KtA.of (by decide +kernel) (Nat.le_of_ble_eq_true rfl) ?_
  have i0 := hI.1
  have i3 := hI.2.1
  have i4 := hI.2.2.1
  obtain ⟨hwf, hns, hsal, hc, hD, hqm, hqr⟩ := id hs
  obtain ⟨hk0, hk1⟩ := id hk
  obtain ⟨u, d, h5⟩ := hI.2.2.2.2.2.2.2.1 k.toNat (by omega)
  have hw := (hsal k.toNat (by omega)).1
  have hb : 50 ≤ 100 + 5 * k.toNat := by omega
  have hsg := hw.1
  have htr := hw.2.1
  have hnb := hw.2.2.1
  have hle := hw.2.2.2.1
  have hwy := hw.2.2.2.2.1
  obtain ⟨σ, hσ⟩ : ∃ σ, qS s k.toNat = σ := ⟨_, rfl⟩
  obtain ⟨b, hbb⟩ : ∃ b, 100 + 5 * k.toNat = b := ⟨_, rfl⟩
  rw [hσ] at h5 hw hsg htr hnb hle hwy
  rw [hbb] at h5 hb
  have oks : ∀ u d, okC G M s (cO G b σ u d) := fun u d => Or.inr (Or.inl ⟨k.toNat, u, d, by omega, by rw [hσ, hbb]⟩)
  have hsl : sl s k = σ := hσ
  rw [hsl] at hp ⊢
  obtain ⟨b0, m0, le0, wt, wo, hi, al, nx', su, x6⟩ := hI.x6
  obtain ⟨R, x7⟩ := hI.x7
  obtain ⟨S, x8⟩ := hI.x8
  obtain ⟨P, x9⟩ := hI.x9
  obtain ⟨fw, fo, Wt, Wo, g, xV⟩ := hI.xV
  obtain ⟨p1, p2⟩ := hp
  have hn : sw_nd [7, b] := sw_nd_of (by simp; omega)
  refine v_aload_n dX9_best_0 rfl ?_
  refine v_iload_n dX9_best_1 rfl ?_
  refine v_callV (ci := 9) (K9_saleAt (ns := qN s) (nt := qT s) (k := k) i0 i3 hns hk) ⟨rfl, rfl⟩ (Nat.le_refl _) (Nat.le_refl _) i0 rfl ⟨ml_X9_104, mm_X9_saleAt⟩ ⟨(Nat.le_of_ble_eq_true rfl), (Nat.le_of_ble_eq_true rfl)⟩ mp_X9_saleAt rfl rfl (Nat.le_of_ble_eq_true rfl) dX9_best_2 (fun r M' h => ?_)
  obtain ⟨rfl, rfl⟩ := h
  rw [hbb]
  refine v_astore dX9_best_5 (Nat.le_of_ble_eq_true rfl) ?_
  refine v_aload dX9_best_7 rfl ?_
  refine v_ifnull dX9_best_9 ?_
  refine v_aload dX9_best_12 rfl ?_
  refine v_iload_n dX9_best_14 rfl ?_
  refine v_callV (ci := 5) (K5_hasSeat (b := b) (σ := σ) (u := u) (d := d) h5.hd ⟨by omega, by omega⟩ (k := seat) ⟨by omega, by omega⟩) ⟨rfl, rfl⟩ (Nat.le_refl _) (Nat.le_refl _) (h5.hd) rfl ⟨ml_X9_177, mm_X5_hasSeat⟩ ⟨(Nat.le_of_ble_eq_true rfl), (Nat.le_of_ble_eq_true rfl)⟩ mp_X5_hasSeat rfl rfl (Nat.le_of_ble_eq_true rfl) dX9_best_15 (fun r M' h => ?_)
  obtain ⟨rfl, rfl⟩ := h
  refine v_ifb_eq (tgt := 30) dX9_best_18 (by decide) (fun h18 => ?_) (fun h18 => ?_)
  · skip
    exfalso; omega
  · skip
    refine v_aload dX9_best_21 rfl ?_
    refine v_iload_n dX9_best_23 rfl ?_
    refine v_callV (ci := 5) (K5_hasSign (b := b) (σ := σ) (u := u) (d := d) h5.hd ⟨by omega, by omega⟩ (k := sign) ⟨by omega, by omega⟩) ⟨rfl, rfl⟩ (Nat.le_refl _) (Nat.le_refl _) (h5.hd) rfl ⟨ml_X9_145, mm_X5_hasSign⟩ ⟨(Nat.le_of_ble_eq_true rfl), (Nat.le_of_ble_eq_true rfl)⟩ mp_X5_hasSign rfl rfl (Nat.le_of_ble_eq_true rfl) dX9_best_24 (fun r M' h => ?_)
    obtain ⟨rfl, rfl⟩ := h
    refine v_ifb_ne (tgt := 32) dX9_best_27 (by decide) (fun h27 => ?_) (fun h27 => ?_)
    · skip
      refine v_aload_n dX9_best_32 rfl ?_
      refine v_aload dX9_best_33 rfl ?_
      refine v_iload_n dX9_best_35 rfl ?_
      refine v_callV (ci := 9) (K9_rowsWithout hb (ns := qN s) (nt := qT s) (T := qB s) (seat := seat) i0 i4 x6 x7 h5 hw hc p1) ⟨rfl, rfl⟩ (Nat.le_refl _) (Nat.le_refl _) i0 rfl ⟨ml_X9_214, mm_X9_rowsWithout⟩ ⟨(Nat.le_of_ble_eq_true rfl), (Nat.le_of_ble_eq_true rfl)⟩ mp_X9_rowsWithout rfl rfl (Nat.le_of_ble_eq_true rfl) dX9_best_36 (fun r M' h => ?_)
      obtain ⟨R2, u2, d2, rfl, f1, rfl⟩ := h
      refine v_aload_n dX9_best_39 rfl ?_
      refine v_aload dX9_best_40 rfl ?_
      refine v_iload_n dX9_best_42 rfl ?_
      have hIa := hI.ov (cRo_ok (R := R2) (oks u2 d2))
      refine v_callV (ci := 9) (K9_rivalsBySign hb (ns := qN s) (nt := qT s) (σ := σ) (u := u2) (d := d2) (R := R2) (n := (sNb σ - 1).toNat) hIa.1 (by rw [sw_ov_out (by simp; omega)]; exact x6) (sw_ov_at (cs := [cR R2, cO G b σ u2 d2]) (q := 0) (t := 7) hn rfl) (by rw [sw_ov_out (by simp; omega)]; exact x8) (by rw [sw_ov_out (by simp; omega)]; exact x9) (xV.out (by simp; omega)) (sw_hold1 (sw_ov_at (cs := [cR R2, cO G b σ u2 d2]) (q := 1) (t := b) hn rfl) (h5.tl.out (by simp; omega))) hw (k := sign) ⟨by omega, by omega⟩ (by omega) (fun i j hi j0 j1 => by rw [f1 i j (by omega) (by omega) j0 j1]; exact bdF_bd hw hc (-1) ⟨j0, by omega⟩)) ⟨rfl, rfl⟩ (Nat.le_refl _) (Nat.le_refl _) hIa.1 rfl ⟨ml_X9_218, mm_X9_rivalsBySign⟩ ⟨(Nat.le_of_ble_eq_true rfl), (Nat.le_of_ble_eq_true rfl)⟩ mp_X9_rivalsBySign rfl rfl (Nat.le_of_ble_eq_true rfl) dX9_best_43 (fun r M' h => ?_)
      obtain ⟨wt2, wo2, hi2, al2, nx2, su2, S2, P2, fw2, fo2, Wt2, Wo2, g2, rfl, q1, q2, q3, q4, q5, rfl⟩ := h
      have hg := RG_of hw (P0 := pS σ sign) (n := (sNb σ - 1).toNat) (by omega) (f := oF σ (qT s) (qB s) seat) (R := R2) (fun p j p0 p1 j0 j1 => f1 p j p0 (by omega) j0 j1) (S := S) q1 q2 q3 q4 q5
      have hgb : ∀ i, 0 ≤ i → i ≤ 60 → sw_rl (g2 i) := fun i j0 j1 => by
        have e := hg i.toNat (by omega)
        rw [show ((i.toNat : Nat) : Int) = i by omega] at e
        rw [e]; exact RG_bd hw _ (pS_B hw sign) (by omega) j0 j1
      have hIb := hIa.ov (cRv_ok (b := b) (σ := σ) (Nat.le_refl _) (m := ((sNb σ - 1).toNat : Int)) (le := sLe σ) (wt := wt2) (wo := wo2) (hi := hi2) (al := al2) (nx := nx2) (su := su2) (fw := fw2) (fo := fo2) (S := S2) (P := P2) (Wt := Wt2) (Wo := Wo2) (g := g2))
      have hnV : sw_nd [14, 15, 16, 17, 6, 8, 9] := sw_nd_of (by simp)
      skip
      refine v_aload_n dX9_best_46 rfl ?_
      refine v_mem (sw_ov_self (cs := [c0 G (qN s) (qT s)]) (sw_hold1 hIb.1 sw_hold0)).symm ?_
      have hn0 : sw_nd [0] := sw_nd_of (by simp)
      refine v_getf 0 8 fl_X9_53 hn0 rfl rfl dX9_best_47 ?_
      refine v_mem (sw_ov_self (cs := [c0 G (qN s) (qT s)]) (sw_hold1 hIb.1 sw_hold0)) ?_
      refine v_callV (ci := 4) (K4_pick (fw := fw2) (fo := fo2) (g := g2) (sw_ov_at (cs := cVs G fw2 fo2 Wt2 Wo2 g2 ++ [cC G b ((sNb σ - 1).toNat : Int) (sLe σ) wt2 wo2 hi2 al2 nx2 su2, cG S2, cP P2]) (q := 0) (t := 14) hnV rfl) (sw_ov_at (cs := cVs G fw2 fo2 Wt2 Wo2 g2 ++ [cC G b ((sNb σ - 1).toNat : Int) (sLe σ) wt2 wo2 hi2 al2 nx2 su2, cG S2, cP P2]) (q := 3) (t := 17) hnV rfl) hgb) ⟨rfl, rfl⟩ (Nat.le_refl _) (Nat.le_refl _) (sw_ov_at (cs := cVs G fw2 fo2 Wt2 Wo2 g2 ++ [cC G b ((sNb σ - 1).toNat : Int) (sLe σ) wt2 wo2 hi2 al2 nx2 su2, cG S2, cP P2]) (q := 0) (t := 14) hnV rfl) rfl ⟨ml_X9_221, mm_X4_pick⟩ ⟨(Nat.le_of_ble_eq_true rfl), (Nat.le_of_ble_eq_true rfl)⟩ mp_X4_pick rfl rfl (Nat.le_of_ble_eq_true rfl) dX9_best_50 (fun r M' h => ?_)
      obtain ⟨rfl, rfl⟩ := h
      exact v_iret dX9_best_53 rfl (Nat.le_refl _) (Nat.le_refl _) ⟨by rw [pk_congr 60 (Nat.le_refl _) hg], hIb, (frC.ov (cRo_fr (by omega))).tr (frC.ov cRv_fr)⟩
    · skip
      exfalso; omega
theorem F9_bestX {k seat sign : Int} (hI : InvC G M s) (hs : stOK s) (hk : isS s k) (hp : ¬ ((0 ≤ seat ∧ seat < sNb (sl s k)) ∧ 0 ≤ sign ∧ sign < sSg (sl s k))) (g1 : sw_rg seat) (g2 : sw_rg sign) : Kt l G μX9_best [.ref (sw_al G 0), sw_i k, sw_i seat, sw_i sign] M (fun r M' => r = some (sw_i (-1)) ∧ InvC G M' s ∧ frC M M') := by
  refine KtA.of (by decide +kernel) (Nat.le_of_ble_eq_true rfl) ?_
  have i0 := hI.1
  have i3 := hI.2.1
  have i4 := hI.2.2.1
  obtain ⟨hwf, hns, hsal, hc, hD, hqm, hqr⟩ := id hs
  obtain ⟨hk0, hk1⟩ := id hk
  obtain ⟨u, d, h5⟩ := hI.2.2.2.2.2.2.2.1 k.toNat (by omega)
  have hw := (hsal k.toNat (by omega)).1
  have hb : 50 ≤ 100 + 5 * k.toNat := by omega
  have hsg := hw.1
  have htr := hw.2.1
  have hnb := hw.2.2.1
  have hle := hw.2.2.2.1
  have hwy := hw.2.2.2.2.1
  obtain ⟨σ, hσ⟩ : ∃ σ, qS s k.toNat = σ := ⟨_, rfl⟩
  obtain ⟨b, hbb⟩ : ∃ b, 100 + 5 * k.toNat = b := ⟨_, rfl⟩
  rw [hσ] at h5 hw hsg htr hnb hle hwy
  rw [hbb] at h5 hb
  have oks : ∀ u d, okC G M s (cO G b σ u d) := fun u d => Or.inr (Or.inl ⟨k.toNat, u, d, by omega, by rw [hσ, hbb]⟩)
  have hsl : sl s k = σ := hσ
  rw [hsl] at hp
  refine v_aload_n dX9_best_0 rfl ?_
  refine v_iload_n dX9_best_1 rfl ?_
  refine v_callV (ci := 9) (K9_saleAt (ns := qN s) (nt := qT s) (k := k) i0 i3 hns hk) ⟨rfl, rfl⟩ (Nat.le_refl _) (Nat.le_refl _) i0 rfl ⟨ml_X9_104, mm_X9_saleAt⟩ ⟨(Nat.le_of_ble_eq_true rfl), (Nat.le_of_ble_eq_true rfl)⟩ mp_X9_saleAt rfl rfl (Nat.le_of_ble_eq_true rfl) dX9_best_2 (fun r M' h => ?_)
  obtain ⟨rfl, rfl⟩ := h
  rw [hbb]
  refine v_astore dX9_best_5 (Nat.le_of_ble_eq_true rfl) ?_
  refine v_aload dX9_best_7 rfl ?_
  refine v_ifnull dX9_best_9 ?_
  refine v_aload dX9_best_12 rfl ?_
  refine v_iload_n dX9_best_14 rfl ?_
  refine v_callV (ci := 5) (K5_hasSeat (b := b) (σ := σ) (u := u) (d := d) h5.hd ⟨by omega, by omega⟩ (k := seat) g1) ⟨rfl, rfl⟩ (Nat.le_refl _) (Nat.le_refl _) (h5.hd) rfl ⟨ml_X9_177, mm_X5_hasSeat⟩ ⟨(Nat.le_of_ble_eq_true rfl), (Nat.le_of_ble_eq_true rfl)⟩ mp_X5_hasSeat rfl rfl (Nat.le_of_ble_eq_true rfl) dX9_best_15 (fun r M' h => ?_)
  obtain ⟨rfl, rfl⟩ := h
  refine v_ifb_eq (tgt := 30) dX9_best_18 (by decide) (fun q1 => ?_) (fun q1 => ?_)
  · skip
    refine v_iconst dX9_best_30 ?_
    exact v_iret dX9_best_31 rfl (Nat.le_refl _) (Nat.le_refl _) (⟨rfl, hI, frC.rf⟩)
  · skip
    refine v_aload dX9_best_21 rfl ?_
    refine v_iload_n dX9_best_23 rfl ?_
    refine v_callV (ci := 5) (K5_hasSign (b := b) (σ := σ) (u := u) (d := d) h5.hd ⟨by omega, by omega⟩ (k := sign) g2) ⟨rfl, rfl⟩ (Nat.le_refl _) (Nat.le_refl _) (h5.hd) rfl ⟨ml_X9_145, mm_X5_hasSign⟩ ⟨(Nat.le_of_ble_eq_true rfl), (Nat.le_of_ble_eq_true rfl)⟩ mp_X5_hasSign rfl rfl (Nat.le_of_ble_eq_true rfl) dX9_best_24 (fun r M' h => ?_)
    obtain ⟨rfl, rfl⟩ := h
    refine v_ifb_ne (tgt := 32) dX9_best_27 (by decide) (fun q2 => ?_) (fun q2 => ?_)
    · skip
      exact absurd ⟨q1, q2⟩ hp
    · skip
      refine v_iconst dX9_best_30 ?_
      exact v_iret dX9_best_31 rfl (Nat.le_refl _) (Nat.le_refl _) (⟨rfl, hI, frC.rf⟩)
theorem F9_bestN {k seat sign : Int} (hI : InvC G M s) (hs : stOK s) (hk : ¬ isS s k) (hg : sw_rg k) : Kt l G μX9_best [.ref (sw_al G 0), sw_i k, sw_i seat, sw_i sign] M (fun r M' => r = some (sw_i (-1)) ∧ InvC G M' s ∧ frC M M') := by
  refine KtA.of (by decide +kernel) (Nat.le_of_ble_eq_true rfl) ?_
  have i0 := hI.1
  have i3 := hI.2.1
  have i4 := hI.2.2.1
  obtain ⟨hwf, hns, hsal, hc, hD, hqm, hqr⟩ := id hs
  refine v_aload_n dX9_best_0 rfl ?_
  refine v_iload_n dX9_best_1 rfl ?_
  refine v_callV (ci := 9) (K9_saleAtN (ns := qN s) (nt := qT s) (k := k) i0 hns hk hg) ⟨rfl, rfl⟩ (Nat.le_refl _) (Nat.le_refl _) i0 rfl ⟨ml_X9_104, mm_X9_saleAt⟩ ⟨(Nat.le_of_ble_eq_true rfl), (Nat.le_of_ble_eq_true rfl)⟩ mp_X9_saleAt rfl rfl (Nat.le_of_ble_eq_true rfl) dX9_best_2 (fun r M' h => ?_)
  obtain ⟨rfl, rfl⟩ := h
  refine v_astoreN dX9_best_5 (Nat.le_of_ble_eq_true rfl) ?_
  refine v_aloadN dX9_best_7 rfl ?_
  refine v_ifnullN (tgt := 30) dX9_best_9 (by decide) ?_
  refine v_iconst dX9_best_30 ?_
  exact v_iret dX9_best_31 rfl (Nat.le_refl _) (Nat.le_refl _) (⟨rfl, hI, frC.rf⟩)
end

