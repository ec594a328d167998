/-! the face: what leaves the state as it is -/
section
variable {l : Launch} {G : sw_G} {μ : sw_Mt} {E : State → (Nat → Prop) → Prop} {Z : sw_Z} {pc : Nat} {lv : List (Nat × Value)} {st : List Value} {M : sw_M} {uc us : Nat}
theorem v_tabIn {dflt lo hi off z : Int} {offs : Array Int} {len tgt : Nat} (hd : decode (mC μ) pc = .ok (.tableswitch dflt lo hi offs, len)) (hz : sw_rg z) (h1 : lo ≤ z) (h2 : z ≤ hi) (ho : offs[(z - lo).toNat]? = some off) (ht : (pc : Int) + off = (tgt : Int)) (k : V l G μ E Z tgt lv st M uc us) : V l G μ E Z pc lv (sw_i z :: st) M uc us := by
  intro p e R s m args below meth c A H locs ws ls C hP hD hS hR hl
  exact lv_tableIn C.1 C.2.1 hd (by rw [iN_t hz]; omega) (by rw [iN_t hz]; omega) (by rw [iN_t hz]; exact ho) ht (k p e R s m args below meth c A H locs ws ls C hP hD hS hR hl)
theorem v_tabOut {dflt lo hi z : Int} {offs : Array Int} {len tgt : Nat} (hd : decode (mC μ) pc = .ok (.tableswitch dflt lo hi offs, len)) (hz : sw_rg z) (h : z < lo ∨ hi < z) (ht : (pc : Int) + dflt = (tgt : Int)) (k : V l G μ E Z tgt lv st M uc us) : V l G μ E Z pc lv (sw_i z :: st) M uc us := by
  intro p e R s m args below meth c A H locs ws ls C hP hD hS hR hl
  exact lv_tableOut C.1 C.2.1 hd (by rw [iN_t hz]; exact h) ht (k p e R s m args below meth c A H locs ws ls C hP hD hS hR hl)
end
def isS (s : CSt) (k : Int) : Prop := 0 ≤ k ∧ k < (qN s : Int)
abbrev sl (s : CSt) (k : Int) : SaleT := qS s k.toNat
section
variable {l : Launch} {G : sw_G} {M : sw_M} {s : CSt}
def toldF (σ : SaleT) (w : Int) : Int := if w = 0 then sSg σ else if w = 1 then sTr σ else if w = 2 then sNb σ else if w = 3 then sLe σ else if w = 4 then sWy σ else if w = 5 then sm (sW σ) (sTr σ).toNat else -1
theorem F9_told {k w : Int} (hI : InvC G M s) (hs : stOK s) (hk : isS s k) (hw0 : sw_rg w) : Kt l G μX9_told [.ref (sw_al G 0), sw_i k, sw_i w] M (fun r M' => r = some (sw_i (toldF (sl s k) w)) ∧ InvC G M' s ∧ frC M M') := by
  refine KtA.of (by decide +kernel) (Nat.le_of_ble_eq_true rfl) ?_
  have i0 := hI.1
  have i3 := hI.2.1
  have i4 := hI.2.2.1
  obtain ⟨hwf, hns, hsal, hc, hD, hqm, hqr⟩ := id hs
  obtain ⟨hk0, hk1⟩ := id hk
  obtain ⟨u, d, h5⟩ := hI.2.2.2.2.2.2.2.1 k.toNat (by omega)
  have hw := (hsal k.toNat (by omega)).1
  have hb : 50 ≤ 100 + 5 * k.toNat := by omega
  have hsg := hw.1
  have htr := hw.2.1
  have hnb := hw.2.2.1
  have hle := hw.2.2.2.1
  have hwy := hw.2.2.2.2.1
  obtain ⟨σ, hσ⟩ : ∃ σ, qS s k.toNat = σ := ⟨_, rfl⟩
  obtain ⟨b, hbb⟩ : ∃ b, 100 + 5 * k.toNat = b := ⟨_, rfl⟩
  rw [hσ] at h5 hw hsg htr hnb hle hwy
  rw [hbb] at h5 hb
  have oks : ∀ u d, okC G M s (cO G b σ u d) := fun u d => Or.inr (Or.inl ⟨k.toNat, u, d, by omega, by rw [hσ, hbb]⟩)
  have hn : sw_nd [b] := sw_nd_of (by simp)
  have hself : sw_ov M [cO G b σ u d] = M := sw_ov_self (sw_hold1 h5.hd sw_hold0)
  obtain ⟨g1, g2⟩ := hw0
  refine v_aload_n dX9_told_0 rfl ?_
  refine v_iload_n dX9_told_1 rfl ?_
  refine v_callV (ci := 9) (K9_saleAt (ns := qN s) (nt := qT s) (k := k) i0 i3 hns hk) ⟨rfl, rfl⟩ (Nat.le_refl _) (Nat.le_refl _) i0 rfl ⟨ml_X9_104, mm_X9_saleAt⟩ ⟨(Nat.le_of_ble_eq_true rfl), (Nat.le_of_ble_eq_true rfl)⟩ mp_X9_saleAt rfl rfl (Nat.le_of_ble_eq_true rfl) dX9_told_2 (fun r M' h => ?_)
  obtain ⟨rfl, rfl⟩ := h
  rw [hbb]
  refine v_astore_n dX9_told_5 (Nat.le_of_ble_eq_true rfl) ?_
  refine v_aload_n dX9_told_6 rfl ?_
  refine v_ifnonnull (tgt := 12) dX9_told_7 (by decide) ?_
  refine v_mem hself.symm ?_
  refine v_iload_n dX9_told_12 rfl ?_
  have hz : sw_rg w := ⟨g1, g2⟩
  by_cases e0 : w = 0
  · subst e0
    refine v_tabIn (tgt := 52) dX9_told_13 hz (by omega) (by omega) rfl (by decide) ?_
    refine v_aload_n dX9_told_52 rfl ?_
    refine v_getf 0 4 fl_X9_108 hn rfl rfl dX9_told_53 ?_
    exact v_iret dX9_told_56 rfl (Nat.le_refl _) (Nat.le_refl _) ⟨by rw [← hσ]; rfl, by rw [hself]; exact hI, by rw [hself]; exact frC.rf⟩
  by_cases e1 : w = 1
  · subst e1
    refine v_tabIn (tgt := 57) dX9_told_13 hz (by omega) (by omega) rfl (by decide) ?_
    refine v_aload_n dX9_told_57 rfl ?_
    refine v_getf 0 5 fl_X9_111 hn rfl rfl dX9_told_58 ?_
    exact v_iret dX9_told_61 rfl (Nat.le_refl _) (Nat.le_refl _) ⟨by rw [← hσ]; rfl, by rw [hself]; exact hI, by rw [hself]; exact frC.rf⟩
  by_cases e2 : w = 2
  · subst e2
    refine v_tabIn (tgt := 62) dX9_told_13 hz (by omega) (by omega) rfl (by decide) ?_
    refine v_aload_n dX9_told_62 rfl ?_
    refine v_getf 0 6 fl_X9_114 hn rfl rfl dX9_told_63 ?_
    exact v_iret dX9_told_66 rfl (Nat.le_refl _) (Nat.le_refl _) ⟨by rw [← hσ]; rfl, by rw [hself]; exact hI, by rw [hself]; exact frC.rf⟩
  by_cases e3 : w = 3
  · subst e3
    refine v_tabIn (tgt := 67) dX9_told_13 hz (by omega) (by omega) rfl (by decide) ?_
    refine v_aload_n dX9_told_67 rfl ?_
    refine v_getf 0 7 fl_X9_117 hn rfl rfl dX9_told_68 ?_
    exact v_iret dX9_told_71 rfl (Nat.le_refl _) (Nat.le_refl _) ⟨by rw [← hσ]; rfl, by rw [hself]; exact hI, by rw [hself]; exact frC.rf⟩
  by_cases e4 : w = 4
  · subst e4
    refine v_tabIn (tgt := 72) dX9_told_13 hz (by omega) (by omega) rfl (by decide) ?_
    refine v_aload_n dX9_told_72 rfl ?_
    refine v_getf 0 8 fl_X9_120 hn rfl rfl dX9_told_73 ?_
    exact v_iret dX9_told_76 rfl (Nat.le_refl _) (Nat.le_refl _) ⟨by rw [← hσ]; rfl, by rw [hself]; exact hI, by rw [hself]; exact frC.rf⟩
  by_cases e5 : w = 5
  · subst e5
    refine v_tabIn (tgt := 77) dX9_told_13 hz (by omega) (by omega) rfl (by decide) ?_
    refine v_aload_n dX9_told_77 rfl ?_
    refine v_mem hself ?_
    refine v_callV (ci := 5) (K5_allWeights h5 hw) ⟨rfl, rfl⟩ (Nat.le_refl _) (Nat.le_refl _) h5.hd rfl ⟨ml_X9_123, mm_X5_allWeights⟩ ⟨(Nat.le_of_ble_eq_true rfl), (Nat.le_of_ble_eq_true rfl)⟩ mp_X5_allWeights rfl rfl (Nat.le_of_ble_eq_true rfl) dX9_told_78 (fun r M' h => ?_)
    obtain ⟨rfl, rfl⟩ := h
    exact v_iret dX9_told_81 rfl (Nat.le_refl _) (Nat.le_refl _) ⟨by rw [← hσ]; rfl, hI, frC.rf⟩
  refine v_tabOut (tgt := 82) dX9_told_13 hz (by omega) (by decide) ?_
  refine v_iconst dX9_told_82 ?_
  exact v_iret dX9_told_83 rfl (Nat.le_refl _) (Nat.le_refl _) ⟨by unfold toldF; rw [if_neg e0, if_neg e1, if_neg e2, if_neg e3, if_neg e4, if_neg e5], by rw [hself]; exact hI, by rw [hself]; exact frC.rf⟩
theorem F9_toldN {k w : Int} (hI : InvC G M s) (hs : stOK s) (hk : ¬ isS s k) (hg : sw_rg k) : Kt l G μX9_told [.ref (sw_al G 0), sw_i k, sw_i w] M (fun r M' => r = some (sw_i (-1)) ∧ InvC G M' s ∧ frC M M') := by
  refine KtA.of (by decide +kernel) (Nat.le_of_ble_eq_true rfl) ?_
  have i0 := hI.1
  have i3 := hI.2.1
  have i4 := hI.2.2.1
  obtain ⟨hwf, hns, hsal, hc, hD, hqm, hqr⟩ := id hs
  refine v_aload_n dX9_told_0 rfl ?_
  refine v_iload_n dX9_told_1 rfl ?_
  refine v_callV (ci := 9) (K9_saleAtN (ns := qN s) (nt := qT s) (k := k) i0 hns hk hg) ⟨rfl, rfl⟩ (Nat.le_refl _) (Nat.le_refl _) i0 rfl ⟨ml_X9_104, mm_X9_saleAt⟩ ⟨(Nat.le_of_ble_eq_true rfl), (Nat.le_of_ble_eq_true rfl)⟩ mp_X9_saleAt rfl rfl (Nat.le_of_ble_eq_true rfl) dX9_told_2 (fun r M' h => ?_)
  obtain ⟨rfl, rfl⟩ := h
  refine v_astore_nN dX9_told_5 (Nat.le_of_ble_eq_true rfl) ?_
  refine v_aload_nN dX9_told_6 rfl ?_
  refine v_ifnonnullN dX9_told_7 ?_
  refine v_iconst dX9_told_10 ?_
  exact v_iret dX9_told_11 rfl (Nat.le_refl _) (Nat.le_refl _) (⟨rfl, hI, frC.rf⟩)
theorem F9_bids {k seat sign : Int} (hI : InvC G M s) (hs : stOK s) (hk : isS s k) (hg1 : sw_rg seat) (hg2 : sw_rg sign) : Kt l G μX9_bids [.ref (sw_al G 0), sw_i k, sw_i seat, sw_i sign] M (fun r M' => r = some (sw_i (if (0 ≤ seat ∧ seat < sNb (sl s k)) ∧ 0 ≤ sign ∧ sign < sSg (sl s k) then bdF (sl s k) (qT s) (qB s) seat sign (-1) else -1)) ∧ InvC G M' s ∧ frC M M') := by
  refine KtA.of (by decide +kernel) (Nat.le_of_ble_eq_true rfl) ?_
  have i0 := hI.1
  have i3 := hI.2.1
  have i4 := hI.2.2.1
  obtain ⟨hwf, hns, hsal, hc, hD, hqm, hqr⟩ := id hs
  obtain ⟨hk0, hk1⟩ := id hk
  obtain ⟨u, d, h5⟩ := hI.2.2.2.2.2.2.2.1 k.toNat (by omega)
  have hw := (hsal k.toNat (by omega)).1
  have hb : 50 ≤ 100 + 5 * k.toNat := by omega
  have hsg := hw.1
  have htr := hw.2.1
  have hnb := hw.2.2.1
  have hle := hw.2.2.2.1
  have hwy := hw.2.2.2.2.1
  obtain ⟨σ, hσ⟩ : ∃ σ, qS s k.toNat = σ := ⟨_, rfl⟩
  obtain ⟨b, hbb⟩ : ∃ b, 100 + 5 * k.toNat = b := ⟨_, rfl⟩
  rw [hσ] at h5 hw hsg htr hnb hle hwy
  rw [hbb] at h5 hb
  have oks : ∀ u d, okC G M s (cO G b σ u d) := fun u d => Or.inr (Or.inl ⟨k.toNat, u, d, by omega, by rw [hσ, hbb]⟩)
  have hsl : sl s k = σ := hσ
  rw [hsl]
  refine v_aload_n dX9_bids_0 rfl ?_
  refine v_iload_n dX9_bids_1 rfl ?_
  refine v_callV (ci := 9) (K9_saleAt (ns := qN s) (nt := qT s) (k := k) i0 i3 hns hk) ⟨rfl, rfl⟩ (Nat.le_refl _) (Nat.le_refl _) i0 rfl ⟨ml_X9_104, mm_X9_saleAt⟩ ⟨(Nat.le_of_ble_eq_true rfl), (Nat.le_of_ble_eq_true rfl)⟩ mp_X9_saleAt rfl rfl (Nat.le_of_ble_eq_true rfl) dX9_bids_2 (fun r M' h => ?_)
  obtain ⟨rfl, rfl⟩ := h
  rw [hbb]
  refine v_astore dX9_bids_5 (Nat.le_of_ble_eq_true rfl) ?_
  refine v_aload dX9_bids_7 rfl ?_
  refine v_ifnull dX9_bids_9 ?_
  refine v_aload dX9_bids_12 rfl ?_
  refine v_iload_n dX9_bids_14 rfl ?_
  refine v_callV (ci := 5) (K5_hasSeat (b := b) (σ := σ) (u := u) (d := d) h5.hd ⟨by omega, by omega⟩ (k := seat) hg1) ⟨rfl, rfl⟩ (Nat.le_refl _) (Nat.le_refl _) (h5.hd) rfl ⟨ml_X9_177, mm_X5_hasSeat⟩ ⟨(Nat.le_of_ble_eq_true rfl), (Nat.le_of_ble_eq_true rfl)⟩ mp_X5_hasSeat rfl rfl (Nat.le_of_ble_eq_true rfl) dX9_bids_15 (fun r M' h => ?_)
  obtain ⟨rfl, rfl⟩ := h
  refine v_ifb_eq (tgt := 30) dX9_bids_18 (by decide) (fun q1 => ?_) (fun q1 => ?_)
  · skip
    refine v_iconst dX9_bids_30 ?_
    exact v_iret dX9_bids_31 rfl (Nat.le_refl _) (Nat.le_refl _) (⟨by rw [if_neg (by omega)], hI, frC.rf⟩)
  · skip
    refine v_aload dX9_bids_21 rfl ?_
    refine v_iload_n dX9_bids_23 rfl ?_
    refine v_callV (ci := 5) (K5_hasSign (b := b) (σ := σ) (u := u) (d := d) h5.hd ⟨by omega, by omega⟩ (k := sign) hg2) ⟨rfl, rfl⟩ (Nat.le_refl _) (Nat.le_refl _) (h5.hd) rfl ⟨ml_X9_145, mm_X5_hasSign⟩ ⟨(Nat.le_of_ble_eq_true rfl), (Nat.le_of_ble_eq_true rfl)⟩ mp_X5_hasSign rfl rfl (Nat.le_of_ble_eq_true rfl) dX9_bids_24 (fun r M' h => ?_)
    obtain ⟨rfl, rfl⟩ := h
    refine v_ifb_ne (tgt := 32) dX9_bids_27 (by decide) (fun q2 => ?_) (fun q2 => ?_)
    · skip
      refine v_aload_n dX9_bids_32 rfl ?_
      refine v_aload dX9_bids_33 rfl ?_
      refine v_iload_n dX9_bids_35 rfl ?_
      refine v_iload_n dX9_bids_36 rfl ?_
      refine v_iconst dX9_bids_37 ?_
      refine v_callV (ci := 9) (K9_bidOf hb (ns := qN s) (nt := qT s) (T := qB s) (seat := seat) (k := sign) (his := -1) i0 i4 h5 hw hc ⟨by omega, by omega⟩ ⟨by omega, by omega⟩ ⟨by omega, by omega⟩) ⟨rfl, rfl⟩ (Nat.le_refl _) (Nat.le_refl _) i0 rfl ⟨ml_X9_180, mm_X9_bidOf⟩ ⟨(Nat.le_of_ble_eq_true rfl), (Nat.le_of_ble_eq_true rfl)⟩ mp_X9_bidOf rfl rfl (Nat.le_of_ble_eq_true rfl) dX9_bids_38 (fun r M' h => ?_)
      obtain ⟨u2, d2, rfl, rfl⟩ := h
      exact v_iret dX9_bids_41 rfl (Nat.le_refl _) (Nat.le_refl _) (⟨by rw [if_pos ⟨q1, q2⟩], hI.ov (fun c hc => by rw [List.mem_singleton.mp hc]; exact oks u2 d2), frC.ov (fun c hc => by rw [List.mem_singleton.mp hc, ← hbb]; exact Or.inr (by dsimp only; omega))⟩)
    · skip
      refine v_iconst dX9_bids_30 ?_
      exact v_iret dX9_bids_31 rfl (Nat.le_refl _) (Nat.le_refl _) (⟨by rw [if_neg (by omega)], hI, frC.rf⟩)
theorem F9_bidsN {k seat sign : Int} (hI : InvC G M s) (hs : stOK s) (hk : ¬ isS s k) (hg : sw_rg k) : Kt l G μX9_bids [.ref (sw_al G 0), sw_i k, sw_i seat, sw_i sign] M (fun r M' => r = some (sw_i (-1)) ∧ InvC G M' s ∧ frC M M') := by
  refine KtA.of (by decide +kernel) (Nat.le_of_ble_eq_true rfl) ?_
  have i0 := hI.1
  have i3 := hI.2.1
  have i4 := hI.2.2.1
  obtain ⟨hwf, hns, hsal, hc, hD, hqm, hqr⟩ := id hs
  refine v_aload_n dX9_bids_0 rfl ?_
  refine v_iload_n dX9_bids_1 rfl ?_
  refine v_callV (ci := 9) (K9_saleAtN (ns := qN s) (nt := qT s) (k := k) i0 hns hk hg) ⟨rfl, rfl⟩ (Nat.le_refl _) (Nat.le_refl _) i0 rfl ⟨ml_X9_104, mm_X9_saleAt⟩ ⟨(Nat.le_of_ble_eq_true rfl), (Nat.le_of_ble_eq_true rfl)⟩ mp_X9_saleAt rfl rfl (Nat.le_of_ble_eq_true rfl) dX9_bids_2 (fun r M' h => ?_)
  obtain ⟨rfl, rfl⟩ := h
  refine v_astoreN dX9_bids_5 (Nat.le_of_ble_eq_true rfl) ?_
  refine v_aloadN dX9_bids_7 rfl ?_
  refine v_ifnullN (tgt := 30) dX9_bids_9 (by decide) ?_
  refine v_iconst dX9_bids_30 ?_
  exact v_iret dX9_bids_31 rfl (Nat.le_refl _) (Nat.le_refl _) (⟨rfl, hI, frC.rf⟩)
theorem cTw_ok {b : Nat} {σ : SaleT} (hI : InvC G M s) (oks : ∀ u d, okC G M s (cO G b σ u d)) {m le wt wo hi al nx su : Int} {R S P : Int → Int} {a tk so un : Int} {g ww wc : Int → Int} {u d : Int} : ∀ c ∈ cTw G (qN s) (qT s) (cC G b m le wt wo hi al nx su).2 R S P a tk so un g ww wc b σ u d, okC G M s c := by
  intro c hc
  simp only [List.mem_cons, List.not_mem_nil, or_false] at hc
  rcases hc with rfl | rfl | rfl | rfl | rfl | rfl | rfl | rfl | rfl | rfl
  · exact Or.inr (Or.inr hI.1)
  · exact Or.inl ⟨by dsimp only; omega, by dsimp only; omega, b, m, le, wt, wo, hi, al, nx, su, rfl⟩
  · exact Or.inl ⟨by dsimp only; omega, by dsimp only; omega, R, rfl⟩
  · exact Or.inl ⟨by dsimp only; omega, by dsimp only; omega, S, rfl⟩
  · exact Or.inl ⟨by dsimp only; omega, by dsimp only; omega, P, rfl⟩
  · exact Or.inl ⟨by dsimp only; omega, by dsimp only; omega, a, tk, so, un, rfl⟩
  · exact Or.inl ⟨by dsimp only; omega, by dsimp only; omega, g, rfl⟩
  · exact Or.inl ⟨by dsimp only; omega, by dsimp only; omega, ww, rfl⟩
  · exact Or.inl ⟨by dsimp only; omega, by dsimp only; omega, wc, rfl⟩
  · exact oks u d
theorem cTw_fr {ns : Nat} {nt : Int} {x : sw_Ob} {R S P : Int → Int} {a tk so un : Int} {g ww wc : Int → Int} {b : Nat} {σ : SaleT} {u d : Int} (hb : 100 ≤ b) : ∀ c ∈ cTw G ns nt x R S P a tk so un g ww wc b σ u d, c.1 < 70 ∨ 100 ≤ c.1 := by
  intro c hc
  simp only [List.mem_cons, List.not_mem_nil, or_false] at hc
  rcases hc with rfl | rfl | rfl | rfl | rfl | rfl | rfl | rfl | rfl | rfl <;> (dsimp only; omega)
def casesF (σ : SaleT) (nt : Int) (T : Int → Int) (w : Int) : Int := if w = 0 then TA σ (pS σ (-1)) (sNb σ).toNat else if w = 1 then TT σ (rwF (bF σ nt T (-1))) (pS σ (-1)) (sNb σ).toNat else if w = 2 then TS σ (rwF (bF σ nt T (-1))) (pS σ (-1)) (sNb σ).toNat else TU σ (rwF (bF σ nt T (-1))) (pS σ (-1)) (sNb σ).toNat
theorem F9_cases {k w : Int} (hI : InvC G M s) (hs : stOK s) (hk : isS s k) (hg1 : sw_rg w) : Kt l G μX9_cases [.ref (sw_al G 0), sw_i k, sw_i w] M (fun r M' => r = some (sw_j (if 0 ≤ w ∧ w ≤ 3 then casesF (sl s k) (qT s) (qB s) w else -1)) ∧ InvC G M' s ∧ frC M M') := by
  refine KtA.of (by decide +kernel) (Nat.le_of_ble_eq_true rfl) ?_
  have i0 := hI.1
  have i3 := hI.2.1
  have i4 := hI.2.2.1
  obtain ⟨hwf, hns, hsal, hc, hD, hqm, hqr⟩ := id hs
  obtain ⟨hk0, hk1⟩ := id hk
  obtain ⟨u, d, h5⟩ := hI.2.2.2.2.2.2.2.1 k.toNat (by omega)
  have hw := (hsal k.toNat (by omega)).1
  have hb : 50 ≤ 100 + 5 * k.toNat := by omega
  have hsg := hw.1
  have htr := hw.2.1
  have hnb := hw.2.2.1
  have hle := hw.2.2.2.1
  have hwy := hw.2.2.2.2.1
  obtain ⟨σ, hσ⟩ : ∃ σ, qS s k.toNat = σ := ⟨_, rfl⟩
  obtain ⟨b, hbb⟩ : ∃ b, 100 + 5 * k.toNat = b := ⟨_, rfl⟩
  rw [hσ] at h5 hw hsg htr hnb hle hwy
  rw [hbb] at h5 hb
  have oks : ∀ u d, okC G M s (cO G b σ u d) := fun u d => Or.inr (Or.inl ⟨k.toNat, u, d, by omega, by rw [hσ, hbb]⟩)
  have hsl : sl s k = σ := hσ
  rw [hsl]
  have hn := cTw_nd hb
  obtain ⟨g1, g2⟩ := hg1
  obtain ⟨b0, m0, le0, wt, wo, hi, al, nx', su, x6⟩ := hI.x6
  obtain ⟨R, x7⟩ := hI.x7
  obtain ⟨S, x8⟩ := hI.x8
  obtain ⟨P, x9⟩ := hI.x9
  obtain ⟨a, tk, so, un, g, ww, wc, xY⟩ := hI.xY
  refine v_aload_n dX9_cases_0 rfl ?_
  refine v_iload_n dX9_cases_1 rfl ?_
  refine v_callV (ci := 9) (K9_saleAt (ns := qN s) (nt := qT s) (k := k) i0 i3 hns hk) ⟨rfl, rfl⟩ (Nat.le_refl _) (Nat.le_refl _) i0 rfl ⟨ml_X9_104, mm_X9_saleAt⟩ ⟨(Nat.le_of_ble_eq_true rfl), (Nat.le_of_ble_eq_true rfl)⟩ mp_X9_saleAt rfl rfl (Nat.le_of_ble_eq_true rfl) dX9_cases_2 (fun r M' h => ?_)
  obtain ⟨rfl, rfl⟩ := h
  rw [hbb]
  refine v_astore_n dX9_cases_5 (Nat.le_of_ble_eq_true rfl) ?_
  refine v_aload_n dX9_cases_6 rfl ?_
  refine v_ifnull dX9_cases_7 ?_
  refine v_iload_n dX9_cases_10 rfl ?_
  refine v_if_lt (tgt := 19) dX9_cases_11 (by decide) ⟨by omega, by omega⟩ (fun h11 => ?_) (fun h11 => ?_)
  · skip
    refine v_ldc2 (z := -1) kl_X9_184 (by decide +kernel) dX9_cases_19 ?_
    exact v_lret dX9_cases_22 rfl (Nat.le_refl _) (Nat.le_refl _) (⟨by rw [if_neg (by omega)], hI, frC.rf⟩)
  · skip
    refine v_iload_n dX9_cases_14 rfl ?_
    refine v_iconst dX9_cases_15 ?_
    refine v_icmp_le (tgt := 23) dX9_cases_16 (by decide) ⟨by omega, by omega⟩ ⟨by omega, by omega⟩ (fun h16 => ?_) (fun h16 => ?_)
    · skip
      refine v_aload_n dX9_cases_23 rfl ?_
      refine v_aload_n dX9_cases_24 rfl ?_
      refine v_callV (ci := 9) (K9_tallyOf hb i0 i4 x6 x7 x8 x9 xY h5 hw hc (m := (sNb σ).toNat) (by omega)) ⟨rfl, rfl⟩ (Nat.le_refl _) (Nat.le_refl _) i0 rfl ⟨ml_X9_186, mm_X9_tallyOf⟩ ⟨(Nat.le_of_ble_eq_true rfl), (Nat.le_of_ble_eq_true rfl)⟩ mp_X9_tallyOf rfl rfl (Nat.le_of_ble_eq_true rfl) dX9_cases_25 (fun r M' h => ?_)
      obtain ⟨wt2, hi2, al2, nx2, su2, wo2, R2, S2, P2, gg2, ww2, wc2, u2, d2, rfl, f1, f2, f3, rfl⟩ := h
      refine v_iload_n dX9_cases_28 rfl ?_
      have hz : sw_rg w := ⟨g1, g2⟩
      have hI2 := hI.ov (cTw_ok hI oks (m := ((sNb σ).toNat : Int)) (le := sLe σ) (wt := wt2) (wo := wo2) (hi := hi2) (al := al2) (nx := nx2) (su := su2) (R := R2) (S := S2) (P := P2) (a := TA σ (pS σ (-1)) (sNb σ).toNat) (tk := TT σ (rwF (bF σ (qT s) (qB s) (-1))) (pS σ (-1)) (sNb σ).toNat) (so := TS σ (rwF (bF σ (qT s) (qB s) (-1))) (pS σ (-1)) (sNb σ).toNat) (un := TU σ (rwF (bF σ (qT s) (qB s) (-1))) (pS σ (-1)) (sNb σ).toNat) (g := gg2) (ww := ww2) (wc := wc2) (u := u2) (d := d2))
      rw [if_pos (by omega)]
      by_cases e0 : w = 0
      · subst e0
        refine v_tabIn (tgt := 56) dX9_cases_29 hz (by omega) (by omega) rfl (by decide) ?_
        refine v_aload_n dX9_cases_56 rfl ?_
        refine v_getf 0 7 fl_X9_46 hn rfl rfl dX9_cases_57 ?_
        refine v_getf 5 0 fl_X9_190 hn rfl rfl dX9_cases_60 ?_
        exact v_lret dX9_cases_63 rfl (Nat.le_refl _) (Nat.le_refl _) ⟨rfl, hI2, frC.ov (cTw_fr (by omega))⟩
      by_cases e1 : w = 1
      · subst e1
        refine v_tabIn (tgt := 64) dX9_cases_29 hz (by omega) (by omega) rfl (by decide) ?_
        refine v_aload_n dX9_cases_64 rfl ?_
        refine v_getf 0 7 fl_X9_46 hn rfl rfl dX9_cases_65 ?_
        refine v_getf 5 1 fl_X9_193 hn rfl rfl dX9_cases_68 ?_
        exact v_lret dX9_cases_71 rfl (Nat.le_refl _) (Nat.le_refl _) ⟨rfl, hI2, frC.ov (cTw_fr (by omega))⟩
      by_cases e2 : w = 2
      · subst e2
        refine v_tabIn (tgt := 72) dX9_cases_29 hz (by omega) (by omega) rfl (by decide) ?_
        refine v_aload_n dX9_cases_72 rfl ?_
        refine v_getf 0 7 fl_X9_46 hn rfl rfl dX9_cases_73 ?_
        refine v_getf 5 2 fl_X9_196 hn rfl rfl dX9_cases_76 ?_
        exact v_lret dX9_cases_79 rfl (Nat.le_refl _) (Nat.le_refl _) ⟨rfl, hI2, frC.ov (cTw_fr (by omega))⟩
      refine v_tabOut (tgt := 80) dX9_cases_29 hz (by omega) (by decide) ?_
      refine v_aload_n dX9_cases_80 rfl ?_
      refine v_getf 0 7 fl_X9_46 hn rfl rfl dX9_cases_81 ?_
      refine v_getf 5 3 fl_X9_199 hn rfl rfl dX9_cases_84 ?_
      exact v_lret dX9_cases_87 rfl (Nat.le_refl _) (Nat.le_refl _) ⟨by unfold casesF; rw [if_neg e0, if_neg e1, if_neg e2], hI2, frC.ov (cTw_fr (by omega))⟩
    · skip
      refine v_ldc2 (z := -1) kl_X9_184 (by decide +kernel) dX9_cases_19 ?_
      exact v_lret dX9_cases_22 rfl (Nat.le_refl _) (Nat.le_refl _) (⟨by rw [if_neg (by omega)], hI, frC.rf⟩)
theorem F9_casesN {k w : Int} (hI : InvC G M s) (hs : stOK s) (hk : ¬ isS s k) (hg : sw_rg k) : Kt l G μX9_cases [.ref (sw_al G 0), sw_i k, sw_i w] M (fun r M' => r = some (sw_j (-1)) ∧ InvC G M' s ∧ frC M M') := by
  refine KtA.of (by decide +kernel) (Nat.le_of_ble_eq_true rfl) ?_
  have i0 := hI.1
  have i3 := hI.2.1
  have i4 := hI.2.2.1
  obtain ⟨hwf, hns, hsal, hc, hD, hqm, hqr⟩ := id hs
  refine v_aload_n dX9_cases_0 rfl ?_
  refine v_iload_n dX9_cases_1 rfl ?_
  refine v_callV (ci := 9) (K9_saleAtN (ns := qN s) (nt := qT s) (k := k) i0 hns hk hg) ⟨rfl, rfl⟩ (Nat.le_refl _) (Nat.le_refl _) i0 rfl ⟨ml_X9_104, mm_X9_saleAt⟩ ⟨(Nat.le_of_ble_eq_true rfl), (Nat.le_of_ble_eq_true rfl)⟩ mp_X9_saleAt rfl rfl (Nat.le_of_ble_eq_true rfl) dX9_cases_2 (fun r M' h => ?_)
  obtain ⟨rfl, rfl⟩ := h
  refine v_astore_nN dX9_cases_5 (Nat.le_of_ble_eq_true rfl) ?_
  refine v_aload_nN dX9_cases_6 rfl ?_
  refine v_ifnullN (tgt := 19) dX9_cases_7 (by decide) ?_
  refine v_ldc2 (z := -1) kl_X9_184 (by decide +kernel) dX9_cases_19 ?_
  exact v_lret dX9_cases_22 rfl (Nat.le_refl _) (Nat.le_refl _) (⟨rfl, hI, frC.rf⟩)
end

