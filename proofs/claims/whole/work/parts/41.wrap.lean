/-! the private methods over the object between calls -/
section
variable {l : Launch} {G : sw_G} {μ : sw_Mt} {E : State → (Nat → Prop) → Prop} {Z : sw_Z} {pc : Nat} {lv : List (Nat × Value)} {st : List Value} {M : sw_M} {uc us : Nat}
theorem v_getfH (k : Nat) {t ci ix : Nat} {fs : List Value} {v : Value} (h : M t = some (sw_o ci fs)) (hF : sw_fl (mY μ).cls ix ci k) (hv : fs[k]? = some v) (hd : decode (mC μ) pc = .ok (.getfield ix, 3)) (kk : V l G μ E Z (pc + 3) lv (v :: st) M uc us) : V l G μ E Z pc lv (.ref (sw_al G t) :: st) M uc us :=
  v_mem (sw_ov_self (cs := [(t, sw_o ci fs)]) (sw_hold1 h sw_hold0)).symm (v_getf 0 k hF (sw_nd_of (by simp)) rfl hv hd (v_mem (sw_ov_self (cs := [(t, sw_o ci fs)]) (sw_hold1 h sw_hold0)) kk))
theorem v_ialdH {t n : Nat} {f : Int → Int} {z : Int} (h : M t = some (sw_ia n f)) (h31 : n < 2147483648) (h0 : 0 ≤ z) (h1 : z < n) (hd : decode (mC μ) pc = .ok (.iaload, 1)) (kk : V l G μ E Z (pc + 1) lv (sw_i (f z) :: st) M uc us) : V l G μ E Z pc lv (sw_i z :: .ref (sw_al G t) :: st) M uc us :=
  v_mem (sw_ov_self (cs := [(t, sw_ia n f)]) (sw_hold1 h sw_hold0)).symm (v_iald 0 (sw_nd_of (by simp)) rfl h31 h0 h1 hd (v_mem (sw_ov_self (cs := [(t, sw_ia n f)]) (sw_hold1 h sw_hold0)) kk))
theorem v_laldH {t n : Nat} {f : Int → Int} {z : Int} (h : M t = some (sw_la n f)) (h31 : n < 2147483648) (h0 : 0 ≤ z) (h1 : z < n) (hd : decode (mC μ) pc = .ok (.laload, 1)) (kk : V l G μ E Z (pc + 1) lv (sw_j (f z) :: st) M uc us) : V l G μ E Z pc lv (sw_i z :: .ref (sw_al G t) :: st) M uc us :=
  v_mem (sw_ov_self (cs := [(t, sw_la n f)]) (sw_hold1 h sw_hold0)).symm (v_lald 0 (sw_nd_of (by simp)) rfl h31 h0 h1 hd (v_mem (sw_ov_self (cs := [(t, sw_la n f)]) (sw_hold1 h sw_hold0)) kk))
theorem v_iastH {t n : Nat} {f : Int → Int} {z x : Int} (h : M t = some (sw_ia n f)) (h31 : n < 2147483648) (h0 : 0 ≤ z) (h1 : z < n) (hd : decode (mC μ) pc = .ok (.iastore, 1)) (kk : V l G μ E Z (pc + 1) lv st (sw_ov M [(t, sw_ia n (up f z x))]) uc us) : V l G μ E Z pc lv (sw_i x :: sw_i z :: .ref (sw_al G t) :: st) M uc us :=
  v_mem (sw_ov_self (cs := [(t, sw_ia n f)]) (sw_hold1 h sw_hold0)).symm (v_iast 0 (sw_nd_of (by simp)) rfl h31 h0 h1 hd kk)
theorem v_putfH (k : Nat) {t ci ix : Nat} {fs : List Value} {v : Value} {ty : FieldType} (h : M t = some (sw_o ci fs)) (hF : sw_fp (mY μ).cls ix ci k false ty) (hna : narrow ty v = v) (hfi : fits ty v = true) (hle : k < fs.length) (hd : decode (mC μ) pc = .ok (.putfield ix, 3)) (kk : V l G μ E Z (pc + 3) lv st (sw_ov M [(t, sw_o ci (fs.set k v))]) uc us) : V l G μ E Z pc lv (v :: .ref (sw_al G t) :: st) M uc us :=
  v_mem (sw_ov_self (cs := [(t, sw_o ci fs)]) (sw_hold1 h sw_hold0)).symm (v_putf 0 k hF (sw_nd_of (by simp)) rfl hna hfi hle hd kk)
end
theorem KtA.mono {l : Launch} {G : sw_G} {μ : sw_Mt} {av : List Value} {M : sw_M} {Q Q' : (Nat → Nat) → Option Value → sw_M → Prop} (h : KtA l G μ av M Q) (hq : ∀ al r M', Q al r M' → Q' al r M') : KtA l G μ av M Q' := fun ws sz hR => by
  intro p e ha hc hk s m args below hf happ hP hK
  obtain ⟨n, o, h1, h2, h3, ⟨⟨al, r, M', ws', e1, e2, e3⟩, e4⟩, e5⟩ := h ws sz hR p e ha hc hk s m args below hf happ hP hK
  exact ⟨n, o, h1, h2, h3, ⟨⟨al, r, M', ws', e1, hq _ _ _ e2, e3⟩, e4⟩, e5⟩
theorem Kt.mono {l : Launch} {G : sw_G} {μ : sw_Mt} {av : List Value} {M : sw_M} {Q Q' : Option Value → sw_M → Prop} (h : Kt l G μ av M Q) (hq : ∀ r M', Q r M' → Q' r M') : Kt l G μ av M Q' := KtA.mono h (fun _ r M' h => ⟨h.1, hq r M' h.2⟩)
/-- what a call leaves as it was: all but these (and what sales hold) -/
def frK (L : List Nat) (M M' : sw_M) : Prop := ∀ t, t < 100 → t ∉ L → M' t = M t
theorem frK.rf {L : List Nat} {M : sw_M} : frK L M M := fun _ _ _ => rfl
theorem frK.tr {L A B : List Nat} {X Y W : sw_M} (h : frK A X Y) (k : frK B Y W) (ha : ∀ t ∈ A, t ∈ L) (hb : ∀ t ∈ B, t ∈ L) : frK L X W := fun t h1 h2 => (k t h1 (fun h => h2 (hb t h))).trans (h t h1 (fun h => h2 (ha t h)))
theorem frK.c {L : List Nat} {M M' : sw_M} (h : frK L M M') (hL : ∀ t ∈ L, t < 70) : frC M M' := fun t h1 h2 => h t h2 (fun hm => by have := hL t hm; omega)
theorem frK.ov {L : List Nat} {M : sw_M} {cs : List sw_Ce} (h : ∀ t ∈ cs.map Prod.fst, t ∈ L ∨ 100 ≤ t) : frK L M (sw_ov M cs) := fun t h1 h2 => sw_ov_out (fun hm => (h t hm).elim h2 (fun h => by omega))
section
variable {l : Launch} {G : sw_G} {M : sw_M} {s : CSt} {k : Int}
theorem InvC.sale (hI : InvC G M s) (hk : isS s k) : ∃ u d, sw_hold M (cS G (100 + 5 * k.toNat) (sl s k) u d) := hI.2.2.2.2.2.2.2.1 k.toNat (by have := hk; unfold isS at this; omega)
theorem okS (hk : isS s k) (u d : Int) : okC G M s (cO G (100 + 5 * k.toNat) (sl s k) u d) := Or.inr (Or.inl ⟨k.toNat, u, d, by have := hk; unfold isS at this; omega, rfl⟩)
theorem stOK.sale (hs : stOK s) (hk : isS s k) : wfS (sl s k) := (hs.2.2.1 k.toNat (by have := hk; unfold isS at this; omega)).1
theorem stOK.c (hs : stOK s) : wfC (qT s) (qB s) := hs.2.2.2.1
theorem ok_ov {cs : List sw_Ce} (hI : InvC G M s) (h : ∀ c ∈ cs, (6 ≤ c.1 ∧ c.1 < 30 ∧ shp G c.1 c.2) ∨ (∃ u d, c = cO G (100 + 5 * k.toNat) (sl s k) u d)) (hk : isS s k) : InvC G (sw_ov M cs) s := hI.ov (fun c hc => (h c hc).elim (fun h => Or.inl h) (fun ⟨u, d, e⟩ => by rw [e]; exact okS hk u d))
/-- the rows that stand in the crowd -/
def rowIs (M : sw_M) (f : Int → Int → Int) (m sg : Int) : Prop := ∃ R, M 7 = some (cR R).2 ∧ ∀ p j, 0 ≤ p → p < m → 0 ≤ j → j < sg → R (p * 5 + j) = f p j
/-- .. and the rivals' gains -/
def gnIs (G : sw_G) (M : sw_M) (g : Int → Int) : Prop := ∃ fw fo g', M 14 = some (cV G fw fo).2 ∧ M 17 = some (sw_la 61 g') ∧ ∀ j : Nat, j ≤ 60 → g' j = g j
theorem W_bidOf {seat j his : Int} (hI : InvC G M s) (hs : stOK s) (hk : isS s k) (h1 : 0 ≤ seat ∧ seat < 4) (h2 : 0 ≤ j ∧ j < 5) (h3 : sw_rg his) : Kt l G μX9_bidOf [.ref (sw_al G 0), .ref (sw_al G (100 + 5 * k.toNat)), sw_i seat, sw_i j, sw_i his] M (fun r M' => r = some (sw_i (bdF (sl s k) (qT s) (qB s) seat j his)) ∧ InvC G M' s ∧ frK [] M M') := by
  obtain ⟨u, d, h5⟩ := hI.sale hk
  refine (K9_bidOf (by omega) hI.1 hI.2.2.1 h5 (hs.sale hk) hs.c h1 h2 h3).mono (fun r M' h => ?_)
  obtain ⟨u', d', rfl, rfl⟩ := h
  exact ⟨rfl, hI.ov (fun c hc => by rw [List.mem_singleton.mp hc]; exact okS hk u' d'), frK.ov (fun t ht => by rw [List.mem_singleton.mp ht]; exact Or.inr (by dsimp only; omega))⟩
theorem W_rowOf {seat place his : Int} {R : Int → Int} (hI : InvC G M s) (hs : stOK s) (hk : isS s k) (h1 : 0 ≤ seat ∧ seat < 4) (h2 : 0 ≤ place ∧ place < 4) (h3 : sw_rg his) (h7 : M 7 = some (cR R).2) : Kt l G μX9_rowOf [.ref (sw_al G 0), .ref (sw_al G (100 + 5 * k.toNat)), sw_i seat, sw_i place, sw_i his] M (fun r M' => r = none ∧ InvC G M' s ∧ frK [7] M M' ∧ ∃ R', M' 7 = some (cR R').2 ∧ (∀ j, 0 ≤ j → j < sSg (sl s k) → R' (place * 5 + j) = bdF (sl s k) (qT s) (qB s) seat j his) ∧ ∀ i, i < place * 5 ∨ place * 5 + 5 ≤ i → R' i = R i) := by
  obtain ⟨u, d, h5⟩ := hI.sale hk
  obtain ⟨b0, m0, le0, wt, wo, hi, al, nx', su, x6⟩ := hI.x6
  refine (K9_rowOf (by omega) hI.1 hI.2.2.1 x6 h7 h5 (hs.sale hk) hs.c h1 h2 h3).mono (fun r M' h => ?_)
  obtain ⟨R', u', d', rfl, f1, f2, rfl⟩ := h
  refine ⟨rfl, hI.ov (cRo_ok (okS hk u' d')), frK.ov (fun t ht => ?_), R', rfl, f1, f2⟩
  simp only [List.map_cons, List.map_nil, List.mem_cons, List.not_mem_nil, or_false] at ht
  rcases ht with rfl | rfl
  · exact Or.inl (by decide)
  · exact Or.inr (by omega)
theorem W_rowsWithout {seat : Int} (hI : InvC G M s) (hs : stOK s) (hk : isS s k) (h1 : 0 ≤ seat ∧ seat < sNb (sl s k)) : Kt l G μX9_rowsWithout [.ref (sw_al G 0), .ref (sw_al G (100 + 5 * k.toNat)), sw_i seat] M (fun r M' => r = none ∧ InvC G M' s ∧ frK [7] M M' ∧ rowIs M' (oF (sl s k) (qT s) (qB s) seat) (sNb (sl s k) - 1) (sSg (sl s k))) := by
  obtain ⟨u, d, h5⟩ := hI.sale hk
  obtain ⟨b0, m0, le0, wt, wo, hi, al, nx', su, x6⟩ := hI.x6
  obtain ⟨R, x7⟩ := hI.x7
  refine (K9_rowsWithout (by omega) hI.1 hI.2.2.1 x6 x7 h5 (hs.sale hk) hs.c h1).mono (fun r M' h => ?_)
  obtain ⟨R', u', d', rfl, f1, rfl⟩ := h
  refine ⟨rfl, hI.ov (cRo_ok (okS hk u' d')), frK.ov (fun t ht => ?_), R', rfl, f1⟩
  simp only [List.map_cons, List.map_nil, List.mem_cons, List.not_mem_nil, or_false] at ht
  rcases ht with rfl | rfl
  · exact Or.inl (by decide)
  · exact Or.inr (by omega)
/-- bids that are all alike -/
def alF (σ : SaleT) (many : Int) (wise : Prop) [Decidable wise] : Int → Int → Int := fun _ j => hld σ j (if wise ∧ 1 < many then j else -1) (-1) (-1)
theorem W_rowsAlike {many : Nat} {wise : Prop} [Decidable wise] (hI : InvC G M s) (hs : stOK s) (hk : isS s k) (h1 : many ≤ 4) : Kt l G μX9_rowsAlike [.ref (sw_al G 0), .ref (sw_al G (100 + 5 * k.toNat)), sw_i (many : Int), sw_i (bI wise)] M (fun r M' => r = none ∧ InvC G M' s ∧ frK [7] M M' ∧ rowIs M' (alF (sl s k) many wise) many (sSg (sl s k))) := by
  obtain ⟨u, d, h5⟩ := hI.sale hk
  obtain ⟨b0, m0, le0, wt, wo, hi, al, nx', su, x6⟩ := hI.x6
  obtain ⟨R, x7⟩ := hI.x7
  refine (K9_rowsAlike (by omega) hI.1 x6 x7 h5 (hs.sale hk) h1).mono (fun r M' h => ?_)
  obtain ⟨R', u', d', rfl, f1, rfl⟩ := h
  refine ⟨rfl, hI.ov (cRo_ok (okS hk u' d')), frK.ov (fun t ht => ?_), R', rfl, f1⟩
  simp only [List.map_cons, List.map_nil, List.mem_cons, List.not_mem_nil, or_false] at ht
  rcases ht with rfl | rfl
  · exact Or.inl (by decide)
  · exact Or.inr (by omega)
theorem cRv_at {b : Nat} {m le wt wo hi al nx su fw fo : Int} {S P Wt Wo g : Int → Int} : sw_ov M (cVs G fw fo Wt Wo g ++ [cC G b m le wt wo hi al nx su, cG S, cP P]) 14 = some (cV G fw fo).2 ∧ sw_ov M (cVs G fw fo Wt Wo g ++ [cC G b m le wt wo hi al nx su, cG S, cP P]) 17 = some (sw_la 61 g) := ⟨rfl, rfl⟩
theorem cRv_k {b : Nat} {m le wt wo hi al nx su fw fo : Int} {S P Wt Wo g : Int → Int} : frK [6, 8, 9, 14, 15, 16, 17] M (sw_ov M (cVs G fw fo Wt Wo g ++ [cC G b m le wt wo hi al nx su, cG S, cP P])) := frK.ov (fun t ht => by
  simp only [List.cons_append, List.nil_append, List.map_cons, List.map_nil, List.mem_cons, List.not_mem_nil, or_false] at ht
  exact Or.inl (by rcases ht with rfl | rfl | rfl | rfl | rfl | rfl | rfl <;> decide))
theorem W_rivalsBySign {j : Int} {f : Int → Int → Int} (hI : InvC G M s) (hs : stOK s) (hk : isS s k) (hj : sw_rg j) (hf : ∀ p i, 0 ≤ p → p < sNb (sl s k) - 1 → 0 ≤ i → i < sSg (sl s k) → 0 ≤ f p i ∧ f p i ≤ 60) (hr : rowIs M f (sNb (sl s k) - 1) (sSg (sl s k))) : Kt l G μX9_rivalsBySign [.ref (sw_al G 0), .ref (sw_al G (100 + 5 * k.toNat)), sw_i j] M (fun r M' => r = none ∧ InvC G M' s ∧ frK [6, 8, 9, 14, 15, 16, 17] M M' ∧ gnIs G M' (RG (sl s k) f (pS (sl s k) j) (sNb (sl s k) - 1).toNat)) := by
  obtain ⟨u, d, h5⟩ := hI.sale hk
  obtain ⟨b0, m0, le0, wt, wo, hi, al, nx', su, x6⟩ := hI.x6
  obtain ⟨S, x8⟩ := hI.x8
  obtain ⟨P, x9⟩ := hI.x9
  obtain ⟨fw, fo, Wt, Wo, g, xV⟩ := hI.xV
  obtain ⟨R, h7, hR⟩ := hr
  have hw := hs.sale hk
  have hnb := hw.2.2.1
  refine (K9_rivalsBySign (by omega) hI.1 x6 h7 x8 x9 xV h5 hw hj (n := (sNb (sl s k) - 1).toNat) (by omega) (fun i j hi j0 j1 => by rw [hR i j (by omega) (by omega) j0 j1]; exact hf i j (by omega) (by omega) j0 j1)).mono (fun r M' h => ?_)
  obtain ⟨wt2, wo2, hi2, al2, nx2, su2, S2, P2, fw2, fo2, Wt2, Wo2, g2, rfl, q1, q2, q3, q4, q5, rfl⟩ := h
  have hg := RG_of hw (P0 := pS (sl s k) j) (n := (sNb (sl s k) - 1).toNat) (by omega) (f := f) (R := R) (fun p j p0 p1 j0 j1 => hR p j p0 (by omega) j0 j1) (S := S) q1 q2 q3 q4 q5
  exact ⟨rfl, hI.ov (cRv_ok (σ := sl s k) (Nat.le_refl _)), cRv_k, fw2, fo2, g2, cRv_at.1, cRv_at.2, hg⟩
theorem W_rivalsByTruth {j : Int} {f : Int → Int → Int} (hI : InvC G M s) (hs : stOK s) (hk : isS s k) (hj : sw_rg j) (hf : ∀ p i, 0 ≤ p → p < sNb (sl s k) - 1 → 0 ≤ i → i < sSg (sl s k) → 0 ≤ f p i ∧ f p i ≤ 60) (hr : rowIs M f (sNb (sl s k) - 1) (sSg (sl s k))) : Kt l G μX9_rivalsByTruth [.ref (sw_al G 0), .ref (sw_al G (100 + 5 * k.toNat)), sw_i j] M (fun r M' => r = none ∧ InvC G M' s ∧ frK [6, 8, 9, 14, 15, 16, 17] M M' ∧ gnIs G M' (RG (sl s k) f (pT (sl s k) j) (sNb (sl s k) - 1).toNat)) := by
  obtain ⟨u, d, h5⟩ := hI.sale hk
  obtain ⟨b0, m0, le0, wt, wo, hi, al, nx', su, x6⟩ := hI.x6
  obtain ⟨S, x8⟩ := hI.x8
  obtain ⟨P, x9⟩ := hI.x9
  obtain ⟨fw, fo, Wt, Wo, g, xV⟩ := hI.xV
  obtain ⟨R, h7, hR⟩ := hr
  have hw := hs.sale hk
  have hnb := hw.2.2.1
  refine (K9_rivalsByTruth (by omega) hI.1 x6 h7 x8 x9 xV h5 hw hj (n := (sNb (sl s k) - 1).toNat) (by omega) (fun i j hi j0 j1 => by rw [hR i j (by omega) (by omega) j0 j1]; exact hf i j (by omega) (by omega) j0 j1)).mono (fun r M' h => ?_)
  obtain ⟨wt2, wo2, hi2, al2, nx2, su2, S2, P2, fw2, fo2, Wt2, Wo2, g2, rfl, q1, q2, q3, q4, q5, rfl⟩ := h
  have hg := RG_of hw (P0 := pT (sl s k) j) (n := (sNb (sl s k) - 1).toNat) (by omega) (f := f) (R := R) (fun p j p0 p1 j0 j1 => hR p j p0 (by omega) j0 j1) (S := S) q1 q2 q3 q4 q5
  exact ⟨rfl, hI.ov (cRv_ok (σ := sl s k) (Nat.le_refl _)), cRv_k, fw2, fo2, g2, cRv_at.1, cRv_at.2, hg⟩
/-- gains that fit -/
def gnB (g : Int → Int) : Prop := ∀ j, 0 ≤ j → j ≤ 60 → -1000000000000000000 ≤ g j ∧ g j ≤ 1000000000000000000
theorem RG_gnB {σ : SaleT} (hw : wfS σ) (f : Int → Int → Int) {P0 : Int → Int} {n : Nat} (hP : pB σ P0) (hn : n ≤ 4) : gnB (RG σ f P0 n) := fun j h0 h1 => by
  obtain ⟨a1, a2, a3, a4⟩ := rv_bd (R := rwF f) hw hP hn z0
  exact gn4_bd (wy := sWy σ) a1 a2 a3 a4 hw.2.2.2.1 (k := j.toNat) (by omega)
theorem gnB.of {g g' : Int → Int} (hg : gnB g) (h : ∀ j : Nat, j ≤ 60 → g' j = g j) : ∀ i, 0 ≤ i → i ≤ 60 → sw_rl (g' i) := fun i j0 j1 => by
  have e := h i.toNat (by omega)
  rw [show ((i.toNat : Nat) : Int) = i by omega] at e
  have := hg i j0 j1
  rw [e]; omega
theorem W_pick {g : Int → Int} (h : gnIs G M g) (hg : gnB g) : Kt l G μX4_pick [.ref (sw_al G 14)] M (fun r M' => r = some (sw_i (pk g 60)) ∧ M' = M) := by
  obtain ⟨fw, fo, g', h1, h2, h3⟩ := h
  refine (K4_pick h1 h2 (hg.of h3)).mono (fun r M' h => ?_)
  rw [← pk_congr 60 (Nat.le_refl _) h3]; exact h
theorem pk_at {g g' : Int → Int} (h : ∀ j : Nat, j ≤ 60 → g' j = g j) : g' (pk g' 60) = g (pk g 60) := by
  rw [pk_congr 60 (Nat.le_refl _) h]
  have hb := pk_bd g 60
  have := h (pk g 60).toNat (by omega)
  rw [show (((pk g 60).toNat : Nat) : Int) = pk g 60 by omega] at this
  exact this
theorem W_most {g : Int → Int} (h : gnIs G M g) (hg : gnB g) : Kt l G μX4_most [.ref (sw_al G 14)] M (fun r M' => r = some (sw_j (g (pk g 60))) ∧ M' = M) := by
  obtain ⟨fw, fo, g', h1, h2, h3⟩ := h
  refine (K4_most h1 h2 (hg.of h3)).mono (fun r M' h => ?_)
  rw [← pk_at h3]; exact h
theorem W_isMost {g : Int → Int} {bid : Int} (h : gnIs G M g) (hg : gnB g) (hb : 0 ≤ bid ∧ bid ≤ 60) : Kt l G μX4_isMost [.ref (sw_al G 14), sw_i bid] M (fun r M' => r = some (sw_i (bI (g bid = g (pk g 60)))) ∧ M' = M) := by
  obtain ⟨fw, fo, g', h1, h2, h3⟩ := h
  refine (K4_isMost h1 h2 (hg.of h3) hb).mono (fun r M' h => ?_)
  have e := h3 bid.toNat (by omega)
  rw [show ((bid.toNat : Nat) : Int) = bid by omega] at e
  rw [pk_at h3, e] at h; exact h
end

