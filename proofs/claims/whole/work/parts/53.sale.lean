/-! the face: sale -/
section
variable {l : Launch} {G : sw_G} {μ : sw_Mt} {E : State → (Nat → Prop) → Prop} {Z : sw_Z} {pc ix : Nat} {lv : List (Nat × Value)} {st : List Value} {M : sw_M} {uc us : Nat}
/-- what isn't asked for may be left out -/
theorem v_drop {M' : sw_M} (h : ∀ t x, M' t = some x → M t = some x) (k : V l G μ E Z pc lv st M' uc us) : V l G μ E Z pc lv st M uc us := by
  intro p e R s m args below meth c A H locs ws ls C hP hD hS hR hl
  refine k p e R s m args below meth c A H locs ws ls C hP hD hS ⟨fun t ob ht => hR.1 t ob (h t ob ht), fun t t' ht ht' he => hR.2 t t' ?_ ?_ he⟩ hl
  · cases hx : M' t with
    | none => exact absurd hx ht
    | some x => rw [h t x hx]; exact fun q => by cases q
  · cases hx : M' t' with
    | none => exact absurd hx ht'
    | some x => rw [h t' x hx]; exact fun q => by cases q
/-- tags that are nowhere may have another name -/
theorem v_relabel {al al2 : Nat → Nat} (h : ∀ t, M t ≠ none → al2 t = al t) (k : V l (sw_Gw G al2) μ E Z pc lv st M uc us) : V l (sw_Gw G al) μ E Z pc lv st M uc us := by
  intro p e R s m args below meth c A H locs ws ls C hP hD hS hR hl
  have ne : ∀ t ob, M t = some ob → M t ≠ none := fun t ob ht => by rw [ht]; exact fun q => by cases q
  refine k p e R s m args below meth c A H locs ws ls C hP hD hS ⟨fun t ob ht => ?_, fun t t' ht ht' he => hR.2 t t' ht ht' ?_⟩ hl
  · obtain ⟨j, hj⟩ := hR.1 t ob ht
    refine ⟨j, ?_⟩
    have e : sw_al (sw_Gw G al2) t = sw_al (sw_Gw G al) t := h t (ne t ob ht)
    rw [e]; exact hj
  · have e1 : sw_al (sw_Gw G al2) t = sw_al (sw_Gw G al) t := h t ht
    have e2 : sw_al (sw_Gw G al2) t' = sw_al (sw_Gw G al) t' := h t' ht'
    rw [← e1, ← e2]; exact he
end
section
variable {l : Launch} {G : sw_G} {M : sw_M} {s : CSt}
theorem K7_takeDraft {b B : Nat} {len a wr : Int} (hB : 50 ≤ B) (h1 : M 1 = some (cT G b len a wr).2) (n0 : M B = none) (n1 : M (B + 1) = none) (n2 : M (B + 2) = none) (n3 : M (B + 3) = none) (n4 : M (B + 4) = none) : KtA l G μX7_takeDraft [.ref (sw_al G 1)] M (fun al r M' => r = some (.ref (sw_al G b)) ∧ (∀ u, u ∉ [B, B + 1, B + 2, B + 3, B + 4] → al u = sw_al G u) ∧ M' = sw_ov M (cT (sw_Gw G al) B 0 a wr :: cS (sw_Gw G al) B σ0 0 0)) := by
  refine KtA.of (by decide +kernel) (Nat.le_of_ble_eq_true rfl) ?_
  refine v_mem (sw_ov_self (cs := [cT G b len a wr]) (sw_hold1 h1 sw_hold0)).symm ?_
  refine v_aload_n dX7_takeDraft_0 rfl ?_
  refine v_getf 0 2 fl_X7_22 (sw_nd_of (by simp)) rfl rfl dX7_takeDraft_1 ?_
  refine v_astore_n dX7_takeDraft_4 (Nat.le_of_ble_eq_true rfl) ?_
  refine v_aload_n dX7_takeDraft_5 rfl ?_
  refine v_new B (ci := 5) [.null, .null, .null, .null, sw_i 0, sw_i 0, sw_i 0, sw_i 0, sw_i 0, sw_j 0, sw_j 0] tyX5 rfl u_X5 tyX5_ok cl_X7_19 un_X5 ui_X5 ft_X5 (by simp; omega) n0 (Nat.le_of_ble_eq_true rfl) (Nat.le_of_ble_eq_true rfl) dX7_takeDraft_6 (fun al1 ha1 => ?_)
  have e1 : al1 1 = sw_al G 1 := ha1 1 (by omega)
  have e2 : al1 2 = sw_al G 2 := ha1 2 (by omega)
  rw [← e1]
  refine v_mem (M' := sw_ov M [cT G b len a wr, (B, sw_o 5 [.null, .null, .null, .null, sw_i 0, sw_i 0, sw_i 0, sw_i 0, sw_i 0, sw_j 0, sw_j 0])]) rfl ?_
  refine v_dup dX7_takeDraft_9 rfl ?_
  refine v_callIN (t := B) (K5_init (G := sw_Gw G al1) (M := sw_ov M [cT G b len a wr, (B, sw_o 5 [.null, .null, .null, .null, sw_i 0, sw_i 0, sw_i 0, sw_i 0, sw_i 0, sw_j 0, sw_j 0])]) (b := B) ((if_neg (show ¬ B = 1 by omega)).trans (if_pos rfl)) ((sw_ov_out (by first | (simp; done) | (simp; omega))).trans n1) ((sw_ov_out (by first | (simp; done) | (simp; omega))).trans n2) ((sw_ov_out (by first | (simp; done) | (simp; omega))).trans n3) ((sw_ov_out (by first | (simp; done) | (simp; omega))).trans n4)) (Nat.le_of_ble_eq_true rfl) (Nat.le_of_ble_eq_true rfl) ⟨mm_X5_init, mi_X5_init⟩ rfl rfl (by unfold sw_NL; simp [mY, μX7_takeDraft, μX5_init, yX7_takeDraft, RX7, yX5_init, RX5]) ⟨(Nat.le_of_ble_eq_true rfl), (Nat.le_of_ble_eq_true rfl)⟩ (by decide +kernel) rfl rfl (Nat.le_of_ble_eq_true rfl) dX7_takeDraft_10 (fun al2 r M2 h => ?_)
  obtain ⟨rfl, ha2, rfl⟩ := h
  rw [sw_GwGw]
  have f1 : al2 1 = al1 1 := ha2 1 (by simp; omega)
  have f2 : al2 2 = al1 2 := ha2 2 (by simp; omega)
  have fB : al2 B = al1 B := ha2 B (by simp)
  rw [← f1, ← fB]
  refine v_mem (M' := sw_ov M ([cT G b len a wr] ++ cS (sw_Gw G al2) B σ0 0 0)) (sw_ov_new (A0 := [cT G b len a wr]) (t := B) (by simp; omega)) ?_
  have hn : sw_nd [1, B, B + 1, B + 2, B + 3, B + 4] := sw_nd_of (by simp; omega)
  refine v_putf 0 2 fp_X7_22 hn rfl rfl rfl (Nat.le_of_ble_eq_true rfl) dX7_takeDraft_13 ?_
  refine v_aload_n dX7_takeDraft_16 rfl ?_
  refine v_iconst dX7_takeDraft_17 ?_
  refine v_putf 0 1 fp_X7_15 hn rfl rfl rfl (Nat.le_of_ble_eq_true rfl) dX7_takeDraft_18 ?_
  refine v_aload_n dX7_takeDraft_21 rfl ?_
  refine va_aretA rfl (Or.inl ⟨_, rfl⟩) (Or.inr ⟨_, rfl⟩) dX7_takeDraft_22 rfl (Nat.le_refl _) (Nat.le_refl _) ⟨rfl, fun u hu => ?_, ?_⟩
  · simp only [List.mem_cons, List.not_mem_nil, or_false, not_or] at hu
    exact (ha2 u (by simp; omega)).trans (ha1 u (by omega))
  · have g2 : al2 2 = sw_al G 2 := f2.trans e2
    show sw_ov M ((1, sw_o 7 [.ref (sw_al G 2), sw_i 0, .ref (al2 B), sw_i a, sw_i wr]) :: cS (sw_Gw G al2) B σ0 0 0) = sw_ov M ((1, sw_o 7 [.ref (al2 2), sw_i 0, .ref (al2 B), sw_i a, sw_i wr]) :: cS (sw_Gw G al2) B σ0 0 0)
    rw [g2]
/-- a SALE more, the tape empty -/
abbrev sN (s : CSt) (σ : SaleT) : CSt := (qF s, 0, qN s + 1, fun j => if j = qN s then σ else qS s j, qT s, qB s, qD s, qM s, qK s, qR s, qG s)
theorem sale_fin {al : Nat → Nat} {M' : sw_M} {b6 b30 : Nat} {σ : SaleT} {a wr u d x so : Int} {Sg : Int → Int} {m6 le6 wt wo hi al6 nx su : Int} (hI : InvC G M s) (hal : ∀ u, u < 60 ∨ 62 ≤ u ∧ u < 100 + 5 * (qN s + 1) → al u = sw_al G u) (h60 : al 60 = sw_al G b6) (h61 : al 61 = sw_al G b30) (hf : ∀ t, (t = 2 ∨ t = 4 ∨ t = 5 ∨ 6 ≤ t ∧ t < 34 ∨ 100 ≤ t ∧ t < 100 + 5 * qN s) → M' t = M t) (x6 : M 6 = some (cC G b6 m6 le6 wt wo hi al6 nx su).2) (xL : sw_hold M (cLs G b30 x (qM s) (qK s) so (qR s) (qG s) Sg))
    (h0 : M' 0 = some (c0 (sw_Gw G al) (qN s + 1) (qT s)).2) (h3 : M' 3 = some (cSa (sw_Gw G al) (qN s + 1)).2) (h1 : M' 1 = some (cT (sw_Gw G al) (100 + 5 * (qN s + 1)) 0 a wr).2) (hd : sw_hold M' (cS (sw_Gw G al) (100 + 5 * (qN s + 1)) σ0 0 0)) (hn : sw_hold M' (cS (sw_Gw G al) (100 + 5 * qN s) σ u d)) : InvC (sw_Gw G al) M' (sN s σ) := by
  obtain ⟨i0, i3, i4, i5, i2, -, -, is', -, ic⟩ := hI
  have L : ∀ t, t < 60 → sw_al (sw_Gw G al) t = sw_al G t := fun t h => hal t (Or.inl h)
  refine ⟨h0, h3, (hf 4 (by omega)).trans i4, (hf 5 (by omega)).trans i5, (hf 2 (by omega)).trans i2, ⟨a, wr, h1⟩, ⟨0, 0, 2, 0, 0, z0, z0, z0, z0, 0, 0, hd⟩, fun k hk => ?_, ⟨61, x, so, Sg, ?_⟩, fun t h1 h2 => ?_⟩
  · by_cases e : k = qN s
    · subst e
      refine ⟨u, d, ?_⟩
      show sw_hold M' (cS (sw_Gw G al) (100 + 5 * qN s) (if qN s = qN s then σ else qS s (qN s)) u d)
      rw [if_pos rfl]; exact hn
    · have hk' : k < qN s + 1 := hk
      obtain ⟨u', d', hu⟩ := is' k (by omega)
      refine ⟨u', d', ?_⟩
      show sw_hold M' (cS (sw_Gw G al) (100 + 5 * k) (if k = qN s then σ else qS s k) u' d')
      rw [if_neg e]
      have hh : sw_hold M' (cS G (100 + 5 * k) (qS s k) u' d') := fun c hc => by
        refine (hf c.1 ?_).trans (hu c hc)
        simp only [List.mem_cons, List.not_mem_nil, or_false] at hc
        rcases hc with rfl | rfl | rfl | rfl | rfl <;> (dsimp only; omega)
      refine sw_hold1 ?_ hh.tl
      have hd := hh.hd
      show M' (100 + 5 * k) = some (sw_o 5 [.ref (al (100 + 5 * k + 1)), .ref (al (100 + 5 * k + 2)), .ref (al (100 + 5 * k + 3)), .ref (al (100 + 5 * k + 4)), sw_i (sSg (qS s k)), sw_i (sTr (qS s k)), sw_i (sNb (qS s k)), sw_i (sLe (qS s k)), sw_i (sWy (qS s k)), sw_j u', sw_j d'])
      rw [hal (100 + 5 * k + 1) (by omega), hal (100 + 5 * k + 2) (by omega), hal (100 + 5 * k + 3) (by omega), hal (100 + 5 * k + 4) (by omega)]
      exact hd
  · refine sw_hold1 ?_ (sw_hold1 ((hf 31 (by omega)).trans xL.tl.hd) (sw_hold1 ((hf 32 (by omega)).trans xL.tl.tl.hd) (sw_hold1 ((hf 33 (by omega)).trans xL.tl.tl.tl.hd) sw_hold0)))
    show M' 30 = some (sw_o 2 [.ref (al 31), .ref (al 32), .ref (al 33), .ref (al 61), sw_j x, sw_i (qM s), sw_i (qK s), sw_i so])
    rw [hal 31 (by omega), hal 32 (by omega), hal 33 (by omega), h61]
    exact (hf 30 (by omega)).trans xL.hd
  · obtain ⟨ob, g1, g2⟩ := ic t h1 h2
    refine ⟨ob, (hf t (by omega)).trans g1, ?_⟩
    have ht : t = 6 ∨ t = 7 ∨ t = 8 ∨ t = 9 ∨ t = 10 ∨ t = 11 ∨ t = 12 ∨ t = 13 ∨ t = 14 ∨ t = 15 ∨ t = 16 ∨ t = 17 ∨ t = 18 ∨ t = 19 ∨ t = 20 ∨ t = 21 ∨ t = 22 ∨ t = 23 ∨ t = 24 ∨ t = 25 ∨ t = 26 ∨ t = 27 ∨ t = 28 ∨ t = 29 := by omega
    rcases ht with rfl | rfl | rfl | rfl | rfl | rfl | rfl | rfl | rfl | rfl | rfl | rfl | rfl | rfl | rfl | rfl | rfl | rfl | rfl | rfl | rfl | rfl | rfl | rfl
    · have e : ob = (cC G b6 m6 le6 wt wo hi al6 nx su).2 := Option.some.inj (g1.symm.trans x6)
      refine ⟨60, m6, le6, wt, wo, hi, al6, nx, su, ?_⟩
      rw [e]
      show sw_o 1 [.ref (sw_al G 7), .ref (sw_al G 8), .ref (sw_al G 9), .ref (sw_al G b6), sw_i m6, sw_i le6, sw_j wt, sw_j wo, sw_i hi, sw_i al6, sw_i nx, sw_i su] = sw_o 1 [.ref (al 7), .ref (al 8), .ref (al 9), .ref (al 60), sw_i m6, sw_i le6, sw_j wt, sw_j wo, sw_i hi, sw_i al6, sw_i nx, sw_i su]
      rw [hal 7 (by omega), hal 8 (by omega), hal 9 (by omega), h60]
    · exact g2
    · exact g2
    · exact g2
    · obtain ⟨a, tk, so, un, rfl⟩ := g2
      refine ⟨a, tk, so, un, ?_⟩
      show sw_o 6 [sw_j a, sw_j tk, sw_j so, sw_j un, .ref (sw_al G 11), .ref (sw_al G 12), .ref (sw_al G 13)] = sw_o 6 [sw_j a, sw_j tk, sw_j so, sw_j un, .ref (al 11), .ref (al 12), .ref (al 13)]
      rw [hal 11 (by omega), hal 12 (by omega), hal 13 (by omega)]
    · exact g2
    · exact g2
    · exact g2
    · obtain ⟨a, b, rfl⟩ := g2
      refine ⟨a, b, ?_⟩
      show sw_o 4 [.ref (sw_al G 15), .ref (sw_al G 16), sw_j a, sw_j b, .ref (sw_al G 17)] = sw_o 4 [.ref (al 15), .ref (al 16), sw_j a, sw_j b, .ref (al 17)]
      rw [hal 15 (by omega), hal 16 (by omega), hal 17 (by omega)]
    · exact g2
    · exact g2
    · exact g2
    · have e : ob = sw_o 0 [.ref (sw_al G 19), .ref (sw_al G 20)] := g2
      show ob = sw_o 0 [.ref (al 19), .ref (al 20)]
      rw [hal 19 (by omega), hal 20 (by omega), e]
    · exact g2
    · exact g2
    · obtain ⟨a, b, c, rfl⟩ := g2
      refine ⟨a, b, c, ?_⟩
      show sw_o 8 [.ref (sw_al G 22), .ref (sw_al G 23), .ref (sw_al G 24), sw_i a, sw_i b, sw_i c] = sw_o 8 [.ref (al 22), .ref (al 23), .ref (al 24), sw_i a, sw_i b, sw_i c]
      rw [hal 22 (by omega), hal 23 (by omega), hal 24 (by omega)]
    · exact g2
    · exact g2
    · exact g2
    · obtain ⟨a, b, c, rfl⟩ := g2
      refine ⟨a, b, c, ?_⟩
      show sw_o 3 [.ref (sw_al G 26), .ref (sw_al G 27), .ref (sw_al G 28), .ref (sw_al G 29), sw_i a, sw_i b, sw_i c] = sw_o 3 [.ref (al 26), .ref (al 27), .ref (al 28), .ref (al 29), sw_i a, sw_i b, sw_i c]
      rw [hal 26 (by omega), hal 27 (by omega), hal 28 (by omega), hal 29 (by omega)]
    · exact g2
    · exact g2
    · exact g2
    · exact g2
theorem rdl_rg {f : Int → Int} {len : Int} (hl : 0 ≤ len ∧ len ≤ 240) : ∀ (n : Nat) (a wr : Int) (σ : SaleT), (wr = -1 → 0 ≤ a ∧ a ≤ len) → -1 ≤ wr ∧ wr ≤ 300 → 0 ≤ sTr σ ∧ sTr σ ≤ 8 → -1 ≤ (rdl f len n a wr σ).1 ∧ (rdl f len n a wr σ).1 ≤ 300
  | 0, a, wr, σ, _, h2, _ => h2
  | n + 1, a, wr, σ, h1, h2, h3 => by
    unfold rdl
    by_cases c1 : wr = -1
    · rw [if_pos c1]
      have ha := h1 c1
      have hs := sk_le f len 240 a
      by_cases c2 : len ≤ sk f len 240 a
      · rw [if_pos c2]
        by_cases c3 : 0 < sTr σ
        · rw [if_pos c3]; dsimp only; omega
        · rw [if_neg c3]; dsimp only; omega
      · rw [if_neg c2]
        by_cases c4 : lk f len (sk f len 240 a) = 59
        · rw [if_pos c4]
          have hk := cla_ok (f := f) (len := len) (a := sk f len 240 a + 1) (σ := σ) (by omega) h3 (by omega)
          exact rdl_rg hl n _ _ _ (fun _ => by omega) (by omega) (by omega)
        · rw [if_neg c4]; dsimp only; omega
    · rw [if_neg c1]; exact h2
theorem rd_rg {f : Int → Int} {len : Int} (hw : wfT f len) (V W O St : Int → Int) : sw_rg (rd f len V W O St).1 := by
  have hs := sk_le f len 240 0
  have h0 := hw.1
  have h1 := hw.2.1
  unfold rd
  by_cases c : lk f len (sk f len 240 0) = 115
  · rw [if_pos c]
    have hk := nmb_ok (f := f) (len := len) (a := sk f len 240 0 + 1) (lo := 2) (hi := 5)
    have := rdl_rg (f := f) (len := len) ⟨h0, h1⟩ 241 (nmb f len (sk f len 240 0 + 1) 2 5).2.1 (nmb f len (sk f len 240 0 + 1) 2 5).2.2 ((nmb f len (sk f len 240 0 + 1) 2 5).1, 0, 2, 0, 0, V, W, O, fl St (-1) 4) (fun h => by omega) (by omega) ⟨Int.le_refl 0, by show (0 : Int) ≤ 8; omega⟩
    exact ⟨by omega, by omega⟩
  · rw [if_neg c]; exact ⟨by dsimp only; omega, by dsimp only; omega⟩
theorem InvC.keep {M' : sw_M} (hI : InvC G M s) (hf : ∀ t, t < 34 ∨ 100 ≤ t ∧ t < 100 + 5 * (qN s + 1) → M' t = M t) : InvC G M' s := by
  obtain ⟨i0, i3, i4, i5, i2, ⟨a, wr, i1⟩, ⟨sg, tr, nb, le, wy, Va, Wa, Oa, St, u, d, id'⟩, is', ⟨b, x, so, Sg, il⟩, ic⟩ := hI
  have fx : ∀ (t : Nat) (ob : sw_Ob), t < 34 ∨ 100 ≤ t ∧ t < 100 + 5 * (qN s + 1) → M t = some ob → M' t = some ob := fun t ob h hm => (hf t h).trans hm
  have fxH : ∀ l, sw_hold M l → (∀ c ∈ l, c.1 < 34 ∨ 100 ≤ c.1 ∧ c.1 < 100 + 5 * (qN s + 1)) → sw_hold M' l := fun l hl hx c hc => fx _ _ (hx c hc) (hl c hc)
  refine ⟨fx _ _ (by omega) i0, fx _ _ (by omega) i3, fx _ _ (by omega) i4, fx _ _ (by omega) i5, fx _ _ (by omega) i2, ⟨a, wr, fx _ _ (by omega) i1⟩, ⟨sg, tr, nb, le, wy, Va, Wa, Oa, St, u, d, fxH _ id' ?_⟩, fun k hk => ?_, ⟨b, x, so, Sg, fxH _ il ?_⟩, fun t h1 h2 => ?_⟩
  · intro c hcl
    simp only [List.mem_cons, List.not_mem_nil, or_false] at hcl
    rcases hcl with rfl | rfl | rfl | rfl | rfl <;> (dsimp only; omega)
  · obtain ⟨u', d', hu⟩ := is' k hk
    refine ⟨u', d', fxH _ hu ?_⟩
    intro c hcl
    simp only [List.mem_cons, List.not_mem_nil, or_false] at hcl
    rcases hcl with rfl | rfl | rfl | rfl | rfl <;> (dsimp only; omega)
  · intro c hcl
    simp only [List.mem_cons, List.not_mem_nil, or_false] at hcl
    rcases hcl with rfl | rfl | rfl | rfl <;> (dsimp only; omega)
  · obtain ⟨ob, g1, g2⟩ := ic t h1 h2
    exact ⟨ob, fx _ _ (by omega) g1, g2⟩
theorem F9_saleX (hI : InvC G M s) (hs : stOK s) (hc : 8 ≤ qN s) : KtA l G μX9_sale [.ref (sw_al G 0)] M (fun al r M' => al = G.2.2.2 ∧ r = some (sw_i (-1)) ∧ InvC G M' s ∧ frC M M') := by
  refine KtA.of (by decide +kernel) (Nat.le_of_ble_eq_true rfl) ?_
  have i0 := hI.1
  have hns : qN s ≤ 8 := hs.2.1
  refine v_aload_n dX9_sale_0 rfl ?_
  refine v_getfH 2 i0 fl_X9_22 rfl dX9_sale_1 ?_
  refine v_bipush dX9_sale_4 (by decide +kernel) ?_
  refine v_icmp_ge (tgt := 20) dX9_sale_6 (by decide) ⟨by omega, by omega⟩ ⟨by omega, by omega⟩ (fun h6 => ?_) (fun h6 => ?_)
  · skip
    refine v_iconst dX9_sale_20 ?_
    exact va_iretA rfl dX9_sale_21 rfl (Nat.zero_le _) (Nat.zero_le _) ⟨rfl, rfl, hI, frC.rf⟩
  · skip
    exfalso; omega
/-- what a new SALE is behind a whole reading, at where the draft's rows stood -/
theorem F9_sale (hI : InvC G M s) (hs : stOK s) (hc : qN s < 8) : KtA l G μX9_sale [.ref (sw_al G 0)] M (fun al r M' => ∃ Va Wa Oa St, ((rd (qF s) (qL s) Va Wa Oa St).1 ≠ -1 → al = G.2.2.2 ∧ r = some (sw_i (-1)) ∧ InvC G M' s ∧ frC M M') ∧ ((rd (qF s) (qL s) Va Wa Oa St).1 = -1 → r = some (sw_i (qN s : Int)) ∧ (∀ u, u < 60 ∨ 62 ≤ u ∧ u < 100 + 5 * (qN s + 1) → al u = sw_al G u) ∧ InvC (sw_Gw G al) M' (sN s (rd (qF s) (qL s) Va Wa Oa St).2) ∧ frC M M')) := by
  refine KtA.of (by decide +kernel) (Nat.le_of_ble_eq_true rfl) ?_
  have i0 := hI.1
  obtain ⟨a0, wr0, i1⟩ := hI.2.2.2.2.2.1
  refine v_aload_n dX9_sale_0 rfl ?_
  refine v_getfH 2 i0 fl_X9_22 rfl dX9_sale_1 ?_
  refine v_bipush dX9_sale_4 (by decide +kernel) ?_
  refine v_icmp_ge (tgt := 20) dX9_sale_6 (by decide) ⟨by omega, by omega⟩ ⟨by omega, by omega⟩ (fun h6 => ?_) (fun h6 => ?_)
  · skip
    exfalso; omega
  · skip
    refine v_aload_n dX9_sale_9 rfl ?_
    refine v_getfH 0 i0 fl_X9_10 rfl dX9_sale_10 ?_
    refine v_callV (ci := 7) (W_read hI hs) ⟨rfl, rfl⟩ (Nat.zero_le _) (Nat.zero_le _) i1 rfl ⟨ml_X9_96, mm_X7_read⟩ ⟨(Nat.le_of_ble_eq_true rfl), (Nat.le_of_ble_eq_true rfl)⟩ mp_X7_read rfl rfl (Nat.le_of_ble_eq_true rfl) dX9_sale_13 (fun r M1 h => ?_)
    obtain ⟨Va, Wa, Oa, St, a1, wr1, u1, d1, σ1, rfl, hI1, f1, j1, hdr, hdq⟩ := h
    have hrd : sw_rg (rd (qF s) (qL s) Va Wa Oa St).1 := rd_rg hs.1 _ _ _ _
    refine v_iconst dX9_sale_16 ?_
    refine v_icmp_eq (tgt := 22) dX9_sale_17 (by decide) hrd ⟨by omega, by omega⟩ (fun q1 => ?_) (fun q1 => ?_)
    · skip
      obtain ⟨σ, hσ⟩ : ∃ σ, (rd (qF s) (qL s) Va Wa Oa St).2 = σ := ⟨_, rfl⟩
      rw [hdq q1, hσ] at hdr
      obtain ⟨Mr, hMr⟩ : ∃ Mr : sw_M, Mr = fun t => if t = 60 ∨ t = 61 ∨ 100 + 5 * (qN s + 1) ≤ t then none else M1 t := ⟨_, rfl⟩
      have kp : ∀ t, t ≠ 60 → t ≠ 61 → t < 100 + 5 * (qN s + 1) → Mr t = M1 t := fun t h1 h2 h3 => by rw [hMr]; exact if_neg (by omega)
      have no : ∀ t, (t = 60 ∨ t = 61 ∨ 100 + 5 * (qN s + 1) ≤ t) → Mr t = none := fun t h => by rw [hMr]; exact if_pos h
      refine v_drop (M' := Mr) (fun t x hx => by
        by_cases c : t = 60 ∨ t = 61 ∨ 100 + 5 * (qN s + 1) ≤ t
        · rw [no t c] at hx; cases hx
        · rw [kp t (by omega) (by omega) (by omega)] at hx; exact hx) ?_
      have hIr : InvC G Mr s := hI1.keep (fun t ht => kp t (by omega) (by omega) (by omega))
      have r0 := hIr.1
      have r3 := hIr.2.1
      have r1 : Mr 1 = some (cT G (100 + 5 * qN s) (qL s) a1 wr1).2 := (kp 1 (by omega) (by omega) (by omega)).trans j1
      have hd : sw_hold Mr (cS G (100 + 5 * qN s) σ u1 d1) := fun c hc => by
        refine (kp c.1 ?_ ?_ ?_).trans (hdr c hc)
        all_goals
          simp only [List.mem_cons, List.not_mem_nil, or_false] at hc
          rcases hc with rfl | rfl | rfl | rfl | rfl <;> (dsimp only; omega)
      have hn5 : ∀ i, i < 5 → Mr (100 + 5 * (qN s + 1) + i) = none := fun i hi => no _ (by omega)
      refine v_aload_n dX9_sale_22 rfl ?_
      refine v_getfH 1 r0 fl_X9_18 rfl dX9_sale_23 ?_
      refine v_aload_n dX9_sale_26 rfl ?_
      refine v_getfH 2 r0 fl_X9_22 rfl dX9_sale_27 ?_
      refine v_aload_n dX9_sale_30 rfl ?_
      refine v_getfH 0 r0 fl_X9_10 rfl dX9_sale_31 ?_
      refine v_callVA (ci := 7) (K7_takeDraft (B := 100 + 5 * (qN s + 1)) (by omega) r1 (hn5 0 (by omega)) (hn5 1 (by omega)) (hn5 2 (by omega)) (hn5 3 (by omega)) (hn5 4 (by omega))) (Nat.le_of_ble_eq_true rfl) (Nat.le_of_ble_eq_true rfl) r1 rfl ⟨ml_X9_100, mm_X7_takeDraft⟩ ⟨(Nat.le_of_ble_eq_true rfl), (Nat.le_of_ble_eq_true rfl)⟩ mp_X7_takeDraft rfl rfl (Nat.le_of_ble_eq_true rfl) dX9_sale_34 (fun al r M2 h => ?_)
      obtain ⟨rfl, ha, hM2⟩ := h
      have ea : ∀ u, u < 100 + 5 * (qN s + 1) → al u = sw_al G u := fun u hu => ha u (by simp; omega)
      have e0 := ea 0 (by omega)
      have e3 := ea 3 (by omega)
      have eb := ea (100 + 5 * qN s) (by omega)
      rw [← e0, ← e3, ← eb]
      have keep2 : ∀ t, t ≠ 1 → t < 100 + 5 * (qN s + 1) → M2 t = Mr t := fun t h1 h2 => by
        rw [hM2]; exact sw_ov_out (by simp; omega)
      have m3 : M2 3 = some (cSa G (qN s)).2 := (keep2 3 (by omega) (by omega)).trans r3
      have m0 : M2 0 = some (c0 G (qN s) (qT s)).2 := (keep2 0 (by omega) (by omega)).trans r0
      have mb : M2 (100 + 5 * qN s) = some (cO G (100 + 5 * qN s) σ u1 d1).2 := (keep2 _ (by omega) (by omega)).trans hd.hd
      refine v_mem (sw_ov_self (cs := [cSa G (qN s), cO G (100 + 5 * qN s) σ u1 d1]) (sw_hold1 m3 (sw_hold1 mb sw_hold0))).symm ?_
      refine v_astq 0 1 (ci := 5) rfl (sw_nd_of (by simp; omega)) rfl rfl (Nat.le_of_ble_eq_true rfl) (by omega) (by omega) dX9_sale_37 ?_
      obtain ⟨M3, hM3⟩ : ∃ M3, sw_ov M2 [(3, sw_ra 8 (upR (fun k => if 0 ≤ k ∧ k < (qN s : Int) then some (sw_al G (100 + 5 * k.toNat)) else none) (qN s : Int) (some (al (100 + 5 * qN s))))), cO G (100 + 5 * qN s) σ u1 d1] = M3 := ⟨_, rfl⟩
      refine v_mem (M' := M3) hM3 ?_
      have keep3 : ∀ t, t ≠ 3 → M3 t = M2 t := fun t h1 => by
        rw [← hM3]
        show (if t = 3 then _ else if t = 100 + 5 * qN s then some (cO G (100 + 5 * qN s) σ u1 d1).2 else M2 t) = M2 t
        rw [if_neg h1]
        by_cases c : t = 100 + 5 * qN s
        · rw [if_pos c, c, mb]
        · rw [if_neg c]
      have n0 : M3 0 = some (c0 G (qN s) (qT s)).2 := (keep3 0 (by omega)).trans m0
      refine v_aload_n dX9_sale_38 rfl ?_
      refine v_dup dX9_sale_39 rfl ?_
      refine v_getfH (G := sw_Gw G al) 2 n0 fl_X9_22 rfl dX9_sale_40 ?_
      refine v_iconst dX9_sale_43 ?_
      refine v_iadd dX9_sale_44 ?_
      refine v_putfH (G := sw_Gw G al) 2 n0 fp_X9_22 rfl rfl (Nat.le_of_ble_eq_true rfl) dX9_sale_45 ?_
      obtain ⟨M4, hM4⟩ : ∃ M4, sw_ov M3 [c0 G (qN s + 1) (qT s)] = M4 := ⟨_, rfl⟩
      refine v_mem (M' := M4) (by rw [← hM4]; show sw_ov M3 [(0, sw_o 9 [.ref (sw_al G 1), .ref (sw_al G 3), sw_i ((qN s : Int) + 1), .ref (sw_al G 4), sw_i (qT s), .ref (sw_al G 5), .ref (sw_al G 6), .ref (sw_al G 10), .ref (sw_al G 14), .ref (sw_al G 18), .ref (sw_al G 21), .ref (sw_al G 25), .ref (sw_al G 30)])] = _; rfl) ?_
      have p0 : M4 0 = some (c0 G (qN s + 1) (qT s)).2 := by rw [← hM4]; rfl
      have keep4 : ∀ t, t ≠ 0 → M4 t = M3 t := fun t h1 => by rw [← hM4]; exact if_neg h1
      refine v_aload_n dX9_sale_48 rfl ?_
      refine v_getfH (G := sw_Gw G al) 2 p0 fl_X9_22 rfl dX9_sale_49 ?_
      refine v_iconst dX9_sale_52 ?_
      refine v_isub dX9_sale_53 ?_
      obtain ⟨b6, m6, le6, wt, wo, hi, al6, nx', su, x6⟩ := hIr.x6
      obtain ⟨b30, x30, so, Sg, xL⟩ := hIr.2.2.2.2.2.2.2.2.1
      have em : ∀ t, (t = 60 ∨ t = 61) → M4 t = none := fun t ht => by
        rw [keep4 t (by omega), keep3 t (by omega), keep2 t (by omega) (by omega)]
        exact no t (by omega)
      refine v_relabel (al2 := fun u => if u = 60 then sw_al G b6 else if u = 61 then sw_al G b30 else al u) (fun t ht => by
        have h6 : t ≠ 60 := fun e => ht (em t (Or.inl e))
        have h7 : t ≠ 61 := fun e => ht (em t (Or.inr e))
        show (if t = 60 then _ else if t = 61 then _ else al t) = al t
        rw [if_neg h6, if_neg h7]) ?_
      obtain ⟨al2, hal2⟩ : ∃ al2 : Nat → Nat, al2 = fun u => if u = 60 then sw_al G b6 else if u = 61 then sw_al G b30 else al u := ⟨_, rfl⟩
      rw [← hal2]
      have l2 : ∀ u, u ≠ 60 → u ≠ 61 → al2 u = al u := fun u h1 h2 => by rw [hal2]; show (if u = 60 then _ else if u = 61 then _ else al u) = _; rw [if_neg h1, if_neg h2]
      have l3 : ∀ u, u < 60 ∨ 62 ≤ u ∧ u < 100 + 5 * (qN s + 1) → al2 u = sw_al G u := fun u hu => (l2 u (by omega) (by omega)).trans (ea u (by omega))
      have l60 : al2 60 = sw_al G b6 := by rw [hal2]; rfl
      have l61 : al2 61 = sw_al G b30 := by rw [hal2]; rfl
      have all : ∀ t, t ≠ 0 → t ≠ 1 → t ≠ 3 → t < 100 + 5 * (qN s + 1) → M4 t = Mr t := fun t h1 h2 h3 h4 => by rw [keep4 t h1, keep3 t h3, keep2 t h2 h4]
      have fin : InvC (sw_Gw G al2) M4 (sN s σ) := by
        refine sale_fin (a := a1) (wr := wr1) (u := u1) (d := d1) hIr l3 l60 l61 (fun t ht => all t (by omega) (by omega) (by omega) (by omega)) x6 xL ?_ ?_ ?_ ?_ ?_
        · refine p0.trans ?_
          show some (sw_o 9 [.ref (sw_al G 1), .ref (sw_al G 3), sw_i ((qN s + 1 : Nat) : Int), .ref (sw_al G 4), sw_i (qT s), .ref (sw_al G 5), .ref (sw_al G 6), .ref (sw_al G 10), .ref (sw_al G 14), .ref (sw_al G 18), .ref (sw_al G 21), .ref (sw_al G 25), .ref (sw_al G 30)]) = some (sw_o 9 [.ref (al2 1), .ref (al2 3), sw_i ((qN s + 1 : Nat) : Int), .ref (al2 4), sw_i (qT s), .ref (al2 5), .ref (al2 6), .ref (al2 10), .ref (al2 14), .ref (al2 18), .ref (al2 21), .ref (al2 25), .ref (al2 30)])
          rw [l3 1 (by omega), l3 3 (by omega), l3 4 (by omega), l3 5 (by omega), l3 6 (by omega), l3 10 (by omega), l3 14 (by omega), l3 18 (by omega), l3 21 (by omega), l3 25 (by omega), l3 30 (by omega)]
        · rw [keep4 3 (by omega), ← hM3]
          have hf : upR (fun k => if 0 ≤ k ∧ k < (qN s : Int) then some (sw_al G (100 + 5 * k.toNat)) else none) (qN s : Int) (some (al (100 + 5 * qN s))) = (fun k : Int => if 0 ≤ k ∧ k < ((qN s + 1 : Nat) : Int) then some (al2 (100 + 5 * k.toNat)) else none) := by
            funext k
            show (if k = (qN s : Int) then some (al (100 + 5 * qN s)) else if 0 ≤ k ∧ k < (qN s : Int) then some (sw_al G (100 + 5 * k.toNat)) else none) = _
            by_cases c : k = (qN s : Int)
            · subst c
              rw [if_pos rfl, if_pos (by omega), Int.toNat_natCast, l2 _ (by omega) (by omega)]
            · rw [if_neg c]
              by_cases c2 : 0 ≤ k ∧ k < (qN s : Int)
              · rw [if_pos c2, if_pos (by omega), l3 _ (by omega)]
              · rw [if_neg c2, if_neg (by omega)]
          show some (sw_ra 8 (upR (fun k => if 0 ≤ k ∧ k < (qN s : Int) then some (sw_al G (100 + 5 * k.toNat)) else none) (qN s : Int) (some (al (100 + 5 * qN s))))) = some (sw_ra 8 (fun k : Int => if 0 ≤ k ∧ k < ((qN s + 1 : Nat) : Int) then some (al2 (100 + 5 * k.toNat)) else none))
          rw [hf]
        · rw [keep4 1 (by omega), keep3 1 (by omega), hM2]
          show some (sw_o 7 [.ref (al 2), sw_i 0, .ref (al (100 + 5 * (qN s + 1))), sw_i a1, sw_i wr1]) = some (sw_o 7 [.ref (al2 2), sw_i 0, .ref (al2 (100 + 5 * (qN s + 1))), sw_i a1, sw_i wr1])
          rw [l2 2 (by omega) (by omega), l2 _ (by omega) (by omega)]
        · have hh : sw_hold M4 (cS (sw_Gw G al) (100 + 5 * (qN s + 1)) σ0 0 0) := fun c hc => by
            have hc5 : c.1 = 100 + 5 * (qN s + 1) ∨ c.1 = 100 + 5 * (qN s + 1) + 1 ∨ c.1 = 100 + 5 * (qN s + 1) + 2 ∨ c.1 = 100 + 5 * (qN s + 1) + 3 ∨ c.1 = 100 + 5 * (qN s + 1) + 4 := by
              simp only [List.mem_cons, List.not_mem_nil, or_false] at hc
              rcases hc with rfl | rfl | rfl | rfl | rfl <;> simp
            rw [keep4 c.1 (by omega), keep3 c.1 (by omega), hM2]
            have hnd : sw_nd [1, 100 + 5 * (qN s + 1), 100 + 5 * (qN s + 1) + 1, 100 + 5 * (qN s + 1) + 2, 100 + 5 * (qN s + 1) + 3, 100 + 5 * (qN s + 1) + 4] := sw_nd_of (by simp; omega)
            exact sw_hold_all (M := Mr) (cs := cT (sw_Gw G al) (100 + 5 * (qN s + 1)) 0 a1 wr1 :: cS (sw_Gw G al) (100 + 5 * (qN s + 1)) σ0 0 0) hnd c (List.mem_cons_of_mem _ hc)
          refine sw_hold1 ?_ hh.tl
          refine hh.hd.trans ?_
          show some (sw_o 5 [.ref (al (100 + 5 * (qN s + 1) + 1)), .ref (al (100 + 5 * (qN s + 1) + 2)), .ref (al (100 + 5 * (qN s + 1) + 3)), .ref (al (100 + 5 * (qN s + 1) + 4)), sw_i 0, sw_i 0, sw_i 2, sw_i 0, sw_i 0, sw_j 0, sw_j 0]) = some (sw_o 5 [.ref (al2 (100 + 5 * (qN s + 1) + 1)), .ref (al2 (100 + 5 * (qN s + 1) + 2)), .ref (al2 (100 + 5 * (qN s + 1) + 3)), .ref (al2 (100 + 5 * (qN s + 1) + 4)), sw_i 0, sw_i 0, sw_i 2, sw_i 0, sw_i 0, sw_j 0, sw_j 0])
          rw [l2 _ (by omega) (by omega), l2 _ (by omega) (by omega), l2 _ (by omega) (by omega), l2 _ (by omega) (by omega)]
        · have hh : sw_hold M4 (cS G (100 + 5 * qN s) σ u1 d1) := fun c hc => by
            have hc5 : c.1 = 100 + 5 * qN s ∨ c.1 = 100 + 5 * qN s + 1 ∨ c.1 = 100 + 5 * qN s + 2 ∨ c.1 = 100 + 5 * qN s + 3 ∨ c.1 = 100 + 5 * qN s + 4 := by
              simp only [List.mem_cons, List.not_mem_nil, or_false] at hc
              rcases hc with rfl | rfl | rfl | rfl | rfl <;> simp
            rw [all c.1 (by omega) (by omega) (by omega) (by omega)]
            exact hd c hc
          refine sw_hold1 ?_ hh.tl
          refine hh.hd.trans ?_
          show some (sw_o 5 [.ref (sw_al G (100 + 5 * qN s + 1)), .ref (sw_al G (100 + 5 * qN s + 2)), .ref (sw_al G (100 + 5 * qN s + 3)), .ref (sw_al G (100 + 5 * qN s + 4)), sw_i (sSg σ), sw_i (sTr σ), sw_i (sNb σ), sw_i (sLe σ), sw_i (sWy σ), sw_j u1, sw_j d1]) = some (sw_o 5 [.ref (al2 (100 + 5 * qN s + 1)), .ref (al2 (100 + 5 * qN s + 2)), .ref (al2 (100 + 5 * qN s + 3)), .ref (al2 (100 + 5 * qN s + 4)), sw_i (sSg σ), sw_i (sTr σ), sw_i (sNb σ), sw_i (sLe σ), sw_i (sWy σ), sw_j u1, sw_j d1])
          rw [l3 _ (by omega), l3 _ (by omega), l3 _ (by omega), l3 _ (by omega)]
      refine va_iretA (G := sw_Gw G al2) rfl dX9_sale_54 rfl (Nat.le_of_ble_eq_true rfl) (Nat.le_of_ble_eq_true rfl) ⟨Va, Wa, Oa, St, fun h => absurd q1 h, fun _ => ⟨?_, l3, by rw [hσ]; exact fin, (f1.c (by decide)).tr (fun t h1 h2 => by rw [all t (by omega) (by omega) (by omega) (by omega), kp t (by omega) (by omega) (by omega)])⟩⟩
      show some (sw_i ((qN s : Int) + 1 - 1)) = some (sw_i (qN s : Int))
      rw [show (qN s : Int) + 1 - 1 = (qN s : Int) by omega]
    · skip
      refine v_iconst dX9_sale_20 ?_
      exact va_iretA rfl dX9_sale_21 rfl (Nat.zero_le _) (Nat.zero_le _) ⟨Va, Wa, Oa, St, fun _ => ⟨rfl, rfl, hI1, f1.c (by decide)⟩, fun h => absurd h q1⟩
end

