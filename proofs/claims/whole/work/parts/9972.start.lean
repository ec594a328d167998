/-! the law: both objects made -/
section
variable {G : sw_G} {M : sw_M} {s : CSt}
/-- the same object, where its tags' places are told anew (two of scratch cells by other tags) -/
theorem InvC.gw {al : Nat → Nat} {b6 b30 : Nat} {x so : Int} {Sg : Int → Int} {m6 le6 wt wo hi al6 nx su : Int} (hI : InvC G M s) (hal : ∀ u, u < 60 ∨ 62 ≤ u ∧ u < 70 ∨ 100 ≤ u → al u = sw_al G u) (h60 : al 60 = sw_al G b6) (h61 : al 61 = sw_al G b30) (x6 : M 6 = some (cC G b6 m6 le6 wt wo hi al6 nx su).2) (xL : sw_hold M (cLs G b30 x (qM s) (qK s) so (qR s) (qG s) Sg)) : InvC (sw_Gw G al) M s := by
  obtain ⟨i0, i3, i4, i5, i2, ⟨at', wr', i1⟩, ⟨sg, tr, nb, le, wy, Va, Wa, Oa, St, ud, dd, id'⟩, is', -, ic⟩ := hI
  refine ⟨?_, ?_, i4, i5, i2, ⟨at', wr', ?_⟩, ⟨sg, tr, nb, le, wy, Va, Wa, Oa, St, ud, dd, ?_⟩, fun k hk => ?_, ⟨61, x, so, Sg, ?_⟩, fun t h1 h2 => ?_⟩
  · show M 0 = some (sw_o 9 [.ref (al 1), .ref (al 3), sw_i (qN s : Int), .ref (al 4), sw_i (qT s), .ref (al 5), .ref (al 6), .ref (al 10), .ref (al 14), .ref (al 18), .ref (al 21), .ref (al 25), .ref (al 30)])
    rw [hal 1 (by omega), hal 3 (by omega), hal 4 (by omega), hal 5 (by omega), hal 6 (by omega), hal 10 (by omega), hal 14 (by omega), hal 18 (by omega), hal 21 (by omega), hal 25 (by omega), hal 30 (by omega)]
    exact i0
  · have h : (fun k : Int => if 0 ≤ k ∧ k < ((qN s : Nat) : Int) then some (sw_al (sw_Gw G al) (100 + 5 * k.toNat)) else none) = (fun k : Int => if 0 ≤ k ∧ k < ((qN s : Nat) : Int) then some (sw_al G (100 + 5 * k.toNat)) else none) := funext fun k => by
      by_cases c : 0 ≤ k ∧ k < ((qN s : Nat) : Int)
      · rw [if_pos c, if_pos c]
        exact congrArg some (hal (100 + 5 * k.toNat) (by omega))
      · rw [if_neg c, if_neg c]
    show M 3 = some (sw_ra 8 (fun k : Int => if 0 ≤ k ∧ k < ((qN s : Nat) : Int) then some (sw_al (sw_Gw G al) (100 + 5 * k.toNat)) else none))
    rw [h]; exact i3
  · show M 1 = some (sw_o 7 [.ref (al 2), sw_i (qL s), .ref (al (100 + 5 * qN s)), sw_i at', sw_i wr'])
    rw [hal 2 (by omega), hal (100 + 5 * qN s) (by omega)]
    exact i1
  · refine sw_hold1 ?_ id'.tl
    have hd := id'.hd
    show M (100 + 5 * qN s) = some (sw_o 5 [.ref (al (100 + 5 * qN s + 1)), .ref (al (100 + 5 * qN s + 2)), .ref (al (100 + 5 * qN s + 3)), .ref (al (100 + 5 * qN s + 4)), sw_i sg, sw_i tr, sw_i nb, sw_i le, sw_i wy, sw_j ud, sw_j dd])
    rw [hal (100 + 5 * qN s + 1) (by omega), hal (100 + 5 * qN s + 2) (by omega), hal (100 + 5 * qN s + 3) (by omega), hal (100 + 5 * qN s + 4) (by omega)]
    exact hd
  · obtain ⟨u', d', hu⟩ := is' k hk
    refine ⟨u', d', sw_hold1 ?_ hu.tl⟩
    have hd := hu.hd
    show M (100 + 5 * k) = some (sw_o 5 [.ref (al (100 + 5 * k + 1)), .ref (al (100 + 5 * k + 2)), .ref (al (100 + 5 * k + 3)), .ref (al (100 + 5 * k + 4)), sw_i (sSg (qS s k)), sw_i (sTr (qS s k)), sw_i (sNb (qS s k)), sw_i (sLe (qS s k)), sw_i (sWy (qS s k)), sw_j u', sw_j d'])
    rw [hal (100 + 5 * k + 1) (by omega), hal (100 + 5 * k + 2) (by omega), hal (100 + 5 * k + 3) (by omega), hal (100 + 5 * k + 4) (by omega)]
    exact hd
  · refine sw_hold1 ?_ xL.tl
    show M 30 = some (sw_o 2 [.ref (al 31), .ref (al 32), .ref (al 33), .ref (al 61), sw_j x, sw_i (qM s), sw_i (qK s), sw_i so])
    rw [hal 31 (by omega), hal 32 (by omega), hal 33 (by omega), h61]
    exact xL.hd
  · obtain ⟨ob, g1, g2⟩ := ic t h1 h2
    refine ⟨ob, g1, ?_⟩
    have ht : t = 6 ∨ t = 7 ∨ t = 8 ∨ t = 9 ∨ t = 10 ∨ t = 11 ∨ t = 12 ∨ t = 13 ∨ t = 14 ∨ t = 15 ∨ t = 16 ∨ t = 17 ∨ t = 18 ∨ t = 19 ∨ t = 20 ∨ t = 21 ∨ t = 22 ∨ t = 23 ∨ t = 24 ∨ t = 25 ∨ t = 26 ∨ t = 27 ∨ t = 28 ∨ t = 29 := by omega
    rcases ht with rfl | rfl | rfl | rfl | rfl | rfl | rfl | rfl | rfl | rfl | rfl | rfl | rfl | rfl | rfl | rfl | rfl | rfl | rfl | rfl | rfl | rfl | rfl | rfl
    · have e : ob = (cC G b6 m6 le6 wt wo hi al6 nx su).2 := Option.some.inj (g1.symm.trans x6)
      refine ⟨60, m6, le6, wt, wo, hi, al6, nx, su, ?_⟩
      rw [e]
      show sw_o 1 [.ref (sw_al G 7), .ref (sw_al G 8), .ref (sw_al G 9), .ref (sw_al G b6), sw_i m6, sw_i le6, sw_j wt, sw_j wo, sw_i hi, sw_i al6, sw_i nx, sw_i su] = sw_o 1 [.ref (al 7), .ref (al 8), .ref (al 9), .ref (al 60), sw_i m6, sw_i le6, sw_j wt, sw_j wo, sw_i hi, sw_i al6, sw_i nx, sw_i su]
      rw [hal 7 (by omega), hal 8 (by omega), hal 9 (by omega), h60]
    · exact g2
    · exact g2
    · exact g2
    · obtain ⟨a, tk, so, un, rfl⟩ := g2
      refine ⟨a, tk, so, un, ?_⟩
      show sw_o 6 [sw_j a, sw_j tk, sw_j so, sw_j un, .ref (sw_al G 11), .ref (sw_al G 12), .ref (sw_al G 13)] = sw_o 6 [sw_j a, sw_j tk, sw_j so, sw_j un, .ref (al 11), .ref (al 12), .ref (al 13)]
      rw [hal 11 (by omega), hal 12 (by omega), hal 13 (by omega)]
    · exact g2
    · exact g2
    · exact g2
    · obtain ⟨a, b, rfl⟩ := g2
      refine ⟨a, b, ?_⟩
      show sw_o 4 [.ref (sw_al G 15), .ref (sw_al G 16), sw_j a, sw_j b, .ref (sw_al G 17)] = sw_o 4 [.ref (al 15), .ref (al 16), sw_j a, sw_j b, .ref (al 17)]
      rw [hal 15 (by omega), hal 16 (by omega), hal 17 (by omega)]
    · exact g2
    · exact g2
    · exact g2
    · have e : ob = sw_o 0 [.ref (sw_al G 19), .ref (sw_al G 20)] := g2
      show ob = sw_o 0 [.ref (al 19), .ref (al 20)]
      rw [hal 19 (by omega), hal 20 (by omega), e]
    · exact g2
    · exact g2
    · obtain ⟨a, b, c, rfl⟩ := g2
      refine ⟨a, b, c, ?_⟩
      show sw_o 8 [.ref (sw_al G 22), .ref (sw_al G 23), .ref (sw_al G 24), sw_i a, sw_i b, sw_i c] = sw_o 8 [.ref (al 22), .ref (al 23), .ref (al 24), sw_i a, sw_i b, sw_i c]
      rw [hal 22 (by omega), hal 23 (by omega), hal 24 (by omega)]
    · exact g2
    · exact g2
    · exact g2
    · obtain ⟨a, b, c, rfl⟩ := g2
      refine ⟨a, b, c, ?_⟩
      show sw_o 3 [.ref (sw_al G 26), .ref (sw_al G 27), .ref (sw_al G 28), .ref (sw_al G 29), sw_i a, sw_i b, sw_i c] = sw_o 3 [.ref (al 26), .ref (al 27), .ref (al 28), .ref (al 29), sw_i a, sw_i b, sw_i c]
      rw [hal 26 (by omega), hal 27 (by omega), hal 28 (by omega), hal 29 (by omega)]
    · exact g2
    · exact g2
    · exact g2
    · exact g2
end
section
variable {l : Launch} {G : sw_G} {b L : Nat} {xs : Nat → Int32}
theorem law_start (hlf : l.stackTraces = false) (hL : L ≤ 3584) : V l G μL (sw_EL b L xs) ZL 0 [(0, .ref b)] [] (fun _ => none) 0 0 := by
  refine v_mem (M' := sw_ov (fun _ => none) []) rfl ?_
  refine v_new 0 (ci := 9) [.null, .null, sw_i 0, .null, sw_i 0, .null, .null, .null, .null, .null, .null, .null, .null] tyX9 rfl u_X9 tyX9_ok cl_L_8 un_X9 ui_X9 ft_X9 (by simp) rfl (Nat.le_of_ble_eq_true rfl) (Nat.le_of_ble_eq_true rfl) dL_law_0 (fun al1 ha1 => ?_)
  refine v_dup dL_law_3 rfl ?_
  refine v_mem (M' := sw_ov (fun _ => none) [(0, sw_o 9 [.null, .null, sw_i 0, .null, sw_i 0, .null, .null, .null, .null, .null, .null, .null, .null])]) rfl ?_
  obtain ⟨M1, hM1⟩ : ∃ N, sw_ov (fun _ => none) [(0, sw_o 9 [.null, .null, sw_i 0, .null, sw_i 0, .null, .null, .null, .null, .null, .null, .null, .null])] = N := ⟨_, rfl⟩
  have h10 : M1 0 = some (sw_o 9 [.null, .null, sw_i 0, .null, sw_i 0, .null, .null, .null, .null, .null, .null, .null, .null]) := by rw [← hM1]; rfl
  have hn : ∀ t, t ≠ 0 → M1 t = none := fun t h => by rw [← hM1]; exact if_neg h
  rw [hM1]
  refine v_callI (t := 0) (K9_init (G := sw_Gw G al1) h10 (hn 1 (by decide)) (hn 2 (by decide)) (hn 100 (by decide)) (hn 101 (by decide)) (hn 102 (by decide)) (hn 103 (by decide)) (hn 104 (by decide)) (hn 3 (by decide)) (hn 4 (by decide)) (hn 5 (by decide)) (hn 6 (by decide)) (hn 7 (by decide)) (hn 8 (by decide)) (hn 9 (by decide)) (hn 40 (by decide)) (hn 41 (by decide)) (hn 42 (by decide)) (hn 43 (by decide)) (hn 44 (by decide)) (hn 10 (by decide)) (hn 11 (by decide)) (hn 12 (by decide)) (hn 13 (by decide)) (hn 14 (by decide)) (hn 15 (by decide)) (hn 16 (by decide)) (hn 17 (by decide)) (hn 18 (by decide)) (hn 19 (by decide)) (hn 20 (by decide)) (hn 21 (by decide)) (hn 22 (by decide)) (hn 23 (by decide)) (hn 24 (by decide)) (hn 25 (by decide)) (hn 26 (by decide)) (hn 27 (by decide)) (hn 28 (by decide)) (hn 29 (by decide)) (hn 30 (by decide)) (hn 31 (by decide)) (hn 32 (by decide)) (hn 33 (by decide)) (hn 45 (by decide)) (hn 46 (by decide)) (hn 47 (by decide)) (hn 48 (by decide)) (hn 49 (by decide))) (Nat.le_of_ble_eq_true rfl) (Nat.le_of_ble_eq_true rfl) ⟨mm_X9_init, mi_X9_init⟩ rfl rfl ml_L_19 ⟨(Nat.le_of_ble_eq_true rfl), (Nat.le_of_ble_eq_true rfl)⟩ (by decide +kernel) rfl rfl (Nat.le_of_ble_eq_true rfl) dL_law_4 (fun al2 r M2 h => ?_)
  obtain ⟨rfl, ha2, hI, hf2⟩ := h
  rw [sw_GwGw] at hI ⊢
  have e2 : al1 0 = al2 0 := (ha2 0 (by simp)).symm
  rw [e2]
  have h2n : ∀ t, 60 ≤ t → t < 100 → M2 t = none := fun t h1 h2 => (hf2 t (by simp; omega)).trans (hn t (by omega))
  refine v_astore_n dL_law_7 (Nat.le_of_ble_eq_true rfl) ?_
  refine v_mem (M' := sw_ov M2 []) rfl ?_
  refine v_new 70 (ci := 10) fl0R tyX10 rfl u_X10 tyX10_ok cl_L_20 un_X10 ui_X10 ft_X10 (by simp) (h2n 70 (by omega) (by omega)) (Nat.le_of_ble_eq_true rfl) (Nat.le_of_ble_eq_true rfl) dL_law_8 (fun al3 ha3 => ?_)
  rw [sw_GwGw]
  refine v_dup dL_law_11 rfl ?_
  refine v_mem (M' := sw_ov M2 [(70, sw_o 10 fl0R)]) rfl ?_
  refine v_callI (t := 70) (K10_init (G := sw_Gw G al3) rfl (fun t h1 h2 => (if_neg (show ¬ t = 70 by omega)).trans (h2n t (by omega) (by omega)))) (Nat.le_of_ble_eq_true rfl) (Nat.le_of_ble_eq_true rfl) ⟨mm_X10_init, mi_X10_init⟩ rfl rfl ml_L_22 ⟨(Nat.le_of_ble_eq_true rfl), (Nat.le_of_ble_eq_true rfl)⟩ (by decide +kernel) rfl rfl (Nat.le_of_ble_eq_true rfl) dL_law_12 (fun al4 r M3 h => ?_)
  obtain ⟨rfl, ha4, hIR, hf4⟩ := h
  rw [sw_GwGw] at hIR ⊢
  refine v_astore_n dL_law_15 (Nat.le_of_ble_eq_true rfl) ?_
  refine v_iconst dL_law_16 ?_
  refine v_mem (M' := sw_ov M3 []) rfl ?_
  have h3n : ∀ t, 60 ≤ t → t < 70 ∨ 93 ≤ t → t < 100 → M3 t = none := fun t h1 h2 h3 => (hf4 t (by omega)).trans ((if_neg (show ¬ t = 70 by omega)).trans (h2n t (by omega) (by omega)))
  refine v_newj 95 (N := 1) rfl (Nat.le_of_ble_eq_true rfl) ua_long (by simp) (h3n 95 (by omega) (by omega) (by omega)) (Nat.le_of_ble_eq_true rfl) (Nat.le_of_ble_eq_true rfl) dL_law_17 (fun al5 ha5 => ?_)
  rw [sw_GwGw]
  refine v_astore_n dL_law_19 (Nat.le_of_ble_eq_true rfl) ?_
  refine v_iconst dL_law_20 ?_
  refine v_istore dL_law_21 (Nat.le_of_ble_eq_true rfl) ?_
  refine v_mem (M' := sw_ov M3 [(95, sw_la 1 (fun _ => 0))]) rfl ?_
  obtain ⟨M4, hM4⟩ : ∃ N, sw_ov M3 [(95, sw_la 1 (fun _ => 0))] = N := ⟨_, rfl⟩
  have h495 : M4 95 = some (sw_la 1 (fun _ => 0)) := by rw [← hM4]; rfl
  have h4f : ∀ t, t ≠ 95 → M4 t = M3 t := fun t h => by rw [← hM4]; exact if_neg h
  rw [hM4]
  have hI4 : InvC (sw_Gw G al2) M4 s0 := hI.fx (fun t ht => (h4f t (by omega)).trans ((hf4 t (by omega)).trans (if_neg (show ¬ t = 70 by omega))))
  have hIR4 : InvR (sw_Gw G al4) M4 s0 := hIR.fx (fun t h1 h2 => h4f t (by omega))
  obtain ⟨b6, m6, le6, wt, wo, hi, al6, nx, su, x6⟩ := hI4.x6
  obtain ⟨b30, x, so, Sg, xL⟩ := hI4.2.2.2.2.2.2.2.2.1
  refine v_relabel (al2 := fun u => if u = 60 then al2 b6 else if u = 61 then al2 b30 else al5 u) (fun t ht => ?_) ?_
  · by_cases c : t = 60
    · exact absurd ((h4f t (by omega)).trans (h3n t (by omega) (by omega) (by omega))) ht
    · by_cases c1 : t = 61
      · exact absurd ((h4f t (by omega)).trans (h3n t (by omega) (by omega) (by omega))) ht
      · show (if t = 60 then al2 b6 else if t = 61 then al2 b30 else al5 t) = al5 t
        rw [if_neg c, if_neg c1]
  obtain ⟨al7, h7⟩ : ∃ al7 : Nat → Nat, al7 = fun u => if u = 60 then al2 b6 else if u = 61 then al2 b30 else al5 u := ⟨_, rfl⟩
  rw [← h7]
  have h760 : al7 60 = al2 b6 := by rw [h7]; rfl
  have h761 : al7 61 = al2 b30 := by rw [h7]; rfl
  have h7o : ∀ u, u ≠ 60 → u ≠ 61 → al7 u = al5 u := fun u h1 h2 => by rw [h7]; exact (if_neg h1).trans (if_neg h2)
  have g2 : ∀ u, u < 60 ∨ 62 ≤ u ∧ u < 70 ∨ 100 ≤ u → al7 u = al2 u := fun u h => (h7o u (by omega) (by omega)).trans ((ha5 u (by omega)).trans ((ha4 u (by omega)).trans (ha3 u (by omega))))
  have g4 : ∀ u, 70 ≤ u → u < 93 → al7 u = al4 u := fun u h1 h2 => (h7o u (by omega) (by omega)).trans (ha5 u (by omega))
  refine v_sub (lv' := LV (sw_Gw G al7) b 0) (sw_h1 rfl (sw_h1 (congrArg (fun q => some (Value.ref q)) (g2 0 (by omega)).symm) (sw_h1 (congrArg (fun q => some (Value.ref q)) ((g4 70 (by omega) (by omega)).trans (ha4 70 (by omega))).symm) (sw_h1 (congrArg (fun q => some (Value.ref q)) (h7o 95 (by omega) (by omega)).symm) (sw_h1 rfl sw_h0))))) ?_
  refine v_room (uc' := 100) (us' := 4000) (Nat.le_of_ble_eq_true rfl) (Nat.le_of_ble_eq_true rfl) ?_
  have hC : InvC (sw_Gw (sw_Gw G al2) al7) M4 s0 := hI4.gw g2 h760 h761 x6 xL
  have hR : InvR (sw_Gw (sw_Gw G al4) al7) M4 s0 := hIR4.gw g4
  exact law_loop hlf hL L 0 (sw_Gw G al7) M4 s0 100 4000 (by omega) (by omega) (by omega) (by omega) (by omega) ⟨ok_s0, hC, hR, _, h495⟩
end

