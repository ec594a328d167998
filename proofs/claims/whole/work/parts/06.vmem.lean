/-! THE V LAYER, second part: fields, arrays, what is made, calls -/
theorem sw_nd_get : ∀ {l : List Nat} {i j a b : Nat}, sw_nd l → l[i]? = some a → l[j]? = some b → i ≠ j → a ≠ b
  | [], i, j, a, b, _, h, _, _ => by simp at h
  | x :: l, 0, 0, a, b, _, _, _, n => absurd rfl n
  | x :: l, 0, j + 1, a, b, hn, h, h2, _ => by
    have e : x = a := by simpa using h
    have h3 : l[j]? = some b := by simpa using h2
    exact e ▸ hn.1 b (List.mem_of_getElem? h3)
  | x :: l, i + 1, 0, a, b, hn, h, h2, _ => by
    have e : x = b := by simpa using h2
    have h3 : l[i]? = some a := by simpa using h
    exact fun q => hn.1 a (List.mem_of_getElem? h3) (e.trans q.symm)
  | x :: l, i + 1, j + 1, a, b, hn, h, h2, n => by
    have h3 : l[i]? = some a := by simpa using h
    have h4 : l[j]? = some b := by simpa using h2
    exact sw_nd_get hn.2 h3 h4 (fun q => n (by rw [q]))
theorem sw_nd_pick {cs : List sw_Ce} (hn : sw_nd (cs.map Prod.fst)) : ∀ {is : List Nat} {wc : List sw_Ce}, va_nd is = true → is.map (fun i => cs[i]?) = wc.map some → sw_nd (wc.map Prod.fst)
  | [], [], _, _ => trivial
  | [], c :: wc, _, h => by simp at h
  | i :: is, [], _, h => by simp at h
  | i :: is, c :: wc, hi, h => by
    have h1 : cs[i]? = some c := by
      have := congrArg List.head? h
      simpa using this
    have h2 : is.map (fun i => cs[i]?) = wc.map some := by
      have := congrArg List.tail h
      simpa using this
    have hi2 : i ∉ is ∧ va_nd is = true := by
      unfold va_nd at hi
      simpa using hi
    refine ⟨fun b hb => ?_, sw_nd_pick hn hi2.2 h2⟩
    obtain ⟨x, hx, rfl⟩ := List.mem_map.mp hb
    obtain ⟨k, hk⟩ := List.getElem?_of_mem hx
    have h3 : (is.map (fun i => cs[i]?))[k]? = some (some x) := by rw [h2, List.getElem?_map, hk]; rfl
    rw [List.getElem?_map] at h3
    cases hik : is[k]? with
    | none => rw [hik] at h3; cases h3
    | some j =>
      rw [hik] at h3
      have h4 : cs[j]? = some x := Option.some.inj h3
      have hij : i ≠ j := fun q => hi2.1 (q ▸ List.mem_of_getElem? hik)
      exact sw_nd_get hn (i := i) (j := j) (by rw [List.getElem?_map, h1]; rfl) (by rw [List.getElem?_map, h4]; rfl) hij
theorem sw_ov_app {M : sw_M} {t : Nat} {x : sw_Ob} : ∀ {cs : List sw_Ce}, t ∉ cs.map Prod.fst → sw_up (sw_ov M cs) t x = sw_ov M (cs ++ [(t, x)])
  | [], _ => rfl
  | c :: cs, h => by
    have h1 : ¬ (t = c.1 ∨ t ∈ cs.map Prod.fst) := by simpa using h
    have ih := sw_ov_app (M := M) (x := x) (cs := cs) (fun e => h1 (Or.inr e))
    funext u
    show (if u = t then some x else if u = c.1 then some c.2 else sw_ov M cs u) = (if u = c.1 then some c.2 else sw_ov M (cs ++ [(t, x)]) u)
    rw [← ih]
    unfold sw_up
    by_cases e : u = t
    · subst e
      rw [if_pos rfl, if_neg (fun q => h1 (Or.inl q)), if_pos rfl]
    · rw [if_neg e, if_neg e]
section SWM
variable {l : Launch} {G : sw_G} {μ : sw_Mt} {E : State → (Nat → Prop) → Prop} {Z : sw_Z} {pc : Nat} {lv : List (Nat × Value)} {st : List Value} {M : sw_M} {cs : List sw_Ce} {uc us : Nat}
theorem v_getf (q k : Nat) {t ci ix : Nat} {fs : List Value} {v : Value} (hF : sw_fl (mY μ).cls ix ci k) (hn : sw_nd (cs.map Prod.fst)) (hq : cs[q]? = some (t, sw_o ci fs)) (hv : fs[k]? = some v) (hd : decode (mC μ) pc = .ok (.getfield ix, 3)) (kk : V l G μ E Z (pc + 3) lv (v :: st) (sw_ov M cs) uc us) : V l G μ E Z pc lv (.ref (sw_al G t) :: st) (sw_ov M cs) uc us := by
  intro p e R s m args below meth c A H locs ws ls C hP hD hS hR hl
  obtain ⟨q0, hq0⟩ := hR.1 t _ (sw_ov_at hn hq)
  obtain ⟨Cn, T, N, ty0, h1, h2, h3, h4, -⟩ := hF
  exact va_get C.1 C.2.1 C.2.2.2.2.1 (fun w hw => List.mem_cons_of_mem _ (h2 w hw)) C.2.2.2.1 C.2.2.2.2.2.1.1 hP q0 hq0 h1 k h3 (C.2.2.2.2.1 _ (List.mem_cons_of_mem _ h4)) (fun _ h => h) hv hd (kk p e R s m args below meth c A H locs ws ls C hP hD hS hR hl)
theorem v_putf (q k : Nat) {t ci ix : Nat} {fs : List Value} {v : Value} {ty : FieldType} (hF : sw_fp (mY μ).cls ix ci k false ty) (hn : sw_nd (cs.map Prod.fst)) (hq : cs[q]? = some (t, sw_o ci fs)) (hna : narrow ty v = v) (hfi : fits ty v = true) (hle : k < fs.length) (hd : decode (mC μ) pc = .ok (.putfield ix, 3)) (kk : V l G μ E Z (pc + 3) lv (st) (sw_ov M (cs.set q (t, sw_o ci (fs.set k v)))) uc us) : V l G μ E Z pc lv (v :: .ref (sw_al G t) :: st) (sw_ov M cs) uc us := by
  intro p e R s m args below meth c A H locs ws ls C hP hD hS hR hl
  obtain ⟨q0, hq0⟩ := hR.1 t _ (sw_ov_at hn hq)
  obtain ⟨Cn, T, N, ty0, h1, h2, h3, h4, h5, h6, h7, h8, -⟩ := hF
  refine va_put C.1 C.2.1 C.2.2.2.2.1 (fun w hw => List.mem_cons_of_mem _ (h2 w hw)) ty0 h5 h6 C.2.2.2.1 C.2.2.2.2.2.1.1 hP hD hS q0 hq0 h1 k h3 (C.2.2.2.2.1 _ (List.mem_cons_of_mem _ h4)) (fun _ h => h) h7 h8 hna hfi hle hd (fun H1 locs1 hP1 hD1 hS1 => ?_)
  have hR1 := hR.set (ob' := sw_o ci (fs.set k v)) hD (sw_ov_at hn hq) hq0
  rw [sw_ov_set hn hq] at hR1
  exact kk p e R s m args below meth c A H1 locs1 _ ls C hP1 hD1 hS1 hR1 hl
theorem v_putF (q k : Nat) {t ci ix : Nat} {fs : List Value} {v : Value} {ty : FieldType} (hi : (mY μ).name = "<init>") (hF : sw_fp (mY μ).cls ix ci k true ty) (hn : sw_nd (cs.map Prod.fst)) (hq : cs[q]? = some (t, sw_o ci fs)) (hna : narrow ty v = v) (hfi : fits ty v = true) (hle : k < fs.length) (hd : decode (mC μ) pc = .ok (.putfield ix, 3)) (kk : V l G μ E Z (pc + 3) lv (st) (sw_ov M (cs.set q (t, sw_o ci (fs.set k v)))) uc us) : V l G μ E Z pc lv (v :: .ref (sw_al G t) :: st) (sw_ov M cs) uc us := by
  intro p e R s m args below meth c A H locs ws ls C hP hD hS hR hl
  obtain ⟨q0, hq0⟩ := hR.1 t _ (sw_ov_at hn hq)
  obtain ⟨Cn, T, N, ty0, h1, h2, h3, h4, h5, h6, h7, h8, h9⟩ := hF
  refine va_putF C.1 C.2.1 C.2.2.2.2.1 (fun w hw => List.mem_cons_of_mem _ (h2 w hw)) ty0 h5 h6 C.2.2.2.1 C.2.2.2.2.2.1.1 hP hD hS q0 hq0 h1 k h3 (C.2.2.2.2.1 _ (List.mem_cons_of_mem _ h4)) (fun _ h => h) h7 (C.2.2.2.2.2.2.2.2.2.2.2.2.2.1.trans hi) (h9 rfl) h8 hna hfi hle hd (fun H1 locs1 hP1 hD1 hS1 => ?_)
  have hR1 := hR.set (ob' := sw_o ci (fs.set k v)) hD (sw_ov_at hn hq) hq0
  rw [sw_ov_set hn hq] at hR1
  exact kk p e R s m args below meth c A H1 locs1 _ ls C hP1 hD1 hS1 hR1 hl
theorem v_iald (q : Nat) {t n : Nat} {f : Int → Int} {z : Int} (hn : sw_nd (cs.map Prod.fst)) (hq : cs[q]? = some (t, sw_ia n f)) (h31 : n < 2147483648) (h0 : 0 ≤ z) (h1 : z < n) (hd : decode (mC μ) pc = .ok (.iaload, 1)) (kk : V l G μ E Z (pc + 1) lv (sw_i (f z) :: st) (sw_ov M cs) uc us) : V l G μ E Z pc lv (sw_i z :: .ref (sw_al G t) :: st) (sw_ov M cs) uc us := by
  intro p e R s m args below meth c A H locs ws ls C hP hD hS hR hl
  obtain ⟨q0, hq0⟩ := hR.1 t _ (sw_ov_at hn hq)
  have e1 : iN (f (((iN z).toNatClampNeg : Nat) : Int)) = iN (f z) := by rw [iN_cl h0 (by omega), Int.toNat_of_nonneg h0]
  refine va_iald C.1 C.2.1 C.2.2.2.2.2.1.1 hP q0 0 hq0 rfl (iN_in h0 h1 h31) hd ?_
  first | rw [e1] | simp only [e1]
  exact kk p e R s m args below meth c A H locs ws ls C hP hD hS hR hl
theorem v_lald (q : Nat) {t n : Nat} {f : Int → Int} {z : Int} (hn : sw_nd (cs.map Prod.fst)) (hq : cs[q]? = some (t, sw_la n f)) (h31 : n < 2147483648) (h0 : 0 ≤ z) (h1 : z < n) (hd : decode (mC μ) pc = .ok (.laload, 1)) (kk : V l G μ E Z (pc + 1) lv (sw_j (f z) :: st) (sw_ov M cs) uc us) : V l G μ E Z pc lv (sw_i z :: .ref (sw_al G t) :: st) (sw_ov M cs) uc us := by
  intro p e R s m args below meth c A H locs ws ls C hP hD hS hR hl
  obtain ⟨q0, hq0⟩ := hR.1 t _ (sw_ov_at hn hq)
  have e1 : jN (f (((iN z).toNatClampNeg : Nat) : Int)) = jN (f z) := by rw [iN_cl h0 (by omega), Int.toNat_of_nonneg h0]
  refine va_lald C.1 C.2.1 C.2.2.2.2.2.1.1 hP q0 1 hq0 rfl (iN_in h0 h1 h31) hd ?_
  first | rw [e1] | simp only [e1]
  exact kk p e R s m args below meth c A H locs ws ls C hP hD hS hR hl
theorem v_zald (q : Nat) {t n : Nat} {f : Int → Int} {z : Int} (hn : sw_nd (cs.map Prod.fst)) (hq : cs[q]? = some (t, sw_za n f)) (h31 : n < 2147483648) (h0 : 0 ≤ z) (h1 : z < n) (hd : decode (mC μ) pc = .ok (.baload, 1)) (kk : V l G μ E Z (pc + 1) lv (sw_i (f z) :: st) (sw_ov M cs) uc us) : V l G μ E Z pc lv (sw_i z :: .ref (sw_al G t) :: st) (sw_ov M cs) uc us := by
  intro p e R s m args below meth c A H locs ws ls C hP hD hS hR hl
  obtain ⟨q0, hq0⟩ := hR.1 t _ (sw_ov_at hn hq)
  have e1 : iN (f (((iN z).toNatClampNeg : Nat) : Int)) = iN (f z) := by rw [iN_cl h0 (by omega), Int.toNat_of_nonneg h0]
  refine va_zald C.1 C.2.1 C.2.2.2.2.2.1.1 hP q0 2 hq0 rfl (iN_in h0 h1 h31) hd ?_
  first | rw [e1] | simp only [e1]
  exact kk p e R s m args below meth c A H locs ws ls C hP hD hS hR hl
theorem v_aldq (q : Nat) {t n : Nat} {f : Int → Option Nat} {z : Int} (hn : sw_nd (cs.map Prod.fst)) (hq : cs[q]? = some (t, sw_ra n f)) (h31 : n < 2147483648) (h0 : 0 ≤ z) (h1 : z < n) (hd : decode (mC μ) pc = .ok (.aaload, 1)) (kk : V l G μ E Z (pc + 1) lv (va_rf (f z) :: st) (sw_ov M cs) uc us) : V l G μ E Z pc lv (sw_i z :: .ref (sw_al G t) :: st) (sw_ov M cs) uc us := by
  intro p e R s m args below meth c A H locs ws ls C hP hD hS hR hl
  obtain ⟨q0, hq0⟩ := hR.1 t _ (sw_ov_at hn hq)
  have e1 : va_rf (f (((iN z).toNatClampNeg : Nat) : Int)) = va_rf (f z) := by rw [iN_cl h0 (by omega), Int.toNat_of_nonneg h0]
  refine va_aldq C.1 C.2.1 C.2.2.2.2.2.1.1 hP q0 3 hq0 rfl (iN_in h0 h1 h31) hd ?_
  first | rw [e1] | simp only [e1]
  exact kk p e R s m args below meth c A H locs ws ls C hP hD hS hR hl
theorem v_alen (q : Nat) {t : Nat} {x : Nat × vp_A} {z : Int} (hx : x.1 < 4) (hn : sw_nd (cs.map Prod.fst)) (hq : cs[q]? = some (t, .inl x)) (hz : Int32.ofNat x.2.1 = iN z) (hd : decode (mC μ) pc = .ok (.arraylength, 1)) (kk : V l G μ E Z (pc + 1) lv (sw_i z :: st) (sw_ov M cs) uc us) : V l G μ E Z pc lv (.ref (sw_al G t) :: st) (sw_ov M cs) uc us := by
  intro p e R s m args below meth c A H locs ws ls C hP hD hS hR hl
  obtain ⟨q0, hq0⟩ := hR.1 t _ (sw_ov_at hn hq)
  exact va_alen C.1 C.2.1 C.2.2.2.2.2.1.1 hP q0 x.1 hq0 (ty := sw_ty x.1) (by
    obtain ⟨k, y⟩ := x
    match k, hx with
    | 0, _ => rfl
    | 1, _ => rfl
    | 2, _ => rfl
    | 3, _ => rfl) hz hd (kk p e R s m args below meth c A H locs ws ls C hP hD hS hR hl)
theorem v_iast (q : Nat) {t n : Nat} {f : Int → Int} {z x : Int} (hn : sw_nd (cs.map Prod.fst)) (hq : cs[q]? = some (t, sw_ia n f)) (h31 : n < 2147483648) (h0 : 0 ≤ z) (h1 : z < n) (hd : decode (mC μ) pc = .ok (.iastore, 1)) (kk : V l G μ E Z (pc + 1) lv (st) (sw_ov M (cs.set q (t, sw_ia n (up f z x)))) uc us) : V l G μ E Z pc lv (sw_i x :: sw_i z :: .ref (sw_al G t) :: st) (sw_ov M cs) uc us := by
  intro p e R s m args below meth c A H locs ws ls C hP hD hS hR hl
  obtain ⟨q0, hq0⟩ := hR.1 t _ (sw_ov_at hn hq)
  refine va_iast C.1 C.2.1 C.2.2.2.2.2.1.1 hP hD hS q0 0 hq0 rfl (iN_in h0 h1 h31) hd (fun H1 locs1 hP1 hD1 hS1 => ?_)
  rw [iN_cl h0 (by omega), up_ia h0] at hP1 hD1
  have hR1 := hR.set (ob' := sw_ia n (up f z x)) hD (sw_ov_at hn hq) hq0
  rw [sw_ov_set hn hq] at hR1
  exact kk p e R s m args below meth c A H1 locs1 _ ls C hP1 hD1 hS1 hR1 hl
theorem v_last (q : Nat) {t n : Nat} {f : Int → Int} {z x : Int} (hn : sw_nd (cs.map Prod.fst)) (hq : cs[q]? = some (t, sw_la n f)) (h31 : n < 2147483648) (h0 : 0 ≤ z) (h1 : z < n) (hd : decode (mC μ) pc = .ok (.lastore, 1)) (kk : V l G μ E Z (pc + 1) lv (st) (sw_ov M (cs.set q (t, sw_la n (up f z x)))) uc us) : V l G μ E Z pc lv (sw_j x :: sw_i z :: .ref (sw_al G t) :: st) (sw_ov M cs) uc us := by
  intro p e R s m args below meth c A H locs ws ls C hP hD hS hR hl
  obtain ⟨q0, hq0⟩ := hR.1 t _ (sw_ov_at hn hq)
  refine va_last C.1 C.2.1 C.2.2.2.2.2.1.1 hP hD hS q0 1 hq0 rfl (iN_in h0 h1 h31) hd (fun H1 locs1 hP1 hD1 hS1 => ?_)
  rw [iN_cl h0 (by omega), up_la h0] at hP1 hD1
  have hR1 := hR.set (ob' := sw_la n (up f z x)) hD (sw_ov_at hn hq) hq0
  rw [sw_ov_set hn hq] at hR1
  exact kk p e R s m args below meth c A H1 locs1 _ ls C hP1 hD1 hS1 hR1 hl
theorem v_zast (q : Nat) {t n : Nat} {f : Int → Int} {z x : Int} (hx : vp_nar .boolean (iN x) = iN x) (hn : sw_nd (cs.map Prod.fst)) (hq : cs[q]? = some (t, sw_za n f)) (h31 : n < 2147483648) (h0 : 0 ≤ z) (h1 : z < n) (hd : decode (mC μ) pc = .ok (.bastore, 1)) (kk : V l G μ E Z (pc + 1) lv (st) (sw_ov M (cs.set q (t, sw_za n (up f z x)))) uc us) : V l G μ E Z pc lv (sw_i x :: sw_i z :: .ref (sw_al G t) :: st) (sw_ov M cs) uc us := by
  intro p e R s m args below meth c A H locs ws ls C hP hD hS hR hl
  obtain ⟨q0, hq0⟩ := hR.1 t _ (sw_ov_at hn hq)
  refine va_zast C.1 C.2.1 C.2.2.2.2.2.1.1 hP hD hS q0 2 hq0 rfl (iN_in h0 h1 h31) hd (fun H1 locs1 hP1 hD1 hS1 => ?_)
  rw [iN_cl h0 (by omega), hx, up_ia h0] at hP1 hD1
  have hR1 := hR.set (ob' := sw_za n (up f z x)) hD (sw_ov_at hn hq) hq0
  rw [sw_ov_set hn hq] at hR1
  exact kk p e R s m args below meth c A H1 locs1 _ ls C hP1 hD1 hS1 hR1 hl
theorem v_astq (q qv : Nat) {t n tv ci : Nat} {fs : List Value} {f : Int → Option Nat} {z : Int} {T : u_T} {N : Nat} (hc : vwCl[ci]? = some ("SorryToWin$Sale", T, N)) (hn : sw_nd (cs.map Prod.fst)) (hq : cs[q]? = some (t, sw_ra n f)) (hqv : cs[qv]? = some (tv, sw_o ci fs)) (h31 : n < 2147483648) (h0 : 0 ≤ z) (h1 : z < n) (hd : decode (mC μ) pc = .ok (.aastore, 1)) (kk : V l G μ E Z (pc + 1) lv (st) (sw_ov M (cs.set q (t, sw_ra n (upR f z (some (sw_al G tv)))))) uc us) : V l G μ E Z pc lv (.ref (sw_al G tv) :: sw_i z :: .ref (sw_al G t) :: st) (sw_ov M cs) uc us := by
  intro p e R s m args below meth c A H locs ws ls C hP hD hS hR hl
  obtain ⟨q0, hq0⟩ := hR.1 t _ (sw_ov_at hn hq)
  obtain ⟨q1, hq1⟩ := hR.1 tv _ (sw_ov_at hn hqv)
  refine va_astq C.1 C.2.1 C.2.2.2.2.2.1.1 hP hD hS q0 3 q1 ci hq0 rfl hq1 hc (iN_in h0 h1 h31) hd (fun H1 locs1 hP1 hD1 hS1 => ?_)
  rw [iN_cl h0 (by omega), up_ra h0] at hP1 hD1
  have hR1 := hR.set (ob' := sw_ra n (upR f z (some (sw_al G tv)))) hD (sw_ov_at hn hq) hq0
  rw [sw_ov_set hn hq] at hR1
  exact kk p e R s m args below meth c A H1 locs1 _ ls C hP1 hD1 hS1 hR1 hl
/-- arrays of one kind have one class -/
theorem sw_oneI {s : State} {G : sw_G} {cA : ClassId} (h : va_K (sw_D G) vwCl (sw_tys G ++ [(cA, .int)]) s) : cA = G.2.2.1 0 := by
  have h1 : va_RA s cA .int := (h.2 4 (cA, .int) rfl).2
  have h2 : va_RA s (G.2.2.1 0) .int := (h.2 0 (G.2.2.1 0, .int) rfl).2
  simp only [va_RA] at h1 h2
  exact Option.some.inj (h1.symm.trans h2)
theorem sw_oneJ {s : State} {G : sw_G} {cA : ClassId} (h : va_K (sw_D G) vwCl (sw_tys G ++ [(cA, .long)]) s) : cA = G.2.2.1 1 := by
  have h1 : va_RA s cA .long := (h.2 4 (cA, .long) rfl).2
  have h2 : va_RA s (G.2.2.1 1) .long := (h.2 1 (G.2.2.1 1, .long) rfl).2
  simp only [va_RA] at h1 h2
  exact Option.some.inj (h1.symm.trans h2)
theorem sw_oneZ {s : State} {G : sw_G} {cA : ClassId} (h : va_K (sw_D G) vwCl (sw_tys G ++ [(cA, .boolean)]) s) : cA = G.2.2.1 2 := by
  have h1 : va_RA s cA .boolean := (h.2 4 (cA, .boolean) rfl).2
  have h2 : va_RA s (G.2.2.1 2) .boolean := (h.2 2 (G.2.2.1 2, .boolean) rfl).2
  simp only [va_RA] at h1 h2
  exact Option.some.inj (h1.symm.trans h2)
theorem sw_oneQ {s : State} {G : sw_G} {cA : ClassId} (h : va_K (sw_D G) vwCl (sw_tys G ++ [(cA, .object "SorryToWin$Sale")]) s) : cA = G.2.2.1 3 := by
  have h1 : va_RA s cA (.object "SorryToWin$Sale") := (h.2 4 (cA, .object "SorryToWin$Sale") rfl).2
  have h2 : va_RA s (G.2.2.1 3) (.object "SorryToWin$Sale") := (h.2 3 (G.2.2.1 3, .object "SorryToWin$Sale") rfl).2
  simp only [va_RA] at h1 h2
  obtain ⟨-, -, -, -, -, h1⟩ := h1
  obtain ⟨-, -, -, -, -, h2⟩ := h2
  exact Option.some.inj (h1.symm.trans h2)
/-- a new object: its tag is free -/
theorem v_new (t : Nat) {ci ix N : Nat} {Cn : String} {T : u_T} (fs : List Value) (ty : Nat → FieldType) (hc : vwCl[ci]? = some (Cn, T, N)) (hin : ∀ w ∈ u_ws Cn T N, w ∈ sw_U) (hty : ∀ k, k < N → parseFieldDescriptor (T k).2.2.1 = some (ty k)) (hcl : Cond.classLink (mY μ).cls ix Cn ∈ sw_U) (hinst : Cond.instantiable Cn N ∈ sw_U) (hini : Cond.initialized Cn ∈ sw_U) (hfs : ∀ j, j < N → defaultValue (ty j) = vp_V fs j)
    (ht : t ∉ cs.map Prod.fst) (hM : M t = none) (hu : uc + 1 ≤ mK μ) (hv : us + N ≤ mS μ) (hd : decode (mC μ) pc = .ok (.new ix, 3)) (kk : ∀ al : Nat → Nat, (∀ u, u ≠ t → al u = sw_al G u) → V l (sw_Gw G al) μ E Z (pc + 3) lv (.ref (al t) :: st) (sw_ov M (cs ++ [(t, sw_o ci fs)])) (uc + 1) (us + N)) : V l G μ E Z pc lv (st) (sw_ov M cs) uc us := by
  intro p e R s m args below meth c A H locs ws ls C hP hD hS hR hl
  refine va_new C.1 C.2.1 C.2.2.2.2.1 (fun w hw => List.mem_cons_of_mem _ (hin w hw)) ty hty C.2.2.2.1 (C.2.2.2.2.1 _ (List.mem_cons_of_mem _ hcl)) (C.2.2.2.2.1 _ (List.mem_cons_of_mem _ hinst)) (C.2.2.2.2.1 _ (List.mem_cons_of_mem _ hini)) C.2.2.2.2.2.1.1 hP hD hS C.2.2.2.2.2.2.1 hc hfs (Nat.le_trans hu C.2.2.2.2.2.2.2.2.2.1) (Nat.le_trans hv C.2.2.2.2.2.2.2.2.2.2.1) hd (fun q H1 hP1 hD1 hS1 => ?_)
  have hR1 := hR.push (t := t) (a := q) (ob := sw_o ci fs) (by rw [sw_ov_out ht]; exact hM) hD1
  rw [sw_ov_app ht] at hR1
  have hka := kk (sw_ua G.2.2.2 t q) (fun u hu => if_neg hu) p e R s m args below meth c A H1 locs _ ls C hP1 hD1 hS1 hR1 hl
  have hat : sw_ua G.2.2.2 t q t = q := if_pos rfl
  rw [hat] at hka
  exact hka
theorem v_newi (t : Nat) {N : Nat} {z : Int} (hz : z = N) (h31 : N < 16777216) (harr : Cond.arrayClass .int ∈ sw_U) (ht : t ∉ cs.map Prod.fst) (hM : M t = none) (hu : uc + 1 ≤ mK μ) (hv : us + N ≤ mS μ) (hd : decode (mC μ) pc = .ok (.newarray .int, 2)) (kk : ∀ al : Nat → Nat, (∀ u, u ≠ t → al u = sw_al G u) → V l (sw_Gw G al) μ E Z (pc + 2) lv (.ref (al t) :: st) (sw_ov M (cs ++ [(t, sw_ia N (fun _ => 0))])) (uc + 1) (us + N)) : V l G μ E Z pc lv (sw_i z :: st) (sw_ov M cs) uc us := by
  intro p e R s m args below meth c A H locs ws ls C hP hD hS hR hl
  subst hz
  refine va_newa (atype := .int) (ty := .int) (a0 := (N, .inl (fun j : Nat => iN ((fun _ : Int => (0 : Int)) j)))) C.1 C.2.1 (C.2.2.2.2.1 _ (List.mem_cons_of_mem _ harr)) rfl C.2.2.2.2.2.1.1 hP hD hS C.2.2.2.2.2.2.1 (fun cA => rfl) (by rw [iN_0, iN_lt ⟨by omega, by omega⟩ ⟨by omega, by omega⟩]; omega) (by rw [iN_cl (by omega) (by omega)]; rfl) (by simp only [componentBytes]; omega) (Nat.le_trans hu C.2.2.2.2.2.2.2.2.2.1) (Nat.le_trans hv C.2.2.2.2.2.2.2.2.2.2.1) hd (fun q cA H1 hK1 hP1 hD1 hS1 => ?_)
  have hcA := sw_oneI hK1
  subst hcA
  have hR1 := hR.push (t := t) (a := q) (ob := sw_ia N (fun _ => 0)) (by rw [sw_ov_out ht]; exact hM) hD1
  rw [sw_ov_app ht] at hR1
  have hka := kk (sw_ua G.2.2.2 t q) (fun u hu => if_neg hu) p e R s m args below meth c A H1 locs _ ls C hP1 hD1 hS1 hR1 hl
  have hat : sw_ua G.2.2.2 t q t = q := if_pos rfl
  rw [hat] at hka
  exact hka
theorem v_newj (t : Nat) {N : Nat} {z : Int} (hz : z = N) (h31 : N < 16777216) (harr : Cond.arrayClass .long ∈ sw_U) (ht : t ∉ cs.map Prod.fst) (hM : M t = none) (hu : uc + 1 ≤ mK μ) (hv : us + N ≤ mS μ) (hd : decode (mC μ) pc = .ok (.newarray .long, 2)) (kk : ∀ al : Nat → Nat, (∀ u, u ≠ t → al u = sw_al G u) → V l (sw_Gw G al) μ E Z (pc + 2) lv (.ref (al t) :: st) (sw_ov M (cs ++ [(t, sw_la N (fun _ => 0))])) (uc + 1) (us + N)) : V l G μ E Z pc lv (sw_i z :: st) (sw_ov M cs) uc us := by
  intro p e R s m args below meth c A H locs ws ls C hP hD hS hR hl
  subst hz
  refine va_newa (atype := .long) (ty := .long) (a0 := (N, .inr (.inl (fun j : Nat => jN ((fun _ : Int => (0 : Int)) j))))) C.1 C.2.1 (C.2.2.2.2.1 _ (List.mem_cons_of_mem _ harr)) rfl C.2.2.2.2.2.1.1 hP hD hS C.2.2.2.2.2.2.1 (fun cA => rfl) (by rw [iN_0, iN_lt ⟨by omega, by omega⟩ ⟨by omega, by omega⟩]; omega) (by rw [iN_cl (by omega) (by omega)]; rfl) (by simp only [componentBytes]; omega) (Nat.le_trans hu C.2.2.2.2.2.2.2.2.2.1) (Nat.le_trans hv C.2.2.2.2.2.2.2.2.2.2.1) hd (fun q cA H1 hK1 hP1 hD1 hS1 => ?_)
  have hcA := sw_oneJ hK1
  subst hcA
  have hR1 := hR.push (t := t) (a := q) (ob := sw_la N (fun _ => 0)) (by rw [sw_ov_out ht]; exact hM) hD1
  rw [sw_ov_app ht] at hR1
  have hka := kk (sw_ua G.2.2.2 t q) (fun u hu => if_neg hu) p e R s m args below meth c A H1 locs _ ls C hP1 hD1 hS1 hR1 hl
  have hat : sw_ua G.2.2.2 t q t = q := if_pos rfl
  rw [hat] at hka
  exact hka
theorem v_newz (t : Nat) {N : Nat} {z : Int} (hz : z = N) (h31 : N < 16777216) (harr : Cond.arrayClass .boolean ∈ sw_U) (ht : t ∉ cs.map Prod.fst) (hM : M t = none) (hu : uc + 1 ≤ mK μ) (hv : us + N ≤ mS μ) (hd : decode (mC μ) pc = .ok (.newarray .boolean, 2)) (kk : ∀ al : Nat → Nat, (∀ u, u ≠ t → al u = sw_al G u) → V l (sw_Gw G al) μ E Z (pc + 2) lv (.ref (al t) :: st) (sw_ov M (cs ++ [(t, sw_za N (fun _ => 0))])) (uc + 1) (us + N)) : V l G μ E Z pc lv (sw_i z :: st) (sw_ov M cs) uc us := by
  intro p e R s m args below meth c A H locs ws ls C hP hD hS hR hl
  subst hz
  refine va_newa (atype := .boolean) (ty := .boolean) (a0 := (N, .inl (fun j : Nat => iN ((fun _ : Int => (0 : Int)) j)))) C.1 C.2.1 (C.2.2.2.2.1 _ (List.mem_cons_of_mem _ harr)) rfl C.2.2.2.2.2.1.1 hP hD hS C.2.2.2.2.2.2.1 (fun cA => rfl) (by rw [iN_0, iN_lt ⟨by omega, by omega⟩ ⟨by omega, by omega⟩]; omega) (by rw [iN_cl (by omega) (by omega)]; rfl) (by simp only [componentBytes]; omega) (Nat.le_trans hu C.2.2.2.2.2.2.2.2.2.1) (Nat.le_trans hv C.2.2.2.2.2.2.2.2.2.2.1) hd (fun q cA H1 hK1 hP1 hD1 hS1 => ?_)
  have hcA := sw_oneZ hK1
  subst hcA
  have hR1 := hR.push (t := t) (a := q) (ob := sw_za N (fun _ => 0)) (by rw [sw_ov_out ht]; exact hM) hD1
  rw [sw_ov_app ht] at hR1
  have hka := kk (sw_ua G.2.2.2 t q) (fun u hu => if_neg hu) p e R s m args below meth c A H1 locs _ ls C hP1 hD1 hS1 hR1 hl
  have hat : sw_ua G.2.2.2 t q t = q := if_pos rfl
  rw [hat] at hka
  exact hka
theorem v_newq (t : Nat) {N ix : Nat} {z : Int} (hz : z = N) (h31 : N < 16777216) (hcl : Cond.classLink (mY μ).cls ix "SorryToWin$Sale" ∈ sw_U) (ht : t ∉ cs.map Prod.fst) (hM : M t = none) (hu : uc + 1 ≤ mK μ) (hv : us + N ≤ mS μ) (hd : decode (mC μ) pc = .ok (.anewarray ix, 3)) (kk : ∀ al : Nat → Nat, (∀ u, u ≠ t → al u = sw_al G u) → V l (sw_Gw G al) μ E Z (pc + 3) lv (.ref (al t) :: st) (sw_ov M (cs ++ [(t, sw_ra N (fun _ => none))])) (uc + 1) (us + N)) : V l G μ E Z pc lv (sw_i z :: st) (sw_ov M cs) uc us := by
  intro p e R s m args below meth c A H locs ws ls C hP hD hS hR hl
  subst hz
  refine va_newq (N' := N) C.1 C.2.1 C.2.2.2.1 (C.2.2.2.2.1 _ (List.mem_cons_of_mem _ hcl)) C.2.2.2.2.2.1.2.2 C.2.2.2.2.2.1.1 hP hD hS C.2.2.2.2.2.2.1 (by rw [iN_0, iN_lt ⟨by omega, by omega⟩ ⟨by omega, by omega⟩]; omega) (by rw [iN_cl (by omega) (by omega)]; rfl) (by omega) (Nat.le_trans hu C.2.2.2.2.2.2.2.2.2.1) (Nat.le_trans hv C.2.2.2.2.2.2.2.2.2.2.1) hd (fun q cA H1 hK1 hP1 hD1 hS1 => ?_)
  have hcA := sw_oneQ hK1
  subst hcA
  have hR1 := hR.push (t := t) (a := q) (ob := sw_ra N (fun _ => none)) (by rw [sw_ov_out ht]; exact hM) hD1
  rw [sw_ov_app ht] at hR1
  have hka := kk (sw_ua G.2.2.2 t q) (fun u hu => if_neg hu) p e R s m args below meth c A H1 locs _ ls C hP1 hD1 hS1 hR1 hl
  have hat : sw_ua G.2.2.2 t q t = q := if_pos rfl
  rw [hat] at hka
  exact hka
end SWM
/-! calls -/
/-- the room that a call asks of its caller -/
def sw_CR (μ μ' : sw_Mt) : Prop := mF μ' + 1 ≤ mF μ ∧ 8 + (mL μ' + 11) + 64 * mF μ' ≤ 64 * mF μ
theorem sw_gV {own : String} {ix : Nat} {μ' : sw_Mt} {ws : List Cond} (hl : Cond.methodLink own ix (mY μ') ∈ sw_U) (h : sw_mv μ') (hU : ∀ w ∈ sw_U, w ∈ ws) : GoodIn ws (wsV own ix (mY μ').cls (mY μ') (mT μ')) := by
  intro w hw
  have hm : w ∈ sw_U := by
    rcases List.mem_append.mp hw with hw | hw
    · simp only [List.mem_cons, List.not_mem_nil, or_false] at hw
      rcases hw with rfl | rfl | rfl | rfl
      · exact hl
      · exact h.2.1
      · exact h.2.2
      · exact h.1.2.2.2.1
    · rcases List.mem_cons.mp hw with rfl | hw
      · exact h.1.1
      · exact hw
  exact ⟨hU w hm, sw_gd w hm⟩
theorem sw_gS {own : String} {ix : Nat} {μ' : sw_Mt} {ws : List Cond} (hl : Cond.methodLink own ix (mY μ') ∈ sw_U) (h : sw_ms μ') (hU : ∀ w ∈ sw_U, w ∈ ws) : GoodIn ws (va_wsS own ix (mY μ') (mT μ')) := by
  intro w hw
  have hm : w ∈ sw_U := by
    rcases List.mem_append.mp hw with hw | hw
    · simp only [List.mem_cons, List.not_mem_nil, or_false] at hw
      rcases hw with rfl | rfl | rfl
      · exact hl
      · exact h.2
      · exact h.1.2.2.2.1
    · rcases List.mem_cons.mp hw with rfl | hw
      · exact h.1.1
      · exact hw
  exact ⟨hU w hm, sw_gd w hm⟩
section SWC
variable {l : Launch} {G : sw_G} {μ μ' : sw_Mt} {E : State → (Nat → Prop) → Prop} {Z : sw_Z} {pc ix : Nat} {lv : List (Nat × Value)} {st st0 As : List Value} {M M0 : sw_M} {cs : List sw_Ce} {uc us n t ci N : Nat} {T : u_T} {fs : List Value} {QA : (Nat → Nat) → Option Value → sw_M → Prop} {Q : Option Value → sw_M → Prop}
theorem sw_blind {G : sw_G} {av : List Value} {ws : va_W} {sz : Nat} : FrameBlind (sw_Pc G av ws sz) := fun a U g mk q => by
  obtain ⟨q0, q1, qP, qK, qD⟩ := q
  exact ⟨q0, q1, qP, sw_K.same (u := U) (U := U.calling g mk a) rfl qK, qD⟩
theorem sw_back {p : Program} {e : Env} {R : Room} {s : State} {m : MethodId} {args : Array Value} {below : List Frame} {meth : Method} {c : Code} {A : Nat → Prop} {H : Heap} {locs : List Loc} {ws : va_W} {ls : Array Slot} {rest : List Value} {a : Array Value}
    (C : sw_Cx l G μ E p R s m args meth c A) (hD : va_D A ws) (hS : va_S A s.heap H locs) (hl : lv_has ls (mL μ) lv)
    (hr : va_Run p l e R s m args below meth c H locs uc us (mK μ') (mS μ') (F0 m pc ls st0) rest (sw_QQ G QA (va_A ws H.size) a) (va_A ws H.size))
    (kk : ∀ (al : Nat → Nat) (r : Option Value) (M' : sw_M), QA al r M' → V l (sw_Gw G al) μ E Z (pc + 3) lv (r.toList ++ rest) M' (uc + mK μ') (us + mS μ')) :
    W p l e R s m args below meth c H locs uc us (Z below args s A) (F0 m pc ls st0) := by
  intro T hT X
  obtain ⟨v, st₀, t, T', L, h0, X', hL, e1, e2, ⟨⟨al, r, M', ws1, hv, hq, hR', hP', hK', hD'⟩, hz, hk⟩, stp⟩ := hr T hT X
  cases hv
  rw [h0] at hz hk
  have hA : ∀ q, va_A ws H.size q → A q := by
    intro q h
    rcases h with ⟨k, x, hx⟩ | h
    · exact hD.2 k (q, x) hx
    · exact C.2.2.2.2.2.2.1 q (Nat.le_trans hS.1 h)
  have hS1 : va_S A s.heap T'.heap (locs ++ L) := by
    refine ⟨Nat.le_trans hS.1 (by rw [e1]; exact hz), fun q h1 h2 => ?_, fun q hq => ?_⟩
    · rw [e1, hk q (Nat.lt_of_lt_of_le h1 hS.1) (fun z => h2 (hA q z))]
      exact hS.2.1 q h1 h2
    · rcases List.mem_append.mp hq with h | h
      · exact hS.2.2 q h
      · exact hA _ (hL q h)
  obtain ⟨t2, a1, b1⟩ := kk al v M' hq p e R s m args below meth c A T'.heap (locs ++ L) ws1 ls C (by rw [e1]; exact hP') (hD'.weaken (fun _ q _ h => hA q.1 h)) hS1 hR' hl T' rfl X'
  exact ⟨t2, stp t2 a1, b1⟩
theorem v_callVA (hK : KtA l G μ' (.ref (sw_al G t) :: As) M QA) (hu : uc + mK μ' ≤ mK μ) (hv : us + mS μ' ≤ mS μ) (hb : M t = some (sw_o ci fs)) (hc : vwCl[ci]? = some ((mY μ').cls, T, N)) (hg : Cond.methodLink (mY μ).cls ix (mY μ') ∈ sw_U ∧ sw_mv μ') (hcr : sw_CR μ μ') (hpn : (parseMethodDescriptor (mY μ').desc).map (fun d => d.parameters.length) = some n) (hn : As.length = n) (hst : st0 = As.reverse ++ .ref (sw_al G t) :: st) (h8 : (st.map fun v => v.category).sum ≤ 8) (hd : decode (mC μ) pc = .ok (.invokevirtual ix, 3))
    (kk : ∀ (al : Nat → Nat) (r : Option Value) (M' : sw_M), QA al r M' → V l (sw_Gw G al) μ E Z (pc + 3) lv (r.toList ++ st) M' (uc + mK μ') (us + mS μ')) : V l G μ E Z pc lv st0 M uc us := by
  intro p e R s m args below meth c A H locs ws ls C hP hD hS hR hl
  have hpre : ∀ U : State, U.heap = H → s.WarmedH U.vm → sw_Pc G (.ref (sw_al G t) :: As) ws H.size (.ref (sw_al G t) :: As).toArray U := fun U hU hW => ⟨rfl, by rw [hU], by rw [hU]; exact hP, sw_K.moved hW C.2.2.2.2.2.1, hD.weaken (fun _ _ _ _ => trivial)⟩
  have hroom : mF μ' + 1 ≤ R.frames ∧ 8 + (mL μ' + 11) + 64 * mF μ' ≤ R.locals := ⟨Nat.le_trans hcr.1 C.2.2.2.2.2.2.2.1, Nat.le_trans hcr.2 C.2.2.2.2.2.2.2.2.1⟩
  have hfit : uc + mK μ' ≤ R.cells ∧ us + mS μ' ≤ R.slots := ⟨Nat.le_trans hu C.2.2.2.2.2.2.2.2.2.1, Nat.le_trans hv C.2.2.2.2.2.2.2.2.2.2.1⟩
  have hfix : CallFix p m c (mC μ) (mL μ) s args (mT μ) (mY μ).cls := ⟨C.1, C.2.1, C.2.2.1, C.2.2.2.1, C.2.2.2.2.1⟩
  have hUT : ∀ w ∈ sw_U, w ∈ mT μ := fun w h => List.mem_cons_of_mem _ h
  subst hst
  obtain ⟨q0, hq0⟩ := hR.1 t _ hb
  have hrecv := va_recv C.2.2.2.2.2.1.1 hP hc hq0
  exact sw_back C hD hS hl (va_runV hfix (hK ws H.size hR) (cwV n C.2.2.2.2.1 (sw_gV hg.1 hg.2 hUT) rfl rfl rfl ⟨rfl, hg.2.1.2.1, hg.2.1.2.2.1, hpn⟩ hroom) ⟨sw_blind, hrecv, hpre⟩ rfl hn hl.1 rfl (lv_room h8) hd hfit) kk
/-- .. of a method that makes nothing -/
theorem v_callV (hK : Kt l G μ' (.ref (sw_al G t) :: As) M Q) (h0 : mK μ' = 0 ∧ mS μ' = 0) (hu : uc ≤ mK μ) (hv : us ≤ mS μ) (hb : M t = some (sw_o ci fs)) (hc : vwCl[ci]? = some ((mY μ').cls, T, N)) (hg : Cond.methodLink (mY μ).cls ix (mY μ') ∈ sw_U ∧ sw_mv μ') (hcr : sw_CR μ μ') (hpn : (parseMethodDescriptor (mY μ').desc).map (fun d => d.parameters.length) = some n) (hn : As.length = n) (hst : st0 = As.reverse ++ .ref (sw_al G t) :: st) (h8 : (st.map fun v => v.category).sum ≤ 8) (hd : decode (mC μ) pc = .ok (.invokevirtual ix, 3))
    (kk : ∀ (r : Option Value) (M' : sw_M), Q r M' → V l G μ E Z (pc + 3) lv (r.toList ++ st) M' uc us) : V l G μ E Z pc lv st0 M uc us := by
  refine v_callVA hK (by rw [h0.1]; exact hu) (by rw [h0.2]; exact hv) hb hc hg hcr hpn hn hst h8 hd (fun al r M' h => ?_)
  obtain ⟨rfl, h⟩ := h
  rw [h0.1, h0.2]
  exact kk r M' h
theorem v_callSA (hK : KtA l G μ' (As) M QA) (hu : uc + mK μ' ≤ mK μ) (hv : us + mS μ' ≤ mS μ) (hg : Cond.methodLink (mY μ).cls ix (mY μ') ∈ sw_U ∧ sw_ms μ') (hcr : sw_CR μ μ') (hpn : (parseMethodDescriptor (mY μ').desc).map (fun d => d.parameters.length) = some n) (hn : As.length = n) (hst : st0 = As.reverse ++ st) (h8 : (st.map fun v => v.category).sum ≤ 8) (hd : decode (mC μ) pc = .ok (.invokestatic ix, 3))
    (kk : ∀ (al : Nat → Nat) (r : Option Value) (M' : sw_M), QA al r M' → V l (sw_Gw G al) μ E Z (pc + 3) lv (r.toList ++ st) M' (uc + mK μ') (us + mS μ')) : V l G μ E Z pc lv st0 M uc us := by
  intro p e R s m args below meth c A H locs ws ls C hP hD hS hR hl
  have hpre : ∀ U : State, U.heap = H → s.WarmedH U.vm → sw_Pc G (As) ws H.size (As).toArray U := fun U hU hW => ⟨rfl, by rw [hU], by rw [hU]; exact hP, sw_K.moved hW C.2.2.2.2.2.1, hD.weaken (fun _ _ _ _ => trivial)⟩
  have hroom : mF μ' + 1 ≤ R.frames ∧ 8 + (mL μ' + 11) + 64 * mF μ' ≤ R.locals := ⟨Nat.le_trans hcr.1 C.2.2.2.2.2.2.2.1, Nat.le_trans hcr.2 C.2.2.2.2.2.2.2.2.1⟩
  have hfit : uc + mK μ' ≤ R.cells ∧ us + mS μ' ≤ R.slots := ⟨Nat.le_trans hu C.2.2.2.2.2.2.2.2.2.1, Nat.le_trans hv C.2.2.2.2.2.2.2.2.2.2.1⟩
  have hfix : CallFix p m c (mC μ) (mL μ) s args (mT μ) (mY μ).cls := ⟨C.1, C.2.1, C.2.2.1, C.2.2.2.1, C.2.2.2.2.1⟩
  have hUT : ∀ w ∈ sw_U, w ∈ mT μ := fun w h => List.mem_cons_of_mem _ h
  subst hst
  exact sw_back C hD hS hl (va_runS hfix (hK ws H.size hR) (va_cwS n C.2.2.2.2.1 (sw_gS hg.1 hg.2 hUT) rfl rfl rfl ⟨hg.2.1.2.1, hg.2.1.2.2.1, hpn⟩ hroom) ⟨sw_blind, hpre⟩ rfl hn hl.1 rfl (lv_room h8) hd hfit) kk
/-- .. of a method that makes nothing -/
theorem v_callS (hK : Kt l G μ' (As) M Q) (h0 : mK μ' = 0 ∧ mS μ' = 0) (hu : uc ≤ mK μ) (hv : us ≤ mS μ) (hg : Cond.methodLink (mY μ).cls ix (mY μ') ∈ sw_U ∧ sw_ms μ') (hcr : sw_CR μ μ') (hpn : (parseMethodDescriptor (mY μ').desc).map (fun d => d.parameters.length) = some n) (hn : As.length = n) (hst : st0 = As.reverse ++ st) (h8 : (st.map fun v => v.category).sum ≤ 8) (hd : decode (mC μ) pc = .ok (.invokestatic ix, 3))
    (kk : ∀ (r : Option Value) (M' : sw_M), Q r M' → V l G μ E Z (pc + 3) lv (r.toList ++ st) M' uc us) : V l G μ E Z pc lv st0 M uc us := by
  refine v_callSA hK (by rw [h0.1]; exact hu) (by rw [h0.2]; exact hv) hg hcr hpn hn hst h8 hd (fun al r M' h => ?_)
  obtain ⟨rfl, h⟩ := h
  rw [h0.1, h0.2]
  exact kk r M' h
end SWC
