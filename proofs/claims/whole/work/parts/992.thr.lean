/-! what a method that throws asks and leaves; truth and learned of the class -/
def NSE : String := "java/util/NoSuchElementException"
def nseN : List String := ["java/lang/RuntimeException", "java/lang/Exception"]
abbrev nseC : ByteArray := prog_20_method_4_code
theorem nse_0 : decode nseC 0 = .ok (.aload_n 0, 1) := by decide +kernel
theorem nse_1 : decode nseC 1 = .ok (.aload_n 1, 1) := by decide +kernel
theorem nse_2 : decode nseC 2 = .ok (.invokespecial 13, 3) := by decide +kernel
theorem nse_5 : decode nseC 5 = .ok (.return_, 1) := by decide +kernel
abbrev nseW : List Cond := vx_atX RX9 130 NSE 13 nseC nseN
theorem nse_pl : nseW = [92, 940, 949, 951, 954, 956, 941, 942, 104, 105, 943, 948, 952, 972, 930, 973, 932, 974, 934, 944, 946, 936, 968, 969, 971, 936, 959, 960, 961, 962, 922, 962, 963, 964, 965, 924, 965, 966, 967, 968, 926, 958, 919, 920, 927, 928, 929, 931, 933, 935, 937, 939, 938].filterMap (fun i => lw_tbl[i]?) := by decide +kernel
theorem nse_tb : ∀ w ∈ nseW, w ∈ lw_tbl := fun w hw => by
  rw [nse_pl] at hw
  obtain ⟨i, -, hi⟩ := List.mem_filterMap.mp hw
  exact List.mem_of_getElem? hi
theorem nse_in : ∀ w ∈ nseW.filter goodWord, w ∈ sw_U := fun w hw => List.mem_filter.mpr ⟨nse_tb w (List.mem_filter.mp hw).1, (List.mem_filter.mp hw).2⟩
theorem nse_no : ∀ w ∈ nseW.filter (fun w => !goodWord w), w ∈ [Cond.castable NSE NSE, Cond.declares (Bundle.initS "java/lang/RuntimeException"), Cond.declares (Bundle.initS "java/lang/Exception"), Cond.declares (Bundle.initS Bundle.tN)] := by decide +kernel
theorem nse_ot : ∀ w ∈ Cond.classLink RX9 126 NSE :: Cond.initialized NSE :: nseW, vx_ot w = true := by decide +kernel
theorem cl_nse : Cond.classLink RX9 126 NSE ∈ sw_U := sw_in 918 (by decide +kernel) (by decide +kernel)
theorem ui_nse : Cond.initialized NSE ∈ sw_U := sw_in 95 (by decide +kernel) (by decide +kernel)
def nseZ (s : State) : Prop := va_Nw (.castable NSE NSE) s ∧ va_Nw (.declares (Bundle.initS "java/lang/RuntimeException")) s ∧ va_Nw (.declares (Bundle.initS "java/lang/Exception")) s ∧ va_Nw (.declares (Bundle.initS Bundle.tN)) s
theorem nseZ.warm {s U : State} (hW : s.WarmedH U.vm) (h : nseZ s) : nseZ U := ⟨va_Nw.warmC hW h.1, va_Nw.warmD hW h.2.1, va_Nw.warmD hW h.2.2.1, va_Nw.warmD hW h.2.2.2⟩
theorem nseZ.same {s U : State} (hv : s.vm = U.vm) (h : nseZ s) : nseZ U := ⟨va_Nw.same rfl hv h.1, va_Nw.same rfl hv h.2.1, va_Nw.same rfl hv h.2.2.1, va_Nw.same rfl hv h.2.2.2⟩
theorem nseZ.at {s : State} {args : Array Value} (h : nseZ s) : ∀ w ∈ [Cond.castable NSE NSE, Cond.declares (Bundle.initS "java/lang/RuntimeException"), Cond.declares (Bundle.initS "java/lang/Exception"), Cond.declares (Bundle.initS Bundle.tN)], w.before args s = true := vx_c (va_Nw.use rfl h.1) (vx_c (va_Nw.use rfl h.2.1) (vx_c (va_Nw.use rfl h.2.2.1) (vx_c (va_Nw.use rfl h.2.2.2) vx_n)))
/-- what a throw asks of a start: Throwable's two statics, the class's own cast, the three texts -/
def sw_EX (s : State) (A : Nat → Prop) : Prop := vx_Zq Bundle.tN "UNASSIGNED_STACK" Bundle.steD A s s.heap ∧ vx_Zq Bundle.tN "SUPPRESSED_SENTINEL" Bundle.listD A s s.heap ∧ nseZ s ∧ (∃ a, vk_R RX9 128 "no such TRUTH" a s) ∧ (∃ a, vk_R RX9 139 "no such SIGN" a s) ∧ ∃ a, vk_R RX9 316 "no such SEAT or SIGN in the latest LEARN" a s
theorem sw_EX.into {s U : State} {A B : Nat → Prop} {H : Heap} {locs : List Loc} (h : sw_EX s A) (hS : va_S A s.heap H locs) (hU : U.heap = H) (hW : s.WarmedH U.vm) (hB : ∀ q, B q → A q) : sw_EX U B := by
  obtain ⟨h1, h2, h3, ⟨a, h4⟩, ⟨b, h5⟩, c, h6⟩ := h
  refine ⟨?_, ?_, nseZ.warm hW h3, ⟨a, vk_R.warm hW h4⟩, ⟨b, vk_R.warm hW h5⟩, c, vk_R.warm hW h6⟩
  · rw [hU]; exact vx_Zq.moved hW.alike ((h1.kept hS.2.1).narrow hB)
  · rw [hU]; exact vx_Zq.moved hW.alike ((h2.kept hS.2.1).narrow hB)
theorem sw_EX.same {u U : State} {A : Nat → Prop} (hv : u.vm = U.vm) (hh : U.heap = u.heap) (h : sw_EX u A) : sw_EX U A := by
  obtain ⟨h1, h2, h3, ⟨a, h4⟩, ⟨b, h5⟩, c, h6⟩ := h
  have hal : u.vm.Alike U.vm := by rw [hv]; exact Vm.Alike.refl U.vm
  refine ⟨?_, ?_, nseZ.same hv h3, ⟨a, vk_R.same hv.symm h4⟩, ⟨b, vk_R.same hv.symm h5⟩, c, vk_R.same hv.symm h6⟩
  · rw [hh]; exact vx_Zq.moved hal h1
  · rw [hh]; exact vx_Zq.moved hal h2
/-- .. and which method the start's frame is -/
def sw_EY (y : MethodName) (s : State) (A : Nat → Prop) : Prop := sw_EX s A ∧ ∃ (m0 : MethodId) (a0 : Array Value) (b0 : List Frame), s.frames = .invoking m0 a0 :: b0 ∧ s.methodNamed? y = some m0
def sw_PcX (G : sw_G) (av : List Value) (ws : va_W) (sz : Nat) : Array Value → State → Prop := va_Pc av (fun U => U.heap.size = sz ∧ va_P (sw_D G) vwCl ws U.heap ∧ sw_K G U ∧ va_D (fun _ => True) ws ∧ sw_EX U (va_A ws sz))
theorem sw_blindX {G : sw_G} {av : List Value} {ws : va_W} {sz : Nat} : FrameBlind (sw_PcX G av ws sz) := fun a U g mk q => by
  obtain ⟨q0, q1, qP, qK, qD, qE⟩ := q
  exact ⟨q0, q1, qP, sw_K.same (u := U) (U := U.calling g mk a) rfl qK, qD, sw_EX.same (u := U) (U := U.calling g mk a) rfl rfl qE⟩
def sw_XC (G : sw_G) (PX : sw_M → Prop) (A : Nat → Prop) : String → State → State → Prop := fun E st t =>
  (E = NSE ∧ ∃ (M' : sw_M) (ws' : va_W), PX M' ∧ sw_Rep G M' ws' ∧ va_P (sw_D G) vwCl ws' t.heap ∧ va_D A ws') ∧ va_F A st t
def sw_ZX (G : sw_G) (μ : sw_Mt) (Q : Option Value → sw_M → Prop) (PX : sw_M → Prop) : sw_Z := fun below args s A => vx_MQ below (sw_QQ G (sw_q0 G Q) A) (sw_XC G PX A) args s (mK μ) (mS μ) A
/-- a contract: it returns with Q, or throws with PX -/
def KtX (l : Launch) (G : sw_G) (μ : sw_Mt) (av : List Value) (M : sw_M) (Q : Option Value → sw_M → Prop) (PX : sw_M → Prop) : Prop :=
  ∀ (ws : va_W) (sz : Nat), sw_Rep G M ws → vx_Met l (mY μ) (mT μ) (sw_rm μ) (sw_PcX G av ws sz) (sw_QQ G (sw_q0 G Q) (va_A ws sz)) (sw_XC G PX (va_A ws sz)) (mK μ) (mS μ) (va_A ws sz)
theorem KtX.of {l : Launch} {G : sw_G} {μ : sw_Mt} {av : List Value} {M : sw_M} {Q : Option Value → sw_M → Prop} {PX : sw_M → Prop} (hpl : plainName (mY μ).cls = true) (hlen : (lg_sl av).length ≤ mL μ)
    (h : V l G μ (sw_EY (mY μ)) (sw_ZX G μ Q PX) 0 (lv_args 0 av) [] M 0 0) : KtX l G μ av M Q PX := by
  intro ws sz hR
  refine vx_ofW (cc := mC μ) (maxL := mL μ) (ret := mR μ) hpl rfl ?_
  intro p e s m args below meth c s₁ B hml _ hv
  obtain ⟨rfl, hsz, hP, hK, hD0, hE⟩ := hv
  subst hsz
  have hD := hD0.self (sz := s.heap.size)
  have hl := lv_entry av (n := mL μ) hlen
  rw [lg_entry_eq]
  exact h p e _ s m _ below meth c (va_A ws s.heap.size) s.heap [] ws _ ⟨B.exec, B.bytes, hml, findClass_of_methodNamed B.named, atoms_spec (ws := mT μ) B.pre, hK, fun q h => Or.inr h, Nat.le_refl _, Nat.le_refl _, Nat.le_refl _, Nat.le_refl _, B.returns, B.notSynchronized, (name_of_methodNamed B.named B.method).1, hE, m, _, below, (Stand.of_body B).frames, B.named⟩ hP hD va_S.rf hR hl
section
variable {l : Launch} {G : sw_G} {μ : sw_Mt} {E : State → (Nat → Prop) → Prop} {Q : Option Value → sw_M → Prop} {PX : sw_M → Prop} {pc : Nat} {lv : List (Nat × Value)} {st : List Value} {M : sw_M} {uc us : Nat}
theorem v_xret (k : V l G μ E (sw_Zq G μ (sw_q0 G Q)) pc lv st M uc us) : V l G μ E (sw_ZX G μ Q PX) pc lv st M uc us := by
  intro p e R s m args below meth c A H locs ws ls C hP hD hS hR hl
  exact vx_ret (k p e R s m args below meth c A H locs ws ls C hP hD hS hR hl)
theorem sw_Cx_E {p : Program} {R : Room} {s : State} {m : MethodId} {args : Array Value} {meth : Method} {c : Code} {A : Nat → Prop} (C : sw_Cx l G μ E p R s m args meth c A) : E s A := C.2.2.2.2.2.2.2.2.2.2.2.2.2.2
theorem v_tab0 {p : Program} {e : Env} {R : Room} {s : State} {m : MethodId} {args : Array Value} {below : List Frame} {meth : Method} {c : Code} {A : Nat → Prop} {T : State} {locs : List Loc} {k n : Nat} (C : sw_Cx l G μ (sw_EY (mY μ)) p R s m args meth c A) (X : Stand p l e R s m args below meth c T locs k n) : ∀ x ∈ c.exceptionTable.toList, False := by
  obtain ⟨-, m0, a0, b0, hfr, hnm⟩ := sw_Cx_E C
  have h2 := hfr.symm.trans X.frames
  injection h2 with h3 h4
  injection h3 with h5 h6
  subst h5
  obtain ⟨meth9, c9, h1, h2, -, -, -, -, h7, -⟩ := Cond.code_spec hnm (C.2.2.2.2.1 _ List.mem_cons_self)
  cases Option.some.inj (h1.symm.trans X.method)
  cases Option.some.inj (h2.symm.trans X.code)
  intro x hx
  rw [Array.isEmpty_iff.mp h7] at hx
  cases hx
theorem v_throw {is : Nat} {text : String} (hlf : l.stackTraces = false) (hcl : (mY μ).cls = RX9) (hstr : ∀ s A, sw_EX s A → ∃ sa, vk_R RX9 is text sa s) (hF : 6 ≤ mF μ) (hu : uc + 1 ≤ mK μ) (hv : us + 6 ≤ mS μ) (h8 : (st.map fun v => v.category).sum ≤ 8)
    (d0 : decode (mC μ) pc = .ok (.new 126, 3)) (d3 : decode (mC μ) (pc + 3) = .ok (.dup, 1)) (d4 : decode (mC μ) (pc + 4) = .ok (.ldc is, 2)) (d6 : decode (mC μ) (pc + 6) = .ok (.invokespecial 130, 3)) (d9 : decode (mC μ) (pc + 9) = .ok (.athrow, 1)) (hx : PX M) : V l G μ (sw_EY (mY μ)) (sw_ZX G μ Q PX) pc lv st M uc us := by
  intro p e R s m args below meth c A H locs ws ls C hP hD hS hR hl T hT X
  have htab := v_tab0 C X
  have hE := (sw_Cx_E C).1
  obtain ⟨sa, hsa⟩ := hstr s A hE
  have hw : ∀ w ∈ sw_U, w.before args s = true := fun w h => C.2.2.2.2.1 _ (List.mem_cons_of_mem _ h)
  have hRf := C.2.2.2.2.2.2.2.1
  have hRl := C.2.2.2.2.2.2.2.2.1
  exact vx_throwX (A := A) (cls := NSE) (names := nseN) (sa := sa) C.1 C.2.1 hlf nse_0 nse_1 nse_2 nse_5 (by rw [← hcl]; exact C.2.2.2.1) (by decide +kernel) (by decide +kernel) (hw _ cl_nse) (hw _ ui_nse) hsa (vx_hat (fun w hw2 => hw w (nse_in w hw2)) nse_no (nseZ.at hE.2.2.1)) nse_ot hE.1 hE.2.1 hS (by rw [C.2.2.1]; exact hl.1) d0 d3 d4 d6 d9 (fun x hx => (htab x hx).elim)
    (by show 2 + 3 < R.frames; omega) (by show _ + (13 * (2 + 1) + 43) ≤ R.locals; omega) (Nat.le_trans hu C.2.2.2.2.2.2.2.2.2.1) (Nat.le_trans hv C.2.2.2.2.2.2.2.2.2.2.1) C.2.2.2.2.2.2.2.2.2.2.2.2.1 (fun t _ h2 h3 => ⟨⟨rfl, M, ws, hx, hR, hP.kept (fun k q hk => h3 q.1 (vx_lt hP hk)), hD⟩, Nat.le_trans hS.1 h2, fun q h4 h5 => (h3 q (Nat.lt_of_lt_of_le h4 hS.1)).trans (hS.2.1 q h4 h5)⟩) hS.2.2 hu hv T hT X
theorem v_throwW {is : Nat} {text : String} (hlf : l.stackTraces = false) (hcl : (mY μ).cls = RX9) (hstr : ∀ s A, sw_EX s A → ∃ sa, vk_R RX9 is text sa s) (hF : 6 ≤ mF μ) (hu : uc + 1 ≤ mK μ) (hv : us + 6 ≤ mS μ) (h8 : (st.map fun v => v.category).sum ≤ 8)
    (d0 : decode (mC μ) pc = .ok (.new 126, 3)) (d3 : decode (mC μ) (pc + 3) = .ok (.dup, 1)) (d4 : decode (mC μ) (pc + 4) = .ok (.ldc_w is, 3)) (d6 : decode (mC μ) (pc + 7) = .ok (.invokespecial 130, 3)) (d9 : decode (mC μ) (pc + 10) = .ok (.athrow, 1)) (hx : PX M) : V l G μ (sw_EY (mY μ)) (sw_ZX G μ Q PX) pc lv st M uc us := by
  intro p e R s m args below meth c A H locs ws ls C hP hD hS hR hl T hT X
  have htab := v_tab0 C X
  have hE := (sw_Cx_E C).1
  obtain ⟨sa, hsa⟩ := hstr s A hE
  have hw : ∀ w ∈ sw_U, w.before args s = true := fun w h => C.2.2.2.2.1 _ (List.mem_cons_of_mem _ h)
  have hRf := C.2.2.2.2.2.2.2.1
  have hRl := C.2.2.2.2.2.2.2.2.1
  exact vx_throwXW (A := A) (cls := NSE) (names := nseN) (sa := sa) C.1 C.2.1 hlf nse_0 nse_1 nse_2 nse_5 (by rw [← hcl]; exact C.2.2.2.1) (by decide +kernel) (by decide +kernel) (hw _ cl_nse) (hw _ ui_nse) hsa (vx_hat (fun w hw2 => hw w (nse_in w hw2)) nse_no (nseZ.at hE.2.2.1)) nse_ot hE.1 hE.2.1 hS (by rw [C.2.2.1]; exact hl.1) d0 d3 d4 d6 d9 (fun x hx => (htab x hx).elim)
    (by show 2 + 3 < R.frames; omega) (by show _ + (13 * (2 + 1) + 43) ≤ R.locals; omega) (Nat.le_trans hu C.2.2.2.2.2.2.2.2.2.1) (Nat.le_trans hv C.2.2.2.2.2.2.2.2.2.2.1) C.2.2.2.2.2.2.2.2.2.2.2.2.1 (fun t _ h2 h3 => ⟨⟨rfl, M, ws, hx, hR, hP.kept (fun k q hk => h3 q.1 (vx_lt hP hk)), hD⟩, Nat.le_trans hS.1 h2, fun q h4 h5 => (h3 q (Nat.lt_of_lt_of_le h4 hS.1)).trans (hS.2.1 q h4 h5)⟩) hS.2.2 hu hv T hT X
end
theorem sw_EX.t1 (s : State) (A : Nat → Prop) (h : sw_EX s A) : ∃ sa, vk_R RX9 128 "no such TRUTH" sa s := h.2.2.2.1
theorem sw_EX.t2 (s : State) (A : Nat → Prop) (h : sw_EX s A) : ∃ sa, vk_R RX9 139 "no such SIGN" sa s := h.2.2.2.2.1
theorem sw_EX.t3 (s : State) (A : Nat → Prop) (h : sw_EX s A) : ∃ sa, vk_R RX9 316 "no such SEAT or SIGN in the latest LEARN" sa s := h.2.2.2.2.2
def μX9_truthX : sw_Mt := (yX9_truth, cX9_truth, 5, (some .int), 8, 1, 6)
theorem mm_X9_truthX : sw_mv μX9_truthX := mm_X9_truth
def μX9_learnedX : sw_Mt := (yX9_learned, cX9_learned, 3, (some .int), 8, 1, 6)
theorem mm_X9_learnedX : sw_mv μX9_learnedX := mm_X9_learned
section
variable {l : Launch} {G : sw_G} {M : sw_M} {s : CSt} {k : Int}
theorem KX_truthY {t what : Int} (hlf : l.stackTraces = false) (hI : InvC G M s) (hs : stOK s) (hk : isS s k) (g1 : sw_rg t) (g2 : sw_rg what) : KtX l G μX9_truthX [.ref (sw_al G 0), sw_i k, sw_i t, sw_i what] M (fun r M' => (isS s k ∧ trP (sl s k) t what) ∧ r = some (sw_i (trV (sl s k) t what)) ∧ M' = M) (fun M' => ¬ (isS s k ∧ trP (sl s k) t what) ∧ M' = M) := by
  refine KtX.of (by decide +kernel) (Nat.le_of_ble_eq_true rfl) ?_
  have i0 := hI.1
  obtain ⟨hk0, hk1⟩ := id hk
  have hw := hs.sale hk
  have hsg := hw.1
  have htr := hw.2.1
  have hns : qN s ≤ 8 := hs.2.1
  obtain ⟨u, d, h5⟩ := hI.sale hk
  obtain ⟨t1, t2⟩ := id g1
  obtain ⟨w1, w2⟩ := id g2
  have hself : sw_ov M (cS G (100 + 5 * k.toNat) (sl s k) u d) = M := sw_ov_self h5
  have hn : sw_nd [100 + 5 * k.toNat, 100 + 5 * k.toNat + 1, 100 + 5 * k.toNat + 2, 100 + 5 * k.toNat + 3, 100 + 5 * k.toNat + 4] := sw_nd_of (by simp)
  refine v_aload_n dX9_truth_0 rfl ?_
  refine v_iload_n dX9_truth_1 rfl ?_
  refine v_callV (ci := 9) (K9_saleAt (ns := qN s) (nt := qT s) (k := k) i0 hI.2.1 hns hk) ⟨rfl, rfl⟩ (Nat.zero_le _) (Nat.zero_le _) i0 rfl ⟨ml_X9_104, mm_X9_saleAt⟩ ⟨(Nat.le_of_ble_eq_true rfl), (Nat.le_of_ble_eq_true rfl)⟩ mp_X9_saleAt rfl rfl (Nat.le_of_ble_eq_true rfl) dX9_truth_2 (fun r M' h => ?_)
  obtain ⟨rfl, rfl⟩ := h
  refine v_astore dX9_truth_5 (Nat.le_of_ble_eq_true rfl) ?_
  refine v_aload dX9_truth_7 rfl ?_
  refine v_ifnull dX9_truth_9 ?_
  refine v_mem hself.symm ?_
  refine v_iload_n dX9_truth_12 rfl ?_
  refine v_if_lt (tgt := 25) dX9_truth_13 (by decide) ⟨by omega, by omega⟩ (fun h13 => ?_) (fun h13 => ?_)
  · skip
    exact v_throw hlf rfl sw_EX.t1 (Nat.le_of_ble_eq_true rfl) (Nat.le_refl _) (Nat.le_refl _) (Nat.le_of_ble_eq_true rfl) dX9_truth_25 dX9_truth_28 dX9_truth_29 dX9_truth_31 dX9_truth_34 ⟨fun q => by have := q.2.1; omega, hself⟩
  · skip
    refine v_iload_n dX9_truth_16 rfl ?_
    refine v_aload dX9_truth_17 rfl ?_
    refine v_getf 0 5 fl_X9_111 hn rfl rfl dX9_truth_19 ?_
    refine v_icmp_lt (tgt := 35) dX9_truth_22 (by decide) ⟨by omega, by omega⟩ ⟨by omega, by omega⟩ (fun h22 => ?_) (fun h22 => ?_)
    · skip
      refine v_iload_n dX9_truth_35 rfl ?_
      refine v_iconst dX9_truth_36 ?_
      refine v_icmp_ne (tgt := 48) dX9_truth_37 (by decide) ⟨by omega, by omega⟩ ⟨by omega, by omega⟩ (fun e5 => ?_) (fun e5 => ?_)
      · skip
        refine v_iload_n dX9_truth_48 rfl ?_
        refine v_bipush dX9_truth_49 (by decide +kernel) ?_
        refine v_icmp_ne (tgt := 62) dX9_truth_51 (by decide) ⟨by omega, by omega⟩ ⟨by omega, by omega⟩ (fun e6 => ?_) (fun e6 => ?_)
        · skip
          refine v_iload_n dX9_truth_62 rfl ?_
          refine v_if_lt (tgt := 75) dX9_truth_63 (by decide) ⟨by omega, by omega⟩ (fun e7 => ?_) (fun e7 => ?_)
          · skip
            exact v_throw hlf rfl sw_EX.t2 (Nat.le_of_ble_eq_true rfl) (Nat.le_refl _) (Nat.le_refl _) (Nat.le_of_ble_eq_true rfl) dX9_truth_75 dX9_truth_78 dX9_truth_79 dX9_truth_81 dX9_truth_84 ⟨fun q => by have := q.2.2; omega, hself⟩
          · skip
            refine v_iload_n dX9_truth_66 rfl ?_
            refine v_aload dX9_truth_67 rfl ?_
            refine v_getf 0 4 fl_X9_108 hn rfl rfl dX9_truth_69 ?_
            refine v_icmp_lt (tgt := 85) dX9_truth_72 (by decide) ⟨by omega, by omega⟩ ⟨by omega, by omega⟩ (fun e8 => ?_) (fun e8 => ?_)
            · skip
              refine v_mem hself ?_
              refine v_aload dX9_truth_85 rfl ?_
              refine v_iload_n dX9_truth_87 rfl ?_
              refine v_iload_n dX9_truth_88 rfl ?_
              refine v_callV (ci := 5) (K5_seeing h5 ⟨by omega, by omega⟩ (t := t) (k := what) ⟨by omega, by omega⟩ g2) ⟨rfl, rfl⟩ (Nat.zero_le _) (Nat.zero_le _) h5.hd rfl ⟨ml_X9_141, mm_X5_seeing⟩ ⟨(Nat.le_of_ble_eq_true rfl), (Nat.le_of_ble_eq_true rfl)⟩ mp_X5_seeing rfl rfl (Nat.le_of_ble_eq_true rfl) dX9_truth_89 (fun r M' h => ?_)
              obtain ⟨rfl, rfl⟩ := h
              exact v_xret (v_iret dX9_truth_92 rfl (Nat.zero_le _) (Nat.zero_le _) ⟨⟨hk, ⟨by omega, by omega⟩, Or.inl (by omega)⟩, by unfold trV see; rw [if_neg e5, if_neg e6, if_pos ⟨by omega, e8⟩], rfl⟩)
            · skip
              exact v_throw hlf rfl sw_EX.t2 (Nat.le_of_ble_eq_true rfl) (Nat.le_refl _) (Nat.le_refl _) (Nat.le_of_ble_eq_true rfl) dX9_truth_75 dX9_truth_78 dX9_truth_79 dX9_truth_81 dX9_truth_84 ⟨fun q => by have := q.2.2; omega, hself⟩
        · skip
          refine v_aload dX9_truth_54 rfl ?_
          refine v_getf 0 1 fl_X9_136 hn rfl rfl dX9_truth_56 ?_
          refine v_iload_n dX9_truth_59 rfl ?_
          refine v_iald 2 hn rfl (Nat.le_of_ble_eq_true rfl) (by omega) (by omega) dX9_truth_60 ?_
          exact v_xret (v_iret dX9_truth_61 rfl (Nat.zero_le _) (Nat.zero_le _) ⟨⟨hk, ⟨by omega, by omega⟩, Or.inr (Or.inr (by omega))⟩, by unfold trV; rw [if_neg (by omega), if_pos (by omega)], hself⟩)
      · skip
        refine v_aload dX9_truth_40 rfl ?_
        refine v_getf 0 0 fl_X9_133 hn rfl rfl dX9_truth_42 ?_
        refine v_iload_n dX9_truth_45 rfl ?_
        refine v_iald 1 hn rfl (Nat.le_of_ble_eq_true rfl) (by omega) (by omega) dX9_truth_46 ?_
        exact v_xret (v_iret dX9_truth_47 rfl (Nat.zero_le _) (Nat.zero_le _) ⟨⟨hk, ⟨by omega, by omega⟩, Or.inr (Or.inl (by omega))⟩, by unfold trV; rw [if_pos (by omega)], hself⟩)
    · skip
      exact v_throw hlf rfl sw_EX.t1 (Nat.le_of_ble_eq_true rfl) (Nat.le_refl _) (Nat.le_refl _) (Nat.le_of_ble_eq_true rfl) dX9_truth_25 dX9_truth_28 dX9_truth_29 dX9_truth_31 dX9_truth_34 ⟨fun q => by have := q.2.1; omega, hself⟩
theorem KX_truthN {t what : Int} (hlf : l.stackTraces = false) (hI : InvC G M s) (hs : stOK s) (hk : ¬ isS s k) (g0 : sw_rg k) : KtX l G μX9_truthX [.ref (sw_al G 0), sw_i k, sw_i t, sw_i what] M (fun r M' => (isS s k ∧ trP (sl s k) t what) ∧ r = some (sw_i (trV (sl s k) t what)) ∧ M' = M) (fun M' => ¬ (isS s k ∧ trP (sl s k) t what) ∧ M' = M) := by
  refine KtX.of (by decide +kernel) (Nat.le_of_ble_eq_true rfl) ?_
  have i0 := hI.1
  have hns : qN s ≤ 8 := hs.2.1
  refine v_aload_n dX9_truth_0 rfl ?_
  refine v_iload_n dX9_truth_1 rfl ?_
  refine v_callV (ci := 9) (K9_saleAtN (ns := qN s) (nt := qT s) (k := k) i0 hns hk g0) ⟨rfl, rfl⟩ (Nat.zero_le _) (Nat.zero_le _) i0 rfl ⟨ml_X9_104, mm_X9_saleAt⟩ ⟨(Nat.le_of_ble_eq_true rfl), (Nat.le_of_ble_eq_true rfl)⟩ mp_X9_saleAt rfl rfl (Nat.le_of_ble_eq_true rfl) dX9_truth_2 (fun r M' h => ?_)
  obtain ⟨rfl, rfl⟩ := h
  refine v_astoreN dX9_truth_5 (Nat.le_of_ble_eq_true rfl) ?_
  refine v_aloadN dX9_truth_7 rfl ?_
  refine v_ifnullN (tgt := 25) dX9_truth_9 (by decide) ?_
  exact v_throw hlf rfl sw_EX.t1 (Nat.le_of_ble_eq_true rfl) (Nat.le_refl _) (Nat.le_refl _) (Nat.le_of_ble_eq_true rfl) dX9_truth_25 dX9_truth_28 dX9_truth_29 dX9_truth_31 dX9_truth_34 ⟨fun q => hk q.1, rfl⟩
theorem KX_truth {t what : Int} (hlf : l.stackTraces = false) (hI : InvC G M s) (hs : stOK s) (g0 : sw_rg k) (g1 : sw_rg t) (g2 : sw_rg what) : KtX l G μX9_truthX [.ref (sw_al G 0), sw_i k, sw_i t, sw_i what] M (fun r M' => (isS s k ∧ trP (sl s k) t what) ∧ r = some (sw_i (trV (sl s k) t what)) ∧ M' = M) (fun M' => ¬ (isS s k ∧ trP (sl s k) t what) ∧ M' = M) :=
  (Classical.em (isS s k)).elim (fun h => KX_truthY hlf hI hs h g1 g2) (fun h => KX_truthN hlf hI hs h g0)
theorem KX_learned {i w : Int} (hlf : l.stackTraces = false) (hI : InvC G M s) (hs : stOK s) (g1 : sw_rg i) (g2 : sw_rg w) : KtX l G μX9_learnedX [.ref (sw_al G 0), sw_i i, sw_i w] M (fun r M' => ((0 ≤ i ∧ i < qM s) ∧ 0 ≤ w ∧ w ≤ 5) ∧ r = some (sw_i (if w = 5 then qG s i else qR s (i * 5 + w))) ∧ M' = M) (fun M' => ¬ ((0 ≤ i ∧ i < qM s) ∧ 0 ≤ w ∧ w ≤ 5) ∧ M' = M) := by
  refine KtX.of (by decide +kernel) (Nat.le_of_ble_eq_true rfl) ?_
  have i0 := hI.1
  obtain ⟨b, x, so, Sg, il⟩ := hI.2.2.2.2.2.2.2.2.1
  obtain ⟨m0, m1⟩ := hs.2.2.2.2.2.1
  obtain ⟨t1, t2⟩ := id g1
  obtain ⟨w1, w2⟩ := id g2
  have hself : sw_ov M [c0 G (qN s) (qT s), cL G b x (qM s) (qK s) so, (31, sw_ia 20 (qR s)), (32, sw_ia 4 (qG s))] = M := sw_ov_self (sw_hold1 i0 (sw_hold1 il.hd (sw_hold1 il.tl.hd (sw_hold1 il.tl.tl.hd sw_hold0))))
  refine v_mem hself.symm ?_
  have hn : sw_nd [0, 30, 31, 32] := sw_nd_of (by simp)
  refine v_iload_n dX9_learned_0 rfl ?_
  refine v_if_lt (tgt := 24) dX9_learned_1 (by decide) ⟨by omega, by omega⟩ (fun h1 => ?_) (fun h1 => ?_)
  · skip
    exact v_throwW hlf rfl sw_EX.t3 (Nat.le_of_ble_eq_true rfl) (Nat.le_refl _) (Nat.le_refl _) (Nat.le_of_ble_eq_true rfl) dX9_learned_24 dX9_learned_27 dX9_learned_28 dX9_learned_31 dX9_learned_34 ⟨fun q => by omega, hself⟩
  · skip
    refine v_iload_n dX9_learned_4 rfl ?_
    refine v_aload_n dX9_learned_5 rfl ?_
    refine v_getf 0 12 fl_X9_81 hn rfl rfl dX9_learned_6 ?_
    refine v_getf 1 5 fl_X9_315 hn rfl rfl dX9_learned_9 ?_
    refine v_icmp_ge (tgt := 24) dX9_learned_12 (by decide) ⟨by omega, by omega⟩ ⟨by omega, by omega⟩ (fun h12 => ?_) (fun h12 => ?_)
    · skip
      exact v_throwW hlf rfl sw_EX.t3 (Nat.le_of_ble_eq_true rfl) (Nat.le_refl _) (Nat.le_refl _) (Nat.le_of_ble_eq_true rfl) dX9_learned_24 dX9_learned_27 dX9_learned_28 dX9_learned_31 dX9_learned_34 ⟨fun q => by omega, hself⟩
    · skip
      refine v_iload_n dX9_learned_15 rfl ?_
      refine v_if_lt (tgt := 24) dX9_learned_16 (by decide) ⟨by omega, by omega⟩ (fun h16 => ?_) (fun h16 => ?_)
      · skip
        exact v_throwW hlf rfl sw_EX.t3 (Nat.le_of_ble_eq_true rfl) (Nat.le_refl _) (Nat.le_refl _) (Nat.le_of_ble_eq_true rfl) dX9_learned_24 dX9_learned_27 dX9_learned_28 dX9_learned_31 dX9_learned_34 ⟨fun q => by omega, hself⟩
      · skip
        refine v_iload_n dX9_learned_19 rfl ?_
        refine v_iconst dX9_learned_20 ?_
        refine v_icmp_le (tgt := 35) dX9_learned_21 (by decide) ⟨by omega, by omega⟩ ⟨by omega, by omega⟩ (fun h21 => ?_) (fun h21 => ?_)
        · skip
          refine v_iload_n dX9_learned_35 rfl ?_
          refine v_iconst dX9_learned_36 ?_
          refine v_icmp_ne (tgt := 52) dX9_learned_37 (by decide) ⟨by omega, by omega⟩ ⟨by omega, by omega⟩ (fun h37 => ?_) (fun h37 => ?_)
          · skip
            refine v_aload_n dX9_learned_52 rfl ?_
            refine v_getf 0 12 fl_X9_81 hn rfl rfl dX9_learned_53 ?_
            refine v_getf 1 0 fl_X9_307 hn rfl rfl dX9_learned_56 ?_
            refine v_iload_n dX9_learned_59 rfl ?_
            refine v_iconst dX9_learned_60 ?_
            refine v_imul dX9_learned_61 ?_
            refine v_iload_n dX9_learned_62 rfl ?_
            refine v_iadd dX9_learned_63 ?_
            refine v_iald 2 hn rfl (Nat.le_of_ble_eq_true rfl) (by omega) (by omega) dX9_learned_64 ?_
            exact v_xret (v_iret dX9_learned_65 rfl (Nat.zero_le _) (Nat.zero_le _) ⟨⟨⟨by omega, by omega⟩, by omega, by omega⟩, by rw [if_neg (by omega)], hself⟩)
          · skip
            refine v_aload_n dX9_learned_40 rfl ?_
            refine v_getf 0 12 fl_X9_81 hn rfl rfl dX9_learned_41 ?_
            refine v_getf 1 1 fl_X9_318 hn rfl rfl dX9_learned_44 ?_
            refine v_iload_n dX9_learned_47 rfl ?_
            refine v_iald 3 hn rfl (Nat.le_of_ble_eq_true rfl) (by omega) (by omega) dX9_learned_48 ?_
            refine v_goto (tgt := 65) dX9_learned_49 (by decide) ?_
            exact v_xret (v_iret dX9_learned_65 rfl (Nat.zero_le _) (Nat.zero_le _) ⟨⟨⟨by omega, by omega⟩, by omega, by omega⟩, by rw [if_pos (by omega)], hself⟩)
        · skip
          exact v_throwW hlf rfl sw_EX.t3 (Nat.le_of_ble_eq_true rfl) (Nat.le_refl _) (Nat.le_refl _) (Nat.le_of_ble_eq_true rfl) dX9_learned_24 dX9_learned_27 dX9_learned_28 dX9_learned_31 dX9_learned_34 ⟨fun q => by omega, hself⟩
end

