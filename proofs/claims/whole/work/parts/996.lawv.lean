/-! the law's own rows: its script, its calls of both sides, its end; what each side leaves of the other's -/
def R_law : String := "SorryToWinLaw"
def lw_P (b : Addr) (xs : List Int32) (args : Array Value) (s : State) : Prop := args = #[.ref b] ∧ s.IntsAt b xs ∧ xs.length ≤ 3584 ∧ (Jvm.Cond.and given_1 narrow_1).before args s = true
def lw_Q (_ : Array Value) (s : State) (o : Outcome) (t : State) : Prop := o = .returned (some (.int 1)) ∧ Framed s o t [] 601024 7293034
def lw_Z (below : List Frame) (a : Array Value) (s : State) : State → Prop := fun t => ∃ o, t.status = .running ∧ Ended t below o ∧ lw_Q a s o t
def μL : sw_Mt := (yL_law, cL_law, 7, ret, 1312, 601024, 7293034)
/-- what the law's start gives: what a throw asks, the script, nothing old is written -/
def sw_EL (b L : Nat) (xs : Nat → Int32) (s : State) (A : Nat → Prop) : Prop := sw_EX s A ∧ va_X b L xs s s.heap ∧ b < s.heap.size ∧ ¬ A b ∧ ∀ q, A q → s.heap.size ≤ q
def ZL : sw_Z := fun below args s _ => lw_Z below args s
def xq (xs : Nat → Int32) (z : Int) : Int := (xs z.toNat).toInt
theorem xq_rg (xs : Nat → Int32) (z : Int) : sw_rg (xq xs z) := ⟨(xs z.toNat).le_toInt, (xs z.toNat).toInt_lt⟩
theorem and31 (v : Int32) : ∃ z : Int, v &&& iN 31 = iN z ∧ 0 ≤ z ∧ z ≤ 31 := by
  refine ⟨(((v &&& iN 31).toBitVec.toNat : Nat) : Int), ?_, by omega, ?_⟩
  · apply Int32.toBitVec_inj.mp
    show _ = BitVec.ofInt 32 _
    rw [BitVec.ofInt_natCast, BitVec.ofNat_toNat, BitVec.setWidth_eq]
  · have hlt : (v &&& iN 31).toBitVec.toNat < 32 := by
      rw [Int32.toBitVec_and, BitVec.toNat_and]
      have h : (iN 31).toBitVec.toNat = 31 := by decide +kernel
      rw [h]
      exact Nat.lt_of_le_of_lt Nat.and_le_right (by omega)
    omega
section
variable {l : Launch} {G : sw_G} {μ μ' : sw_Mt} {E : State → (Nat → Prop) → Prop} {Z : sw_Z} {pc ix : Nat} {lv : List (Nat × Value)} {st st0 As : List Value} {M : sw_M} {uc us n t b L : Nat} {xs : Nat → Int32} {QA : (Nat → Nat) → Option Value → sw_M → Prop}
theorem v_icmp_same {v : Int32} {off : Int} {tgt : Nat} (hd : decode (mC μ) pc = .ok (.if_icmp .eq off, 3)) (ht : (pc : Int) + off = (tgt : Int)) (k : V l G μ E Z tgt lv st M uc us) : V l G μ E Z pc lv (.int v :: .int v :: st) M uc us := by
  intro p e R s m args below meth c A H locs ws ls C hP hD hS hR hl
  exact lv_icmp_eq C.1 C.2.1 hd ht (fun _ => k p e R s m args below meth c A H locs ws ls C hP hD hS hR hl) (fun h => absurd rfl h)
theorem v_lcmp_same {v : Int64} {off : Int} {tgt : Nat} (hd : decode (mC μ) pc = .ok (.lcmp, 1)) (hd2 : decode (mC μ) (pc + 1) = .ok (.ifCond .eq off, 3)) (ht : ((pc + 1 : Nat) : Int) + off = (tgt : Int)) (k : V l G μ E Z tgt lv st M uc us) : V l G μ E Z pc lv (.long v :: .long v :: st) M uc us := by
  intro p e R s m args below meth c A H locs ws ls C hP hD hS hR hl
  refine W.lcmp C.1 C.2.1 hd ?_
  exact lv_if_eq C.1 C.2.1 hd2 ht (fun _ => k p e R s m args below meth c A H locs ws ls C hP hD hS hR hl) (fun h => absurd ((lg_cmp_eq v v).mpr rfl) h)
theorem v_sld {z : Int} (hE : ∀ s A, E s A → sw_EL b L xs s A) (hL : L ≤ 3584) (h0 : 0 ≤ z) (h1 : z < L) (hd : decode (mC μ) pc = .ok (.iaload, 1)) (k : V l G μ E Z (pc + 1) lv (sw_i (xq xs z) :: st) M uc us) : V l G μ E Z pc lv (sw_i z :: .ref b :: st) M uc us := by
  intro p e R s m args below meth c A H locs ws ls C hP hD hS hR hl
  have hX := hE s A (sw_Cx_E C)
  refine va_sld C.1 C.2.1 hX.2.1 hX.2.2.1 hX.2.2.2.1 hS (iN_in h0 h1 (by omega)) hd ?_
  rw [iN_cl h0 (by omega)]
  have e9 : xs z.toNat = iN (xq xs z) := (Int32.ofInt_toInt _).symm
  rw [e9]
  exact k p e R s m args below meth c A H locs ws ls C hP hD hS hR hl
theorem v_slen (hE : ∀ s A, E s A → sw_EL b L xs s A) (hd : decode (mC μ) pc = .ok (.arraylength, 1)) (k : V l G μ E Z (pc + 1) lv (sw_i (L : Int) :: st) M uc us) : V l G μ E Z pc lv (.ref b :: st) M uc us := by
  intro p e R s m args below meth c A H locs ws ls C hP hD hS hR hl
  have hX := hE s A (sw_Cx_E C)
  refine va_slen C.1 C.2.1 hX.2.1 hX.2.2.1 hX.2.2.2.1 hS hd ?_
  exact k p e R s m args below meth c A H locs ws ls C hP hD hS hR hl
/-- a public constructor -/
theorem v_callI (hK : KtA l G μ' (.ref (sw_al G t) :: As) M QA) (hu : uc + mK μ' ≤ mK μ) (hv : us + mS μ' ≤ mS μ) (hg : sw_mo μ' ∧ Cond.instanceMethod (mY μ') ∈ sw_U) (hy : (mY μ').name = "<init>") (hr : mR μ' = none) (hN : Cond.methodLink (mY μ).cls ix (mY μ') ∈ sw_U) (hcr : sw_CR μ μ') (hpn : (parseMethodDescriptor (mY μ').desc).map (fun d => d.parameters.length) = some n) (hn : As.length = n) (hst : st0 = As.reverse ++ .ref (sw_al G t) :: st) (h8 : (st.map fun v => v.category).sum ≤ 8) (hd : decode (mC μ) pc = .ok (.invokespecial ix, 3))
    (kk : ∀ (al : Nat → Nat) (r : Option Value) (M' : sw_M), QA al r M' → V l (sw_Gw G al) μ E Z (pc + 3) lv (r.toList ++ st) M' (uc + mK μ') (us + mS μ')) : V l G μ E Z pc lv st0 M uc us := by
  intro p e R s m args below meth c A H locs ws ls C hP hD hS hR hl
  have hpre : ∀ U : State, U.heap = H → s.WarmedH U.vm → sw_Pc G (.ref (sw_al G t) :: As) ws H.size (.ref (sw_al G t) :: As).toArray U := fun U hU hW => ⟨rfl, by rw [hU], by rw [hU]; exact hP, sw_K.moved hW C.2.2.2.2.2.1, hD.weaken (fun _ _ _ _ => trivial)⟩
  have hroom : mF μ' + 1 ≤ R.frames ∧ 8 + (mL μ' + 11) + 64 * mF μ' ≤ R.locals := ⟨Nat.le_trans hcr.1 C.2.2.2.2.2.2.2.1, Nat.le_trans hcr.2 C.2.2.2.2.2.2.2.2.1⟩
  have hfit : uc + mK μ' ≤ R.cells ∧ us + mS μ' ≤ R.slots := ⟨Nat.le_trans hu C.2.2.2.2.2.2.2.2.2.1, Nat.le_trans hv C.2.2.2.2.2.2.2.2.2.2.1⟩
  have hfix : CallFix p m c (mC μ) (mL μ) s args (mT μ) (mY μ).cls := ⟨C.1, C.2.1, C.2.2.1, C.2.2.2.1, C.2.2.2.2.1⟩
  have hUT : ∀ w ∈ sw_U, w ∈ mT μ := fun w h => List.mem_cons_of_mem _ h
  have hG : GoodIn (mT μ) (mT μ') := by
    intro w hw
    have hm : w ∈ sw_U := by
      rcases List.mem_cons.mp hw with rfl | hw
      · exact hg.1.1
      · exact hw
    exact ⟨hUT w hm, sw_gd w hm⟩
  have hKm := hK ws H.size hR
  subst hst
  have cw := cwI (R := R) (rm := sw_rm μ') (bytes := mC μ') (maxL := mL μ') (own := (mY μ).cls) (index := ix) (mc := mK μ') (ms := mS μ') (ws := mT μ') (ws' := sw_U) n C.2.2.2.2.1 hG (by show Cond.code (mY μ') (mC μ') (mL μ') (mR μ') :: sw_U = Cond.code (mY μ') (mC μ') (mL μ') none :: sw_U; rw [hr]) rfl rfl (C.2.2.2.2.1 _ (hUT _ hg.1.2.2.2.1)) (C.2.2.2.2.1 _ (hUT _ hN)) (C.2.2.2.2.1 _ (hUT _ hg.2)) hy ⟨hg.1.2.1, hg.1.2.2.1, hpn⟩ hroom
  exact sw_back C hD hS hl (va_runI hfix hKm cw ⟨sw_blind, hpre⟩ rfl hn hl.1 rfl (lv_room h8) hd hfit) kk
end
section
variable {l : Launch} {G : sw_G} {pc b L : Nat} {xs : Nat → Int32} {lv : List (Nat × Value)} {M : sw_M} {uc us : Nat}
/-- the law's end -/
theorem v_lawret (hu : uc ≤ 601024) (hv : us ≤ 7293034) (hd : decode cL_law pc = .ok (.ireturn, 1)) : V l G μL (sw_EL b L xs) ZL pc lv [sw_i 1] M uc us := by
  intro p e R s m args below meth c A H locs ws ls C hP hD hS hR hl
  refine W.widen hu hv ?_
  refine va_forget (fun q hq => (sw_Cx_E C).2.2.2.2 _ (hS.2.2 q hq)) ?_
  have hx := C.1
  have hb : c.code = code := C.2.1
  have hr : meth.sig.returnType = ret := C.2.2.2.2.2.2.2.2.2.2.2.1
  have hlocks := C.2.2.2.2.2.2.2.2.2.2.2.2.1
  have hdg : decode code pc = .ok (.ireturn, 1) := hd
  show W p l e R s m args below meth c H [] 601024 7293034 (lw_Z below args s) (F0 m pc ls [.int 1])
  intro T hT X
  obtain ⟨fs, hret, hrun, hended, hW, hframe⟩ := X.leave (v := some (.int 1)) (hlocks := hlocks) (fun h => by rw [hr] at h; cases h)
  have hmeth' : T.vm.method? m = some meth := X.method'
  refine ⟨T.setFrames fs, ?_, .returned (some (.int 1)), hrun, hended, rfl, ⟨_, rfl⟩, hW, hframe⟩
  jvm_step X.here [X.here.top, hx, hb, hdg, hmeth', hr, ret, narrow_b1]
  (try refine ⟨rfl, ?_⟩); (try refine ⟨rfl, ?_⟩)
  first | (intro acts; rw [hret _ acts rfl rfl rfl]) | rw [hret _ _ rfl rfl rfl]
  exact Steps.refl _
end
section
variable {G : sw_G} {M M' : sw_M} {s : CSt}
theorem InvC.fx (hI : InvC G M s) (hf : ∀ t, t < 70 ∨ 100 ≤ t → M' t = M t) : InvC G M' s := hI.keep (fun t ht => hf t (by omega))
theorem InvR.fx (hI : InvR G M s) (hf : ∀ t, 70 ≤ t → t < 93 → M' t = M t) : InvR G M' s := by
  obtain ⟨x, a, ⟨h1, h2⟩, hRI⟩ := hI
  exact ⟨x, a, ⟨(hf 70 (by omega) (by omega)).trans h1, fun q hq => (hf _ (by have := arL_tg q hq; omega) (by have := arL_tg q hq; omega)).trans (h2 q hq)⟩, hRI⟩
theorem InvR.gw {al : Nat → Nat} (hI : InvR G M s) (hal : ∀ u, 70 ≤ u → u < 93 → al u = sw_al G u) : InvR (sw_Gw G al) M s := by
  obtain ⟨x, a, ⟨h1, h2⟩, hRI⟩ := hI
  refine ⟨x, a, ⟨?_, h2⟩, hRI⟩
  have e : ∀ u, 70 ≤ u → u < 93 → sw_al (sw_Gw G al) u = sw_al G u := hal
  have e2 : flR (sw_Gw G al) x = flR G x := by
    simp only [flR, e 71 (by decide) (by decide), e 72 (by decide) (by decide), e 73 (by decide) (by decide), e 74 (by decide) (by decide), e 75 (by decide) (by decide), e 76 (by decide) (by decide), e 77 (by decide) (by decide), e 78 (by decide) (by decide), e 79 (by decide) (by decide), e 80 (by decide) (by decide), e 81 (by decide) (by decide), e 82 (by decide) (by decide), e 83 (by decide) (by decide), e 84 (by decide) (by decide), e 85 (by decide) (by decide), e 86 (by decide) (by decide), e 87 (by decide) (by decide), e 88 (by decide) (by decide), e 89 (by decide) (by decide), e 90 (by decide) (by decide), e 91 (by decide) (by decide), e 92 (by decide) (by decide)]
  rw [e2]; exact h1
theorem InvC.frR (hI : InvC G M s) (hf : frR M M') : InvC G M' s := hI.fx (fun t ht => hf t (by omega))
theorem InvR.frC (hI : InvR G M s) (hf : frC M M') : InvR G M' s := hI.fx (fun t h1 h2 => hf t h1 (by omega))
/-- both sides hold the same state; the law's own row lies there -/
def LI (G : sw_G) (M : sw_M) (s : CSt) : Prop := stOK s ∧ InvC G M s ∧ InvR G M s ∧ ∃ o, M 95 = some (sw_la 1 o)
abbrev LV (G : sw_G) (b : Nat) (i : Int) : List (Nat × Value) := [(0, .ref b), (1, .ref (sw_al G 0)), (2, .ref (sw_al G 70)), (3, .ref (sw_al G 95)), (4, sw_i i)]
/-- behind a call of the script -/
def KK (l : Launch) (b L : Nat) (xs : Nat → Int32) (i : Int) (uc us : Nat) : Prop := ∀ (G : sw_G) (M : sw_M) (s : CSt) (uc' us' : Nat), uc' ≤ uc + 6 → us' ≤ us + 80 → LI G M s → V l G μL (sw_EL b L xs) ZL 1588 (LV G b i) [] M uc' us'
end

