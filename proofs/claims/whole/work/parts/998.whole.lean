/-! the claim, out of the walk of the law -/
theorem nl_pl : sw_NL = [108, 114, 212, 217, 273, 308, 330, 343, 371, 404, 409].filterMap (fun i => lw_tbl[i]?) := by decide +kernel
theorem nl_tb : ∀ w ∈ sw_NL, w ∈ lw_tbl := fun w hw => by
  rw [nl_pl] at hw
  obtain ⟨i, -, hi⟩ := List.mem_filterMap.mp hw
  exact List.mem_of_getElem? hi
/-- what holds at the law's entry: the machine, the code, the tables' words (any of lw_tbl by 'hts w (by decide +kernel)'), the script of L ints xs at the cell b, what the Statement gives of the start (any of its parts by flat_of_before) -/
def lw_At (p : Program) (s : State) (m : MethodId) (meth : Method) (c : Code) (b L : Nat) (xs : Nat → Int32) : Prop :=
  p.tables.exec = Jvm.exec ∧ c.code = code ∧ meth.sig.returnType = ret ∧ c.maxLocals = 7 ∧ s.vm.findClass R_law = some m.cls ∧ (∀ w ∈ lw_tbl, w.before #[Value.ref b] s = true) ∧ va_X b L xs s s.heap ∧ b < s.heap.size ∧ meth.locks = false ∧ (Jvm.Cond.and given_1 narrow_1).before #[Value.ref b] s = true ∧ (Jvm.Cond.code x code maxLocals ret).before #[Value.ref b] s = true ∧ meth.name = x.name
set_option maxHeartbeats 4000000 in
theorem whole_start {p : Program} {e : Env} {s : State} {m : MethodId} {below : List Frame} {meth : Method} {c : Code} (l : Launch) (hflags : l.flags = flags0) {b L : Nat} {xs : Nat → Int32} (hL : L ≤ 3584) (C0 : lw_At p s m meth c b L xs) : W p l e room_1 s m #[Value.ref b] below meth c s.heap [] 0 0 (lw_Z below #[Value.ref b] s) (entryFrame m ([Value.ref b] : List Value).toArray 7) := by
  obtain ⟨hx, hb, hr, hml, hown, hts, hX, hbl, hlocks, hgv, hcd, hnm⟩ := id C0
  have hlf : l.stackTraces = false := by unfold Launch.stackTraces; rw [hflags]; decide +kernel
  have hw : ∀ w ∈ sw_U, w.before #[Value.ref b] s = true := fun w h => hts w (sw_tb w h)
  have hfl := flat_of_before _ hgv
  have hA : ∀ a : Nat, a < s.heap.size → ¬ s.heap.size ≤ a := fun a h => Nat.not_le.mpr h
  obtain ⟨c0, i0, K0⟩ := u_known hw u_X0 (hw _ un_X0)
  obtain ⟨c1, i1, K1⟩ := u_known hw u_X1 (hw _ un_X1)
  obtain ⟨c2, i2, K2⟩ := u_known hw u_X2 (hw _ un_X2)
  obtain ⟨c3, i3, K3⟩ := u_known hw u_X3 (hw _ un_X3)
  obtain ⟨c4, i4, K4⟩ := u_known hw u_X4 (hw _ un_X4)
  obtain ⟨c5, i5, K5⟩ := u_known hw u_X5 (hw _ un_X5)
  obtain ⟨c6, i6, K6⟩ := u_known hw u_X6 (hw _ un_X6)
  obtain ⟨c7, i7, K7⟩ := u_known hw u_X7 (hw _ un_X7)
  obtain ⟨c8, i8, K8⟩ := u_known hw u_X8 (hw _ un_X8)
  obtain ⟨c9, i9, K9⟩ := u_known hw u_X9 (hw _ un_X9)
  obtain ⟨c10, i10, K10⟩ := u_known hw u_X10 (hw _ un_X10)
  have hstr : ∀ (ix : Nat) (tx : String), Cond.stringRef RX9 ix tx ∈ lw_tbl → ∃ sa, vk_R RX9 ix tx sa s := fun ix tx hm => by
    obtain ⟨k, cf, i, a, -, -, -, -, -, hev⟩ := Cond.stringRef_spec K9.2.1 (hts _ hm)
    exact ⟨a, vk_R.of (hts _ hm) hev⟩
  have hEX : sw_EX s (fun q => s.heap.size ≤ q) := ⟨vx_Zqof (hts _ (List.mem_of_getElem? (i := 945) (by decide +kernel))) (hts _ (List.mem_of_getElem? (i := 92) (by decide +kernel))) (hfl _ (by decide +kernel)) hA, vx_Zqof (hts _ (List.mem_of_getElem? (i := 947) (by decide +kernel))) (hts _ (List.mem_of_getElem? (i := 92) (by decide +kernel))) (hfl _ (by decide +kernel)) hA,
    ⟨va_tabs rfl rfl (hts _ (List.mem_of_getElem? (i := 920) (by decide +kernel))), va_tabs rfl rfl (hts _ (List.mem_of_getElem? (i := 922) (by decide +kernel))), va_tabs rfl rfl (hts _ (List.mem_of_getElem? (i := 924) (by decide +kernel))), va_tabs rfl rfl (hts _ (List.mem_of_getElem? (i := 926) (by decide +kernel)))⟩, hstr _ _ (List.mem_of_getElem? (i := 957) (by decide +kernel)), hstr _ _ (List.mem_of_getElem? (i := 984) (by decide +kernel)), hstr _ _ (List.mem_of_getElem? (i := 993) (by decide +kernel))⟩
  obtain ⟨a0, ka0, co0, f0, g0, e0⟩ := Cond.arrayClass_spec (hw _ ua_int)
  obtain ⟨a1, ka1, co1, f1, g1, e1⟩ := Cond.arrayClass_spec (hw _ ua_long)
  obtain ⟨a2, ka2, co2, f2, g2, e2⟩ := Cond.arrayClass_spec (hw _ ua_boolean)
  have hov : (Cond.arrayOver (.object "SorryToWin$Sale")).before #[Value.ref b] s = true := hts _ (List.mem_of_getElem? (i := 209) (by decide +kernel))
  obtain ⟨co3, a3, ka3, d3, -, f3, g3, e3⟩ := Cond.arrayOver_spec hov
  obtain ⟨G, hG⟩ : ∃ G : sw_G, G = (fun k => match k with | 0 => c0 | 1 => c1 | 2 => c2 | 3 => c3 | 4 => c4 | 5 => c5 | 6 => c6 | 7 => c7 | 8 => c8 | 9 => c9 | _ => c10, fun k => match k with | 0 => i0 | 1 => i1 | 2 => i2 | 3 => i3 | 4 => i4 | 5 => i5 | 6 => i6 | 7 => i7 | 8 => i8 | 9 => i9 | _ => i10, fun k => match k with | 0 => a0 | 1 => a1 | 2 => a2 | _ => a3, fun _ => 0) := ⟨_, rfl⟩
  have hK : sw_K G s := by
    subst hG
    refine ⟨⟨fun k q hq => ?_, fun k q hq => ?_⟩, fun w hw9 => ?_, hov⟩
    · match k, hq with
      | 0, hq => cases hq; exact K0
      | 1, hq => cases hq; exact K1
      | 2, hq => cases hq; exact K2
      | 3, hq => cases hq; exact K3
      | 4, hq => cases hq; exact K4
      | 5, hq => cases hq; exact K5
      | 6, hq => cases hq; exact K6
      | 7, hq => cases hq; exact K7
      | 8, hq => cases hq; exact K8
      | 9, hq => cases hq; exact K9
      | 10, hq => cases hq; exact K10
      | k + 11, hq => simp [vwCl] at hq
    · match k, hq with
      | 0, hq => cases hq; exact ⟨fun n z => ⟨fun k h => (by cases h), ka0, g0, co0, e0⟩, f0⟩
      | 1, hq => cases hq; exact ⟨fun n z => ⟨fun k h => (by cases h), ka1, g1, co1, e1⟩, f1⟩
      | 2, hq => cases hq; exact ⟨fun n z => ⟨fun k h => (by cases h), ka2, g2, co2, e2⟩, f2⟩
      | 3, hq => cases hq; exact ⟨fun n z => ⟨fun k h => (by cases h), ka3, f3, co3, g3⟩, ka3, co3, f3, g3, d3, e3⟩
      | k + 4, hq => simp at hq
    · have hm := hts w (nl_tb w hw9)
      obtain ⟨a9, i9, x9, h9, rfl⟩ := sw_NLok w hw9
      exact va_tabs rfl rfl hm
  have hl := lv_entry ([.ref b]) (n := 7) (Nat.le_of_ble_eq_true rfl)
  rw [lg_entry_eq]
  exact law_start (G := G) (b := b) (L := L) (xs := xs) hlf hL p e room_1 s m #[Value.ref b] below meth c (fun q => s.heap.size ≤ q) s.heap [] [] _ ⟨hx, hb, hml, hown, fun w h => (List.mem_cons.mp h).elim (fun q => by rw [q]; exact hcd) (hw w), hK, fun q h => h, (Nat.le_of_ble_eq_true rfl), (Nat.le_of_ble_eq_true rfl), Nat.le_refl _, Nat.le_refl _, hr, hlocks, hnm, hEX, hX, hbl, hA b hbl, fun q h => h⟩ (fun k q h => by simp at h) ⟨fun i j p q h => (by simp at h), fun k q h => (by simp at h)⟩ va_S.rf ⟨fun t ob h => (by cases h), fun t t' h _ _ => absurd rfl h⟩ hl
set_option maxHeartbeats 4000000 in
theorem lw_walk (l : Launch) (hflags : l.flags = flags0) (b : Addr) (xs : List Int32) : MetFree l x (headSpec (Jvm.Cond.code x code maxLocals ret :: tables_1) room_1) (lw_P b xs) (fun _ _ _ _ _ => True) lw_Q := by
  refine MetFree.of_bodyS (code := code) (maxLocals := maxLocals) (ret := ret) (by decide) ?_ ?_
  · intro args s m h hn
    obtain ⟨meth, c, h1, h2, h3, h4, h5, h6, -, -⟩ := Cond.code_spec hn (atoms_spec (ws := Jvm.Cond.code x code maxLocals ret :: tables_1) h _ List.mem_cons_self)
    exact ⟨meth, c, h1, h2, h3, h4, h5, h6⟩
  · intro p e s m args below meth c s₁ B hml0 hP _
    obtain ⟨rfl, hx, hbd, hgv⟩ := hP
    obtain ⟨scr, harrAt, hlist, hof, hsmall⟩ := hx
    obtain ⟨hcb, hkn, -, -⟩ := State.arrayAt?_spec harrAt
    have hown : s.vm.findClass R_law = some m.cls := findClass_of_methodNamed B.named
    have hts0 : ∀ c ∈ (Jvm.Cond.code x code maxLocals ret :: tables_1), c.before #[Value.ref b] s = true := atoms_spec (ws := Jvm.Cond.code x code maxLocals ret :: tables_1) B.pre
    have hts : ∀ w ∈ lw_tbl, w.before #[Value.ref b] s = true := k2_hts_sels lw_privs (fun w hw => hts0 w (List.mem_cons_of_mem _ hw)) lw_privs_ok
    have hml : c.maxLocals = 7 := B.maxLocals_eq (hts0 _ List.mem_cons_self)
    have X₀ : Stand p l e room_1 s m #[Value.ref b] below meth c s₁ [] 0 0 := Stand.of_body B
    have hh0 : s₁.heap = s.heap := by rw [B.state]; rfl
    have hsz : scr.slots.size = xs.length := by rw [← Array.length_toList, hlist, List.length_map]
    have hval : ∀ j : Nat, j < xs.length → scr.slots[j]? = some (.int (xs.getD j 0)) := fun j hj => by
      rw [← Array.getElem?_toList, hlist]
      simp [hj]
    have hbl : b < s.heap.size := (Array.getElem?_eq_some_iff.mp hcb).1
    have hX : va_X b xs.length (fun j => xs.getD j 0) s s.heap := ⟨scr, hcb, hof, hkn, hsz, hval⟩
    have K : W p l e room_1 s m #[Value.ref b] below meth c s₁.heap [] 0 0 (lw_Z below #[Value.ref b] s) (entryFrame m ([Value.ref b] : List Value).toArray 7) := by
      rw [hh0]
      exact whole_start l hflags hbd ⟨B.exec, B.bytes, B.returns, hml, hown, hts, hX, hbl, B.notSynchronized, hgv, hts0 _ List.mem_cons_self, (name_of_methodNamed B.named B.method).1⟩
    obtain ⟨t, a1, o, b1, b2, b3⟩ := K s₁ rfl X₀
    exact ⟨t, o, a1, b1, b2, b3⟩
theorem lw_pre_spec {args : Array Value} {s : State} (h : (Jvm.Cond.and given_1 narrow_1).before args s = true) (hr : rest_1_c.before args s = true) : ∃ (b : Addr) (xs : List Int32), lw_P b xs args s := by
  have hs := flat_of_before _ h
  have hq := flat_of_before _ hr
  have hc : (Cond.count 1).before args s = true := hs _ (by decide +kernel)
  have harr : (Cond.arrayOf (.arg 0) .int).before args s = true := hs _ (by decide +kernel)
  have hle : (Cond.le (.length (.arg 0)) (.int 3584)).before args s = true := hs _ (by decide +kernel)
  have hlen : (Cond.isInt (.length (.arg 0))).before args s = true := hq _ (by decide +kernel)
  have hall : (Cond.all (.arg 0) (.isInt (.elem (.arg 0) (.index 0)))).before args s = true := hq _ (by decide +kernel)
  obtain ⟨b, xs, hb, hx⟩ := State.ints_of_pre rfl harr hlen hall
  have hsm : xs.length < 2 ^ 31 := hx.choose_spec.2.2.2
  have hev : (Term.length (.arg 0)).eval args s none [] s = some (.int xs.length.toInt32) := hx.length_eval hb
  have hv := Cond.le_ints hev (show (Term.int 3584).eval args s none [] s = some (.int 3584) from rfl)
  have hd : xs.length.toInt32 ≤ 3584 := by
    simpa [Cond.before, Cond.holds, hv] using hle
  have hN : xs.length ≤ 3584 := (Int32.ofNat_le_ofNat hsm (by decide)).mp (show Int32.ofNat xs.length ≤ Int32.ofNat 3584 from hd)
  exact ⟨b, xs, Cond.one_arg hc (show args[0]? = some (.ref b) from hb), hx, hN, h⟩
theorem lw_comes (l : Launch) (hflags : l.flags = flags0) : Comes l x (Jvm.Cond.code x code maxLocals ret :: tables_1) room_1 (fun tb e args s => Calls_1 tb e args s ∧ rest_1 tb e args s ∧ Pre_1 tb e args s)
    (fun _ _ args s o t => lw_Q args s o t) := by
  intro p e ha hc hk s m args below hf hfit hheap happ hpre
  obtain ⟨b, xs, hP⟩ := lw_pre_spec hpre.2.2 hpre.2.1
  obtain ⟨k, o, h1, h2, h3, hQ⟩ := lw_walk l hflags b xs p e ha hc hk s m args below hf ((Spec.applies_iff_loose hf).mp happ).1 hP trivial
  exact ⟨k, o, h1, h2, h3, hQ⟩
theorem lw_frame {s t : State} {o : Outcome} {args : Array Value} (h : Framed s o t [] 601024 7293034) :
    Framed s o t (fieldLocs frame_1_writes args s ++ arrayLocs frame_1_arrays args s ++ staticLocs frame_1_statics s) 601024 7293034 := h
theorem lw_limb (L : Cond) (hL : ∀ (args : Array Value) (s t : State), L.after args s (.returned (some (.int 1))) t = true) :
    ArmFor flags0 classFile x code maxLocals ret World_1 tables_1 room_1 Calls_1 rest_1 Pre_1
      (fun tb e a s o t => postC L tb e a s o t ∧ Framed s o t (fieldLocs frame_1_writes a s ++ arrayLocs frame_1_arrays a s ++ staticLocs frame_1_statics s) 601024 7293034) := by
  intro l hflags _ _ p e ha hc hk s m args below hf hfit hheap happ hpre
  obtain ⟨k, o, h1, h2, h3, rfl, hF⟩ := lw_comes l hflags p e ha hc hk s m args below hf hfit hheap happ hpre
  exact ⟨k, _, h1, h2, h3, hL args s _, lw_frame hF⟩
theorem i_vc : Claimed_1_1 ∧ Claimed_1_2 := ⟨lw_limb limb_1_1 (fun args s t => by simp [limb_1_1, Cond.after, Cond.holds, Cond.value]), lw_limb limb_1_2 (fun args s t => Cond.after_iff.mpr (by
  first | (rw [show limb_1_2 = Cond.eq .result (.int 1) from rfl, Cond.eq_ints (x := 1) (y := 1) rfl rfl]; simp; done) | (simp [limb_1_2, Cond.value, Term.eval]; done)))⟩
