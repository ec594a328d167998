/-! the law's helpers: truth and learned of the class, what it throws caught; they are called by a table of their own -/
theorem cl_L_13 : Cond.classLink RL 13 NSE ∈ sw_U := sw_in 913 (by decide +kernel) (by decide +kernel)
def μL_truth : sw_Mt := (yL_truth, cL_truth, 6, (some .int), 10, 1, 6)
theorem mw_L_truth : Cond.codeWith yL_truth cL_truth 6 (some .int) [(0, 12, 15, 13)] ∈ sw_U := sw_in 912 (by decide +kernel) (by decide +kernel)
theorem mt_L_truth : Cond.static yL_truth ∈ sw_U := sw_in 911 (by decide +kernel) (by decide +kernel)
def μL_learned : sw_Mt := (yL_learned, cL_learned, 5, (some .int), 10, 1, 6)
theorem mw_L_learned : Cond.codeWith yL_learned cL_learned 5 (some .int) [(0, 10, 13, 13)] ∈ sw_U := sw_in 988 (by decide +kernel) (by decide +kernel)
theorem mt_L_learned : Cond.static yL_learned ∈ sw_U := sw_in 987 (by decide +kernel) (by decide +kernel)
section
variable {l : Launch} {G : sw_G} {M : sw_M} {s : CSt} {k : Int} {o : Int → Int}
theorem KL_truth {t what : Int} (hlf : l.stackTraces = false) (hI : InvC G M s) (hs : stOK s) (hO : M 95 = some (sw_la 1 o)) (g0 : sw_rg k) (g1 : sw_rg t) (g2 : sw_rg what) {v9 : Int} (hv9 : iN v9 = iN (trV (sl s k) t what)) (g3 : sw_rg v9) : ∀ (ws : va_W) (sz : Nat), sw_Rep G M ws → Met l yL_truth (Cond.codeWith yL_truth cL_truth 6 (some .int) [(0, 12, 15, 13)] :: sw_U) (sw_rm μL_truth) (sw_PcX G [.ref (sw_al G 0), sw_i k, sw_i t, sw_i what, .ref (sw_al G 95)] ws sz) (sw_QQ G (sw_q0 G (fun r M' => ((isS s k ∧ trP (sl s k) t what) ∧ r = some (sw_i 0) ∧ M' = sw_up M 95 (sw_la 1 (up o 0 v9))) ∨ (¬ ((isS s k ∧ trP (sl s k) t what)) ∧ r = some (sw_i 1) ∧ M' = M))) (va_A ws sz)) (mK μL_truth) (mS μL_truth) (va_A ws sz) := by
  intro ws sz hR
  refine va_MetW (cc := cL_truth) (maxL := 6) (ret := some .int) (hh := [(0, 12, 15, 13)]) (by decide +kernel) rfl ?_
  intro p e s0 m args below meth c s₁ B hml hv
  obtain ⟨rfl, hsz, hP, hK, hD0, hE⟩ := hv
  subst hsz
  have hD := hD0.self (sz := s0.heap.size)
  have hl0 := lv_entry [.ref (sw_al G 0), sw_i k, sw_i t, sw_i what, .ref (sw_al G 95)] (n := 6) (Nat.le_of_ble_eq_true rfl)
  rw [lg_entry_eq]
  have hx := B.exec
  have hb := B.bytes
  have hts := atoms_spec (ws := Cond.codeWith yL_truth cL_truth 6 (some .int) [(0, 12, 15, 13)] :: sw_U) B.pre
  have hw : ∀ w9 ∈ sw_U, w9.before ([.ref (sw_al G 0), sw_i k, sw_i t, sw_i what, .ref (sw_al G 95)] : List Value).toArray s0 = true := fun w9 h => hts _ (List.mem_cons_of_mem _ h)
  have hown : s0.vm.findClass RL = some m.cls := findClass_of_methodNamed B.named
  have htab := vx_table (x := yL_truth) B (hts _ List.mem_cons_self)
  have hret := B.returns
  have hlocks := B.notSynchronized
  have main : ∀ ls : Array Slot, lv_has ls 6 (lv_args 0 [.ref (sw_al G 0), sw_i k, sw_i t, sw_i what, .ref (sw_al G 95)]) → W p l e (headSpec (Cond.codeWith yL_truth cL_truth 6 (some .int) [(0, 12, 15, 13)] :: sw_U) (sw_rm μL_truth)).room s0 m ([.ref (sw_al G 0), sw_i k, sw_i t, sw_i what, .ref (sw_al G 95)] : List Value).toArray below meth c s0.heap [] 0 0 (MQ below (sw_QQ G (sw_q0 G (fun r M' => ((isS s k ∧ trP (sl s k) t what) ∧ r = some (sw_i 0) ∧ M' = sw_up M 95 (sw_la 1 (up o 0 v9))) ∨ (¬ ((isS s k ∧ trP (sl s k) t what)) ∧ r = some (sw_i 1) ∧ M' = M))) (va_A ws s0.heap.size)) ([.ref (sw_al G 0), sw_i k, sw_i t, sw_i what, .ref (sw_al G 95)] : List Value).toArray s0 (mK μL_truth) (mS μL_truth) (va_A ws s0.heap.size)) (F0 m 0 ls []) := by
    intro ls hl
    refine lv_aload hx hb dL_truth_0 (sw_at hl rfl) ?_
    refine lv_iconst (v := iN 0) hx hb dL_truth_2 rfl ?_
    refine lv_aload_n hx hb dL_truth_3 rfl (sw_at hl rfl) ?_
    refine lv_iload_n hx hb dL_truth_4 rfl (sw_at hl rfl) ?_
    refine lv_iload_n hx hb dL_truth_5 rfl (sw_at hl rfl) ?_
    refine lv_iload_n hx hb dL_truth_6 rfl (sw_at hl rfl) ?_
    obtain ⟨q0, hq0⟩ := hR.1 0 _ hI.1
    have hrecv := va_recv hK.1 hP (ci := 9) rfl hq0
    have hpre : ∀ U : State, U.heap = s0.heap → s0.WarmedH U.vm → sw_PcX G [.ref (sw_al G 0), sw_i k, sw_i t, sw_i what] ws s0.heap.size ([.ref (sw_al G 0), sw_i k, sw_i t, sw_i what] : List Value).toArray U := fun U hU hW => ⟨rfl, by rw [hU], by rw [hU]; exact hP, sw_K.moved hW hK, hD.weaken (fun _ _ _ _ => trivial), sw_EX.into hE va_S.rf hU hW (fun q h => h)⟩
    have hr := vx_runV (As := ([.ref (sw_al G 0), sw_i k, sw_i t, sw_i what] : List Value).tail) (rest := [sw_i 0, .ref (sw_al G 95)]) (g := F0 m 7 ls (([.ref (sw_al G 0), sw_i k, sw_i t, sw_i what] : List Value).tail.reverse ++ .ref (sw_al G 0) :: [sw_i 0, .ref (sw_al G 95)])) (R := sw_rm μL_truth) (cells := 0) (slots := 0) (locs := []) (e := e) (below := below) (meth := meth) ⟨hx, hb, hml, hown, hts⟩ (KX_truth hlf hI hs g0 g1 g2 ws s0.heap.size hR) (cwV 3 hts (sw_gV ml_L_7 mm_X9_truthX (fun w h => List.mem_cons_of_mem _ h)) rfl rfl rfl ⟨rfl, mm_X9_truthX.1.2.1, mm_X9_truthX.1.2.2.1, mp_X9_truth⟩ ⟨(Nat.le_of_ble_eq_true rfl), (Nat.le_of_ble_eq_true rfl)⟩) ⟨sw_blindX, hrecv, hpre⟩ rfl rfl hl.1 rfl (lv_room (Nat.le_of_ble_eq_true rfl)) dL_truth_7 ⟨(Nat.le_of_ble_eq_true rfl), (Nat.le_of_ble_eq_true rfl)⟩
    intro T hT X
    rcases hr T hT X with ⟨v, st₀, t9, T', Lc, h0, X', hL, e1, e2, ⟨⟨al, r, M', ws1, hv, ⟨hal, hPq, hr9, hM'⟩, hR', hP', hK', hD'⟩, hz, hk⟩, stp⟩ | ⟨q, st₀, t9, T', Lc, E, ce, h0, X', hL, e1, e2, ⟨⟨hEE, M', ws1, ⟨hnp, hM'⟩, hR', hP', hD'⟩, hz, hk⟩, hce, hcv, hcl, stp⟩
    · cases hv
      subst hal
      subst hr9
      rw [hM', sw_Gw_self] at hR'
      rw [h0] at hz hk
      have hP2 : va_P (sw_D G) vwCl ws1 T'.heap := by rw [e1]; exact hP'
      have hS1 : va_S (va_A ws s0.heap.size) s0.heap T'.heap ([] ++ Lc) := ⟨by rw [e1]; exact hz, fun q h1 h2 => by rw [e1]; exact hk q h1 h2, fun q hq => hL q hq⟩
      obtain ⟨q9, hq9⟩ := hR'.1 95 _ hO
      obtain ⟨t2, a1, b1⟩ := (show W p l e (sw_rm μL_truth) s0 m ([.ref (sw_al G 0), sw_i k, sw_i t, sw_i what, .ref (sw_al G 95)] : List Value).toArray below meth c T'.heap ([] ++ Lc) (0 + 1) (0 + 6) (MQ below (sw_QQ G (sw_q0 G (fun r M' => ((isS s k ∧ trP (sl s k) t what) ∧ r = some (sw_i 0) ∧ M' = sw_up M 95 (sw_la 1 (up o 0 v9))) ∨ (¬ ((isS s k ∧ trP (sl s k) t what)) ∧ r = some (sw_i 1) ∧ M' = M))) (va_A ws s0.heap.size)) ([.ref (sw_al G 0), sw_i k, sw_i t, sw_i what, .ref (sw_al G 95)] : List Value).toArray s0 (mK μL_truth) (mS μL_truth) (va_A ws s0.heap.size)) (F0 m (7 + 3) ls [sw_i (trV (sl s k) t what), sw_i 0, .ref (sw_al G 95)]) from by
        rw [show sw_i (trV (sl s k) t what) = sw_i v9 from congrArg Value.int hv9.symm]
        refine lv_i2l hx hb dL_truth_10 (jN_l g3) ?_
        refine va_last hx hb hK.1 hP2 hD' hS1 q9 1 hq9 rfl (iN_in (n := 1) (by omega) (by omega) (by omega)) dL_truth_11 (fun H1 locs1 hP1 hD1 hS2 => ?_)
        rw [iN_cl (by omega) (by omega), up_la (by omega)] at hP1 hD1
        have hR1 := hR'.set (ob' := sw_la 1 (up o 0 v9)) hD' hO hq9
        refine lv_goto (tgt := 19) hx hb dL_truth_12 (by decide) ?_
        refine lv_iconst (v := iN 0) hx hb dL_truth_19 rfl ?_
        exact W.iret hx hb hret (fun t ht hW => ⟨⟨_, _, _, _, rfl, ⟨rfl, Or.inl ⟨hPq, rfl, rfl⟩⟩, hR1, by rw [ht]; exact hP1, sw_K.moved hW hK, hD1⟩, hS2.F ht⟩) hS2.2.2 dL_truth_20 hlocks) T' rfl X'
      exact ⟨t2, stp t2 a1, b1⟩
    · subst hEE
      rw [hM'] at hR'
      rw [h0] at hz hk
      have hP2 : va_P (sw_D G) vwCl ws1 T'.heap := by rw [e1]; exact hP'
      have hS1 : va_S (va_A ws s0.heap.size) s0.heap T'.heap ([] ++ Lc) := ⟨by rw [e1]; exact hz, fun q h1 h2 => by rw [e1]; exact hk q h1 h2, fun q hq => hL q hq⟩
      obtain ⟨t2, a1, b1⟩ := vx_catch (rest := [sw_i 0, .ref (sw_al G 95)]) (ls := ls) (pc := 7) (own := RL) (name := NSE) hown [] ⟨0, 12, 15, 13⟩ [] (by rw [htab]; rfl) (fun z hz => nomatch hz) (by decide) (by decide) (hw _ cl_L_13) (va_Nw.use rfl hE.2.2.1.1) (by rw [e1]; exact hce) hcv hcl (show W p l e (sw_rm μL_truth) s0 m ([.ref (sw_al G 0), sw_i k, sw_i t, sw_i what, .ref (sw_al G 95)] : List Value).toArray below meth c T'.heap ([] ++ Lc) (0 + 1) (0 + 6) (MQ below (sw_QQ G (sw_q0 G (fun r M' => ((isS s k ∧ trP (sl s k) t what) ∧ r = some (sw_i 0) ∧ M' = sw_up M 95 (sw_la 1 (up o 0 v9))) ∨ (¬ ((isS s k ∧ trP (sl s k) t what)) ∧ r = some (sw_i 1) ∧ M' = M))) (va_A ws s0.heap.size)) ([.ref (sw_al G 0), sw_i k, sw_i t, sw_i what, .ref (sw_al G 95)] : List Value).toArray s0 (mK μL_truth) (mS μL_truth) (va_A ws s0.heap.size)) (F0 m 15 ls [.ref q]) from by
        refine lv_astore hx hb dL_truth_15 hl (by decide) rfl (fun ls hl => ?_)
        refine lv_iconst (v := iN 1) hx hb dL_truth_17 rfl ?_
        exact W.iret hx hb hret (fun t ht hW => ⟨⟨G.2.2.2, _, M, ws1, rfl, ⟨rfl, Or.inr ⟨hnp, rfl, rfl⟩⟩, hR', by rw [ht]; exact hP2, sw_K.moved hW hK, hD'⟩, hS1.F ht⟩) hS1.2.2 dL_truth_18 hlocks) T' rfl X'
      exact ⟨t2, stp.trans a1, b1⟩
  exact main _ hl0
theorem KL_learned {i w : Int} (hlf : l.stackTraces = false) (hI : InvC G M s) (hs : stOK s) (hO : M 95 = some (sw_la 1 o)) (g1 : sw_rg i) (g2 : sw_rg w) {v9 : Int} (hv9 : iN v9 = iN (if w = 5 then qG s i else qR s (i * 5 + w))) (g3 : sw_rg v9) : ∀ (ws : va_W) (sz : Nat), sw_Rep G M ws → Met l yL_learned (Cond.codeWith yL_learned cL_learned 5 (some .int) [(0, 10, 13, 13)] :: sw_U) (sw_rm μL_learned) (sw_PcX G [.ref (sw_al G 0), sw_i i, sw_i w, .ref (sw_al G 95)] ws sz) (sw_QQ G (sw_q0 G (fun r M' => (((0 ≤ i ∧ i < qM s) ∧ 0 ≤ w ∧ w ≤ 5) ∧ r = some (sw_i 0) ∧ M' = sw_up M 95 (sw_la 1 (up o 0 v9))) ∨ (¬ (((0 ≤ i ∧ i < qM s) ∧ 0 ≤ w ∧ w ≤ 5)) ∧ r = some (sw_i 1) ∧ M' = M))) (va_A ws sz)) (mK μL_learned) (mS μL_learned) (va_A ws sz) := by
  intro ws sz hR
  refine va_MetW (cc := cL_learned) (maxL := 5) (ret := some .int) (hh := [(0, 10, 13, 13)]) (by decide +kernel) rfl ?_
  intro p e s0 m args below meth c s₁ B hml hv
  obtain ⟨rfl, hsz, hP, hK, hD0, hE⟩ := hv
  subst hsz
  have hD := hD0.self (sz := s0.heap.size)
  have hl0 := lv_entry [.ref (sw_al G 0), sw_i i, sw_i w, .ref (sw_al G 95)] (n := 5) (Nat.le_of_ble_eq_true rfl)
  rw [lg_entry_eq]
  have hx := B.exec
  have hb := B.bytes
  have hts := atoms_spec (ws := Cond.codeWith yL_learned cL_learned 5 (some .int) [(0, 10, 13, 13)] :: sw_U) B.pre
  have hw : ∀ w9 ∈ sw_U, w9.before ([.ref (sw_al G 0), sw_i i, sw_i w, .ref (sw_al G 95)] : List Value).toArray s0 = true := fun w9 h => hts _ (List.mem_cons_of_mem _ h)
  have hown : s0.vm.findClass RL = some m.cls := findClass_of_methodNamed B.named
  have htab := vx_table (x := yL_learned) B (hts _ List.mem_cons_self)
  have hret := B.returns
  have hlocks := B.notSynchronized
  have main : ∀ ls : Array Slot, lv_has ls 5 (lv_args 0 [.ref (sw_al G 0), sw_i i, sw_i w, .ref (sw_al G 95)]) → W p l e (headSpec (Cond.codeWith yL_learned cL_learned 5 (some .int) [(0, 10, 13, 13)] :: sw_U) (sw_rm μL_learned)).room s0 m ([.ref (sw_al G 0), sw_i i, sw_i w, .ref (sw_al G 95)] : List Value).toArray below meth c s0.heap [] 0 0 (MQ below (sw_QQ G (sw_q0 G (fun r M' => (((0 ≤ i ∧ i < qM s) ∧ 0 ≤ w ∧ w ≤ 5) ∧ r = some (sw_i 0) ∧ M' = sw_up M 95 (sw_la 1 (up o 0 v9))) ∨ (¬ (((0 ≤ i ∧ i < qM s) ∧ 0 ≤ w ∧ w ≤ 5)) ∧ r = some (sw_i 1) ∧ M' = M))) (va_A ws s0.heap.size)) ([.ref (sw_al G 0), sw_i i, sw_i w, .ref (sw_al G 95)] : List Value).toArray s0 (mK μL_learned) (mS μL_learned) (va_A ws s0.heap.size)) (F0 m 0 ls []) := by
    intro ls hl
    refine lv_aload_n hx hb dL_learned_0 rfl (sw_at hl rfl) ?_
    refine lv_iconst (v := iN 0) hx hb dL_learned_1 rfl ?_
    refine lv_aload_n hx hb dL_learned_2 rfl (sw_at hl rfl) ?_
    refine lv_iload_n hx hb dL_learned_3 rfl (sw_at hl rfl) ?_
    refine lv_iload_n hx hb dL_learned_4 rfl (sw_at hl rfl) ?_
    obtain ⟨q0, hq0⟩ := hR.1 0 _ hI.1
    have hrecv := va_recv hK.1 hP (ci := 9) rfl hq0
    have hpre : ∀ U : State, U.heap = s0.heap → s0.WarmedH U.vm → sw_PcX G [.ref (sw_al G 0), sw_i i, sw_i w] ws s0.heap.size ([.ref (sw_al G 0), sw_i i, sw_i w] : List Value).toArray U := fun U hU hW => ⟨rfl, by rw [hU], by rw [hU]; exact hP, sw_K.moved hW hK, hD.weaken (fun _ _ _ _ => trivial), sw_EX.into hE va_S.rf hU hW (fun q h => h)⟩
    have hr := vx_runV (As := ([.ref (sw_al G 0), sw_i i, sw_i w] : List Value).tail) (rest := [sw_i 0, .ref (sw_al G 95)]) (g := F0 m 5 ls (([.ref (sw_al G 0), sw_i i, sw_i w] : List Value).tail.reverse ++ .ref (sw_al G 0) :: [sw_i 0, .ref (sw_al G 95)])) (R := sw_rm μL_learned) (cells := 0) (slots := 0) (locs := []) (e := e) (below := below) (meth := meth) ⟨hx, hb, hml, hown, hts⟩ (KX_learned hlf hI hs g1 g2 ws s0.heap.size hR) (cwV 2 hts (sw_gV ml_L_15 mm_X9_learnedX (fun w h => List.mem_cons_of_mem _ h)) rfl rfl rfl ⟨rfl, mm_X9_learnedX.1.2.1, mm_X9_learnedX.1.2.2.1, mp_X9_learned⟩ ⟨(Nat.le_of_ble_eq_true rfl), (Nat.le_of_ble_eq_true rfl)⟩) ⟨sw_blindX, hrecv, hpre⟩ rfl rfl hl.1 rfl (lv_room (Nat.le_of_ble_eq_true rfl)) dL_learned_5 ⟨(Nat.le_of_ble_eq_true rfl), (Nat.le_of_ble_eq_true rfl)⟩
    intro T hT X
    rcases hr T hT X with ⟨v, st₀, t9, T', Lc, h0, X', hL, e1, e2, ⟨⟨al, r, M', ws1, hv, ⟨hal, hPq, hr9, hM'⟩, hR', hP', hK', hD'⟩, hz, hk⟩, stp⟩ | ⟨q, st₀, t9, T', Lc, E, ce, h0, X', hL, e1, e2, ⟨⟨hEE, M', ws1, ⟨hnp, hM'⟩, hR', hP', hD'⟩, hz, hk⟩, hce, hcv, hcl, stp⟩
    · cases hv
      subst hal
      subst hr9
      rw [hM', sw_Gw_self] at hR'
      rw [h0] at hz hk
      have hP2 : va_P (sw_D G) vwCl ws1 T'.heap := by rw [e1]; exact hP'
      have hS1 : va_S (va_A ws s0.heap.size) s0.heap T'.heap ([] ++ Lc) := ⟨by rw [e1]; exact hz, fun q h1 h2 => by rw [e1]; exact hk q h1 h2, fun q hq => hL q hq⟩
      obtain ⟨q9, hq9⟩ := hR'.1 95 _ hO
      obtain ⟨t2, a1, b1⟩ := (show W p l e (sw_rm μL_learned) s0 m ([.ref (sw_al G 0), sw_i i, sw_i w, .ref (sw_al G 95)] : List Value).toArray below meth c T'.heap ([] ++ Lc) (0 + 1) (0 + 6) (MQ below (sw_QQ G (sw_q0 G (fun r M' => (((0 ≤ i ∧ i < qM s) ∧ 0 ≤ w ∧ w ≤ 5) ∧ r = some (sw_i 0) ∧ M' = sw_up M 95 (sw_la 1 (up o 0 v9))) ∨ (¬ (((0 ≤ i ∧ i < qM s) ∧ 0 ≤ w ∧ w ≤ 5)) ∧ r = some (sw_i 1) ∧ M' = M))) (va_A ws s0.heap.size)) ([.ref (sw_al G 0), sw_i i, sw_i w, .ref (sw_al G 95)] : List Value).toArray s0 (mK μL_learned) (mS μL_learned) (va_A ws s0.heap.size)) (F0 m (5 + 3) ls [sw_i (if w = 5 then qG s i else qR s (i * 5 + w)), sw_i 0, .ref (sw_al G 95)]) from by
        rw [show sw_i (if w = 5 then qG s i else qR s (i * 5 + w)) = sw_i v9 from congrArg Value.int hv9.symm]
        refine lv_i2l hx hb dL_learned_8 (jN_l g3) ?_
        refine va_last hx hb hK.1 hP2 hD' hS1 q9 1 hq9 rfl (iN_in (n := 1) (by omega) (by omega) (by omega)) dL_learned_9 (fun H1 locs1 hP1 hD1 hS2 => ?_)
        rw [iN_cl (by omega) (by omega), up_la (by omega)] at hP1 hD1
        have hR1 := hR'.set (ob' := sw_la 1 (up o 0 v9)) hD' hO hq9
        refine lv_goto (tgt := 17) hx hb dL_learned_10 (by decide) ?_
        refine lv_iconst (v := iN 0) hx hb dL_learned_17 rfl ?_
        exact W.iret hx hb hret (fun t ht hW => ⟨⟨_, _, _, _, rfl, ⟨rfl, Or.inl ⟨hPq, rfl, rfl⟩⟩, hR1, by rw [ht]; exact hP1, sw_K.moved hW hK, hD1⟩, hS2.F ht⟩) hS2.2.2 dL_learned_18 hlocks) T' rfl X'
      exact ⟨t2, stp t2 a1, b1⟩
    · subst hEE
      rw [hM'] at hR'
      rw [h0] at hz hk
      have hP2 : va_P (sw_D G) vwCl ws1 T'.heap := by rw [e1]; exact hP'
      have hS1 : va_S (va_A ws s0.heap.size) s0.heap T'.heap ([] ++ Lc) := ⟨by rw [e1]; exact hz, fun q h1 h2 => by rw [e1]; exact hk q h1 h2, fun q hq => hL q hq⟩
      obtain ⟨t2, a1, b1⟩ := vx_catch (rest := [sw_i 0, .ref (sw_al G 95)]) (ls := ls) (pc := 5) (own := RL) (name := NSE) hown [] ⟨0, 10, 13, 13⟩ [] (by rw [htab]; rfl) (fun z hz => nomatch hz) (by decide) (by decide) (hw _ cl_L_13) (va_Nw.use rfl hE.2.2.1.1) (by rw [e1]; exact hce) hcv hcl (show W p l e (sw_rm μL_learned) s0 m ([.ref (sw_al G 0), sw_i i, sw_i w, .ref (sw_al G 95)] : List Value).toArray below meth c T'.heap ([] ++ Lc) (0 + 1) (0 + 6) (MQ below (sw_QQ G (sw_q0 G (fun r M' => (((0 ≤ i ∧ i < qM s) ∧ 0 ≤ w ∧ w ≤ 5) ∧ r = some (sw_i 0) ∧ M' = sw_up M 95 (sw_la 1 (up o 0 v9))) ∨ (¬ (((0 ≤ i ∧ i < qM s) ∧ 0 ≤ w ∧ w ≤ 5)) ∧ r = some (sw_i 1) ∧ M' = M))) (va_A ws s0.heap.size)) ([.ref (sw_al G 0), sw_i i, sw_i w, .ref (sw_al G 95)] : List Value).toArray s0 (mK μL_learned) (mS μL_learned) (va_A ws s0.heap.size)) (F0 m 13 ls [.ref q]) from by
        refine lv_astore hx hb dL_learned_13 hl (by decide) rfl (fun ls hl => ?_)
        refine lv_iconst (v := iN 1) hx hb dL_learned_15 rfl ?_
        exact W.iret hx hb hret (fun t ht hW => ⟨⟨G.2.2.2, _, M, ws1, rfl, ⟨rfl, Or.inr ⟨hnp, rfl, rfl⟩⟩, hR', by rw [ht]; exact hP2, sw_K.moved hW hK, hD'⟩, hS1.F ht⟩) hS1.2.2 dL_learned_16 hlocks) T' rfl X'
      exact ⟨t2, stp.trans a1, b1⟩
  exact main _ hl0
end
section
variable {l : Launch} {G : sw_G} {μ μ' : sw_Mt} {E : State → (Nat → Prop) → Prop} {Z : sw_Z} {pc ix : Nat} {lv : List (Nat × Value)} {st st0 As : List Value} {M : sw_M} {uc us n : Nat} {QA : (Nat → Nat) → Option Value → sw_M → Prop} {hh : List (Nat × Nat × Nat × Nat)}
/-- a static call of a method with a table of its own, that may ask what a throw asks -/
theorem v_callSW (hEX : ∀ s A, E s A → sw_EX s A) (hK : ∀ (ws : va_W) (sz : Nat), sw_Rep G M ws → Met l (mY μ') (Cond.codeWith (mY μ') (mC μ') (mL μ') (mR μ') hh :: sw_U) (sw_rm μ') (sw_PcX G As ws sz) (sw_QQ G QA (va_A ws sz)) (mK μ') (mS μ') (va_A ws sz)) (hu : uc + mK μ' ≤ mK μ) (hv : us + mS μ' ≤ mS μ)
    (hl0 : Cond.methodLink (mY μ).cls ix (mY μ') ∈ sw_U) (hcd : Cond.codeWith (mY μ') (mC μ') (mL μ') (mR μ') hh ∈ sw_U) (hst9 : Cond.static (mY μ') ∈ sw_U) (hini : Cond.initialized (mY μ').cls ∈ sw_U) (hno : (mY μ').cls ≠ "java/lang/invoke/MethodHandle" ∧ (mY μ').cls ≠ "java/lang/invoke/VarHandle") (hcr : sw_CR μ μ') (hpn : (parseMethodDescriptor (mY μ').desc).map (fun d => d.parameters.length) = some n) (hn : As.length = n) (hst : st0 = As.reverse ++ st) (h8 : (st.map fun v => v.category).sum ≤ 8) (hd : decode (mC μ) pc = .ok (.invokestatic ix, 3))
    (kk : ∀ (al : Nat → Nat) (r : Option Value) (M' : sw_M), QA al r M' → V l (sw_Gw G al) μ E Z (pc + 3) lv (r.toList ++ st) M' (uc + mK μ') (us + mS μ')) : V l G μ E Z pc lv st0 M uc us := by
  intro p e R s m args below meth c A H locs ws ls C hP hD hS hR hl
  have hA : ∀ q, va_A ws H.size q → A q := by
    intro q h
    rcases h with ⟨k, x, hx⟩ | h
    · exact hD.2 k (q, x) hx
    · exact C.2.2.2.2.2.2.1 q (Nat.le_trans hS.1 h)
  have hpre : ∀ U : State, U.heap = H → s.WarmedH U.vm → sw_PcX G As ws H.size As.toArray U := fun U hU hW => ⟨rfl, by rw [hU], by rw [hU]; exact hP, sw_K.moved hW C.2.2.2.2.2.1, hD.weaken (fun _ _ _ _ => trivial), sw_EX.into (hEX s A (sw_Cx_E C)) hS hU hW hA⟩
  have hroom : mF μ' + 1 ≤ R.frames ∧ 8 + (mL μ' + 11) + 64 * mF μ' ≤ R.locals := ⟨Nat.le_trans hcr.1 C.2.2.2.2.2.2.2.1, Nat.le_trans hcr.2 C.2.2.2.2.2.2.2.2.1⟩
  have hfit : uc + mK μ' ≤ R.cells ∧ us + mS μ' ≤ R.slots := ⟨Nat.le_trans hu C.2.2.2.2.2.2.2.2.2.1, Nat.le_trans hv C.2.2.2.2.2.2.2.2.2.2.1⟩
  have hfix : CallFix p m c (mC μ) (mL μ) s args (mT μ) (mY μ).cls := ⟨C.1, C.2.1, C.2.2.1, C.2.2.2.1, C.2.2.2.2.1⟩
  have hUT : ∀ w ∈ sw_U, w ∈ mT μ := fun w h => List.mem_cons_of_mem _ h
  have hT : GoodIn (mT μ) (va_wsS (mY μ).cls ix (mY μ') (Cond.codeWith (mY μ') (mC μ') (mL μ') (mR μ') hh :: sw_U)) := by
    intro w hw
    have hm : w ∈ sw_U := by
      rcases List.mem_append.mp hw with hw | hw
      · simp only [List.mem_cons, List.not_mem_nil, or_false] at hw
        rcases hw with rfl | rfl | rfl
        · exact hl0
        · exact hst9
        · exact hini
      · rcases List.mem_cons.mp hw with rfl | hw
        · exact hcd
        · exact hw
    exact ⟨hUT w hm, sw_gd w hm⟩
  subst hst
  exact sw_back C hD hS hl (vx_runSW hfix (hK ws H.size hR) (vx_cwSW n C.2.2.2.2.1 hT rfl rfl rfl ⟨hno.1, hno.2, hpn⟩ hroom) ⟨sw_blindX, hpre⟩ rfl hn hl.1 rfl (lv_room h8) hd hfit) kk
end

