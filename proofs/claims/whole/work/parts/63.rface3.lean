/-! the reference's face: feed, fault, sale -/
section
variable {f g : Int → Int} {len : Int}
/-- tapes that are alike as far as they go are read alike -/
def tpE (f g : Int → Int) (len : Int) : Prop := ∀ i, 0 ≤ i → i < len → f i = g i
theorem lk_tp (h : tpE f g len) {a : Int} (h0 : 0 ≤ a) : lk f len a = lk g len a := by
  unfold lk
  by_cases c : a < len
  · rw [if_pos c, if_pos c]; exact h a h0 c
  · rw [if_neg c, if_neg c]
theorem sk_tp (h : tpE f g len) : ∀ (n : Nat) {a : Int}, 0 ≤ a → sk f len n a = sk g len n a
  | 0, _, _ => rfl
  | n + 1, a, h0 => by
    unfold sk
    rw [lk_tp h h0]
    by_cases c : lk g len a = 32
    · rw [if_pos c, if_pos c]; exact sk_tp h n (by omega)
    · rw [if_neg c, if_neg c]
theorem nmb_tp (h : tpE f g len) {a lo hi : Int} (h0 : 0 ≤ a) : nmb f len a lo hi = nmb g len a lo hi := by
  have hs := sk_le g len 240 a
  unfold nmb
  rw [sk_tp h 240 h0]
  generalize sk g len 240 a = a1 at hs ⊢
  dsimp only
  rw [lk_tp h (a := a1) (by omega), lk_tp h (a := a1 + 1) (by omega), lk_tp h (a := a1 + 2) (by omega)]
theorem nmx_tp (h : tpE f g len) {a wr lo hi : Int} (h0 : 0 ≤ a) : nmx f len a wr lo hi = nmx g len a wr lo hi := by
  unfold nmx
  rw [nmb_tp h h0]
theorem nmx_a {a wr lo hi : Int} (h0 : 0 ≤ a) : 0 ≤ (nmx f len a wr lo hi).2.1 := by
  unfold nmx
  split
  · have := nmb_ok (f := f) (len := len) (a := a) (lo := lo) (hi := hi)
    omega
  · exact h0
theorem sgl_tp (h : tpE f g len) {sg t : Int} : ∀ (n : Nat) {k left a wr : Int} {O : Int → Int}, 0 ≤ a → sgl f len sg t n k left a wr O = sgl g len sg t n k left a wr O
  | 0, _, _, _, _, _, _ => rfl
  | n + 1, k, left, a, wr, O, h0 => by
    unfold sgl
    rw [nmb_tp h h0]
    by_cases c : wr = -1
    · rw [if_pos c, if_pos c]
      have := nmb_ok (f := g) (len := len) (a := a) (lo := if k = sg - 1 then left else 0) (hi := left)
      exact sgl_tp h n (by omega)
    · rw [if_neg c, if_neg c]
theorem tcl_tp (h : tpE f g len) {a : Int} {σ : SaleT} (h0 : 0 ≤ a) : tcl f len a σ = tcl g len a σ := by
  unfold tcl
  dsimp only
  rw [nmx_tp h h0]
  have h1 := nmx_a (f := g) (len := len) (wr := -1) (lo := 0) (hi := 60) h0
  rw [nmx_tp h h1]
  have h2 := nmx_a (f := g) (len := len) (wr := (nmx g len a (-1) 0 60).2.2) (lo := 1) (hi := 9) h1
  rw [sgl_tp h _ h2]
theorem cla_tp (h : tpE f g len) {a : Int} {σ : SaleT} (h0 : 0 ≤ a) : cla f len a σ = cla g len a σ := by
  have hs := sk_le g len 240 a
  unfold cla
  rw [sk_tp h 240 h0]
  generalize sk g len 240 a = a1 at hs ⊢
  rw [lk_tp h (a := a1) (by omega)]
  unfold claX
  rw [tcl_tp h (a := a1 + 1) (by omega), nmb_tp h (a := a1 + 1) (by omega), nmb_tp h (a := a1 + 1) (by omega), nmb_tp h (a := a1 + 1) (by omega)]
theorem rdl_tp (h : tpE f g len) : ∀ (n : Nat) {a wr : Int} {σ : SaleT}, 0 ≤ a → a ≤ len → (0 ≤ sTr σ ∧ sTr σ ≤ 8) → rdl f len n a wr σ = rdl g len n a wr σ
  | 0, _, _, _, _, _, _ => rfl
  | n + 1, a, wr, σ, h0, h1, h2 => by
    have hs := sk_le g len 240 a
    unfold rdl
    rw [sk_tp h 240 h0]
    generalize sk g len 240 a = a1 at hs ⊢
    rw [lk_tp h (a := a1) (by omega), cla_tp h (a := a1 + 1) (by omega)]
    by_cases c1 : wr = -1
    · rw [if_pos c1, if_pos c1]
      by_cases c2 : len ≤ a1
      · rw [if_pos c2, if_pos c2]
      · rw [if_neg c2, if_neg c2]
        by_cases c3 : lk g len a1 = 59
        · rw [if_pos c3, if_pos c3]
          have hk := cla_ok (f := g) (len := len) (a := a1 + 1) (σ := σ) (by omega) h2 (by omega)
          exact rdl_tp h n (by omega) (by omega) (by omega)
        · rw [if_neg c3, if_neg c3]
    · rw [if_neg c1, if_neg c1]
theorem rd_tp (h : tpE f g len) (hl : 0 ≤ len) (V W O St : Int → Int) : rd f len V W O St = rd g len V W O St := by
  have hs := sk_le g len 240 0
  unfold rd
  rw [sk_tp h 240 (Int.le_refl 0)]
  generalize sk g len 240 0 = a1 at hs ⊢
  rw [lk_tp h (a := a1) (by omega), nmb_tp h (a := a1 + 1) (by omega)]
  by_cases c : lk g len a1 = 115
  · rw [if_pos c, if_pos c]
    have hn := nmb_ok (f := g) (len := len) (a := a1 + 1) (lo := 2) (hi := 5)
    have hlt : a1 < len := by
      by_cases q : a1 < len
      · exact q
      · have e : lk g len a1 = -1 := if_neg q
        omega
    exact rdl_tp h 241 (by omega) (by omega) ⟨Int.le_refl 0, by show (0 : Int) ≤ 8; omega⟩
  · rw [if_neg c, if_neg c]
/-- who sits on the seats of what is read -/
theorem cla_st {a : Int} {σ : SaleT} : sSt (cla f len a σ).2.2 = sSt σ := by
  unfold cla claX
  split
  · rfl
  · split
    · rfl
    · split
      · rfl
      · split <;> rfl
theorem rdl_st : ∀ (n : Nat) {a wr : Int} {σ : SaleT}, sSt (rdl f len n a wr σ).2 = sSt σ
  | 0, _, _, _ => rfl
  | n + 1, a, wr, σ => by
    unfold rdl
    split
    · split
      · rfl
      · split
        · rw [rdl_st n, cla_st]
        · rfl
    · rfl
theorem rd_st (V W O St : Int → Int) : sSt (rd f len V W O St).2 = fl St (-1) 4 := by
  unfold rd
  split
  · rw [rdl_st]
  · rfl
end
section
variable {l : Launch} {G : sw_G} {M : sw_M} {s : CSt}
/-- a row behind the SALES may be anything -/
theorem RI.free {x x' : Nat → Int} {a a' : Nat → Int → Int} (h : RI s x a) (wf : ∀ k : Nat, k < qN s → wfS (qS s k)) {n : Int} (hn : (qN s : Int) ≤ n) (ha : frA n a a') (hx : xfr XL x x') : RI s x' a' := by
  obtain ⟨h1, h2, h3, h4, h5, h6, h7, h8, h9, h10, h11, h12⟩ := h
  refine ⟨(hx 2 (by decide)).trans h1, ?_, (hx 14 (by decide)).trans h3, (hx 19 (by decide)).trans h4, ?_, ?_, fun k hk => ?_, ?_, (hx 50 (by decide)).trans h9, (hx 52 (by decide)).trans h10, ?_, ?_⟩
  · rw [ha.1 1 (by omega)]; exact h2
  · rw [ha.1 18 (by omega)]; exact h5
  · rw [ha.1 42 (by omega)]; exact h6
  · rw [ha.1 13 (by omega)]
    obtain ⟨⟨r5, r6, r10, r11, r12, rr⟩, rs⟩ := h7 k hk
    obtain ⟨f5, f6, f10, f11, f12⟩ := ha.2.1 (k : Int) (by omega)
    refine ⟨⟨f5.trans r5, f6.trans r6, f10.trans r10, f11.trans r11, f12.trans r12, fun t t0 t1 => ?_⟩, rs⟩
    obtain ⟨u1, u2, u3⟩ := rr t t0 t1
    have t8 := (wf k hk).2.1
    have s5 := (wf k hk).1
    obtain ⟨f7, f8⟩ := ha.2.2.1 (8 * (k : Int) + t) (by omega)
    refine ⟨f7.trans u1, f8.trans u2, fun j j0 j1 => ?_⟩
    rw [ha.2.2.2 _ (by omega)]; exact u3 j j0 j1
  · rw [ha.1 13 (by omega)]; exact h8
  · rw [ha.1 49 (by omega)]; exact h11
  · rw [ha.1 48 (by omega), hx 51 (by decide)]; exact h12
theorem R9_fault (V W O St : Int → Int) (hI : InvR G M s) (hs : stOK s) : Kt l G μX10_fault [.ref (sw_al G 70)] M (fun r M' => r = some (sw_i (rd (qF s) (qL s) V W O St).1) ∧ InvR G M' s ∧ frR M M') := by
  refine KtA.of (by decide +kernel) (Nat.le_of_ble_eq_true rfl) ?_
  have hF : frR M M := frR.rf
  obtain ⟨x, a, hM, hRI⟩ := hI
  have hns : qN s ≤ 8 := hs.2.1
  obtain ⟨l0, l1, l2⟩ := hs.1
  have wf := fun (n : Nat) (hn : n < qN s) => (hs.2.2.1 n hn).1
  have htp : tpE (a 1) (qF s) (qL s) := hRI.2.1
  have hw : wfT (a 1) (qL s) := ⟨l0, l1, fun i i0 i1 => by rw [htp i i0 i1]; exact l2 i i0 i1⟩
  refine v_aload_n dX10_fault_0 rfl ?_
  refine v_bipush dX10_fault_1 (by decide +kernel) ?_
  refine v_callV (ci := 10) (K10_readSale V W O St (s := 8) hM hRI.1 hw ⟨by omega, by omega⟩) ⟨rfl, rfl⟩ (Nat.le_refl _) (Nat.le_refl _) hM.1 rfl ⟨ml_X10_122, mm_X10_readSale⟩ ⟨(Nat.le_of_ble_eq_true rfl), (Nat.le_of_ble_eq_true rfl)⟩ mp_X10_readSale rfl rfl (Nat.le_of_ble_eq_true rfl) dX10_fault_3 (fun r M' h => ?_)
  obtain ⟨a', b, w, rfl, hM1, hF1, hA, e1, e2⟩ := h
  exact v_iret dX10_fault_6 rfl (Nat.le_refl _) (Nat.le_refl _) (⟨by rw [e1, rd_tp htp l0], ⟨_, _, hM1, hRI.free wf (by omega) hA ((xfr.rf.up (k := 3) (by decide)).up (k := 4) (by decide))⟩, hF.tr hF1⟩)
theorem R9_saleX (hI : InvR G M s) (hs : stOK s) (hc : 8 ≤ qN s) : Kt l G μX10_sale [.ref (sw_al G 70)] M (fun r M' => r = some (sw_i (-1)) ∧ InvR G M' s ∧ frR M M') := by
  refine KtA.of (by decide +kernel) (Nat.le_of_ble_eq_true rfl) ?_
  obtain ⟨x, a, hM, hRI⟩ := hI
  have h14 := hRI.2.2.1
  have hns : qN s ≤ 8 := hs.2.1
  refine v_aload_n dX10_sale_0 rfl ?_
  refine v_rgi 14 hM h14 fl_X10_126 rfl dX10_sale_1 ?_
  refine v_bipush dX10_sale_4 (by decide +kernel) ?_
  refine v_icmp_eq (tgt := 21) dX10_sale_6 (by decide) ⟨by omega, by omega⟩ ⟨by omega, by omega⟩ (fun h6 => ?_) (fun h6 => ?_)
  · skip
    refine v_iconst dX10_sale_21 ?_
    exact v_iret dX10_sale_22 rfl (Nat.le_refl _) (Nat.le_refl _) (⟨rfl, ⟨_, _, hM, hRI⟩, frR.rf⟩)
  · skip
    exfalso; omega
theorem R9_sale (V W O St : Int → Int) (hI : InvR G M s) (hs : stOK s) (hc : qN s < 8) : Kt l G μX10_sale [.ref (sw_al G 70)] M (fun r M' => ((rd (qF s) (qL s) V W O St).1 ≠ -1 → r = some (sw_i (-1)) ∧ InvR G M' s) ∧ ((rd (qF s) (qL s) V W O St).1 = -1 → r = some (sw_i (qN s : Int)) ∧ InvR G M' (sN s (rd (qF s) (qL s) V W O St).2)) ∧ frR M M') := by
  refine KtA.of (by decide +kernel) (Nat.le_of_ble_eq_true rfl) ?_
  have hF : frR M M := frR.rf
  obtain ⟨x, a, hM, hRI⟩ := hI
  have h14 := hRI.2.2.1
  obtain ⟨l0, l1, l2⟩ := hs.1
  have wf := fun (n : Nat) (hn : n < qN s) => (hs.2.2.1 n hn).1
  have htp : tpE (a 1) (qF s) (qL s) := hRI.2.1
  have hw : wfT (a 1) (qL s) := ⟨l0, l1, fun i i0 i1 => by rw [htp i i0 i1]; exact l2 i i0 i1⟩
  have hrg := rd_rg hs.1 V W O St
  refine v_aload_n dX10_sale_0 rfl ?_
  refine v_rgi 14 hM h14 fl_X10_126 rfl dX10_sale_1 ?_
  refine v_bipush dX10_sale_4 (by decide +kernel) ?_
  refine v_icmp_eq (tgt := 21) dX10_sale_6 (by decide) ⟨by omega, by omega⟩ ⟨by omega, by omega⟩ (fun h6 => ?_) (fun h6 => ?_)
  · skip
    exfalso; omega
  · skip
    refine v_aload_n dX10_sale_9 rfl ?_
    refine v_aload_n dX10_sale_10 rfl ?_
    refine v_rgi 14 hM h14 fl_X10_126 rfl dX10_sale_11 ?_
    refine v_callV (ci := 10) (K10_readSale V W O St (s := (qN s : Int)) hM hRI.1 hw ⟨by omega, by omega⟩) ⟨rfl, rfl⟩ (Nat.le_refl _) (Nat.le_refl _) hM.1 rfl ⟨ml_X10_122, mm_X10_readSale⟩ ⟨(Nat.le_of_ble_eq_true rfl), (Nat.le_of_ble_eq_true rfl)⟩ mp_X10_readSale rfl rfl (Nat.le_of_ble_eq_true rfl) dX10_sale_14 (fun r M' h => ?_)
    obtain ⟨a', b, w, rfl, hM1, hF1, hA, e1, e2⟩ := h
    replace hM := hM1
    replace hF := hF.tr hF1
    rw [rd_tp htp l0] at e1 e2
    have hRI1 := hRI.free wf (Int.le_refl _) hA ((xfr.rf.up (k := 3) (v := b) (by decide)).up (k := 4) (v := w) (by decide))
    refine v_iconst dX10_sale_17 ?_
    refine v_icmp_eq (tgt := 23) dX10_sale_18 (by decide) ⟨by omega, by omega⟩ ⟨by omega, by omega⟩ (fun q => ?_) (fun q => ?_)
    · skip
      refine v_aload_n dX10_sale_23 rfl ?_
      refine v_iconst dX10_sale_24 ?_
      refine v_rp 2 hM hF (flS_2 G _ _) fp_X10_84 rfl rfl (Nat.le_of_ble_eq_true rfl) dX10_sale_25 (fun M hM hF => ?_)
      refine v_aload_n dX10_sale_28 rfl ?_
      refine v_dup dX10_sale_29 rfl ?_
      refine v_rgi 14 hM ((upn_o (by decide)).trans ((upn_o (by decide)).trans ((upn_o (by decide)).trans h14))) fl_X10_126 rfl dX10_sale_30 ?_
      refine v_iconst dX10_sale_33 ?_
      refine v_iadd dX10_sale_34 ?_
      refine v_rp 14 hM hF (flS_14 G _ _) fp_X10_126 rfl rfl (Nat.le_of_ble_eq_true rfl) dX10_sale_35 (fun M hM hF => ?_)
      refine v_aload_n dX10_sale_38 rfl ?_
      refine v_rgi 14 hM upn_s fl_X10_126 rfl dX10_sale_39 ?_
      refine v_iconst dX10_sale_42 ?_
      refine v_isub dX10_sale_43 ?_
      refine v_iret dX10_sale_44 rfl (Nat.le_refl _) (Nat.le_refl _) ?_
      skip
      refine ⟨fun h => absurd (e1.symm.trans q) h, fun h => ⟨by rw [show (qN s : Int) + 1 - 1 = (qN s : Int) by omega], _, _, hM, ?_⟩, hF⟩
      obtain ⟨g1, g2, g3, g4, g5, g6, g7, g8, g9, g10, g11, g12⟩ := hRI1
      refine ⟨(upn_o (by decide)).trans upn_s, fun i i0 i1 => by have i1 : i < 0 := i1; omega, upn_s, g4, g5, g6, fun k hk => ?_, fun i i0 i1 => g8 i (by have i0 : 4 * ((qN s + 1 : Nat) : Int) ≤ i := i0; omega) i1, g9, g10, g11, g12⟩
      by_cases e : k = qN s
      · subst e
        have e3 : qS (sN s (rd (qF s) (qL s) V W O St).2) (qN s) = (rd (qF s) (qL s) V W O St).2 := if_pos rfl
        rw [e3]
        refine ⟨e2 q, fun i i0 i1 => ?_⟩
        rw [rd_st, fl_at, if_pos ⟨i0, by omega⟩]
        exact g8 _ (by omega) (by omega)
      · have hk : k < qN s + 1 := hk
        have e3 : qS (sN s (rd (qF s) (qL s) V W O St).2) k = qS s k := if_neg e
        rw [e3]
        exact g7 k (by omega)
    · skip
      refine v_iconst dX10_sale_21 ?_
      exact v_iret dX10_sale_22 rfl (Nat.le_refl _) (Nat.le_refl _) (⟨fun _ => ⟨rfl, _, _, hM, hRI1⟩, fun h => absurd (e1.trans h) q, hF⟩)
theorem R9_feed {a b c d e : Int} (hI : InvR G M s) (hs : stOK s) : Kt l G μX10_feed [.ref (sw_al G 70), sw_i a, sw_i b, sw_i c, sw_i d, sw_i e] M (fun r M' => r = some (sw_i (if 240 < qL s + (cnt4 a 4 + cnt4 b 4 + cnt4 c 4 + cnt4 d 4 + cnt4 e 4) then -1 else (fd5 s a b c d e).2)) ∧ InvR G M' (if 240 < qL s + (cnt4 a 4 + cnt4 b 4 + cnt4 c 4 + cnt4 d 4 + cnt4 e 4) then s else sF s (fd5 s a b c d e).1 (fd5 s a b c d e).2) ∧ frR M M') := by
  refine KtA.of (by decide +kernel) (Nat.le_of_ble_eq_true rfl) ?_
  have hF : frR M M := frR.rf
  obtain ⟨x, ar, hM, hRI⟩ := hI
  obtain ⟨h2, g2, g3, g4, g5, g6, g7, g8, g9, g10, g11, g12⟩ := id hRI
  obtain ⟨l0, l1, l2⟩ := hs.1
  rw [← ctk_cnt a b c d e, ← apk_fd5]
  obtain ⟨B, hB⟩ : ∃ B, bk5 a b c d e = B := ⟨_, rfl⟩
  have hbd : ∀ k, 0 ≤ B k ∧ B k ≤ 255 := fun k => by rw [← hB]; exact byt_bd _ _
  have call : ∀ (k : Nat), k < 20 → ∀ M1 : sw_M, Kt l G μX10_byteOf [sw_i a, sw_i b, sw_i c, sw_i d, sw_i e, sw_i (k : Int)] M1 (fun r M' => r = some (sw_i (B k)) ∧ M' = M1) := fun k hk M1 => by rw [← hB]; exact K10_byteOf hk
  rw [hB]
  obtain ⟨Zq, hZ⟩ : ∃ Zq : Option Value → sw_M → Prop, Zq = (fun r M' => r = some (sw_i (if 240 < qL s + ctk B 20 then -1 else (apk B (qF s, qL s) 20).2)) ∧ InvR G M' (if 240 < qL s + ctk B 20 then s else sF s (apk B (qF s, qL s) 20).1 (apk B (qF s, qL s) 20).2) ∧ frR M M') := ⟨_, rfl⟩
  rw [← hZ]
  have cb20 := ctk_bd B 20
  have loop2 : ∀ (n k : Nat) (M1 : sw_M), k + n = 20 → qL s + ctk B 20 ≤ 240 → RS G M1 (upn x 2 (apk B (ar 1, qL s) k).2) (upa ar 1 (apk B (ar 1, qL s) k).1) → frR M M1 → ∀ n0, V l G μX10_feed sw_E0 (sw_Zq G μX10_feed (sw_q0 G Zq)) 62 [(0, .ref (sw_al G 70)), (1, sw_i a), (2, sw_i b), (3, sw_i c), (4, sw_i d), (5, sw_i e), (6, sw_i n0), (7, sw_i (k : Int))] [] M1 0 0 := by
    intro n
    induction n with
    | zero =>
      intro k M1 hk hl hM hF n0
      have e : k = 20 := by omega
      subst e
      have f2 : upn x 2 (apk B (ar 1, qL s) 20).2 2 = (apk B (ar 1, qL s) 20).2 := upn_s
      have e2 : (apk B (ar 1, qL s) 20).2 = (apk B (qF s, qL s) 20).2 := by rw [apk_len, apk_len]
      refine v_iload dX10_feed_62 rfl ?_
      refine v_bipush dX10_feed_64 (by decide +kernel) ?_
      refine v_icmp_ge (tgt := 115) dX10_feed_66 (by decide) ⟨by omega, by omega⟩ ⟨by omega, by omega⟩ (fun h66 => ?_) (fun h66 => ?_)
      · skip
        refine v_aload_n dX10_feed_115 rfl ?_
        refine v_rgi 2 hM f2 fl_X10_84 rfl dX10_feed_116 ?_
        refine v_iret dX10_feed_119 rfl (Nat.le_refl _) (Nat.le_refl _) ?_
        skip
        rw [hZ, if_neg (by omega), if_neg (by omega)]
        refine ⟨by rw [e2], ⟨_, _, hM, upn_s.trans e2, fun i i0 i1 => ?_, g3, g4, g5, g6, g7, g8, g9, g10, g11, g12⟩, hF⟩
        have i1 : i < (apk B (qF s, qL s) 20).2 := i1
        exact apk_congr l0 g2 20 i i0 (by rw [e2]; exact i1)
      · skip
        exfalso; omega
    | succ n ih =>
      intro k M1 hk hl hM hF n0
      have f2 : upn x 2 (apk B (ar 1, qL s) k).2 2 = (apk B (ar 1, qL s) k).2 := upn_s
      have el := apk_len B (ar 1, qL s) k
      have cbk := ctk_bd B k
      have cm := ctk_mono B (n := k + 1) (m := 20) (by omega)
      have hb := hbd k
      have est : ctk B (k + 1) = ctk B k + (if B k = 0 then 0 else 1) := rfl
      have eap : apk B (ar 1, qL s) (k + 1) = if B k = 0 then apk B (ar 1, qL s) k else (up (apk B (ar 1, qL s) k).1 (apk B (ar 1, qL s) k).2 (B k), (apk B (ar 1, qL s) k).2 + 1) := rfl
      dsimp only at el
      refine v_iload dX10_feed_62 rfl ?_
      refine v_bipush dX10_feed_64 (by decide +kernel) ?_
      refine v_icmp_ge (tgt := 115) dX10_feed_66 (by decide) ⟨by omega, by omega⟩ ⟨by omega, by omega⟩ (fun h66 => ?_) (fun h66 => ?_)
      · skip
        exfalso; omega
      · skip
        refine v_iload_n dX10_feed_69 rfl ?_
        refine v_iload_n dX10_feed_70 rfl ?_
        refine v_iload_n dX10_feed_71 rfl ?_
        refine v_iload dX10_feed_72 rfl ?_
        refine v_iload dX10_feed_74 rfl ?_
        refine v_iload dX10_feed_76 rfl ?_
        refine v_callS (call k (by omega) _) ⟨rfl, rfl⟩ (Nat.le_refl _) (Nat.le_refl _) ⟨ml_X10_80, mm_X10_byteOf⟩ ⟨(Nat.le_of_ble_eq_true rfl), (Nat.le_of_ble_eq_true rfl)⟩ mp_X10_byteOf rfl rfl (Nat.le_of_ble_eq_true rfl) dX10_feed_78 (fun r M' h => ?_)
        obtain ⟨rfl, rfl⟩ := h
        refine v_istore dX10_feed_81 (Nat.le_of_ble_eq_true rfl) ?_
        refine v_iload dX10_feed_83 rfl ?_
        refine v_if_eq (tgt := 109) dX10_feed_85 (by decide) ⟨by omega, by omega⟩ (fun q => ?_) (fun q => ?_)
        · skip
          refine v_iinc dX10_feed_109 rfl (Nat.le_of_ble_eq_true rfl) ?_
          refine v_goto (tgt := 62) dX10_feed_112 (by decide) ?_
          refine v_to (ih (k + 1) _ (by omega) hl ?_ hF n0) rfl (sw_h1 rfl (sw_h1 rfl (sw_h1 rfl (sw_h1 rfl (sw_h1 rfl (sw_h1 rfl (sw_h1 rfl (sw_h1 rfl sw_h0))))))))
          rw [eap, if_pos q]; exact hM
        · skip
          refine v_aload_n dX10_feed_88 rfl ?_
          refine v_getfH 1 hM.1 fl_X10_7 rfl dX10_feed_89 ?_
          refine v_aload_n dX10_feed_92 rfl ?_
          refine v_rgi 2 hM f2 fl_X10_84 rfl dX10_feed_93 ?_
          refine v_iload dX10_feed_96 rfl ?_
          refine v_ris hM hF ar_1 (by omega) (by rw [if_neg q] at est; omega) dX10_feed_98 (fun M hM hF => ?_)
          refine v_aload_n dX10_feed_99 rfl ?_
          refine v_dup dX10_feed_100 rfl ?_
          refine v_rgi 2 hM f2 fl_X10_84 rfl dX10_feed_101 ?_
          refine v_iconst dX10_feed_104 ?_
          refine v_iadd dX10_feed_105 ?_
          refine v_rp 2 hM hF (flS_2 G _ _) fp_X10_84 rfl rfl (Nat.le_of_ble_eq_true rfl) dX10_feed_106 (fun M hM hF => ?_)
          rw [upa_upa, upa_s, upn_upn] at hM
          refine v_iinc dX10_feed_109 rfl (Nat.le_of_ble_eq_true rfl) ?_
          refine v_goto (tgt := 62) dX10_feed_112 (by decide) ?_
          refine v_to (ih (k + 1) _ (by omega) hl ?_ hF n0) rfl (sw_h1 rfl (sw_h1 rfl (sw_h1 rfl (sw_h1 rfl (sw_h1 rfl (sw_h1 rfl (sw_h1 rfl (sw_h1 rfl sw_h0))))))))
          rw [eap, if_neg q]; exact hM
  have tail : V l G μX10_feed sw_E0 (sw_Zq G μX10_feed (sw_q0 G Zq)) 44 [(0, .ref (sw_al G 70)), (1, sw_i a), (2, sw_i b), (3, sw_i c), (4, sw_i d), (5, sw_i e), (6, sw_i (ctk B 20))] [] M 0 0 := by
    refine v_aload_n dX10_feed_44 rfl ?_
    refine v_rgi 2 hM h2 fl_X10_84 rfl dX10_feed_45 ?_
    refine v_iload dX10_feed_48 rfl ?_
    refine v_iadd dX10_feed_50 ?_
    refine v_sipush dX10_feed_51 (by decide +kernel) ?_
    refine v_icmp_le (tgt := 59) dX10_feed_54 (by decide) ⟨by omega, by omega⟩ ⟨by omega, by omega⟩ (fun h54 => ?_) (fun h54 => ?_)
    · skip
      refine v_iconst dX10_feed_59 ?_
      refine v_istore dX10_feed_60 (Nat.le_of_ble_eq_true rfl) ?_
      exact v_to (loop2 20 0 M rfl (by omega) (by show RS G M (upn x 2 (qL s)) (upa ar 1 (ar 1)); rw [upa_self, upn_self h2]; exact hM) hF (ctk B 20)) rfl (sw_h1 rfl (sw_h1 rfl (sw_h1 rfl (sw_h1 rfl (sw_h1 rfl (sw_h1 rfl (sw_h1 rfl (sw_h1 rfl sw_h0))))))))
    · skip
      refine v_iconst dX10_feed_57 ?_
      refine v_iret dX10_feed_58 rfl (Nat.le_refl _) (Nat.le_refl _) ?_
      skip
      rw [hZ, if_pos (by omega), if_pos (by omega)]
      exact ⟨rfl, ⟨_, _, hM, hRI⟩, hF⟩
  have loop : ∀ (n k : Nat), k + n = 20 → V l G μX10_feed sw_E0 (sw_Zq G μX10_feed (sw_q0 G Zq)) 6 [(0, .ref (sw_al G 70)), (1, sw_i a), (2, sw_i b), (3, sw_i c), (4, sw_i d), (5, sw_i e), (6, sw_i (ctk B k)), (7, sw_i (k : Int))] [] M 0 0 := by
    intro n
    induction n with
    | zero =>
      intro k hk
      have e : k = 20 := by omega
      subst e
      refine v_iload dX10_feed_6 rfl ?_
      refine v_bipush dX10_feed_8 (by decide +kernel) ?_
      refine v_icmp_ge (tgt := 44) dX10_feed_10 (by decide) ⟨by omega, by omega⟩ ⟨by omega, by omega⟩ (fun h10 => ?_) (fun h10 => ?_)
      · skip
        exact v_to tail rfl (sw_h1 rfl (sw_h1 rfl (sw_h1 rfl (sw_h1 rfl (sw_h1 rfl (sw_h1 rfl (sw_h1 rfl sw_h0)))))))
      · skip
        exfalso; omega
    | succ n ih =>
      intro k hk
      have hb := hbd k
      have est : ctk B (k + 1) = ctk B k + (if B k = 0 then 0 else 1) := rfl
      refine v_iload dX10_feed_6 rfl ?_
      refine v_bipush dX10_feed_8 (by decide +kernel) ?_
      refine v_icmp_ge (tgt := 44) dX10_feed_10 (by decide) ⟨by omega, by omega⟩ ⟨by omega, by omega⟩ (fun h10 => ?_) (fun h10 => ?_)
      · skip
        exfalso; omega
      · skip
        refine v_iload dX10_feed_13 rfl ?_
        refine v_iload_n dX10_feed_15 rfl ?_
        refine v_iload_n dX10_feed_16 rfl ?_
        refine v_iload_n dX10_feed_17 rfl ?_
        refine v_iload dX10_feed_18 rfl ?_
        refine v_iload dX10_feed_20 rfl ?_
        refine v_iload dX10_feed_22 rfl ?_
        refine v_callS (call k (by omega) _) ⟨rfl, rfl⟩ (Nat.le_refl _) (Nat.le_refl _) ⟨ml_X10_80, mm_X10_byteOf⟩ ⟨(Nat.le_of_ble_eq_true rfl), (Nat.le_of_ble_eq_true rfl)⟩ mp_X10_byteOf rfl rfl (Nat.le_of_ble_eq_true rfl) dX10_feed_24 (fun r M' h => ?_)
        obtain ⟨rfl, rfl⟩ := h
        refine v_if_eq (tgt := 34) dX10_feed_27 (by decide) ⟨by omega, by omega⟩ (fun q => ?_) (fun q => ?_)
        · skip
          refine v_iconst dX10_feed_34 ?_
          refine v_iadd dX10_feed_35 ?_
          refine v_istore dX10_feed_36 (Nat.le_of_ble_eq_true rfl) ?_
          refine v_iinc dX10_feed_38 rfl (Nat.le_of_ble_eq_true rfl) ?_
          refine v_goto (tgt := 6) dX10_feed_41 (by decide) ?_
          refine v_to (ih (k + 1) (by omega)) rfl ?_
          rw [est, if_pos q]
          exact sw_h1 rfl (sw_h1 rfl (sw_h1 rfl (sw_h1 rfl (sw_h1 rfl (sw_h1 rfl (sw_h1 rfl (sw_h1 rfl sw_h0)))))))
        · skip
          refine v_iconst dX10_feed_30 ?_
          refine v_goto (tgt := 35) dX10_feed_31 (by decide) ?_
          refine v_iadd dX10_feed_35 ?_
          refine v_istore dX10_feed_36 (Nat.le_of_ble_eq_true rfl) ?_
          refine v_iinc dX10_feed_38 rfl (Nat.le_of_ble_eq_true rfl) ?_
          refine v_goto (tgt := 6) dX10_feed_41 (by decide) ?_
          refine v_to (ih (k + 1) (by omega)) rfl ?_
          rw [est, if_neg q]
          exact sw_h1 rfl (sw_h1 rfl (sw_h1 rfl (sw_h1 rfl (sw_h1 rfl (sw_h1 rfl (sw_h1 rfl (sw_h1 rfl sw_h0)))))))
  refine v_iconst dX10_feed_0 ?_
  refine v_istore dX10_feed_1 (Nat.le_of_ble_eq_true rfl) ?_
  refine v_iconst dX10_feed_3 ?_
  refine v_istore dX10_feed_4 (Nat.le_of_ble_eq_true rfl) ?_
  exact v_to (loop 20 0 rfl) rfl (sw_h1 rfl (sw_h1 rfl (sw_h1 rfl (sw_h1 rfl (sw_h1 rfl (sw_h1 rfl (sw_h1 rfl (sw_h1 rfl sw_h0))))))))
end

