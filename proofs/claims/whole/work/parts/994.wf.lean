/-! what is read as a SALE is well formed; a tape fed stays so -/
theorem sgl_wf {f : Int → Int} {len sg t : Int} : ∀ (n : Nat) (k left a wr : Int) (O : Int → Int), 0 ≤ a → 0 ≤ k → k + n = sg → 0 ≤ left → left ≤ 10 → (sgl f len sg t n k left a wr O).2.1 = -1 →
    wr = -1 ∧ (∀ x, x < t * 5 + k ∨ t * 5 + sg ≤ x → (sgl f len sg t n k left a wr O).2.2 x = O x) ∧ (∀ j, k ≤ j → j < sg → 0 ≤ (sgl f len sg t n k left a wr O).2.2 (t * 5 + j) ∧ (sgl f len sg t n k left a wr O).2.2 (t * 5 + j) ≤ 10) ∧
    (n = 0 ∨ sm (fun j => (sgl f len sg t n k left a wr O).2.2 (t * 5 + j)) sg.toNat = sm (fun j => O (t * 5 + j)) k.toNat + left)
  | 0, k, left, a, wr, O, h, hk, hn, l0, l1, hr => ⟨hr, fun x _ => rfl, fun j j0 j1 => by omega, Or.inl rfl⟩
  | n + 1, k, left, a, wr, O, h, hk, hn, l0, l1, hr => by
    by_cases c : wr = -1
    · obtain ⟨lo, hlo⟩ : ∃ lo, (if k = sg - 1 then left else 0) = lo := ⟨_, rfl⟩
      have e : sgl f len sg t (n + 1) k left a wr O = sgl f len sg t n (k + 1) (left - (nmb f len a (if k = sg - 1 then left else 0) left).1) (nmb f len a (if k = sg - 1 then left else 0) left).2.1 (nmb f len a (if k = sg - 1 then left else 0) left).2.2 (up O (t * 5 + k) (nmb f len a (if k = sg - 1 then left else 0) left).1) := if_pos c
      have hb := nmb_ok (f := f) (len := len) (a := a) (lo := lo) (hi := left)
      have hlo2 : 0 ≤ lo ∧ (k = sg - 1 → lo = left) := by
        rw [← hlo]
        by_cases q : k = sg - 1
        · rw [if_pos q]; exact ⟨l0, fun _ => rfl⟩
        · rw [if_neg q]; exact ⟨Int.le_refl _, fun z => absurd z q⟩
      rw [hlo] at e
      obtain ⟨q, hq⟩ : ∃ q, nmb f len a lo left = q := ⟨_, rfl⟩
      rw [hq] at e hb
      rw [e] at hr ⊢
      have ok := sgl_ok (f := f) (len := len) (sg := sg) (t := t) n (k + 1) (left - q.1) q.2.1 q.2.2 (up O (t * 5 + k) q.1) (by omega)
      have hq2 : q.2.2 = -1 := by
        by_cases z : q.2.2 = -1
        · exact z
        · exact absurd hr (ok.2.1 z)
      have hx : lo ≤ q.1 ∧ q.1 ≤ left := by omega
      obtain ⟨i1, i2, i3, i4⟩ := sgl_wf n (k + 1) (left - q.1) q.2.1 q.2.2 (up O (t * 5 + k) q.1) (by omega) (by omega) (by omega) (by omega) (by omega) hr
      refine ⟨c, fun x hx9 => ?_, fun j j0 j1 => ?_, Or.inr ?_⟩
      · rw [i2 x (by omega)]; exact if_neg (by omega)
      · by_cases cj : j = k
        · subst cj
          rw [i2 _ (by omega)]
          have e9 : up O (t * 5 + j) q.1 (t * 5 + j) = q.1 := if_pos rfl
          rw [e9]; omega
        · exact i3 j (by omega) j1
      · have es : sm (fun j => up O (t * 5 + k) q.1 (t * 5 + j)) (k + 1).toNat = sm (fun j => O (t * 5 + j)) k.toNat + q.1 := by
          rw [sm_step _ hk]
          have e1 : sm (fun j => up O (t * 5 + k) q.1 (t * 5 + j)) k.toNat = sm (fun j => O (t * 5 + j)) k.toNat := sm_congr _ (fun j j0 j1 => if_neg (by omega))
          have e9 : up O (t * 5 + k) q.1 (t * 5 + k) = q.1 := if_pos rfl
          rw [e1, e9]
        rcases i4 with i4 | i4
        · subst i4
          have ek : k = sg - 1 := by omega
          have e5 : sg.toNat = (k + 1).toNat := by omega
          rw [e5]
          exact es.trans (by have := hlo2.2 ek; omega)
        · rw [i4, es]; omega
    · have e : sgl f len sg t (n + 1) k left a wr O = (a, wr, O) := if_neg c
      rw [e] at hr
      exact absurd hr c
/-- a SALE in the making -/
def wfR (σ : SaleT) : Prop := (2 ≤ sSg σ ∧ sSg σ ≤ 5) ∧ (0 ≤ sTr σ ∧ sTr σ ≤ 8) ∧ (1 ≤ sNb σ ∧ sNb σ ≤ 4) ∧ (0 ≤ sLe σ ∧ sLe σ ≤ 60) ∧ (0 ≤ sWy σ ∧ sWy σ ≤ 2) ∧
  (∀ t, 0 ≤ t → t < sTr σ → (0 ≤ sV σ t ∧ sV σ t ≤ 60) ∧ 1 ≤ sW σ t ∧ sW σ t ≤ 9) ∧ (∀ t k, 0 ≤ t → t < sTr σ → 0 ≤ k → k < sSg σ → 0 ≤ sO σ (t * 5 + k) ∧ sO σ (t * 5 + k) ≤ 10) ∧
  (∀ t, 0 ≤ t → t < sTr σ → sm (fun k => sO σ (t * 5 + k)) (sSg σ).toNat = 10) ∧ (∀ k, 0 ≤ k → k < 4 → sSt σ k = -1)
theorem tcl_wf {f : Int → Int} {len a : Int} {σ : SaleT} (h : 0 ≤ a) (hw : wfR σ) (ht : sTr σ < 8) (hr : (tcl f len a σ).2.1 = -1) : wfR (tcl f len a σ).2.2 := by
  obtain ⟨w1, w2, w3, w4, w5, w6, w7, w8, w9⟩ := hw
  have k1 := nmb_ok (f := f) (len := len) (a := a) (lo := 0) (hi := 60)
  obtain ⟨r1, hr1⟩ : ∃ r1, nmx f len a (-1) 0 60 = r1 := ⟨_, rfl⟩
  have hr1' : nmb f len a 0 60 = r1 := by rw [← hr1]; exact (if_pos rfl).symm
  rw [hr1'] at k1
  obtain ⟨r2, hr2⟩ : ∃ r2, nmx f len r1.2.1 r1.2.2 1 9 = r2 := ⟨_, rfl⟩
  obtain ⟨r3, hr3⟩ : ∃ r3, sgl f len (sSg σ) (sTr σ) (sSg σ).toNat 0 10 r2.2.1 r2.2.2 (sO σ) = r3 := ⟨_, rfl⟩
  have e : tcl f len a σ = (r3.1, r3.2.1, (sSg σ, sTr σ + 1, sNb σ, sLe σ, sWy σ, up (sV σ) (sTr σ) r1.1, up (sW σ) (sTr σ) r2.1, r3.2.2, sSt σ)) := by unfold tcl; simp only [hr1, hr2, hr3]
  rw [e] at hr ⊢
  have k2 : 0 ≤ r2.2.1 ∧ (r2.2.2 = -1 → r1.2.2 = -1 ∧ 1 ≤ r2.1 ∧ r2.1 ≤ 9) := by
    by_cases c : r1.2.2 = -1
    · have k := nmb_ok (f := f) (len := len) (a := r1.2.1) (lo := 1) (hi := 9)
      have e : nmb f len r1.2.1 1 9 = r2 := by rw [← hr2]; exact (if_pos c).symm
      rw [e] at k
      omega
    · have e : r2 = (0, r1.2.1, r1.2.2) := by rw [← hr2]; exact if_neg c
      rw [e]; dsimp only; omega
  have k3 := sgl_wf (f := f) (len := len) (sg := sSg σ) (t := sTr σ) (sSg σ).toNat 0 10 r2.2.1 r2.2.2 (sO σ) k2.1 (by omega) (by omega) (by omega) (by omega) (by rw [hr3]; exact hr)
  rw [hr3] at k3
  obtain ⟨i1, i2, i3, i4⟩ := k3
  have k4 := k2.2 i1
  refine ⟨w1, ⟨by show 0 ≤ sTr σ + 1; omega, by show sTr σ + 1 ≤ 8; omega⟩, w3, w4, w5, fun t t0 t1 => ?_, fun t k t0 t1 k0 k1' => ?_, fun t t0 t1 => ?_, w9⟩
  · have t1 : t < sTr σ + 1 := t1
    show (0 ≤ up (sV σ) (sTr σ) r1.1 t ∧ up (sV σ) (sTr σ) r1.1 t ≤ 60) ∧ 1 ≤ up (sW σ) (sTr σ) r2.1 t ∧ up (sW σ) (sTr σ) r2.1 t ≤ 9
    unfold up
    by_cases c : t = sTr σ
    · rw [if_pos c, if_pos c]; omega
    · rw [if_neg c, if_neg c]; exact w6 t t0 (by omega)
  · have t1 : t < sTr σ + 1 := t1
    have k1' : k < sSg σ := k1'
    show 0 ≤ r3.2.2 (t * 5 + k) ∧ r3.2.2 (t * 5 + k) ≤ 10
    by_cases c : t = sTr σ
    · subst c; exact i3 k k0 k1'
    · rw [i2 _ (by omega)]; exact w7 t k t0 (by omega) k0 k1'
  · have t1 : t < sTr σ + 1 := t1
    show sm (fun k => r3.2.2 (t * 5 + k)) (sSg σ).toNat = 10
    by_cases c : t = sTr σ
    · subst c
      rcases i4 with i4 | i4
      · omega
      · rw [i4]; rfl
    · rw [← w8 t t0 (by omega)]
      exact sm_congr _ (fun k k0 k1 => i2 _ (by omega))
theorem cla_wf {f : Int → Int} {len a : Int} {σ : SaleT} (h : 0 ≤ a) (hw : wfR σ) (hr : (cla f len a σ).2.1 = -1) : wfR (cla f len a σ).2.2 := by
  have hs := sk_le f len 240 a
  unfold cla at hr ⊢
  obtain ⟨a1, ha1⟩ : ∃ a1, sk f len 240 a = a1 := ⟨_, rfl⟩
  rw [ha1] at hs hr ⊢
  obtain ⟨c, hc⟩ : ∃ c, lk f len a1 = c := ⟨_, rfl⟩
  rw [hc] at hr ⊢
  unfold claX at hr ⊢
  by_cases c1 : c = 116 ∧ sTr σ < 8
  · rw [if_pos c1] at hr ⊢
    exact tcl_wf (by omega) hw c1.2 hr
  · rw [if_neg c1] at hr ⊢
    obtain ⟨w1, w2, w3, w4, w5, w6, w7, w8, w9⟩ := hw
    by_cases c2 : c = 110
    · rw [if_pos c2] at hr ⊢
      have k := nmb_ok (f := f) (len := len) (a := a1 + 1) (lo := 1) (hi := 4)
      exact ⟨w1, w2, by show 1 ≤ (nmb f len (a1 + 1) 1 4).1 ∧ (nmb f len (a1 + 1) 1 4).1 ≤ 4; dsimp only at hr; omega, w4, w5, w6, w7, w8, w9⟩
    · rw [if_neg c2] at hr ⊢
      by_cases c3 : c = 108
      · rw [if_pos c3] at hr ⊢
        have k := nmb_ok (f := f) (len := len) (a := a1 + 1) (lo := 0) (hi := 60)
        exact ⟨w1, w2, w3, by show 0 ≤ (nmb f len (a1 + 1) 0 60).1 ∧ (nmb f len (a1 + 1) 0 60).1 ≤ 60; dsimp only at hr; omega, w5, w6, w7, w8, w9⟩
      · rw [if_neg c3] at hr ⊢
        by_cases c4 : c = 119
        · rw [if_pos c4] at hr ⊢
          have k := nmb_ok (f := f) (len := len) (a := a1 + 1) (lo := 0) (hi := 2)
          exact ⟨w1, w2, w3, w4, by show 0 ≤ (nmb f len (a1 + 1) 0 2).1 ∧ (nmb f len (a1 + 1) 0 2).1 ≤ 2; dsimp only at hr; omega, w6, w7, w8, w9⟩
        · rw [if_neg c4] at hr ⊢
          exfalso
          dsimp only at hr
          omega
theorem rdl_wf {f : Int → Int} {len : Int} : ∀ (n : Nat) (a wr : Int) (σ : SaleT), 0 ≤ a → a ≤ len → len < a + n → (wr = -1 → wfR σ) → (rdl f len n a wr σ).1 = -1 → wfR (rdl f len n a wr σ).2 ∧ 0 < sTr (rdl f len n a wr σ).2
  | 0, a, wr, σ, h0, h1, h2, hw, hr => by omega
  | n + 1, a, wr, σ, h0, h1, h2, hw, hr => by
    have hs := sk_le f len 240 a
    unfold rdl at hr ⊢
    by_cases c : wr = -1
    · rw [if_pos c] at hr ⊢
      have hw := hw c
      by_cases c1 : len ≤ sk f len 240 a
      · rw [if_pos c1] at hr ⊢
        dsimp only at hr ⊢
        by_cases c2 : 0 < sTr σ
        · exact ⟨hw, c2⟩
        · rw [if_neg c2] at hr; omega
      · rw [if_neg c1] at hr ⊢
        by_cases c2 : lk f len (sk f len 240 a) = 59
        · rw [if_pos c2] at hr ⊢
          have k := cla_ok (f := f) (len := len) (a := sk f len 240 a + 1) (σ := σ) (by omega) hw.2.1 (by omega)
          exact rdl_wf n _ _ _ (by omega) (by omega) (by omega) (fun z => cla_wf (by omega) hw z) hr
        · rw [if_neg c2] at hr
          dsimp only at hr
          omega
    · rw [if_neg c] at hr
      exact absurd hr c
theorem rd_wf {f : Int → Int} {len : Int} (hf : wfT f len) (V W O St : Int → Int) (hr : (rd f len V W O St).1 = -1) : wfS (rd f len V W O St).2 ∧ ∀ i, 0 ≤ i → i < 4 → sSt (rd f len V W O St).2 i = -1 := by
  obtain ⟨l0, l1, -⟩ := hf
  have hs := sk_le f len 240 0
  have hfl : ∀ i : Int, 0 ≤ i → i < 4 → fl St (-1) 4 i = -1 := fun i i0 i1 => by rw [fl_at]; exact if_pos ⟨i0, by omega⟩
  unfold rd at hr ⊢
  by_cases c : lk f len (sk f len 240 0) = 115
  · rw [if_pos c] at hr ⊢
    have hl : sk f len 240 0 < len := by
      unfold lk at c
      by_cases q : sk f len 240 0 < len
      · exact q
      · rw [if_neg q] at c; omega
    have k := nmb_ok (f := f) (len := len) (a := sk f len 240 0 + 1) (lo := 2) (hi := 5)
    obtain ⟨q, hq⟩ : ∃ q, nmb f len (sk f len 240 0 + 1) 2 5 = q := ⟨_, rfl⟩
    rw [hq] at k hr ⊢
    have := rdl_wf (f := f) (len := len) 241 q.2.1 q.2.2 (q.1, 0, 2, 0, 0, V, W, O, fl St (-1) 4) (by omega) (by omega) (by omega) (fun z => ⟨by show 2 ≤ q.1 ∧ q.1 ≤ 5; omega, by show (0 : Int) ≤ 0 ∧ (0 : Int) ≤ 8; omega, by show (1 : Int) ≤ 2 ∧ (2 : Int) ≤ 4; omega, by show (0 : Int) ≤ 0 ∧ (0 : Int) ≤ 60; omega, by show (0 : Int) ≤ 0 ∧ (0 : Int) ≤ 2; omega, fun t t0 t1 => absurd t1 (Int.not_lt.mpr t0), fun t k t0 t1 => absurd t1 (Int.not_lt.mpr t0), fun t t0 t1 => absurd t1 (Int.not_lt.mpr t0), hfl⟩) hr
    obtain ⟨⟨w1, w2, w3, w4, w5, w6, w7, w8, w9⟩, w0⟩ := this
    exact ⟨⟨w1, ⟨by omega, w2.2⟩, w3, w4, w5, w6, w7, w8, fun k k0 k1 => by rw [w9 k k0 k1]; omega⟩, w9⟩
  · rw [if_neg c] at hr
    dsimp only at hr
    omega
theorem stOK.sN {s : CSt} (hs : stOK s) (hc : qN s < 8) {V W O St : Int → Int} (hr : (rd (qF s) (qL s) V W O St).1 = -1) : stOK (sN s (rd (qF s) (qL s) V W O St).2) := by
  obtain ⟨hw, ht⟩ := rd_wf hs.1 V W O St hr
  have hq : 0 ≤ qT s := hs.c.1.1
  refine ⟨⟨Int.le_refl _, by show (0 : Int) ≤ 240; omega, fun i i0 i1 => absurd i1 (Int.not_lt.mpr i0)⟩, by show qN s + 1 ≤ 8; omega, fun k hk => ?_, hs.2.2.2.1, hs.2.2.2.2.1, hs.2.2.2.2.2.1, hs.2.2.2.2.2.2⟩
  have hk : k < qN s + 1 := hk
  by_cases c : k = qN s
  · show wfS (if k = qN s then _ else qS s k) ∧ ∀ i, 0 ≤ i → i < 4 → sSt (if k = qN s then _ else qS s k) i < qT s
    rw [if_pos c]
    exact ⟨hw, fun i i0 i1 => by rw [ht i i0 i1]; omega⟩
  · show wfS (if k = qN s then _ else qS s k) ∧ ∀ i, 0 ≤ i → i < 4 → sSt (if k = qN s then _ else qS s k) i < qT s
    rw [if_neg c]
    exact hs.2.2.1 k (by omega)
theorem fd5_wf {s : CSt} (hs : stOK s) {a b c d e : Int} (h : ¬ 240 < qL s + (cnt4 a 4 + cnt4 b 4 + cnt4 c 4 + cnt4 d 4 + cnt4 e 4)) : wfT (fd5 s a b c d e).1 (fd5 s a b c d e).2 := by
  have ca := cnt4_bd a 4
  have cb := cnt4_bd b 4
  have cc := cnt4_bd c 4
  have cd := cnt4_bd d 4
  have ce := cnt4_bd e 4
  have l1 := ap4_len a (qF s, qL s) 4
  have w1 := ap4_wf (s := (qF s, qL s)) hs.1 a 4 (by dsimp only; omega)
  have l2 := ap4_len b (ap4 a (qF s, qL s) 4) 4
  have w2 := ap4_wf w1 b 4 (by dsimp only at l1; omega)
  have l3 := ap4_len c (ap4 b (ap4 a (qF s, qL s) 4) 4) 4
  have w3 := ap4_wf w2 c 4 (by dsimp only at l1; omega)
  have l4 := ap4_len d (ap4 c (ap4 b (ap4 a (qF s, qL s) 4) 4) 4) 4
  have w4 := ap4_wf w3 d 4 (by dsimp only at l1; omega)
  exact ap4_wf w4 e 4 (by dsimp only at l1; omega)
theorem ok_find {s : CSt} (hs : stOK s) {k table : Int} (hk : isS s k) : stOK (sB s (fdB (sl s k) (qB s) table (sSg (sl s k)))) := hs.sB (fun i i0 i1 => by
  unfold fdB
  by_cases c : table * 5 ≤ i ∧ i < table * 5 + sSg (sl s k)
  · rw [if_pos c]; exact rhF_bd (hs.sale hk) _ _
  · rw [if_neg c]; exact hs.c.2 i i0 i1)
theorem ok_seat {s : CSt} (hs : stOK s) {k seat table : Int} (hk : isS s k) (hc : (0 ≤ seat ∧ seat < 4) ∧ -2 ≤ table ∧ table < qT s) : stOK (sS s k.toNat (σSt (sl s k) seat table)) := by
  obtain ⟨w1, w2, w3, w4, w5, w6, w7, w8, w9⟩ := hs.sale hk
  have ht := (hs.2.2.1 k.toNat (by have := hk; unfold isS at this; omega)).2
  have hq := hs.c.1
  refine hs.sS ⟨w1, w2, w3, w4, w5, w6, w7, w8, fun j j0 j1 => ?_⟩ (fun j j0 j1 => ?_)
  · show -2 ≤ up (sSt (sl s k)) seat table j ∧ up (sSt (sl s k)) seat table j < 10
    unfold up
    by_cases c : j = seat
    · rw [if_pos c]; omega
    · rw [if_neg c]; exact w9 j j0 j1
  · show up (sSt (sl s k)) seat table j < qT s
    unfold up
    by_cases c : j = seat
    · rw [if_pos c]; omega
    · rw [if_neg c]; exact ht j j0 j1
theorem ok_change {s : CSt} (hs : stOK s) {k what v : Int} (hk : isS s k) (hc : chOK what v) : stOK (sS s k.toNat (σCh (sl s k) what v)) := by
  obtain ⟨w1, w2, w3, w4, w5, w6, w7, w8, w9⟩ := hs.sale hk
  have ht := (hs.2.2.1 k.toNat (by have := hk; unfold isS at this; omega)).2
  unfold chOK at hc
  refine hs.sS ⟨w1, w2, ?_, ?_, ?_, w6, w7, w8, w9⟩ ht
  · show 1 ≤ (if what = 0 then v else sNb (sl s k)) ∧ (if what = 0 then v else sNb (sl s k)) ≤ 4
    by_cases c : what = 0
    · rw [if_pos c]; omega
    · rw [if_neg c]; exact w3
  · show 0 ≤ (if what = 1 then v else sLe (sl s k)) ∧ (if what = 1 then v else sLe (sl s k)) ≤ 60
    by_cases c : what = 1
    · rw [if_pos c]; omega
    · rw [if_neg c]; exact w4
  · show 0 ≤ (if what = 2 then v else sWy (sl s k)) ∧ (if what = 2 then v else sWy (sl s k)) ≤ 2
    by_cases c : what = 2
    · rw [if_pos c]; omega
    · rw [if_neg c]; exact w5
theorem ok_bid {s : CSt} (hs : stOK s) {j v : Int} (hv : 0 ≤ v ∧ v ≤ 60) : stOK (sB s (up (qB s) j v)) := hs.sB (fun i i0 i1 => by
  unfold up
  by_cases c : i = j
  · rw [if_pos c]; exact hv
  · rw [if_neg c]; exact hs.c.2 i i0 i1)
theorem ok_lay {s : CSt} (hs : stOK s) {j v : Int} (hv : 0 ≤ v ∧ v ≤ 4) : stOK (sD s (up (qD s) j v)) := hs.sD (fun i i0 i1 => by
  unfold up
  by_cases c : i = j
  · rw [if_pos c]; exact hv
  · rw [if_neg c]; exact hs.2.2.2.2.1 i i0 i1)
theorem ok_s0 : stOK s0 := ⟨⟨Int.le_refl _, by show (0 : Int) ≤ 240; omega, fun i i0 i1 => absurd i1 (Int.not_lt.mpr i0)⟩, Nat.zero_le _, fun k hk => absurd hk (Nat.not_lt_zero _), ⟨⟨Int.le_refl _, by show (0 : Int) ≤ 10; omega⟩, fun i _ _ => ⟨Int.le_refl _, by show (0 : Int) ≤ 60; omega⟩⟩, fun i _ _ => ⟨Int.le_refl _, by show (0 : Int) ≤ 4; omega⟩, ⟨Int.le_refl _, by show (0 : Int) ≤ 4; omega⟩, fun i _ _ => ⟨Int.le_refl _, by show (0 : Int) ≤ 60; omega⟩⟩

