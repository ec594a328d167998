/-! the TAPE's reader: clear, clause, read -/
/-- the first n places hold v -/
def fl (g : Int → Int) (v : Int) : Nat → Int → Int
  | 0 => g
  | n + 1 => up (fl g v n) n v
theorem fl_at (g : Int → Int) (v : Int) : ∀ (n : Nat) (i : Int), fl g v n i = if 0 ≤ i ∧ i < n then v else g i
  | 0, i => by
    rw [if_neg (by omega)]; rfl
  | n + 1, i => by
    show (if i = (n : Int) then v else fl g v n i) = _
    rw [fl_at g v n i]
    by_cases e : i = (n : Int)
    · rw [if_pos e, if_pos (by omega)]
    · rw [if_neg e]
      by_cases q : 0 ≤ i ∧ i < (n : Int)
      · rw [if_pos q, if_pos (by omega)]
      · rw [if_neg q, if_neg (by omega)]
theorem fl_s (g : Int → Int) (v : Int) {t : Int} (h : 0 ≤ t) : fl g v (t + 1).toNat = up (fl g v t.toNat) t v := by
  have e : (t + 1).toNat = t.toNat + 1 := by omega
  have e2 : ((t.toNat : Nat) : Int) = t := by omega
  rw [e]
  show up (fl g v t.toNat) (t.toNat : Int) v = _
  rw [e2]
def claX (f : Int → Int) (len a1 c : Int) (σ : SaleT) : Int × Int × SaleT :=
  if c = 116 ∧ sTr σ < 8 then tcl f len (a1 + 1) σ
  else if c = 110 then ((nmb f len (a1 + 1) 1 4).2.1, (nmb f len (a1 + 1) 1 4).2.2, (sSg σ, sTr σ, (nmb f len (a1 + 1) 1 4).1, sLe σ, sWy σ, sV σ, sW σ, sO σ, sSt σ))
  else if c = 108 then ((nmb f len (a1 + 1) 0 60).2.1, (nmb f len (a1 + 1) 0 60).2.2, (sSg σ, sTr σ, sNb σ, (nmb f len (a1 + 1) 0 60).1, sWy σ, sV σ, sW σ, sO σ, sSt σ))
  else if c = 119 then ((nmb f len (a1 + 1) 0 2).2.1, (nmb f len (a1 + 1) 0 2).2.2, (sSg σ, sTr σ, sNb σ, sLe σ, (nmb f len (a1 + 1) 0 2).1, sV σ, sW σ, sO σ, sSt σ))
  else (a1, a1, σ)
def cla (f : Int → Int) (len a : Int) (σ : SaleT) : Int × Int × SaleT := claX f len (sk f len 240 a) (lk f len (sk f len 240 a)) σ
theorem sgl_ok {f : Int → Int} {len sg t : Int} : ∀ (n : Nat) (k left a wr : Int) (O : Int → Int), 0 ≤ a → (a ≤ (sgl f len sg t n k left a wr O).1 ∧ ((sgl f len sg t n k left a wr O).1 ≤ len ∨ (sgl f len sg t n k left a wr O).1 = a)) ∧ (wr ≠ -1 → (sgl f len sg t n k left a wr O).2.1 ≠ -1) ∧ ((sgl f len sg t n k left a wr O).2.1 = wr ∨ -1 ≤ (sgl f len sg t n k left a wr O).2.1 ∧ (sgl f len sg t n k left a wr O).2.1 ≤ (sgl f len sg t n k left a wr O).1)
  | 0, k, left, a, wr, O, h => by
    show (a ≤ a ∧ (a ≤ len ∨ a = a)) ∧ (wr ≠ -1 → wr ≠ -1) ∧ (wr = wr ∨ _)
    exact ⟨⟨Int.le_refl _, Or.inr rfl⟩, id, Or.inl rfl⟩
  | n + 1, k, left, a, wr, O, h => by
    by_cases c : wr = -1
    · have e : sgl f len sg t (n + 1) k left a wr O = sgl f len sg t n (k + 1) (left - (nmb f len a (if k = sg - 1 then left else 0) left).1) (nmb f len a (if k = sg - 1 then left else 0) left).2.1 (nmb f len a (if k = sg - 1 then left else 0) left).2.2 (up O (t * 5 + k) (nmb f len a (if k = sg - 1 then left else 0) left).1) := if_pos c
      have k1 := nmb_ok (f := f) (len := len) (a := a) (lo := if k = sg - 1 then left else 0) (hi := left)
      rw [e]
      generalize nmb f len a (if k = sg - 1 then left else 0) left = r at k1 ⊢
      have ih := sgl_ok (f := f) (len := len) (sg := sg) (t := t) n (k + 1) (left - r.1) r.2.1 r.2.2 (up O (t * 5 + k) r.1) (by omega)
      generalize sgl f len sg t n (k + 1) (left - r.1) r.2.1 r.2.2 (up O (t * 5 + k) r.1) = q at ih ⊢
      refine ⟨by omega, fun h => absurd c h, ?_⟩
      omega
    · have e : sgl f len sg t (n + 1) k left a wr O = (a, wr, O) := if_neg c
      rw [e]
      exact ⟨⟨Int.le_refl _, Or.inr rfl⟩, id, Or.inl rfl⟩
theorem tcl_ok {f : Int → Int} {len a : Int} {σ : SaleT} (h : 0 ≤ a) : (a ≤ (tcl f len a σ).1 ∧ ((tcl f len a σ).1 ≤ len ∨ (tcl f len a σ).1 = a)) ∧ (-1 ≤ (tcl f len a σ).2.1 ∧ (tcl f len a σ).2.1 ≤ (tcl f len a σ).1) := by
  have k1 := nmb_ok (f := f) (len := len) (a := a) (lo := 0) (hi := 60)
  obtain ⟨r1, hr1⟩ : ∃ r1, nmx f len a (-1) 0 60 = r1 := ⟨_, rfl⟩
  have hr1' : nmb f len a 0 60 = r1 := by rw [← hr1]; exact (if_pos rfl).symm
  rw [hr1'] at k1
  obtain ⟨r2, hr2⟩ : ∃ r2, nmx f len r1.2.1 r1.2.2 1 9 = r2 := ⟨_, rfl⟩
  have k2 : (r1.2.1 ≤ r2.2.1 ∧ (r2.2.1 ≤ len ∨ r2.2.1 = r1.2.1)) ∧ -1 ≤ r2.2.2 ∧ r2.2.2 ≤ r2.2.1 := by
    by_cases c : r1.2.2 = -1
    · have k := nmb_ok (f := f) (len := len) (a := r1.2.1) (lo := 1) (hi := 9)
      have e : nmb f len r1.2.1 1 9 = r2 := by rw [← hr2]; exact (if_pos c).symm
      rw [e] at k
      omega
    · have e : r2 = (0, r1.2.1, r1.2.2) := by rw [← hr2]; exact if_neg c
      rw [e]; dsimp only; omega
  have k3 := sgl_ok (f := f) (len := len) (sg := sSg σ) (t := sTr σ) (sSg σ).toNat 0 10 r2.2.1 r2.2.2 (sO σ) (by omega)
  have e1 : (tcl f len a σ).1 = (sgl f len (sSg σ) (sTr σ) (sSg σ).toNat 0 10 r2.2.1 r2.2.2 (sO σ)).1 := by unfold tcl; simp only [hr1, hr2]
  have e2 : (tcl f len a σ).2.1 = (sgl f len (sSg σ) (sTr σ) (sSg σ).toNat 0 10 r2.2.1 r2.2.2 (sO σ)).2.1 := by unfold tcl; simp only [hr1, hr2]
  rw [e1, e2]
  omega
theorem cla_ok {f : Int → Int} {len a : Int} {σ : SaleT} (h : 0 ≤ a) (ht : 0 ≤ sTr σ ∧ sTr σ ≤ 8) (hl : a ≤ len) : (a ≤ (cla f len a σ).1 ∧ (cla f len a σ).1 ≤ len) ∧ (-1 ≤ (cla f len a σ).2.1 ∧ (cla f len a σ).2.1 ≤ (cla f len a σ).1) ∧ sSg (cla f len a σ).2.2 = sSg σ ∧ 0 ≤ sTr (cla f len a σ).2.2 ∧ sTr (cla f len a σ).2.2 ≤ 8 := by
  have hs := sk_le f len 240 a
  unfold cla claX
  generalize sk f len 240 a = a1 at hs ⊢
  have hlt : ∀ c : Int, c ≠ -1 → lk f len a1 = c → a1 < len := by
    intro c hc e
    by_cases q : a1 < len
    · exact q
    · have e2 : lk f len a1 = -1 := if_neg q
      omega
  by_cases c1 : lk f len a1 = 116 ∧ sTr σ < 8
  · rw [if_pos c1]
    have := hlt 116 (by omega) c1.1
    have k := tcl_ok (f := f) (len := len) (a := a1 + 1) (σ := σ) (by omega)
    have e1 : sSg (tcl f len (a1 + 1) σ).2.2 = sSg σ := rfl
    have e2 : sTr (tcl f len (a1 + 1) σ).2.2 = sTr σ + 1 := rfl
    omega
  · rw [if_neg c1]
    by_cases c2 : lk f len a1 = 110
    · rw [if_pos c2]
      have := hlt 110 (by omega) c2
      have k := nmb_ok (f := f) (len := len) (a := a1 + 1) (lo := 1) (hi := 4)
      dsimp only [sSg, sTr] at ht ⊢; omega
    · rw [if_neg c2]
      by_cases c3 : lk f len a1 = 108
      · rw [if_pos c3]
        have := hlt 108 (by omega) c3
        have k := nmb_ok (f := f) (len := len) (a := a1 + 1) (lo := 0) (hi := 60)
        dsimp only [sSg, sTr] at ht ⊢; omega
      · rw [if_neg c3]
        by_cases c4 : lk f len a1 = 119
        · rw [if_pos c4]
          have := hlt 119 (by omega) c4
          have k := nmb_ok (f := f) (len := len) (a := a1 + 1) (lo := 0) (hi := 2)
          dsimp only [sSg, sTr] at ht ⊢; omega
        · rw [if_neg c4]
          dsimp only; omega
/-- the clauses: the fault (-1: none), the SALE -/
def rdl (f : Int → Int) (len : Int) : Nat → Int → Int → SaleT → Int × SaleT
  | 0, _, wr, σ => (wr, σ)
  | n + 1, a, wr, σ => if wr = -1 then
      (if len ≤ sk f len 240 a then (if 0 < sTr σ then -1 else sk f len 240 a, σ)
       else if lk f len (sk f len 240 a) = 59 then rdl f len n (cla f len (sk f len 240 a + 1) σ).1 (cla f len (sk f len 240 a + 1) σ).2.1 (cla f len (sk f len 240 a + 1) σ).2.2 else (sk f len 240 a, σ))
    else (wr, σ)
/-- the TAPE read as a SALE: the fault (-1: none), the SALE -/
def rd (f : Int → Int) (len : Int) (V W O St : Int → Int) : Int × SaleT :=
  if lk f len (sk f len 240 0) = 115 then rdl f len 241 (nmb f len (sk f len 240 0 + 1) 2 5).2.1 (nmb f len (sk f len 240 0 + 1) 2 5).2.2 ((nmb f len (sk f len 240 0 + 1) 2 5).1, 0, 2, 0, 0, V, W, O, fl St (-1) 4)
  else (sk f len 240 0, (0, 0, 2, 0, 0, V, W, O, fl St (-1) 4))
/-! .. as the class reads them -/
def claQ (f : Int → Int) (len a1 c : Int) (σ : SaleT) : Int × Int × SaleT :=
  if c = 116 ∧ sTr σ < 8 then tcq f len (a1 + 1) σ
  else if c = 110 then ((nmq f len (a1 + 1) 1 4).2.1, (nmq f len (a1 + 1) 1 4).2.2, (sSg σ, sTr σ, (nmq f len (a1 + 1) 1 4).1, sLe σ, sWy σ, sV σ, sW σ, sO σ, sSt σ))
  else if c = 108 then ((nmq f len (a1 + 1) 0 60).2.1, (nmq f len (a1 + 1) 0 60).2.2, (sSg σ, sTr σ, sNb σ, (nmq f len (a1 + 1) 0 60).1, sWy σ, sV σ, sW σ, sO σ, sSt σ))
  else if c = 119 then ((nmq f len (a1 + 1) 0 2).2.1, (nmq f len (a1 + 1) 0 2).2.2, (sSg σ, sTr σ, sNb σ, sLe σ, (nmq f len (a1 + 1) 0 2).1, sV σ, sW σ, sO σ, sSt σ))
  else (a1, a1, σ)
def clq (f : Int → Int) (len a : Int) (σ : SaleT) : Int × Int × SaleT := claQ f len (sk f len 240 a) (lk f len (sk f len 240 a)) σ
theorem sgq_ok {f : Int → Int} {len sg t : Int} : ∀ (n : Nat) (k left a wr : Int) (O : Int → Int), 0 ≤ a → (a ≤ (sgq f len sg t n k left a wr O).1 ∧ ((sgq f len sg t n k left a wr O).1 ≤ len ∨ (sgq f len sg t n k left a wr O).1 = a)) ∧ (wr ≠ -1 → (sgq f len sg t n k left a wr O).2.1 ≠ -1) ∧ ((sgq f len sg t n k left a wr O).2.1 = wr ∨ -1 ≤ (sgq f len sg t n k left a wr O).2.1 ∧ (sgq f len sg t n k left a wr O).2.1 ≤ (sgq f len sg t n k left a wr O).1)
  | 0, k, left, a, wr, O, h => by
    show (a ≤ a ∧ (a ≤ len ∨ a = a)) ∧ (wr ≠ -1 → wr ≠ -1) ∧ (wr = wr ∨ _)
    exact ⟨⟨Int.le_refl _, Or.inr rfl⟩, id, Or.inl rfl⟩
  | n + 1, k, left, a, wr, O, h => by
    by_cases c : wr = -1
    · have e : sgq f len sg t (n + 1) k left a wr O = sgq f len sg t n (k + 1) (left - (nmq f len a (if k = sg - 1 then left else 0) left).1) (nmq f len a (if k = sg - 1 then left else 0) left).2.1 (nmq f len a (if k = sg - 1 then left else 0) left).2.2 (up O (t * 5 + k) (nmq f len a (if k = sg - 1 then left else 0) left).1) := if_pos c
      have k1 := nmq_ok (f := f) (len := len) (a := a) (lo := if k = sg - 1 then left else 0) (hi := left)
      rw [e]
      generalize nmq f len a (if k = sg - 1 then left else 0) left = r at k1 ⊢
      have ih := sgq_ok (f := f) (len := len) (sg := sg) (t := t) n (k + 1) (left - r.1) r.2.1 r.2.2 (up O (t * 5 + k) r.1) (by omega)
      generalize sgq f len sg t n (k + 1) (left - r.1) r.2.1 r.2.2 (up O (t * 5 + k) r.1) = q at ih ⊢
      refine ⟨by omega, fun h => absurd c h, ?_⟩
      omega
    · have e : sgq f len sg t (n + 1) k left a wr O = (a, wr, O) := if_neg c
      rw [e]
      exact ⟨⟨Int.le_refl _, Or.inr rfl⟩, id, Or.inl rfl⟩
theorem tcq_ok {f : Int → Int} {len a : Int} {σ : SaleT} (h : 0 ≤ a) : (a ≤ (tcq f len a σ).1 ∧ ((tcq f len a σ).1 ≤ len ∨ (tcq f len a σ).1 = a)) ∧ (-1 ≤ (tcq f len a σ).2.1 ∧ (tcq f len a σ).2.1 ≤ (tcq f len a σ).1) := by
  have k1 := nmq_ok (f := f) (len := len) (a := a) (lo := 0) (hi := 60)
  obtain ⟨r1, hr1⟩ : ∃ r1, nxq f len a (-1) 0 60 = r1 := ⟨_, rfl⟩
  have hr1' : nmq f len a 0 60 = r1 := by rw [← hr1]; exact (if_pos rfl).symm
  rw [hr1'] at k1
  obtain ⟨r2, hr2⟩ : ∃ r2, nxq f len r1.2.1 r1.2.2 1 9 = r2 := ⟨_, rfl⟩
  have k2 : (r1.2.1 ≤ r2.2.1 ∧ (r2.2.1 ≤ len ∨ r2.2.1 = r1.2.1)) ∧ -1 ≤ r2.2.2 ∧ r2.2.2 ≤ r2.2.1 := by
    by_cases c : r1.2.2 = -1
    · have k := nmq_ok (f := f) (len := len) (a := r1.2.1) (lo := 1) (hi := 9)
      have e : nmq f len r1.2.1 1 9 = r2 := by rw [← hr2]; exact (if_pos c).symm
      rw [e] at k
      omega
    · have e : r2 = (0, r1.2.1, r1.2.2) := by rw [← hr2]; exact if_neg c
      rw [e]; dsimp only; omega
  have k3 := sgq_ok (f := f) (len := len) (sg := sSg σ) (t := sTr σ) (sSg σ).toNat 0 10 r2.2.1 r2.2.2 (sO σ) (by omega)
  have e1 : (tcq f len a σ).1 = (sgq f len (sSg σ) (sTr σ) (sSg σ).toNat 0 10 r2.2.1 r2.2.2 (sO σ)).1 := by unfold tcq; simp only [hr1, hr2]
  have e2 : (tcq f len a σ).2.1 = (sgq f len (sSg σ) (sTr σ) (sSg σ).toNat 0 10 r2.2.1 r2.2.2 (sO σ)).2.1 := by unfold tcq; simp only [hr1, hr2]
  rw [e1, e2]
  omega
theorem clq_ok {f : Int → Int} {len a : Int} {σ : SaleT} (h : 0 ≤ a) (ht : 0 ≤ sTr σ ∧ sTr σ ≤ 8) (hl : a ≤ len) : (a ≤ (clq f len a σ).1 ∧ (clq f len a σ).1 ≤ len) ∧ (-1 ≤ (clq f len a σ).2.1 ∧ (clq f len a σ).2.1 ≤ (clq f len a σ).1) ∧ sSg (clq f len a σ).2.2 = sSg σ ∧ 0 ≤ sTr (clq f len a σ).2.2 ∧ sTr (clq f len a σ).2.2 ≤ 8 := by
  have hs := sk_le f len 240 a
  unfold clq claQ
  generalize sk f len 240 a = a1 at hs ⊢
  have hlt : ∀ c : Int, c ≠ -1 → lk f len a1 = c → a1 < len := by
    intro c hc e
    by_cases q : a1 < len
    · exact q
    · have e2 : lk f len a1 = -1 := if_neg q
      omega
  by_cases c1 : lk f len a1 = 116 ∧ sTr σ < 8
  · rw [if_pos c1]
    have := hlt 116 (by omega) c1.1
    have k := tcq_ok (f := f) (len := len) (a := a1 + 1) (σ := σ) (by omega)
    have e1 : sSg (tcq f len (a1 + 1) σ).2.2 = sSg σ := rfl
    have e2 : sTr (tcq f len (a1 + 1) σ).2.2 = sTr σ + 1 := rfl
    omega
  · rw [if_neg c1]
    by_cases c2 : lk f len a1 = 110
    · rw [if_pos c2]
      have := hlt 110 (by omega) c2
      have k := nmq_ok (f := f) (len := len) (a := a1 + 1) (lo := 1) (hi := 4)
      dsimp only [sSg, sTr] at ht ⊢; omega
    · rw [if_neg c2]
      by_cases c3 : lk f len a1 = 108
      · rw [if_pos c3]
        have := hlt 108 (by omega) c3
        have k := nmq_ok (f := f) (len := len) (a := a1 + 1) (lo := 0) (hi := 60)
        dsimp only [sSg, sTr] at ht ⊢; omega
      · rw [if_neg c3]
        by_cases c4 : lk f len a1 = 119
        · rw [if_pos c4]
          have := hlt 119 (by omega) c4
          have k := nmq_ok (f := f) (len := len) (a := a1 + 1) (lo := 0) (hi := 2)
          dsimp only [sSg, sTr] at ht ⊢; omega
        · rw [if_neg c4]
          dsimp only; omega
def rdq (f : Int → Int) (len : Int) : Nat → Int → Int → SaleT → Int × SaleT
  | 0, _, wr, σ => (wr, σ)
  | n + 1, a, wr, σ => if wr = -1 then
      (if len ≤ sk f len 240 a then (if 0 < sTr σ then -1 else sk f len 240 a, σ)
       else if lk f len (sk f len 240 a) = 59 then rdq f len n (clq f len (sk f len 240 a + 1) σ).1 (clq f len (sk f len 240 a + 1) σ).2.1 (clq f len (sk f len 240 a + 1) σ).2.2 else (sk f len 240 a, σ))
    else (wr, σ)
def rdr (f : Int → Int) (len : Int) (V W O St : Int → Int) : Int × SaleT :=
  if lk f len (sk f len 240 0) = 115 then rdq f len 241 (nmq f len (sk f len 240 0 + 1) 2 5).2.1 (nmq f len (sk f len 240 0 + 1) 2 5).2.2 ((nmq f len (sk f len 240 0 + 1) 2 5).1, 0, 2, 0, 0, V, W, O, fl St (-1) 4)
  else (sk f len 240 0, (0, 0, 2, 0, 0, V, W, O, fl St (-1) 4))
section
variable {l : Launch} {G : sw_G} {M : sw_M}
theorem K5_clear {b : Nat} {sg tr nb le wy : Int} {Va Wa Oa St : Int → Int} {u d : Int} (hM : sw_hold M (cSf G b sg tr nb le wy Va Wa Oa St u d)) : Kt l G μX5_clear [.ref (sw_al G b)] M (fun r M' => r = none ∧ M' = sw_ov M (cSf G b 0 0 2 0 0 Va Wa Oa (fl St (-1) 4) u d)) := by
  refine KtA.of (by decide +kernel) (Nat.le_of_ble_eq_true rfl) ?_
  refine v_mem (sw_ov_self hM).symm ?_
  have hn := cS_nd b
  have loop : ∀ (n : Nat) (k : Int), 0 ≤ k → k + n = 4 → V l G μX5_clear sw_E0 (sw_Zq G μX5_clear (sw_q0 G (fun r M' => r = none ∧ M' = sw_ov M (cSf G b 0 0 2 0 0 Va Wa Oa (fl St (-1) 4) u d)))) 27 [(0, .ref (sw_al G b)), (1, sw_i k)] [] (sw_ov M (cSf G b 0 0 2 0 0 Va Wa Oa (fl St (-1) k.toNat) u d)) 0 0 := by
    intro n
    induction n with
    | zero =>
      intro k h0 hk
      have e : k = 4 := by omega
      subst e
      refine v_iload_n dX5_clear_27 rfl ?_
      refine v_iconst dX5_clear_28 ?_
      refine v_icmp_ge (tgt := 45) dX5_clear_29 (by decide) ⟨by omega, by omega⟩ ⟨by omega, by omega⟩ (fun h29 => ?_) (fun h29 => ?_)
      · skip
        exact v_vret dX5_clear_45 rfl (Nat.le_refl _) (Nat.le_refl _) (⟨rfl, rfl⟩)
      · skip
        exfalso; omega
    | succ n ih =>
      intro k h0 hk
      have e := fl_s St (-1) h0
      refine v_iload_n dX5_clear_27 rfl ?_
      refine v_iconst dX5_clear_28 ?_
      refine v_icmp_ge (tgt := 45) dX5_clear_29 (by decide) ⟨by omega, by omega⟩ ⟨by omega, by omega⟩ (fun h29 => ?_) (fun h29 => ?_)
      · skip
        exfalso; omega
      · skip
        refine v_aload_n dX5_clear_32 rfl ?_
        refine v_getf 0 3 fl_X5_21 hn rfl rfl dX5_clear_33 ?_
        refine v_iload_n dX5_clear_36 rfl ?_
        refine v_iconst dX5_clear_37 ?_
        refine v_iast 4 hn rfl (Nat.le_of_ble_eq_true rfl) (by omega) (by omega) dX5_clear_38 ?_
        refine v_iinc dX5_clear_39 rfl (Nat.le_of_ble_eq_true rfl) ?_
        refine v_goto (tgt := 27) dX5_clear_42 (by decide) ?_
        refine v_to (ih (k + 1) (by omega) (by omega)) (by rw [e]; rfl) (sw_h1 rfl (sw_h1 rfl sw_h0))
  refine v_aload_n dX5_clear_0 rfl ?_
  refine v_iconst dX5_clear_1 ?_
  refine v_putf 0 4 fp_X5_24 hn rfl rfl rfl (Nat.le_of_ble_eq_true rfl) dX5_clear_2 ?_
  refine v_aload_n dX5_clear_5 rfl ?_
  refine v_iconst dX5_clear_6 ?_
  refine v_putf 0 5 fp_X5_28 hn rfl rfl rfl (Nat.le_of_ble_eq_true rfl) dX5_clear_7 ?_
  refine v_aload_n dX5_clear_10 rfl ?_
  refine v_iconst dX5_clear_11 ?_
  refine v_putf 0 6 fp_X5_31 hn rfl rfl rfl (Nat.le_of_ble_eq_true rfl) dX5_clear_12 ?_
  refine v_aload_n dX5_clear_15 rfl ?_
  refine v_iconst dX5_clear_16 ?_
  refine v_putf 0 7 fp_X5_34 hn rfl rfl rfl (Nat.le_of_ble_eq_true rfl) dX5_clear_17 ?_
  refine v_aload_n dX5_clear_20 rfl ?_
  refine v_iconst dX5_clear_21 ?_
  refine v_putf 0 8 fp_X5_37 hn rfl rfl rfl (Nat.le_of_ble_eq_true rfl) dX5_clear_22 ?_
  refine v_iconst dX5_clear_25 ?_
  refine v_istore_n dX5_clear_26 (Nat.le_of_ble_eq_true rfl) ?_
  exact v_to (loop 4 0 (by omega) (by omega)) rfl (sw_h1 rfl (sw_h1 rfl sw_h0))
theorem K7_clause {b : Nat} (hb : 50 ≤ b) {len a : Int} {f : Int → Int} {σ : SaleT} {u d : Int} (hM : sw_hold M (cTS G b len a (-1) f (sSg σ) (sTr σ) (sNb σ) (sLe σ) (sWy σ) (sV σ) (sW σ) (sO σ) (sSt σ) u d)) (hw : wfT f len) (h0 : 0 ≤ a ∧ a ≤ 240) (hsg : 2 ≤ sSg σ ∧ sSg σ ≤ 5) (htr : 0 ≤ sTr σ ∧ sTr σ ≤ 8) : Kt l G μX7_clause [.ref (sw_al G 1)] M (fun r M' => r = none ∧ M' = sw_ov M (cTP G b len (clq f len a σ).1 (clq f len a σ).2.1 (clq f len a σ).2.2 u d)) := by
  refine KtA.of (by decide +kernel) (Nat.le_of_ble_eq_true rfl) ?_
  refine v_mem (sw_ov_self hM).symm ?_
  have hn := cTS_nd hb
  have hM2 := hM.tl.hd
  have hlen := hw.1
  have hlen2 := hw.2.1
  have hs := sk_le f len 240 a
  have hcla : ∀ q, clq f len a σ = q → ∀ M1, M1 = sw_ov M (cTP G b len q.1 q.2.1 q.2.2 u d) → (none : Option Value) = none ∧ M1 = sw_ov M (cTP G b len (clq f len a σ).1 (clq f len a σ).2.1 (clq f len a σ).2.2 u d) := by
    intro q hq M1 h
    rw [hq]; exact ⟨rfl, h⟩
  obtain ⟨a1, ha1⟩ : ∃ a1, sk f len 240 a = a1 := ⟨_, rfl⟩
  have hlb := lk_bd hw (a := a1) (by omega)
  rw [ha1] at hs
  obtain ⟨c, hc⟩ : ∃ c, lk f len a1 = c := ⟨_, rfl⟩
  have hcl : clq f len a σ = claQ f len a1 c σ := by
    unfold clq
    rw [ha1, hc]
  rw [hc] at hlb
  have hlt : c ≠ -1 → a1 < len := by
    intro hne
    by_cases q : a1 < len
    · exact q
    · have e2 : lk f len a1 = -1 := if_neg q
      omega
  refine v_aload_n dX7_clause_0 rfl ?_
  refine v_callV (ci := 7) (K7_skip (b := b) (len := len) (a := a) (wr := -1) (f := f) (cTS_h hb).hd (cTS_h hb).tl.hd hw ⟨by omega, by omega⟩) ⟨rfl, rfl⟩ (Nat.le_refl _) (Nat.le_refl _) ((cTS_h hb).hd) rfl ⟨ml_X7_35, mm_X7_skip⟩ ⟨(Nat.le_of_ble_eq_true rfl), (Nat.le_of_ble_eq_true rfl)⟩ mp_X7_skip rfl rfl (Nat.le_of_ble_eq_true rfl) dX7_clause_1 (fun r M' h => ?_)
  obtain ⟨rfl, rfl⟩ := h
  rw [ha1]
  refine v_ovp [0] rfl rfl hn ?_
  refine v_aload_n dX7_clause_4 rfl ?_
  refine v_callV (ci := 7) (K7_look (b := b) (len := len) (a := a1) (wr := -1) (f := f) (cTS_h hb).hd (cTS_h hb).tl.hd hw ⟨by omega, by omega⟩) ⟨rfl, rfl⟩ (Nat.le_refl _) (Nat.le_refl _) ((cTS_h hb).hd) rfl ⟨ml_X7_38, mm_X7_look⟩ ⟨(Nat.le_of_ble_eq_true rfl), (Nat.le_of_ble_eq_true rfl)⟩ mp_X7_look rfl rfl (Nat.le_of_ble_eq_true rfl) dX7_clause_5 (fun r M' h => ?_)
  obtain ⟨rfl, rfl⟩ := h
  rw [hc]
  refine v_istore_n dX7_clause_8 (Nat.le_of_ble_eq_true rfl) ?_
  refine v_iload_n dX7_clause_9 rfl ?_
  refine v_bipush dX7_clause_10 (by decide +kernel) ?_
  refine v_icmp_ne (tgt := 51) dX7_clause_12 (by decide) ⟨by omega, by omega⟩ ⟨by omega, by omega⟩ (fun h12 => ?_) (fun h12 => ?_)
  · skip
    refine v_iload_n dX7_clause_51 rfl ?_
    refine v_bipush dX7_clause_52 (by decide +kernel) ?_
    refine v_icmp_ne (tgt := 83) dX7_clause_54 (by decide) ⟨by omega, by omega⟩ ⟨by omega, by omega⟩ (fun h54 => ?_) (fun h54 => ?_)
    · skip
      refine v_iload_n dX7_clause_83 rfl ?_
      refine v_bipush dX7_clause_84 (by decide +kernel) ?_
      refine v_icmp_ne (tgt := 116) dX7_clause_86 (by decide) ⟨by omega, by omega⟩ ⟨by omega, by omega⟩ (fun h86 => ?_) (fun h86 => ?_)
      · skip
        refine v_iload_n dX7_clause_116 rfl ?_
        refine v_bipush dX7_clause_117 (by decide +kernel) ?_
        refine v_icmp_ne (tgt := 148) dX7_clause_119 (by decide) ⟨by omega, by omega⟩ ⟨by omega, by omega⟩ (fun h119 => ?_) (fun h119 => ?_)
        · skip
          refine v_aload_n dX7_clause_148 rfl ?_
          refine v_aload_n dX7_clause_149 rfl ?_
          refine v_getf 0 3 fl_X7_26 hn rfl rfl dX7_clause_150 ?_
          refine v_putf 0 4 fp_X7_29 hn rfl rfl rfl (Nat.le_of_ble_eq_true rfl) dX7_clause_153 ?_
          exact v_vret dX7_clause_156 rfl (Nat.le_refl _) (Nat.le_refl _) (hcla _ (hcl.trans ((if_neg (by omega)).trans ((if_neg (by omega)).trans ((if_neg (by omega)).trans (if_neg (by omega)))))) _ (cTS_back hb hM2))
        · skip
          refine v_aload_n dX7_clause_122 rfl ?_
          refine v_dup dX7_clause_123 rfl ?_
          refine v_getf 0 3 fl_X7_26 hn rfl rfl dX7_clause_124 ?_
          refine v_iconst dX7_clause_127 ?_
          refine v_iadd dX7_clause_128 ?_
          refine v_putf 0 3 fp_X7_26 hn rfl rfl rfl (Nat.le_of_ble_eq_true rfl) dX7_clause_129 ?_
          refine v_aload_n dX7_clause_132 rfl ?_
          refine v_getf 0 2 fl_X7_22 hn rfl rfl dX7_clause_133 ?_
          refine v_aload_n dX7_clause_136 rfl ?_
          refine v_iconst dX7_clause_137 ?_
          refine v_iconst dX7_clause_138 ?_
          refine v_callV (ci := 7) (K7_number (b := b) (len := len) (a := a1 + 1) (f := f) (cTS_h hb).hd (cTS_h hb).tl.hd hw ⟨by omega, by omega⟩ (lo := 0) (hi := 2) ⟨by omega, by omega⟩ ⟨by omega, by omega⟩) ⟨rfl, rfl⟩ (Nat.le_refl _) (Nat.le_refl _) ((cTS_h hb).hd) rfl ⟨ml_X7_42, mm_X7_number⟩ ⟨(Nat.le_of_ble_eq_true rfl), (Nat.le_of_ble_eq_true rfl)⟩ mp_X7_number rfl rfl (Nat.le_of_ble_eq_true rfl) dX7_clause_139 (fun r M' h => ?_)
          obtain ⟨rfl, rfl⟩ := h
          refine v_ovp [0] rfl rfl hn ?_
          refine v_putf 2 8 fp_X7_65 hn rfl rfl rfl (Nat.le_of_ble_eq_true rfl) dX7_clause_142 ?_
          refine v_goto (tgt := 156) dX7_clause_145 (by decide) ?_
          exact v_vret dX7_clause_156 rfl (Nat.le_refl _) (Nat.le_refl _) (hcla _ (hcl.trans ((if_neg (by omega)).trans ((if_neg (by omega)).trans ((if_neg (by omega)).trans (if_pos (by omega)))))) _ (cTS_back hb hM2))
      · skip
        refine v_aload_n dX7_clause_89 rfl ?_
        refine v_dup dX7_clause_90 rfl ?_
        refine v_getf 0 3 fl_X7_26 hn rfl rfl dX7_clause_91 ?_
        refine v_iconst dX7_clause_94 ?_
        refine v_iadd dX7_clause_95 ?_
        refine v_putf 0 3 fp_X7_26 hn rfl rfl rfl (Nat.le_of_ble_eq_true rfl) dX7_clause_96 ?_
        refine v_aload_n dX7_clause_99 rfl ?_
        refine v_getf 0 2 fl_X7_22 hn rfl rfl dX7_clause_100 ?_
        refine v_aload_n dX7_clause_103 rfl ?_
        refine v_iconst dX7_clause_104 ?_
        refine v_bipush dX7_clause_105 (by decide +kernel) ?_
        refine v_callV (ci := 7) (K7_number (b := b) (len := len) (a := a1 + 1) (f := f) (cTS_h hb).hd (cTS_h hb).tl.hd hw ⟨by omega, by omega⟩ (lo := 0) (hi := 60) ⟨by omega, by omega⟩ ⟨by omega, by omega⟩) ⟨rfl, rfl⟩ (Nat.le_refl _) (Nat.le_refl _) ((cTS_h hb).hd) rfl ⟨ml_X7_42, mm_X7_number⟩ ⟨(Nat.le_of_ble_eq_true rfl), (Nat.le_of_ble_eq_true rfl)⟩ mp_X7_number rfl rfl (Nat.le_of_ble_eq_true rfl) dX7_clause_107 (fun r M' h => ?_)
        obtain ⟨rfl, rfl⟩ := h
        refine v_ovp [0] rfl rfl hn ?_
        refine v_putf 2 7 fp_X7_62 hn rfl rfl rfl (Nat.le_of_ble_eq_true rfl) dX7_clause_110 ?_
        refine v_goto (tgt := 156) dX7_clause_113 (by decide) ?_
        exact v_vret dX7_clause_156 rfl (Nat.le_refl _) (Nat.le_refl _) (hcla _ (hcl.trans ((if_neg (by omega)).trans ((if_neg (by omega)).trans (if_pos (by omega))))) _ (cTS_back hb hM2))
    · skip
      refine v_aload_n dX7_clause_57 rfl ?_
      refine v_dup dX7_clause_58 rfl ?_
      refine v_getf 0 3 fl_X7_26 hn rfl rfl dX7_clause_59 ?_
      refine v_iconst dX7_clause_62 ?_
      refine v_iadd dX7_clause_63 ?_
      refine v_putf 0 3 fp_X7_26 hn rfl rfl rfl (Nat.le_of_ble_eq_true rfl) dX7_clause_64 ?_
      refine v_aload_n dX7_clause_67 rfl ?_
      refine v_getf 0 2 fl_X7_22 hn rfl rfl dX7_clause_68 ?_
      refine v_aload_n dX7_clause_71 rfl ?_
      refine v_iconst dX7_clause_72 ?_
      refine v_iconst dX7_clause_73 ?_
      refine v_callV (ci := 7) (K7_number (b := b) (len := len) (a := a1 + 1) (f := f) (cTS_h hb).hd (cTS_h hb).tl.hd hw ⟨by omega, by omega⟩ (lo := 1) (hi := 4) ⟨by omega, by omega⟩ ⟨by omega, by omega⟩) ⟨rfl, rfl⟩ (Nat.le_refl _) (Nat.le_refl _) ((cTS_h hb).hd) rfl ⟨ml_X7_42, mm_X7_number⟩ ⟨(Nat.le_of_ble_eq_true rfl), (Nat.le_of_ble_eq_true rfl)⟩ mp_X7_number rfl rfl (Nat.le_of_ble_eq_true rfl) dX7_clause_74 (fun r M' h => ?_)
      obtain ⟨rfl, rfl⟩ := h
      refine v_ovp [0] rfl rfl hn ?_
      refine v_putf 2 6 fp_X7_59 hn rfl rfl rfl (Nat.le_of_ble_eq_true rfl) dX7_clause_77 ?_
      refine v_goto (tgt := 156) dX7_clause_80 (by decide) ?_
      exact v_vret dX7_clause_156 rfl (Nat.le_refl _) (Nat.le_refl _) (hcla _ (hcl.trans ((if_neg (by omega)).trans (if_pos (by omega)))) _ (cTS_back hb hM2))
  · skip
    refine v_aload_n dX7_clause_15 rfl ?_
    refine v_getf 0 2 fl_X7_22 hn rfl rfl dX7_clause_16 ?_
    refine v_getf 2 5 fl_X7_49 hn rfl rfl dX7_clause_19 ?_
    refine v_bipush dX7_clause_22 (by decide +kernel) ?_
    refine v_icmp_ge (tgt := 51) dX7_clause_24 (by decide) ⟨by omega, by omega⟩ ⟨by omega, by omega⟩ (fun h24 => ?_) (fun h24 => ?_)
    · skip
      refine v_iload_n dX7_clause_51 rfl ?_
      refine v_bipush dX7_clause_52 (by decide +kernel) ?_
      refine v_icmp_ne (tgt := 83) dX7_clause_54 (by decide) ⟨by omega, by omega⟩ ⟨by omega, by omega⟩ (fun h54 => ?_) (fun h54 => ?_)
      · skip
        refine v_iload_n dX7_clause_83 rfl ?_
        refine v_bipush dX7_clause_84 (by decide +kernel) ?_
        refine v_icmp_ne (tgt := 116) dX7_clause_86 (by decide) ⟨by omega, by omega⟩ ⟨by omega, by omega⟩ (fun h86 => ?_) (fun h86 => ?_)
        · skip
          refine v_iload_n dX7_clause_116 rfl ?_
          refine v_bipush dX7_clause_117 (by decide +kernel) ?_
          refine v_icmp_ne (tgt := 148) dX7_clause_119 (by decide) ⟨by omega, by omega⟩ ⟨by omega, by omega⟩ (fun h119 => ?_) (fun h119 => ?_)
          · skip
            refine v_aload_n dX7_clause_148 rfl ?_
            refine v_aload_n dX7_clause_149 rfl ?_
            refine v_getf 0 3 fl_X7_26 hn rfl rfl dX7_clause_150 ?_
            refine v_putf 0 4 fp_X7_29 hn rfl rfl rfl (Nat.le_of_ble_eq_true rfl) dX7_clause_153 ?_
            exact v_vret dX7_clause_156 rfl (Nat.le_refl _) (Nat.le_refl _) (hcla _ (hcl.trans ((if_neg (by omega)).trans ((if_neg (by omega)).trans ((if_neg (by omega)).trans (if_neg (by omega)))))) _ (cTS_back hb hM2))
          · skip
            refine v_aload_n dX7_clause_122 rfl ?_
            refine v_dup dX7_clause_123 rfl ?_
            refine v_getf 0 3 fl_X7_26 hn rfl rfl dX7_clause_124 ?_
            refine v_iconst dX7_clause_127 ?_
            refine v_iadd dX7_clause_128 ?_
            refine v_putf 0 3 fp_X7_26 hn rfl rfl rfl (Nat.le_of_ble_eq_true rfl) dX7_clause_129 ?_
            refine v_aload_n dX7_clause_132 rfl ?_
            refine v_getf 0 2 fl_X7_22 hn rfl rfl dX7_clause_133 ?_
            refine v_aload_n dX7_clause_136 rfl ?_
            refine v_iconst dX7_clause_137 ?_
            refine v_iconst dX7_clause_138 ?_
            refine v_callV (ci := 7) (K7_number (b := b) (len := len) (a := a1 + 1) (f := f) (cTS_h hb).hd (cTS_h hb).tl.hd hw ⟨by omega, by omega⟩ (lo := 0) (hi := 2) ⟨by omega, by omega⟩ ⟨by omega, by omega⟩) ⟨rfl, rfl⟩ (Nat.le_refl _) (Nat.le_refl _) ((cTS_h hb).hd) rfl ⟨ml_X7_42, mm_X7_number⟩ ⟨(Nat.le_of_ble_eq_true rfl), (Nat.le_of_ble_eq_true rfl)⟩ mp_X7_number rfl rfl (Nat.le_of_ble_eq_true rfl) dX7_clause_139 (fun r M' h => ?_)
            obtain ⟨rfl, rfl⟩ := h
            refine v_ovp [0] rfl rfl hn ?_
            refine v_putf 2 8 fp_X7_65 hn rfl rfl rfl (Nat.le_of_ble_eq_true rfl) dX7_clause_142 ?_
            refine v_goto (tgt := 156) dX7_clause_145 (by decide) ?_
            exact v_vret dX7_clause_156 rfl (Nat.le_refl _) (Nat.le_refl _) (hcla _ (hcl.trans ((if_neg (by omega)).trans ((if_neg (by omega)).trans ((if_neg (by omega)).trans (if_pos (by omega)))))) _ (cTS_back hb hM2))
        · skip
          refine v_aload_n dX7_clause_89 rfl ?_
          refine v_dup dX7_clause_90 rfl ?_
          refine v_getf 0 3 fl_X7_26 hn rfl rfl dX7_clause_91 ?_
          refine v_iconst dX7_clause_94 ?_
          refine v_iadd dX7_clause_95 ?_
          refine v_putf 0 3 fp_X7_26 hn rfl rfl rfl (Nat.le_of_ble_eq_true rfl) dX7_clause_96 ?_
          refine v_aload_n dX7_clause_99 rfl ?_
          refine v_getf 0 2 fl_X7_22 hn rfl rfl dX7_clause_100 ?_
          refine v_aload_n dX7_clause_103 rfl ?_
          refine v_iconst dX7_clause_104 ?_
          refine v_bipush dX7_clause_105 (by decide +kernel) ?_
          refine v_callV (ci := 7) (K7_number (b := b) (len := len) (a := a1 + 1) (f := f) (cTS_h hb).hd (cTS_h hb).tl.hd hw ⟨by omega, by omega⟩ (lo := 0) (hi := 60) ⟨by omega, by omega⟩ ⟨by omega, by omega⟩) ⟨rfl, rfl⟩ (Nat.le_refl _) (Nat.le_refl _) ((cTS_h hb).hd) rfl ⟨ml_X7_42, mm_X7_number⟩ ⟨(Nat.le_of_ble_eq_true rfl), (Nat.le_of_ble_eq_true rfl)⟩ mp_X7_number rfl rfl (Nat.le_of_ble_eq_true rfl) dX7_clause_107 (fun r M' h => ?_)
          obtain ⟨rfl, rfl⟩ := h
          refine v_ovp [0] rfl rfl hn ?_
          refine v_putf 2 7 fp_X7_62 hn rfl rfl rfl (Nat.le_of_ble_eq_true rfl) dX7_clause_110 ?_
          refine v_goto (tgt := 156) dX7_clause_113 (by decide) ?_
          exact v_vret dX7_clause_156 rfl (Nat.le_refl _) (Nat.le_refl _) (hcla _ (hcl.trans ((if_neg (by omega)).trans ((if_neg (by omega)).trans (if_pos (by omega))))) _ (cTS_back hb hM2))
      · skip
        refine v_aload_n dX7_clause_57 rfl ?_
        refine v_dup dX7_clause_58 rfl ?_
        refine v_getf 0 3 fl_X7_26 hn rfl rfl dX7_clause_59 ?_
        refine v_iconst dX7_clause_62 ?_
        refine v_iadd dX7_clause_63 ?_
        refine v_putf 0 3 fp_X7_26 hn rfl rfl rfl (Nat.le_of_ble_eq_true rfl) dX7_clause_64 ?_
        refine v_aload_n dX7_clause_67 rfl ?_
        refine v_getf 0 2 fl_X7_22 hn rfl rfl dX7_clause_68 ?_
        refine v_aload_n dX7_clause_71 rfl ?_
        refine v_iconst dX7_clause_72 ?_
        refine v_iconst dX7_clause_73 ?_
        refine v_callV (ci := 7) (K7_number (b := b) (len := len) (a := a1 + 1) (f := f) (cTS_h hb).hd (cTS_h hb).tl.hd hw ⟨by omega, by omega⟩ (lo := 1) (hi := 4) ⟨by omega, by omega⟩ ⟨by omega, by omega⟩) ⟨rfl, rfl⟩ (Nat.le_refl _) (Nat.le_refl _) ((cTS_h hb).hd) rfl ⟨ml_X7_42, mm_X7_number⟩ ⟨(Nat.le_of_ble_eq_true rfl), (Nat.le_of_ble_eq_true rfl)⟩ mp_X7_number rfl rfl (Nat.le_of_ble_eq_true rfl) dX7_clause_74 (fun r M' h => ?_)
        obtain ⟨rfl, rfl⟩ := h
        refine v_ovp [0] rfl rfl hn ?_
        refine v_putf 2 6 fp_X7_59 hn rfl rfl rfl (Nat.le_of_ble_eq_true rfl) dX7_clause_77 ?_
        refine v_goto (tgt := 156) dX7_clause_80 (by decide) ?_
        exact v_vret dX7_clause_156 rfl (Nat.le_refl _) (Nat.le_refl _) (hcla _ (hcl.trans ((if_neg (by omega)).trans (if_pos (by omega)))) _ (cTS_back hb hM2))
    · skip
      refine v_aload_n dX7_clause_27 rfl ?_
      refine v_dup dX7_clause_28 rfl ?_
      refine v_getf 0 3 fl_X7_26 hn rfl rfl dX7_clause_29 ?_
      refine v_iconst dX7_clause_32 ?_
      refine v_iadd dX7_clause_33 ?_
      refine v_putf 0 3 fp_X7_26 hn rfl rfl rfl (Nat.le_of_ble_eq_true rfl) dX7_clause_34 ?_
      refine v_aload_n dX7_clause_37 rfl ?_
      refine v_aload_n dX7_clause_38 rfl ?_
      refine v_getf 0 2 fl_X7_22 hn rfl rfl dX7_clause_39 ?_
      refine v_getf 2 5 fl_X7_49 hn rfl rfl dX7_clause_42 ?_
      refine v_callV (ci := 7) (K7_truthClause hb (len := len) (a := a1 + 1) (f := f) (σ := σ) (u := u) (d := d) (cTS_h hb) hw ⟨by omega, by omega⟩ hsg ⟨by omega, by omega⟩) ⟨rfl, rfl⟩ (Nat.le_refl _) (Nat.le_refl _) ((cTS_h hb).hd) rfl ⟨ml_X7_55, mm_X7_truthClause⟩ ⟨(Nat.le_of_ble_eq_true rfl), (Nat.le_of_ble_eq_true rfl)⟩ mp_X7_truthClause rfl rfl (Nat.le_of_ble_eq_true rfl) dX7_clause_45 (fun r M' h => ?_)
      obtain ⟨rfl, rfl⟩ := h
      refine v_ovp [0, 2, 3, 4, 5, 6] rfl rfl hn ?_
      refine v_goto (tgt := 156) dX7_clause_48 (by decide) ?_
      exact v_vret dX7_clause_156 rfl (Nat.le_refl _) (Nat.le_refl _) (hcla _ (hcl.trans (if_pos ⟨by omega, by omega⟩)) _ (cTS_back hb hM2))
end

