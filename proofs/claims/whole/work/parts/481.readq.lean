/-! what the class reads is what is asked: a third digit is wrong wherever it is looked at -/
/-- at a digit no number can begin -/
theorem nmq_dig {f : Int → Int} {len a lo hi : Int} (h : dg (lk f len a) ≠ -1) : nmq f len a lo hi = (0, a, a) := by
  have h32 : lk f len a ≠ 32 := fun e => h (by rw [e]; rfl)
  have ha1 : sk f len 240 a = a := sk_no 240 h32
  exact nmq1 ha1 rfl rfl (Or.inl rfl) rfl rfl rfl
/-- two readings end alike, or the one has seen a third digit where the other stands before it -/
def rdv (f : Int → Int) (len a w a' w' : Int) : Prop := a' = a ∧ w = a ∧ 0 ≤ a ∧ dg (lk f len a) ≠ -1 ∧ (w' = -1 ∨ w' = a)
theorem nmq_or {f : Int → Int} {len a : Int} (lo hi : Int) (h0 : 0 ≤ a) : nmq f len a lo hi = nmb f len a lo hi ∨ rdv f len (nmb f len a lo hi).2.1 (nmb f len a lo hi).2.2 (nmq f len a lo hi).2.1 (nmq f len a lo hi).2.2 := by
  obtain ⟨a1, ha1⟩ : ∃ a1, sk f len 240 a = a1 := ⟨_, rfl⟩
  have hs := sk_le f len 240 a
  rw [ha1] at hs
  obtain ⟨d1, hd1⟩ : ∃ d1, dg (lk f len a1) = d1 := ⟨_, rfl⟩
  obtain ⟨d2, hd2⟩ : ∃ d1, dg (lk f len (a1 + 1)) = d1 := ⟨_, rfl⟩
  obtain ⟨d3, hd3⟩ : ∃ d1, dg (lk f len (a1 + 2)) = d1 := ⟨_, rfl⟩
  by_cases c1 : a1 = a ∨ d1 = -1
  · rw [nmb1 ha1 hd1 hd2 hd3 c1 rfl rfl rfl, nmq1 ha1 hd1 hd2 c1 rfl rfl rfl]; exact Or.inl rfl
  · by_cases c2 : d2 = -1
    · by_cases c3 : d1 < lo ∨ hi < d1
      · rw [nmb2 ha1 hd1 hd2 hd3 c1 c2 c3 rfl rfl rfl, nmq2 ha1 hd1 hd2 c1 c2 c3 rfl rfl rfl]; exact Or.inl rfl
      · rw [nmb3 ha1 hd1 hd2 hd3 c1 c2 c3 rfl rfl rfl, nmq3 ha1 hd1 hd2 c1 c2 c3 rfl rfl rfl]; exact Or.inl rfl
    · by_cases c3 : d1 * 10 + d2 < lo ∨ hi < d1 * 10 + d2
      · rw [nmb4 ha1 hd1 hd2 hd3 c1 c2 c3 rfl rfl rfl, nmq4 ha1 hd1 hd2 c1 c2 c3 rfl rfl rfl]; exact Or.inl rfl
      · by_cases c4 : d3 = -1
        · rw [nmb5 ha1 hd1 hd2 hd3 c1 c2 c3 c4 rfl rfl rfl, nmq5 ha1 hd1 hd2 c1 c2 c3 rfl rfl rfl]; exact Or.inl rfl
        · rw [nmb6 ha1 hd1 hd2 hd3 c1 c2 c3 c4 rfl rfl rfl, nmq5 ha1 hd1 hd2 c1 c2 c3 rfl rfl rfl]
          exact Or.inr ⟨rfl, rfl, by dsimp only; omega, by dsimp only; rw [hd3]; exact c4, Or.inl rfl⟩
theorem sgl_wr {f : Int → Int} {len sg t : Int} : ∀ (n : Nat) {k left a wr : Int} {O : Int → Int}, wr ≠ -1 → sgl f len sg t n k left a wr O = (a, wr, O)
  | 0, _, _, _, _, _, _ => rfl
  | _ + 1, _, _, _, _, _, h => if_neg h
theorem sgq_wr {f : Int → Int} {len sg t : Int} : ∀ (n : Nat) {k left a wr : Int} {O : Int → Int}, wr ≠ -1 → sgq f len sg t n k left a wr O = (a, wr, O)
  | 0, _, _, _, _, _, _ => rfl
  | _ + 1, _, _, _, _, _, h => if_neg h
theorem sgq_dig {f : Int → Int} {len sg t : Int} (n : Nat) {k left a w : Int} {O : Int → Int} (h0 : 0 ≤ a) (h : dg (lk f len a) ≠ -1) (hw : w = -1 ∨ w = a) : (sgq f len sg t n k left a w O).1 = a ∧ ((sgq f len sg t n k left a w O).2.1 = -1 ∨ (sgq f len sg t n k left a w O).2.1 = a) := by
  by_cases c : w = -1
  · cases n with
    | zero => exact ⟨rfl, hw⟩
    | succ n =>
      have e : sgq f len sg t (n + 1) k left a w O = sgq f len sg t n (k + 1) (left - (nmq f len a (if k = sg - 1 then left else 0) left).1) (nmq f len a (if k = sg - 1 then left else 0) left).2.1 (nmq f len a (if k = sg - 1 then left else 0) left).2.2 (up O (t * 5 + k) (nmq f len a (if k = sg - 1 then left else 0) left).1) := if_pos c
      rw [e, nmq_dig h, sgq_wr n (by dsimp only; omega)]
      exact ⟨rfl, Or.inr rfl⟩
  · rw [sgq_wr n c]
    exact ⟨rfl, hw⟩
theorem sgq_or {f : Int → Int} {len sg t : Int} : ∀ (n : Nat) (k left a wr : Int) (O : Int → Int), 0 ≤ a → sgq f len sg t n k left a wr O = sgl f len sg t n k left a wr O ∨ rdv f len (sgl f len sg t n k left a wr O).1 (sgl f len sg t n k left a wr O).2.1 (sgq f len sg t n k left a wr O).1 (sgq f len sg t n k left a wr O).2.1
  | 0, _, _, _, _, _, _ => Or.inl rfl
  | n + 1, k, left, a, wr, O, h0 => by
    by_cases c : wr = -1
    · have e : sgl f len sg t (n + 1) k left a wr O = sgl f len sg t n (k + 1) (left - (nmb f len a (if k = sg - 1 then left else 0) left).1) (nmb f len a (if k = sg - 1 then left else 0) left).2.1 (nmb f len a (if k = sg - 1 then left else 0) left).2.2 (up O (t * 5 + k) (nmb f len a (if k = sg - 1 then left else 0) left).1) := if_pos c
      have e2 : sgq f len sg t (n + 1) k left a wr O = sgq f len sg t n (k + 1) (left - (nmq f len a (if k = sg - 1 then left else 0) left).1) (nmq f len a (if k = sg - 1 then left else 0) left).2.1 (nmq f len a (if k = sg - 1 then left else 0) left).2.2 (up O (t * 5 + k) (nmq f len a (if k = sg - 1 then left else 0) left).1) := if_pos c
      have ho := nmq_or (f := f) (len := len) (if k = sg - 1 then left else 0) left h0
      have k1 := nmb_ok (f := f) (len := len) (a := a) (lo := if k = sg - 1 then left else 0) (hi := left)
      rw [e, e2]
      generalize nmb f len a (if k = sg - 1 then left else 0) left = r at ho k1 ⊢
      generalize nmq f len a (if k = sg - 1 then left else 0) left = r2 at ho ⊢
      rcases ho with ho | ⟨o1, o2, o3, o4, o5⟩
      · rw [ho]; exact sgq_or n _ _ _ _ _ (by omega)
      · have q := sgq_dig (f := f) (len := len) (sg := sg) (t := t) n (k := k + 1) (left := left - r2.1) (O := up O (t * 5 + k) r2.1) o3 o4 o5
        rw [sgl_wr n (show r.2.2 ≠ -1 by omega), o1]
        exact Or.inr ⟨q.1, o2, o3, o4, q.2⟩
    · rw [sgl_wr _ c, sgq_wr _ c]; exact Or.inl rfl
theorem tcq_or {f : Int → Int} {len a : Int} {σ : SaleT} (h : 0 ≤ a) : tcq f len a σ = tcl f len a σ ∨ rdv f len (tcl f len a σ).1 (tcl f len a σ).2.1 (tcq f len a σ).1 (tcq f len a σ).2.1 := by
  obtain ⟨r1, hr1⟩ : ∃ r1, nmb f len a 0 60 = r1 := ⟨_, rfl⟩
  obtain ⟨p1, hp1⟩ : ∃ r1, nmq f len a 0 60 = r1 := ⟨_, rfl⟩
  have x1 : nmx f len a (-1) 0 60 = r1 := (if_pos rfl).trans hr1
  have y1 : nxq f len a (-1) 0 60 = p1 := (if_pos rfl).trans hp1
  have k1 := nmb_ok (f := f) (len := len) (a := a) (lo := 0) (hi := 60)
  have o := nmq_or (f := f) (len := len) 0 60 h
  rw [hr1] at k1
  rw [hr1, hp1] at o
  obtain ⟨r2, hr2⟩ : ∃ r2, nmx f len r1.2.1 r1.2.2 1 9 = r2 := ⟨_, rfl⟩
  obtain ⟨p2, hp2⟩ : ∃ r2, nxq f len p1.2.1 p1.2.2 1 9 = r2 := ⟨_, rfl⟩
  obtain ⟨r3, hr3⟩ : ∃ r3, sgl f len (sSg σ) (sTr σ) (sSg σ).toNat 0 10 r2.2.1 r2.2.2 (sO σ) = r3 := ⟨_, rfl⟩
  obtain ⟨p3, hp3⟩ : ∃ r3, sgq f len (sSg σ) (sTr σ) (sSg σ).toNat 0 10 p2.2.1 p2.2.2 (sO σ) = r3 := ⟨_, rfl⟩
  have e : tcl f len a σ = (r3.1, r3.2.1, (sSg σ, sTr σ + 1, sNb σ, sLe σ, sWy σ, up (sV σ) (sTr σ) r1.1, up (sW σ) (sTr σ) r2.1, r3.2.2, sSt σ)) := by unfold tcl; simp only [x1, hr2, hr3]
  have e2 : tcq f len a σ = (p3.1, p3.2.1, (sSg σ, sTr σ + 1, sNb σ, sLe σ, sWy σ, up (sV σ) (sTr σ) p1.1, up (sW σ) (sTr σ) p2.1, p3.2.2, sSt σ)) := by unfold tcq; simp only [y1, hp2, hp3]
  rw [e, e2]
  rcases o with o | ⟨o1, o2, o3, o4, o5⟩
  · subst o
    by_cases c : p1.2.2 = -1
    · have z2 : nmb f len p1.2.1 1 9 = r2 := by rw [← hr2]; exact (if_pos c).symm
      have w2 : nmq f len p1.2.1 1 9 = p2 := by rw [← hp2]; exact (if_pos c).symm
      have k2 := nmb_ok (f := f) (len := len) (a := p1.2.1) (lo := 1) (hi := 9)
      have q := nmq_or (f := f) (len := len) (a := p1.2.1) 1 9 (by omega)
      rw [z2] at k2
      rw [z2, w2] at q
      rcases q with q | ⟨o1, o2, o3, o4, o5⟩
      · subst q
        have v := sgq_or (f := f) (len := len) (sg := sSg σ) (t := sTr σ) (sSg σ).toNat 0 10 p2.2.1 p2.2.2 (sO σ) (by omega)
        rw [hr3, hp3] at v
        rcases v with v | v
        · exact Or.inl (by rw [v])
        · exact Or.inr v
      · have v := sgq_dig (f := f) (len := len) (sg := sSg σ) (t := sTr σ) (sSg σ).toNat (k := 0) (left := 10) (O := sO σ) o3 o4 o5
        rw [← o1, hp3, o1] at v
        rw [sgl_wr _ (show r2.2.2 ≠ -1 by omega)] at hr3
        subst hr3
        exact Or.inr ⟨v.1, o2, o3, o4, v.2⟩
    · have z2 : r2 = (0, p1.2.1, p1.2.2) := by rw [← hr2]; exact if_neg c
      have w2 : p2 = (0, p1.2.1, p1.2.2) := by rw [← hp2]; exact if_neg c
      subst z2
      subst w2
      dsimp only at hr3 hp3
      rw [sgl_wr _ c] at hr3
      rw [sgq_wr _ c] at hp3
      subst hr3
      subst hp3
      exact Or.inl rfl
  · have z2 : r2 = (0, r1.2.1, r1.2.2) := by rw [← hr2]; exact if_neg (by omega)
    have w2 : p2.2.1 = r1.2.1 ∧ (p2.2.2 = -1 ∨ p2.2.2 = r1.2.1) := by
      rw [← hp2, o1]
      by_cases c : p1.2.2 = -1
      · have : nxq f len r1.2.1 p1.2.2 1 9 = nmq f len r1.2.1 1 9 := if_pos c
        rw [this, nmq_dig o4]
        exact ⟨rfl, Or.inr rfl⟩
      · have : nxq f len r1.2.1 p1.2.2 1 9 = (0, r1.2.1, p1.2.2) := if_neg c
        rw [this]
        exact ⟨rfl, o5⟩
    subst z2
    dsimp only at hr3
    have v := sgq_dig (f := f) (len := len) (sg := sSg σ) (t := sTr σ) (sSg σ).toNat (k := 0) (left := 10) (O := sO σ) o3 o4 w2.2
    rw [← w2.1, hp3, w2.1] at v
    rw [sgl_wr _ (show r1.2.2 ≠ -1 by omega)] at hr3
    subst hr3
    exact Or.inr ⟨v.1, o2, o3, o4, v.2⟩
theorem clq_or {f : Int → Int} {len a : Int} {σ : SaleT} (h : 0 ≤ a) : clq f len a σ = cla f len a σ ∨ rdv f len (cla f len a σ).1 (cla f len a σ).2.1 (clq f len a σ).1 (clq f len a σ).2.1 := by
  have hs := sk_le f len 240 a
  unfold cla clq
  generalize sk f len 240 a = a1 at hs ⊢
  generalize lk f len a1 = c
  unfold claX claQ
  by_cases c1 : c = 116 ∧ sTr σ < 8
  · rw [if_pos c1, if_pos c1]; exact tcq_or (by omega)
  · rw [if_neg c1, if_neg c1]
    by_cases c2 : c = 110
    · rw [if_pos c2, if_pos c2]
      rcases nmq_or (f := f) (len := len) (a := a1 + 1) 1 4 (by omega) with o | o
      · exact Or.inl (by rw [o])
      · exact Or.inr o
    · rw [if_neg c2, if_neg c2]
      by_cases c3 : c = 108
      · rw [if_pos c3, if_pos c3]
        rcases nmq_or (f := f) (len := len) (a := a1 + 1) 0 60 (by omega) with o | o
        · exact Or.inl (by rw [o])
        · exact Or.inr o
      · rw [if_neg c3, if_neg c3]
        by_cases c4 : c = 119
        · rw [if_pos c4, if_pos c4]
          rcases nmq_or (f := f) (len := len) (a := a1 + 1) 0 2 (by omega) with o | o
          · exact Or.inl (by rw [o])
          · exact Or.inr o
        · rw [if_neg c4, if_neg c4]; exact Or.inl rfl
theorem rdq_wr {f : Int → Int} {len : Int} : ∀ (n : Nat) {a wr : Int} {σ : SaleT}, wr ≠ -1 → rdq f len n a wr σ = (wr, σ)
  | 0, _, _, _, _ => rfl
  | _ + 1, _, _, _, h => if_neg h
theorem rdl_wq {f : Int → Int} {len : Int} : ∀ (n : Nat) {a wr : Int} {σ : SaleT}, wr ≠ -1 → rdl f len n a wr σ = (wr, σ)
  | 0, _, _, _, _ => rfl
  | _ + 1, _, _, _, h => if_neg h
theorem rdq_dig {f : Int → Int} {len : Int} (n : Nat) {a w : Int} {σ : SaleT} (h0 : 0 ≤ a) (h : dg (lk f len a) ≠ -1) (hw : w = -1 ∨ w = a) : (rdq f len (n + 1) a w σ).1 = a := by
  by_cases c : w = -1
  · have h32 : lk f len a ≠ 32 := fun e => h (by rw [e]; rfl)
    have h59 : lk f len a ≠ 59 := fun e => h (by rw [e]; rfl)
    have ha1 : sk f len 240 a = a := sk_no 240 h32
    have hl := dg_lt h
    unfold rdq
    rw [if_pos c, ha1, if_neg (by omega), if_neg h59]
  · rw [rdq_wr _ c]
    show w = a
    omega
theorem rdq_or {f : Int → Int} {len : Int} : ∀ (n : Nat) (a wr : Int) (σ : SaleT), 0 ≤ a → a ≤ len → len < a + n → (0 ≤ sTr σ ∧ sTr σ ≤ 8) → (rdq f len n a wr σ).1 = (rdl f len n a wr σ).1 ∧ ((rdl f len n a wr σ).1 = -1 → rdq f len n a wr σ = rdl f len n a wr σ)
  | 0, a, wr, σ, h0, h1, h2, h3 => ⟨rfl, fun _ => rfl⟩
  | n + 1, a, wr, σ, h0, h1, h2, h3 => by
    have hs := sk_le f len 240 a
    unfold rdq rdl
    by_cases c : wr = -1
    · rw [if_pos c, if_pos c]
      generalize sk f len 240 a = a1 at hs ⊢
      by_cases c1 : len ≤ a1
      · rw [if_pos c1, if_pos c1]; exact ⟨rfl, fun _ => rfl⟩
      · rw [if_neg c1, if_neg c1]
        by_cases c2 : lk f len a1 = 59
        · rw [if_pos c2, if_pos c2]
          have k := cla_ok (f := f) (len := len) (a := a1 + 1) (σ := σ) (by omega) h3 (by omega)
          have o := clq_or (f := f) (len := len) (a := a1 + 1) (σ := σ) (by omega)
          generalize cla f len (a1 + 1) σ = r at k o ⊢
          generalize clq f len (a1 + 1) σ = r2 at o ⊢
          rcases o with o | ⟨o1, o2, o3, o4, o5⟩
          · rw [o]; exact rdq_or n _ _ _ (by omega) (by omega) (by omega) (by omega)
          · have hl := dg_lt o4
            cases n with
            | zero => omega
            | succ n =>
              have q := rdq_dig (f := f) (len := len) n (σ := r2.2.2) o3 o4 o5
              rw [rdl_wq _ (show r.2.1 ≠ -1 by omega), o1, q]
              exact ⟨o2.symm, fun z => by dsimp only at z; omega⟩
        · rw [if_neg c2, if_neg c2]; exact ⟨rfl, fun _ => rfl⟩
    · rw [if_neg c, if_neg c]; exact ⟨rfl, fun _ => rfl⟩
/-- the class reads as is asked: the same fault, and the same SALE where there is none -/
theorem rdr_or {f : Int → Int} {len : Int} (hf : wfT f len) (V W O St : Int → Int) : (rdr f len V W O St).1 = (rd f len V W O St).1 ∧ ((rd f len V W O St).1 = -1 → rdr f len V W O St = rd f len V W O St) := by
  obtain ⟨l0, l1, -⟩ := hf
  have hs := sk_le f len 240 0
  unfold rdr rd
  by_cases c : lk f len (sk f len 240 0) = 115
  · rw [if_pos c, if_pos c]
    have hl : sk f len 240 0 < len := by
      unfold lk at c
      by_cases q : sk f len 240 0 < len
      · exact q
      · rw [if_neg q] at c; omega
    generalize sk f len 240 0 = a1 at hs hl ⊢
    have k := nmb_ok (f := f) (len := len) (a := a1 + 1) (lo := 2) (hi := 5)
    have o := nmq_or (f := f) (len := len) (a := a1 + 1) 2 5 (by omega)
    generalize nmb f len (a1 + 1) 2 5 = r at k o ⊢
    generalize nmq f len (a1 + 1) 2 5 = r2 at o ⊢
    rcases o with o | ⟨o1, o2, o3, o4, o5⟩
    · rw [o]; exact rdq_or 241 _ _ _ (by omega) (by omega) (by omega) ⟨by show (0 : Int) ≤ 0; omega, by show (0 : Int) ≤ 8; omega⟩
    · have q := rdq_dig (f := f) (len := len) 240 (σ := (r2.1, 0, 2, 0, 0, V, W, O, fl St (-1) 4)) o3 o4 o5
      rw [rdl_wq _ (show r.2.2 ≠ -1 by omega), o1, q]
      exact ⟨o2.symm, fun z => by dsimp only at z; omega⟩
  · rw [if_neg c, if_neg c]; exact ⟨rfl, fun _ => rfl⟩

