/-! what stays well formed -/
theorem stOK.sB {s : CSt} (hs : stOK s) {T : Int → Int} (hT : ∀ i, 0 ≤ i → i < 50 → 0 ≤ T i ∧ T i ≤ 60) : stOK (sB s T) := ⟨hs.1, hs.2.1, hs.2.2.1, ⟨hs.c.1, hT⟩, hs.2.2.2.2.1, hs.2.2.2.2.2.1, hs.2.2.2.2.2.2⟩
theorem stOK.sD {s : CSt} (hs : stOK s) {D : Int → Int} (hD : ∀ i, 0 ≤ i → i < 4 → 0 ≤ D i ∧ D i ≤ 4) : stOK (sD s D) := ⟨hs.1, hs.2.1, hs.2.2.1, hs.c, hD, hs.2.2.2.2.2.1, hs.2.2.2.2.2.2⟩
theorem stOK.sQ {s : CSt} (hs : stOK s) {nt : Int} (h0 : qT s ≤ nt) (h1 : nt ≤ 10) : stOK (sQ s nt) := ⟨hs.1, hs.2.1, fun k hk => ⟨(hs.2.2.1 k hk).1, fun i i0 i1 => by have := (hs.2.2.1 k hk).2 i i0 i1; show sSt (qS s k) i < nt; omega⟩, ⟨⟨by have := hs.c.1; show 0 ≤ nt; omega, h1⟩, hs.c.2⟩, hs.2.2.2.2.1, hs.2.2.2.2.2.1, hs.2.2.2.2.2.2⟩
theorem stOK.sS {s : CSt} (hs : stOK s) {n : Nat} {σ : SaleT} (hw : wfS σ) (ht : ∀ i, 0 ≤ i → i < 4 → sSt σ i < qT s) : stOK (sS s n σ) := ⟨hs.1, hs.2.1, fun k hk => by
  by_cases c : k = n
  · show wfS (if k = n then σ else qS s k) ∧ ∀ i, 0 ≤ i → i < 4 → sSt (if k = n then σ else qS s k) i < qT s
    rw [if_pos c]; exact ⟨hw, ht⟩
  · show wfS (if k = n then σ else qS s k) ∧ ∀ i, 0 ≤ i → i < 4 → sSt (if k = n then σ else qS s k) i < qT s
    rw [if_neg c]; exact hs.2.2.1 k hk, hs.c, hs.2.2.2.2.1, hs.2.2.2.2.2.1, hs.2.2.2.2.2.2⟩
theorem stOK.sF {s : CSt} (hs : stOK s) {f : Int → Int} {len : Int} (hf : wfT f len) : stOK (sF s f len) := ⟨hf, hs.2.1, hs.2.2.1, hs.c, hs.2.2.2.2.1, hs.2.2.2.2.2.1, hs.2.2.2.2.2.2⟩

