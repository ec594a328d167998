/-! the object between calls -/
/-- what a scratch cell of the object looks like -/
def shp (G : sw_G) : Nat → sw_Ob → Prop
  | 6, ob => ∃ b m le wt wo hi al nx su, ob = (cC G b m le wt wo hi al nx su).2
  | 7, ob => ∃ R, ob = sw_ia 20 R
  | 8, ob => ∃ R, ob = sw_ia 4 R
  | 9, ob => ∃ R, ob = sw_la 40 R
  | 10, ob => ∃ a tk so un, ob = (cY G a tk so un).2
  | 11, ob => ∃ R, ob = sw_la 4 R
  | 12, ob => ∃ R, ob = sw_la 20 R
  | 13, ob => ∃ R, ob = sw_la 20 R
  | 14, ob => ∃ a b, ob = (cV G a b).2
  | 15, ob => ∃ R, ob = sw_la 244 R
  | 16, ob => ∃ R, ob = sw_la 244 R
  | 17, ob => ∃ R, ob = sw_la 61 R
  | 18, ob => ob = (cH G).2
  | 19, ob => ∃ R, ob = sw_la 61 R
  | 20, ob => ∃ R, ob = sw_la 61 R
  | 21, ob => ∃ a b c, ob = (cN G a b c).2
  | 22, ob => ∃ R, ob = sw_ia 105 R
  | 23, ob => ∃ R, ob = sw_ia 5 R
  | 24, ob => ∃ R, ob = sw_ia 5 R
  | 25, ob => ∃ a b c, ob = (cU G a b c).2
  | 26, ob => ∃ R, ob = sw_ia 4 R
  | 27, ob => ∃ R, ob = sw_ia 4 R
  | 28, ob => ∃ R, ob = sw_za 4 R
  | 29, ob => ∃ R, ob = sw_ia 4 R
  | _, _ => False
/-- tape and its length, how many sales, the sales, tables and their bids, what is laid; of the latest LEARN: bidders, taken, rows, gained -/
abbrev CSt : Type := (Int → Int) × Int × Nat × (Nat → SaleT) × Int × (Int → Int) × (Int → Int) × Int × Int × (Int → Int) × (Int → Int)
abbrev qF (s : CSt) : Int → Int := s.1
abbrev qL (s : CSt) : Int := s.2.1
abbrev qN (s : CSt) : Nat := s.2.2.1
abbrev qS (s : CSt) : Nat → SaleT := s.2.2.2.1
abbrev qT (s : CSt) : Int := s.2.2.2.2.1
abbrev qB (s : CSt) : Int → Int := s.2.2.2.2.2.1
abbrev qD (s : CSt) : Int → Int := s.2.2.2.2.2.2.1
abbrev qM (s : CSt) : Int := s.2.2.2.2.2.2.2.1
abbrev qK (s : CSt) : Int := s.2.2.2.2.2.2.2.2.1
abbrev qR (s : CSt) : Int → Int := s.2.2.2.2.2.2.2.2.2.1
abbrev qG (s : CSt) : Int → Int := s.2.2.2.2.2.2.2.2.2.2
def stOK (s : CSt) : Prop := wfT (qF s) (qL s) ∧ qN s ≤ 8 ∧ (∀ k : Nat, k < qN s → wfS (qS s k) ∧ ∀ i, 0 ≤ i → i < 4 → sSt (qS s k) i < qT s) ∧ wfC (qT s) (qB s) ∧ (∀ i, 0 ≤ i → i < 4 → 0 ≤ qD s i ∧ qD s i ≤ 4) ∧ (0 ≤ qM s ∧ qM s ≤ 4) ∧ (∀ i, 0 ≤ i → i < 20 → 0 ≤ qR s i ∧ qR s i ≤ 60)
def InvC (G : sw_G) (M : sw_M) (s : CSt) : Prop :=
  M 0 = some (c0 G (qN s) (qT s)).2 ∧ M 3 = some (cSa G (qN s)).2 ∧ M 4 = some (cTb (qB s)).2 ∧ M 5 = some (cLd (qD s)).2 ∧ M 2 = some (cB (qF s)).2 ∧ (∃ a wr, M 1 = some (cT G (100 + 5 * qN s) (qL s) a wr).2) ∧
  (∃ sg tr nb le wy Va Wa Oa St u d, sw_hold M (cSf G (100 + 5 * qN s) sg tr nb le wy Va Wa Oa St u d)) ∧ (∀ k : Nat, k < qN s → ∃ u d, sw_hold M (cS G (100 + 5 * k) (qS s k) u d)) ∧
  (∃ b x so Sg, sw_hold M (cLs G b x (qM s) (qK s) so (qR s) (qG s) Sg)) ∧ ∀ t : Nat, 6 ≤ t → t < 30 → ∃ ob, M t = some ob ∧ shp G t ob
/-- a cell that a call may leave behind -/
def okC (G : sw_G) (M : sw_M) (s : CSt) (c : sw_Ce) : Prop := (6 ≤ c.1 ∧ c.1 < 30 ∧ shp G c.1 c.2) ∨ (∃ (k : Nat) (u d : Int), k < qN s ∧ c = cO G (100 + 5 * k) (qS s k) u d) ∨ M c.1 = some c.2
theorem InvC.ov {G : sw_G} {M : sw_M} {s : CSt} (h : InvC G M s) {cs : List sw_Ce} (hc : ∀ c ∈ cs, okC G M s c) : InvC G (sw_ov M cs) s := by
  have key : ∀ t, sw_ov M cs t = M t ∨ (∃ c ∈ cs, c.1 = t ∧ sw_ov M cs t = some c.2 ∧ okC G M s c) := by
    intro t
    clear h
    induction cs with
    | nil => exact Or.inl rfl
    | cons c cs ih =>
      by_cases e : t = c.1
      · exact Or.inr ⟨c, List.mem_cons_self, e.symm, if_pos e, hc c List.mem_cons_self⟩
      · have e2 : sw_ov M (c :: cs) t = sw_ov M cs t := if_neg e
        rcases ih (fun x hx => hc x (List.mem_cons_of_mem _ hx)) with h1 | ⟨x, hx, h1, h2, h3⟩
        · exact Or.inl (e2.trans h1)
        · exact Or.inr ⟨x, List.mem_cons_of_mem _ hx, h1, e2.trans h2, h3⟩
  have fix : ∀ (t : Nat) (ob : sw_Ob), M t = some ob → (t < 6 ∨ 30 ≤ t) → (∀ k : Nat, k < qN s → t ≠ 100 + 5 * k) → sw_ov M cs t = some ob := by
    intro t ob hm h1 h2
    rcases key t with hk | ⟨c, -, e1, e2, hk⟩
    · exact hk.trans hm
    · rcases hk with ⟨a, b, -⟩ | ⟨k, u, d, hk, rfl⟩ | hk
      · omega
      · exact absurd e1.symm (h2 k hk)
      · rw [e2, ← hk, e1, hm]
  obtain ⟨i0, i3, i4, i5, i2, ⟨a, wr, i1⟩, ⟨sg, tr, nb, le, wy, Va, Wa, Oa, St, u, d, id'⟩, is', ⟨b, x, so, Sg, il⟩, ic⟩ := h
  have fixH : ∀ (l : List sw_Ce), sw_hold M l → (∀ c ∈ l, (c.1 < 6 ∨ 30 ≤ c.1) ∧ ∀ k : Nat, k < qN s → c.1 ≠ 100 + 5 * k) → sw_hold (sw_ov M cs) l := fun l hl hx c hcl => fix c.1 c.2 (hl c hcl) (hx c hcl).1 (hx c hcl).2
  refine ⟨fix _ _ i0 (by omega) (fun k hk => by omega), fix _ _ i3 (by omega) (fun k hk => by omega), fix _ _ i4 (by omega) (fun k hk => by omega), fix _ _ i5 (by omega) (fun k hk => by omega), fix _ _ i2 (by omega) (fun k hk => by omega), ⟨a, wr, fix _ _ i1 (by omega) (fun k hk => by omega)⟩, ⟨sg, tr, nb, le, wy, Va, Wa, Oa, St, u, d, fixH _ id' ?_⟩, fun k hk => ?_, ⟨b, x, so, Sg, fixH _ il ?_⟩, fun t h1 h2 => ?_⟩
  · intro c hcl
    simp only [List.mem_cons, List.not_mem_nil, or_false] at hcl
    rcases hcl with rfl | rfl | rfl | rfl | rfl <;> exact ⟨by dsimp only; omega, fun k hk => by dsimp only; omega⟩
  · obtain ⟨u', d', hu⟩ := is' k hk
    have tl : sw_hold (sw_ov M cs) (cS G (100 + 5 * k) (qS s k) u' d').tail := fixH _ hu.tl (by
      intro c hcl
      simp only [List.tail_cons, List.mem_cons, List.not_mem_nil, or_false] at hcl
      rcases hcl with rfl | rfl | rfl | rfl <;> exact ⟨by dsimp only; omega, fun k hk => by dsimp only; omega⟩)
    rcases key (100 + 5 * k) with hk' | ⟨c, -, e1, e2, hk'⟩
    · exact ⟨u', d', sw_hold1 (hk'.trans hu.hd) tl⟩
    · rcases hk' with ⟨a, b, -⟩ | ⟨k2, u2, d2, hk2, rfl⟩ | hk'
      · omega
      · have e3 : k2 = k := by dsimp only at e1; omega
        subst e3
        exact ⟨u2, d2, sw_hold1 e2 tl⟩
      · rw [e1, hu.hd] at hk'
        exact ⟨u', d', sw_hold1 (e2.trans hk'.symm) tl⟩
  · intro c hcl
    simp only [List.mem_cons, List.not_mem_nil, or_false] at hcl
    rcases hcl with rfl | rfl | rfl | rfl <;> exact ⟨by dsimp only; omega, fun k hk => by dsimp only; omega⟩
  · rcases key t with hk | ⟨c, -, e1, e2, hk⟩
    · obtain ⟨ob, g1, g2⟩ := ic t h1 h2
      exact ⟨ob, hk.trans g1, g2⟩
    · rcases hk with ⟨a, b, hs⟩ | ⟨k, u, d, hk, rfl⟩ | hk
      · rw [e1] at hs
        exact ⟨c.2, e2, hs⟩
      · dsimp only at e1; omega
      · obtain ⟨ob, g1, g2⟩ := ic t h1 h2
        rw [e1, g1] at hk
        exact ⟨ob, e2.trans hk.symm, g2⟩
/-- what isn't the object's stays -/
def frC (M M' : sw_M) : Prop := ∀ t, 70 ≤ t → t < 100 → M' t = M t
theorem frC.rf {M : sw_M} : frC M M := fun _ _ _ => rfl
theorem frC.ov {M : sw_M} {cs : List sw_Ce} (h : ∀ c ∈ cs, c.1 < 70 ∨ 100 ≤ c.1) : frC M (sw_ov M cs) := fun t h1 h2 => sw_ov_out (fun hm => by
  obtain ⟨c, hc, e⟩ := List.mem_map.mp hm
  have := h c hc
  omega)
theorem InvC.x6 {G : sw_G} {M : sw_M} {s : CSt} (h : InvC G M s) : ∃ b m le wt wo hi al nx su, M 6 = some (cC G b m le wt wo hi al nx su).2 := by
  obtain ⟨ob, h1, b, m, le, wt, wo, hi, al, nx, su, rfl⟩ := h.2.2.2.2.2.2.2.2.2 6 (by omega) (by omega)
  exact ⟨b, m, le, wt, wo, hi, al, nx, su, h1⟩
theorem InvC.x7 {G : sw_G} {M : sw_M} {s : CSt} (h : InvC G M s) : ∃ R, M 7 = some (cR R).2 := by
  obtain ⟨ob, h1, R, rfl⟩ := h.2.2.2.2.2.2.2.2.2 7 (by omega) (by omega)
  exact ⟨R, h1⟩
theorem InvC.x8 {G : sw_G} {M : sw_M} {s : CSt} (h : InvC G M s) : ∃ R, M 8 = some (cG R).2 := by
  obtain ⟨ob, h1, R, rfl⟩ := h.2.2.2.2.2.2.2.2.2 8 (by omega) (by omega)
  exact ⟨R, h1⟩
theorem InvC.x9 {G : sw_G} {M : sw_M} {s : CSt} (h : InvC G M s) : ∃ R, M 9 = some (cP R).2 := by
  obtain ⟨ob, h1, R, rfl⟩ := h.2.2.2.2.2.2.2.2.2 9 (by omega) (by omega)
  exact ⟨R, h1⟩
theorem InvC.xY {G : sw_G} {M : sw_M} {s : CSt} (h : InvC G M s) : ∃ a tk so un g ww wc, sw_hold M (cYs G a tk so un g ww wc) := by
  obtain ⟨ob, h1, a, tk, so, un, rfl⟩ := h.2.2.2.2.2.2.2.2.2 10 (by omega) (by omega)
  obtain ⟨ob, h2, g, rfl⟩ := h.2.2.2.2.2.2.2.2.2 11 (by omega) (by omega)
  obtain ⟨ob, h3, ww, rfl⟩ := h.2.2.2.2.2.2.2.2.2 12 (by omega) (by omega)
  obtain ⟨ob, h4, wc, rfl⟩ := h.2.2.2.2.2.2.2.2.2 13 (by omega) (by omega)
  exact ⟨a, tk, so, un, g, ww, wc, sw_hold1 h1 (sw_hold1 h2 (sw_hold1 h3 (sw_hold1 h4 sw_hold0)))⟩
theorem InvC.xV {G : sw_G} {M : sw_M} {s : CSt} (h : InvC G M s) : ∃ fw fo Wt Wo g, sw_hold M (cVs G fw fo Wt Wo g) := by
  obtain ⟨ob, h1, a, b, rfl⟩ := h.2.2.2.2.2.2.2.2.2 14 (by omega) (by omega)
  obtain ⟨ob, h2, g, rfl⟩ := h.2.2.2.2.2.2.2.2.2 15 (by omega) (by omega)
  obtain ⟨ob, h3, ww, rfl⟩ := h.2.2.2.2.2.2.2.2.2 16 (by omega) (by omega)
  obtain ⟨ob, h4, wc, rfl⟩ := h.2.2.2.2.2.2.2.2.2 17 (by omega) (by omega)
  exact ⟨a, b, g, ww, wc, sw_hold1 h1 (sw_hold1 h2 (sw_hold1 h3 (sw_hold1 h4 sw_hold0)))⟩
theorem InvC.xH {G : sw_G} {M : sw_M} {s : CSt} (h : InvC G M s) : ∃ Hi Nx, sw_hold M (cHs G Hi Nx) := by
  obtain ⟨ob, h1, rfl⟩ := h.2.2.2.2.2.2.2.2.2 18 (by omega) (by omega)
  obtain ⟨ob, h2, g, rfl⟩ := h.2.2.2.2.2.2.2.2.2 19 (by omega) (by omega)
  obtain ⟨ob, h3, ww, rfl⟩ := h.2.2.2.2.2.2.2.2.2 20 (by omega) (by omega)
  exact ⟨g, ww, sw_hold1 h1 (sw_hold1 h2 (sw_hold1 h3 sw_hold0))⟩
theorem InvC.xN {G : sw_G} {M : sw_M} {s : CSt} (h : InvC G M s) : ∃ sg kp en Rw Nw Nx, sw_hold M (cNs G sg kp en Rw Nw Nx) := by
  obtain ⟨ob, h1, a, b, c, rfl⟩ := h.2.2.2.2.2.2.2.2.2 21 (by omega) (by omega)
  obtain ⟨ob, h2, g, rfl⟩ := h.2.2.2.2.2.2.2.2.2 22 (by omega) (by omega)
  obtain ⟨ob, h3, ww, rfl⟩ := h.2.2.2.2.2.2.2.2.2 23 (by omega) (by omega)
  obtain ⟨ob, h4, wc, rfl⟩ := h.2.2.2.2.2.2.2.2.2 24 (by omega) (by omega)
  exact ⟨a, b, c, g, ww, wc, sw_hold1 h1 (sw_hold1 h2 (sw_hold1 h3 (sw_hold1 h4 sw_hold0)))⟩
theorem InvC.xU {G : sw_G} {M : sw_M} {s : CSt} (h : InvC G M s) : ∃ lf wn pr Lv La Gn Sn, sw_hold M (cUs G lf wn pr Lv La Gn Sn) := by
  obtain ⟨ob, h1, a, b, c, rfl⟩ := h.2.2.2.2.2.2.2.2.2 25 (by omega) (by omega)
  obtain ⟨ob, h2, g, rfl⟩ := h.2.2.2.2.2.2.2.2.2 26 (by omega) (by omega)
  obtain ⟨ob, h3, ww, rfl⟩ := h.2.2.2.2.2.2.2.2.2 27 (by omega) (by omega)
  obtain ⟨ob, h4, wc, rfl⟩ := h.2.2.2.2.2.2.2.2.2 28 (by omega) (by omega)
  obtain ⟨ob, h5, sn', rfl⟩ := h.2.2.2.2.2.2.2.2.2 29 (by omega) (by omega)
  exact ⟨a, b, c, g, ww, wc, sn', sw_hold1 h1 (sw_hold1 h2 (sw_hold1 h3 (sw_hold1 h4 (sw_hold1 h5 sw_hold0))))⟩

