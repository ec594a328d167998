/-! THE V LAYER: kit rows over a memory that is a function of tags; machine ints are Ints -/
abbrev sw_Ob : Type := (Nat × vp_A) ⊕ (Nat × List Value)
abbrev sw_M : Type := Nat → Option sw_Ob
abbrev sw_Ce : Type := Nat × sw_Ob
abbrev sw_G : Type := (Nat → ClassId) × (Nat → Nat → Nat) × (Nat → ClassId) × (Nat → Nat)
/-- where a tag lies -/
abbrev sw_al (G : sw_G) (t : Nat) : Nat := G.2.2.2 t
def sw_Gw (G : sw_G) (al : Nat → Nat) : sw_G := (G.1, G.2.1, G.2.2.1, al)
theorem sw_Gw_self (G : sw_G) : sw_Gw G G.2.2.2 = G := rfl
abbrev sw_ty : Nat → FieldType := fun k => match k with
  | 0 => .int
  | 1 => .long
  | 2 => .boolean
  | _ => .object "SorryToWin$Sale"
abbrev sw_tys (G : sw_G) : List (ClassId × FieldType) := [(G.2.2.1 0, sw_ty 0), (G.2.2.1 1, sw_ty 1), (G.2.2.1 2, sw_ty 2), (G.2.2.1 3, sw_ty 3)]
abbrev sw_D (G : sw_G) : va_G := (G.1, G.2.1)
def sw_cv (G : sw_G) (q : Nat × sw_Ob) : Nat × va_E := match q.2 with
  | .inl a => (q.1, .inl (G.2.2.1 a.1, a.2))
  | .inr r => (q.1, .inr r)
theorem sw_cv1 (G : sw_G) (q : Nat × sw_Ob) : (sw_cv G q).1 = q.1 := by
  obtain ⟨a, ob⟩ := q
  cases ob <;> rfl
/-- the world holds the memory; tags apart have addresses apart -/
def sw_Rep (G : sw_G) (M : sw_M) (ws : va_W) : Prop :=
  (∀ (t : Nat) (ob : sw_Ob), M t = some ob → ∃ k : Nat, ws[k]? = some (sw_cv G (sw_al G t, ob))) ∧
  ∀ (t t' : Nat), M t ≠ none → M t' ≠ none → sw_al G t = sw_al G t' → t = t'
def sw_up (M : sw_M) (t : Nat) (x : sw_Ob) : sw_M := fun u => if u = t then some x else M u
theorem sw_Rep.set {G : sw_G} {M : sw_M} {ws : va_W} {A : Nat → Prop} (h : sw_Rep G M ws) (hD : va_D A ws) {t k : Nat} {ob ob' : sw_Ob} (ht : M t = some ob) (hk : ws[k]? = some (sw_cv G (sw_al G t, ob))) : sw_Rep G (sw_up M t ob') (ws.set k (sw_cv G (sw_al G t, ob'))) := by
  have hlt : k < ws.length := (List.getElem?_eq_some_iff.mp hk).1
  have hne : ∀ u, sw_up M t ob' u ≠ none → M u ≠ none := by
    intro u hu
    unfold sw_up at hu
    by_cases e : u = t
    · rw [e, ht]; exact fun q => by cases q
    · rw [if_neg e] at hu; exact hu
  refine ⟨fun u x hu => ?_, fun u u' hu hu' => h.2 u u' (hne u hu) (hne u' hu')⟩
  unfold sw_up at hu
  by_cases e : u = t
  · rw [if_pos e] at hu
    cases hu
    subst e
    exact ⟨k, by rw [List.getElem?_set]; simp [hlt]⟩
  · rw [if_neg e] at hu
    obtain ⟨j, hj⟩ := h.1 u x hu
    refine ⟨j, ?_⟩
    have hjk : k ≠ j := by
      intro q
      subst q
      have e1 := (sw_cv1 G (sw_al G t, ob)).symm.trans ((congrArg Prod.fst (Option.some.inj (hk.symm.trans hj))).trans (sw_cv1 G (sw_al G u, x)))
      have e2 : sw_al G t = sw_al G u := e1
      exact e (h.2 u t (by rw [hu]; exact fun q => by cases q) (by rw [ht]; exact fun q => by cases q) e2.symm)
    rw [List.getElem?_set_ne hjk]
    exact hj
def sw_ua (al : Nat → Nat) (t a : Nat) : Nat → Nat := fun u => if u = t then a else al u
theorem sw_Rep.push {G : sw_G} {M : sw_M} {ws : va_W} {A : Nat → Prop} (h : sw_Rep G M ws) {t a : Nat} {ob : sw_Ob} (ht : M t = none) (hD : va_D A (ws ++ [sw_cv G (a, ob)])) : sw_Rep (sw_Gw G (sw_ua G.2.2.2 t a)) (sw_up M t ob) (ws ++ [sw_cv G (a, ob)]) := by
  have fresh : ∀ u, M u ≠ none → sw_al G u ≠ a := by
    intro u hu q
    cases hx : M u with
    | none => exact hu hx
    | some x =>
      obtain ⟨j, hj⟩ := h.1 u x hx
      have hjl : j < ws.length := (List.getElem?_eq_some_iff.mp hj).1
      have h1 : (ws ++ [sw_cv G (a, ob)])[j]? = some (sw_cv G (sw_al G u, x)) := by rw [List.getElem?_append_left hjl]; exact hj
      have h2 : (ws ++ [sw_cv G (a, ob)])[ws.length]? = some (sw_cv G (a, ob)) := by simp
      have h3 := hD.1 j ws.length _ _ h1 h2 (by rw [sw_cv1, sw_cv1]; exact q)
      omega
  refine ⟨fun u x hu => ?_, fun u u' hu hu' hal => ?_⟩
  · unfold sw_up at hu
    by_cases e : u = t
    · rw [if_pos e] at hu
      cases hu
      subst e
      refine ⟨ws.length, ?_⟩
      have e3 : sw_al (sw_Gw G (sw_ua G.2.2.2 u a)) u = a := if_pos rfl
      rw [e3]
      simp [sw_cv, sw_Gw]
    · rw [if_neg e] at hu
      obtain ⟨j, hj⟩ := h.1 u x hu
      have hjl : j < ws.length := (List.getElem?_eq_some_iff.mp hj).1
      have e3 : sw_al (sw_Gw G (sw_ua G.2.2.2 t a)) u = sw_al G u := if_neg e
      rw [e3]
      exact ⟨j, by rw [List.getElem?_append_left hjl]; exact hj⟩
  · have al1 : ∀ v, v ≠ t → sw_al (sw_Gw G (sw_ua G.2.2.2 t a)) v = sw_al G v := fun v e => if_neg e
    have al0 : sw_al (sw_Gw G (sw_ua G.2.2.2 t a)) t = a := if_pos rfl
    have up1 : ∀ v, v ≠ t → sw_up M t ob v = M v := fun v e => if_neg e
    by_cases e : u = t
    · by_cases e' : u' = t
      · rw [e, e']
      · rw [e, al0, al1 u' e'] at hal
        rw [up1 u' e'] at hu'
        exact absurd hal.symm (fresh u' hu')
    · by_cases e' : u' = t
      · rw [e', al0, al1 u e] at hal
        rw [up1 u e] at hu
        exact absurd hal (fresh u hu)
      · rw [al1 u e, al1 u' e'] at hal
        rw [up1 u e] at hu
        rw [up1 u' e'] at hu'
        exact h.2 u u' hu hu' hal
/-! cells laid over a memory -/
def sw_ov (M : sw_M) : List sw_Ce → sw_M
  | [] => M
  | c :: cs => fun u => if u = c.1 then some c.2 else sw_ov M cs u
def sw_nd : List Nat → Prop
  | [] => True
  | a :: l => (∀ b ∈ l, a ≠ b) ∧ sw_nd l
theorem sw_ov_at {M : sw_M} : ∀ {cs : List sw_Ce} {q t : Nat} {x : sw_Ob}, sw_nd (cs.map Prod.fst) → cs[q]? = some (t, x) → sw_ov M cs t = some x
  | [], q, t, x, _, h => by simp at h
  | c :: cs, 0, t, x, _, h => by
    have h1 : c = (t, x) := by simpa using h
    subst h1
    simp [sw_ov]
  | c :: cs, q + 1, t, x, hn, h => by
    have h1 : cs[q]? = some (t, x) := by simpa using h
    have hne : t ≠ c.1 := by
      have := hn.1 t (List.mem_map.mpr ⟨(t, x), List.mem_of_getElem? h1, rfl⟩)
      exact fun e => this e.symm
    show (if t = c.1 then some c.2 else sw_ov M cs t) = some x
    rw [if_neg hne]
    exact sw_ov_at hn.2 h1
theorem sw_ov_set {M : sw_M} : ∀ {cs : List sw_Ce} {q t : Nat} {x y : sw_Ob}, sw_nd (cs.map Prod.fst) → cs[q]? = some (t, x) → sw_up (sw_ov M cs) t y = sw_ov M (cs.set q (t, y))
  | [], q, t, x, y, _, h => by simp at h
  | c :: cs, 0, t, x, y, _, h => by
    have h1 : c = (t, x) := by simpa using h
    subst h1
    funext u
    show (if u = t then some y else if u = t then some x else sw_ov M cs u) = (if u = t then some y else sw_ov M cs u)
    by_cases e : u = t
    · rw [if_pos e, if_pos e]
    · rw [if_neg e, if_neg e, if_neg e]
  | c :: cs, q + 1, t, x, y, hn, h => by
    have h1 : cs[q]? = some (t, x) := by simpa using h
    have hne : t ≠ c.1 := by
      have := hn.1 t (List.mem_map.mpr ⟨(t, x), List.mem_of_getElem? h1, rfl⟩)
      exact fun e => this e.symm
    have ih := sw_ov_set (M := M) (y := y) hn.2 h1
    funext u
    show (if u = t then some y else if u = c.1 then some c.2 else sw_ov M cs u) = (if u = c.1 then some c.2 else sw_ov M (cs.set q (t, y)) u)
    rw [← ih]
    unfold sw_up
    by_cases e : u = t
    · subst e
      rw [if_pos rfl, if_neg hne, if_pos rfl]
    · rw [if_neg e, if_neg e]
theorem sw_ov_in {M : sw_M} {x : sw_Ce} : ∀ {cs : List sw_Ce} {u : Nat}, sw_ov M cs u = some x.2 → u = x.1 → x ∈ cs ∨ M u = some x.2
  | [], u, h, _ => Or.inr h
  | c :: cs, u, h, e => by
    by_cases q : u = c.1
    · have h' : some c.2 = some x.2 := by rw [← h]; exact (if_pos q).symm
      refine Or.inl (List.mem_cons.mpr (Or.inl ?_))
      exact Prod.ext (e.symm.trans q) (Option.some.inj h').symm
    · have h' : sw_ov M cs u = some x.2 := by rw [← h]; exact (if_neg q).symm
      rcases sw_ov_in h' e with h1 | h1
      · exact Or.inl (List.mem_cons_of_mem _ h1)
      · exact Or.inr h1
/-- what is laid over is what is there already -/
theorem sw_ov_self {M : sw_M} : ∀ {cs : List sw_Ce}, (∀ c ∈ cs, M c.1 = some c.2) → sw_ov M cs = M
  | [], _ => rfl
  | c :: cs, h => by
    funext u
    show (if u = c.1 then some c.2 else sw_ov M cs u) = M u
    rw [sw_ov_self (fun x hx => h x (List.mem_cons_of_mem _ hx))]
    by_cases e : u = c.1
    · rw [if_pos e, e, h c List.mem_cons_self]
    · rw [if_neg e]
theorem sw_ov_out {M : sw_M} : ∀ {cs : List sw_Ce} {u : Nat}, u ∉ cs.map Prod.fst → sw_ov M cs u = M u
  | [], _, _ => rfl
  | c :: cs, u, h => by
    have h1 : ¬ (u = c.1 ∨ u ∈ cs.map Prod.fst) := by simpa using h
    show (if u = c.1 then some c.2 else sw_ov M cs u) = M u
    rw [if_neg (fun e => h1 (Or.inl e))]
    exact sw_ov_out (fun e => h1 (Or.inr e))
/-- cells at places put anew -/
def sw_put (cs : List sw_Ce) : List Nat → List sw_Ce → List sw_Ce
  | i :: is, w :: ws => sw_put (cs.set i w) is ws
  | _, _ => cs
theorem sw_set_same : ∀ {l : List Nat} {i a : Nat}, l[i]? = some a → l.set i a = l
  | [], _, _, h => by simp at h
  | x :: l, 0, a, h => by
    have h1 : x = a := by simpa using h
    rw [h1]; rfl
  | x :: l, i + 1, a, h => by
    have h1 : l[i]? = some a := by simpa using h
    show x :: l.set i a = x :: l
    rw [sw_set_same h1]
theorem sw_tags_set {cs : List sw_Ce} {i : Nat} {w c : sw_Ce} (h : cs[i]? = some c) (hc : w.1 = c.1) : (cs.set i w).map Prod.fst = cs.map Prod.fst := by
  rw [List.map_set, hc]
  exact sw_set_same (by rw [List.getElem?_map, h]; rfl)
theorem sw_ov_put {M : sw_M} : ∀ {is : List Nat} {wc w1 : List sw_Ce} {cs : List sw_Ce}, sw_nd (cs.map Prod.fst) → sw_nd (wc.map Prod.fst) → is.map (fun i => cs[i]?) = wc.map some → w1.map Prod.fst = wc.map Prod.fst →
    sw_ov (sw_ov M cs) w1 = sw_ov M (sw_put cs is w1)
  | [], wc, w1, cs, _, _, h, e => by
    cases wc with
    | nil =>
      cases w1 with
      | nil => rfl
      | cons a l => simp at e
    | cons a l => simp at h
  | i :: is, [], w1, cs, _, _, h, _ => by simp at h
  | i :: is, c :: wc, [], cs, _, _, _, e => by simp at e
  | i :: is, c :: wc, w :: w1, cs, hn, hc, h, e => by
    have h1 : cs[i]? = some c := by
      have := congrArg List.head? h
      simpa using this
    have h2 : is.map (fun i => cs[i]?) = wc.map some := by
      have := congrArg List.tail h
      simpa using this
    have e1 : w.1 = c.1 := by
      have := congrArg List.head? e
      simpa using this
    have e2 : w1.map Prod.fst = wc.map Prod.fst := by
      have := congrArg List.tail e
      simpa using this
    have ht := sw_tags_set (w := w) h1 e1
    have hit : sw_nd ((cs.set i w).map Prod.fst) := by rw [ht]; exact hn
    have hdis : ∀ b ∈ wc.map Prod.fst, c.1 ≠ b := hc.1
    have h3 : is.map (fun j => (cs.set i w)[j]?) = wc.map some := by
      rw [← h2]
      refine List.map_congr_left fun j hj => ?_
      have hji : i ≠ j := by
        intro q
        subst q
        have hm : cs[i]? ∈ is.map (fun i => cs[i]?) := List.mem_map.mpr ⟨i, hj, rfl⟩
        rw [h2, h1] at hm
        obtain ⟨x, hx, hx2⟩ := List.mem_map.mp hm
        have hx3 : x = c := Option.some.inj hx2
        subst hx3
        exact hdis x.1 (List.mem_map.mpr ⟨x, hx, rfl⟩) rfl
      exact List.getElem?_set_ne hji
    have ih := sw_ov_put (M := M) hit hc.2 h3 e2
    show sw_ov (sw_ov M cs) (w :: w1) = sw_ov M (sw_put (cs.set i w) is w1)
    rw [← ih]
    have hset := sw_ov_set (M := M) (x := c.2) (y := w.2) hn (show cs[i]? = some (c.1, c.2) from h1)
    have hw : (c.1, w.2) = w := Prod.ext e1.symm rfl
    rw [hw] at hset
    rw [← hset]
    have hout : ∀ (l : List sw_Ce), l.map Prod.fst = wc.map Prod.fst → ∀ u, sw_ov (sw_up (sw_ov M cs) c.1 w.2) l u = if u = c.1 then some w.2 else sw_ov (sw_ov M cs) l u := by
      intro l hl u
      by_cases q : u = c.1
      · rw [if_pos q, sw_ov_out (by rw [hl, q]; exact fun hm => hdis _ hm rfl)]
        exact if_pos q
      · rw [if_neg q]
        clear hl
        induction l with
        | nil => exact if_neg q
        | cons a l ihl =>
          show (if u = a.1 then some a.2 else sw_ov (sw_up (sw_ov M cs) c.1 w.2) l u) = (if u = a.1 then some a.2 else sw_ov (sw_ov M cs) l u)
          rw [ihl]
    funext u
    rw [hout w1 e2 u]
    show (if u = w.1 then some w.2 else sw_ov (sw_ov M cs) w1 u) = _
    rw [e1]
/-! machine ints -/
def iN (z : Int) : Int32 := Int32.ofInt z
def jN (z : Int) : Int64 := Int64.ofInt z
abbrev sw_rg (z : Int) : Prop := -2147483648 ≤ z ∧ z < 2147483648
abbrev sw_rl (z : Int) : Prop := -9223372036854775808 ≤ z ∧ z < 9223372036854775808
theorem iN_add (a b : Int) : iN a + iN b = iN (a + b) := (Int32.ofInt_add a b).symm
theorem iN_sub (a b : Int) : iN a - iN b = iN (a - b) := (Int32.ofInt_sub a b).symm
theorem iN_mul (a b : Int) : iN a * iN b = iN (a * b) := (Int32.ofInt_mul a b).symm
theorem iN_neg (a : Int) : -iN a = iN (-a) := (Int32.ofInt_neg a).symm
theorem jN_add (a b : Int) : jN a + jN b = jN (a + b) := (Int64.ofInt_add a b).symm
theorem jN_sub (a b : Int) : jN a - jN b = jN (a - b) := (Int64.ofInt_sub a b).symm
theorem jN_mul (a b : Int) : jN a * jN b = jN (a * b) := (Int64.ofInt_mul a b).symm
theorem jN_neg (a : Int) : -jN a = jN (-a) := (Int64.ofInt_neg a).symm
theorem iN_t {z : Int} (h : sw_rg z) : (iN z).toInt = z := Int32.toInt_ofInt_of_le h.1 h.2
theorem jN_t {z : Int} (h : sw_rl z) : (jN z).toInt = z := Int64.toInt_ofInt_of_le h.1 h.2
theorem iN_of (x : Int32) : ∃ z : Int, sw_rg z ∧ x = iN z := ⟨x.toInt, ⟨x.le_toInt, x.toInt_lt⟩, (Int32.ofInt_toInt x).symm⟩
theorem jN_of (x : Int64) : ∃ z : Int, sw_rl z ∧ x = jN z := ⟨x.toInt, ⟨x.le_toInt, x.toInt_lt⟩, (Int64.ofInt_toInt x).symm⟩
theorem iN_lt {a b : Int} (ha : sw_rg a) (hb : sw_rg b) : iN a < iN b ↔ a < b := by rw [Int32.lt_iff_toInt_lt, iN_t ha, iN_t hb]
theorem iN_le {a b : Int} (ha : sw_rg a) (hb : sw_rg b) : iN a ≤ iN b ↔ a ≤ b := by rw [Int32.le_iff_toInt_le, iN_t ha, iN_t hb]
theorem iN_eq {a b : Int} (ha : sw_rg a) (hb : sw_rg b) : iN a = iN b ↔ a = b := by rw [← Int32.toInt_inj, iN_t ha, iN_t hb]
theorem jN_lt {a b : Int} (ha : sw_rl a) (hb : sw_rl b) : jN a < jN b ↔ a < b := by rw [Int64.lt_iff_toInt_lt, jN_t ha, jN_t hb]
theorem jN_le {a b : Int} (ha : sw_rl a) (hb : sw_rl b) : jN a ≤ jN b ↔ a ≤ b := by rw [Int64.le_iff_toInt_le, jN_t ha, jN_t hb]
theorem jN_eq {a b : Int} (ha : sw_rl a) (hb : sw_rl b) : jN a = jN b ↔ a = b := by rw [← Int64.toInt_inj, jN_t ha, jN_t hb]
theorem iN_0 : (0 : Int32) = iN 0 := rfl
theorem jN_l {z : Int} (h : sw_rg z) : (iN z).toInt64 = jN z := Int32.toInt64_ofInt (by have := h.1; show (-2147483648 : Int) ≤ z; omega) (by have := h.2; show z ≤ (2147483647 : Int); omega)
theorem jN_i (z : Int) : (jN z).toInt32 = iN z := Int64.toInt32_ofInt
theorem iN_cl {z : Int} (h0 : 0 ≤ z) (h : z < 2147483648) : (iN z).toNatClampNeg = z.toNat := Int32.toNatClampNeg_ofInt_of_le (by omega) (by omega)
theorem iN_in {z : Int} {n : Nat} (h0 : 0 ≤ z) (h1 : z < n) (hn : n < 2147483648) : vp_in (iN z) n := by
  refine vp_in_iff.mpr ?_
  rw [iN_t ⟨by omega, by omega⟩]
  exact ⟨h0, h1⟩
theorem iN_dv {a b : Int} (ha : sw_rg a) (h0 : 0 ≤ a) (hb : sw_rg b) (h1 : 0 < b) : iN a / iN b = iN (a / b) := by
  have h := (Int32.ofInt_tdiv (a := a) (b := b) (by have := ha.1; show (-2147483648 : Int) ≤ a; omega) (by have := ha.2; show a ≤ (2147483647 : Int); omega) (by have := hb.1; show (-2147483648 : Int) ≤ b; omega) (by have := hb.2; show b ≤ (2147483647 : Int); omega)).symm
  rw [Int.tdiv_eq_ediv_of_nonneg h0] at h
  exact h
theorem iN_rm {a b : Int} (ha : sw_rg a) (h0 : 0 ≤ a) (hb : sw_rg b) (h1 : 0 < b) : iN a - iN a / iN b * iN b = iN (a % b) := by
  rw [iN_dv ha h0 hb h1, iN_mul, iN_sub, Int.emod_def, Int.mul_comm]
theorem jN_dv {a b : Int} (ha : sw_rl a) (hb : sw_rl b) : jN a / jN b = jN (a.tdiv b) :=
  (Int64.ofInt_tdiv (a := a) (b := b) (by have := ha.1; show (-9223372036854775808 : Int) ≤ a; omega) (by have := ha.2; show a ≤ (9223372036854775807 : Int); omega) (by have := hb.1; show (-9223372036854775808 : Int) ≤ b; omega) (by have := hb.2; show b ≤ (9223372036854775807 : Int); omega)).symm
theorem jN_rm {a b : Int} (ha : sw_rl a) (hb : sw_rl b) : jN a - jN a / jN b * jN b = jN (a.tmod b) := by
  rw [jN_dv ha hb, jN_mul, jN_sub]
  congr 1
  have := Int.mul_tdiv_add_tmod a b
  rw [Int.mul_comm] at this
  omega
/-! objects -/
abbrev sw_ia (n : Nat) (f : Int → Int) : sw_Ob := .inl (0, n, .inl (fun j : Nat => iN (f j)))
abbrev sw_la (n : Nat) (f : Int → Int) : sw_Ob := .inl (1, n, .inr (.inl (fun j : Nat => jN (f j))))
abbrev sw_za (n : Nat) (f : Int → Int) : sw_Ob := .inl (2, n, .inl (fun j : Nat => iN (f j)))
abbrev sw_ra (n : Nat) (f : Int → Option Nat) : sw_Ob := .inl (3, n, .inr (.inr (.inr (.inr (fun j : Nat => f j)))))
abbrev sw_o (k : Nat) (fs : List Value) : sw_Ob := .inr (k, fs)
abbrev sw_i (z : Int) : Value := .int (iN z)
abbrev sw_j (z : Int) : Value := .long (jN z)
def up (f : Int → Int) (k x : Int) : Int → Int := fun j => if j = k then x else f j
def upR (f : Int → Option Nat) (k : Int) (x : Option Nat) : Int → Option Nat := fun j => if j = k then x else f j
theorem up_ia {f : Int → Int} {k x : Int} (h : 0 ≤ k) : upd (fun j : Nat => iN (f j)) k.toNat (iN x) = fun j : Nat => iN (up f k x j) := by
  funext j
  unfold upd up
  by_cases e : j = k.toNat
  · rw [if_pos e, if_pos (by omega)]
  · rw [if_neg e, if_neg (by omega)]
theorem up_la {f : Int → Int} {k x : Int} (h : 0 ≤ k) : vp_updL (fun j : Nat => jN (f j)) k.toNat (jN x) = fun j : Nat => jN (up f k x j) := by
  funext j
  unfold vp_updL up
  by_cases e : j = k.toNat
  · rw [if_pos e, if_pos (by omega)]
  · rw [if_neg e, if_neg (by omega)]
theorem up_ra {f : Int → Option Nat} {k : Int} {x : Option Nat} (h : 0 ≤ k) : va_up (fun j : Nat => f j) k.toNat x = fun j : Nat => upR f k x j := by
  funext j
  unfold va_up upR
  by_cases e : j = k.toNat
  · rw [if_pos e, if_pos (by omega)]
  · rw [if_neg e, if_neg (by omega)]
/-! locals -/
def sw_lk : List (Nat × Value) → Nat → Option Value
  | [], _ => none
  | q :: l, i => if q.1 = i then some q.2 else sw_lk l i
theorem sw_lk_in : ∀ {l : List (Nat × Value)} {i : Nat} {v : Value}, sw_lk l i = some v → (i, v) ∈ l
  | [], i, v, h => by simp [sw_lk] at h
  | q :: l, i, v, h => by
    unfold sw_lk at h
    by_cases e : q.1 = i
    · rw [if_pos e] at h
      exact List.mem_cons.mpr (Or.inl (Prod.ext e.symm (Option.some.inj h).symm))
    · rw [if_neg e] at h
      exact List.mem_cons_of_mem _ (sw_lk_in h)
def sw_s1 (l : List (Nat × Value)) (i : Nat) (v : Value) : List (Nat × Value) := (i, v) :: l.filter (fun q => !(q.1 == i) && !(q.1 + 1 == i && q.2.category == 2))
def sw_s2 (l : List (Nat × Value)) (i : Nat) (v : Value) : List (Nat × Value) := (i, v) :: l.filter (fun q => !(q.1 == i) && (!(q.1 == i + 1) && !(q.1 + 1 == i && q.2.category == 2)))
theorem sw_lsub {ls : Array Slot} {n : Nat} {l l' : List (Nat × Value)} (h : lv_has ls n l) (hs : ∀ q ∈ l', sw_lk l q.1 = some q.2) : lv_has ls n l' :=
  ⟨h.1, h.2.1, fun q hq => h.2.2 q (sw_lk_in (hs q hq))⟩
theorem sw_at {ls : Array Slot} {n : Nat} {l : List (Nat × Value)} (h : lv_has ls n l) {i : Nat} {v : Value} (hk : sw_lk l i = some v) : ls[i]? = some (.val v) := h.2.2 (i, v) (sw_lk_in hk)
/-! the judgement -/
def sw_NL : List Cond := [Cond.methodLinkNest "SorryToWin" 9 ⟨"SorryToWin$Tape", "<init>", "()V"⟩ "SorryToWin", Cond.methodLinkNest "SorryToWin$Tape" 21 ⟨"SorryToWin$Sale", "<init>", "()V"⟩ "SorryToWin", Cond.methodLinkNest "SorryToWin" 38 ⟨"SorryToWin$Crowd", "<init>", "()V"⟩ "SorryToWin", Cond.methodLinkNest "SorryToWin$Crowd" 24 ⟨"SorryToWin$Sale", "<init>", "()V"⟩ "SorryToWin", Cond.methodLinkNest "SorryToWin" 45 ⟨"SorryToWin$Tally", "<init>", "()V"⟩ "SorryToWin", Cond.methodLinkNest "SorryToWin" 52 ⟨"SorryToWin$Rivals", "<init>", "()V"⟩ "SorryToWin", Cond.methodLinkNest "SorryToWin" 59 ⟨"SorryToWin$Bars", "<init>", "()V"⟩ "SorryToWin", Cond.methodLinkNest "SorryToWin" 66 ⟨"SorryToWin$Turns", "<init>", "()V"⟩ "SorryToWin", Cond.methodLinkNest "SorryToWin" 73 ⟨"SorryToWin$Rising", "<init>", "()V"⟩ "SorryToWin", Cond.methodLinkNest "SorryToWin" 80 ⟨"SorryToWin$Learner", "<init>", "()V"⟩ "SorryToWin", Cond.methodLinkNest "SorryToWin$Learner" 23 ⟨"SorryToWin$Sale", "<init>", "()V"⟩ "SorryToWin"]
theorem sw_NLok : ∀ w ∈ sw_NL, ∃ a i x h, w = Cond.methodLinkNest a i x h := by
  intro w hw
  simp only [sw_NL, List.mem_cons, List.not_mem_nil, or_false] at hw
  rcases hw with rfl | rfl | rfl | rfl | rfl | rfl | rfl | rfl | rfl | rfl | rfl <;> exact ⟨_, _, _, _, rfl⟩
/-- the classes' numbers, the arrays' classes, the links of nest mates -/
def sw_K (G : sw_G) (U : State) : Prop := va_K (sw_D G) vwCl (sw_tys G) U ∧ (∀ w ∈ sw_NL, va_Nw w U) ∧ va_AO "SorryToWin$Sale" U
theorem sw_K.moved {G : sw_G} {u U : State} (hW : u.WarmedH U.vm) (h : sw_K G u) : sw_K G U :=
  ⟨va_K.moved hW.alike h.1, fun w hw => by
    obtain ⟨a, i, x, g, rfl⟩ := sw_NLok w hw
    exact va_Nw.warmM hW (h.2.1 _ hw), va_AO.moved hW.alike h.2.2⟩
theorem sw_K.same {G : sw_G} {u U : State} (hv : u.vm = U.vm) (h : sw_K G u) : sw_K G U :=
  ⟨va_K.moved (by rw [hv]; exact Vm.Alike.refl U.vm) h.1, fun w hw => by
    obtain ⟨a, i, x, g, rfl⟩ := sw_NLok w hw
    exact va_Nw.same rfl hv (h.2.1 _ hw), va_AO.moved (by rw [hv]; exact Vm.Alike.refl U.vm) h.2.2⟩
def sw_Cx (l : Launch) (G : sw_G) (μ : sw_Mt) (E : State → (Nat → Prop) → Prop) (p : Program) (R : Room) (s : State) (m : MethodId) (args : Array Value) (meth : Method) (c : Code) (A : Nat → Prop) : Prop :=
  p.tables.exec = Jvm.exec ∧ c.code = mC μ ∧ c.maxLocals = mL μ ∧ s.vm.findClass (mY μ).cls = some m.cls ∧ (∀ w ∈ mT μ, w.before args s = true) ∧ sw_K G s ∧ (∀ q, s.heap.size ≤ q → A q) ∧ mF μ ≤ R.frames ∧ 64 * mF μ ≤ R.locals ∧ mK μ ≤ R.cells ∧ mS μ ≤ R.slots ∧ meth.sig.returnType = mR μ ∧ meth.locks = false ∧ meth.name = (mY μ).name ∧ E s A
abbrev sw_Z : Type := List Frame → Array Value → State → (Nat → Prop) → State → Prop
def V (l : Launch) (G : sw_G) (μ : sw_Mt) (E : State → (Nat → Prop) → Prop) (Z : sw_Z) (pc : Nat) (lv : List (Nat × Value)) (st : List Value) (M : sw_M) (uc us : Nat) : Prop :=
  ∀ (p : Program) (e : Env) (R : Room) (s : State) (m : MethodId) (args : Array Value) (below : List Frame) (meth : Method) (c : Code) (A : Nat → Prop) (H : Heap) (locs : List Loc) (ws : va_W) (ls : Array Slot),
    sw_Cx l G μ E p R s m args meth c A → va_P (sw_D G) vwCl ws H → va_D A ws → va_S A s.heap H locs → sw_Rep G M ws → lv_has ls (mL μ) lv →
    W p l e R s m args below meth c H locs uc us (Z below args s A) (F0 m pc ls st)
def sw_QQ (G : sw_G) (Q : (Nat → Nat) → Option Value → sw_M → Prop) (A : Nat → Prop) : Array Value → State → Outcome → State → Prop := fun _ st oc t =>
  (∃ (al : Nat → Nat) (r : Option Value) (M' : sw_M) (ws' : va_W), oc = .returned r ∧ Q al r M' ∧ sw_Rep (sw_Gw G al) M' ws' ∧ va_P (sw_D G) vwCl ws' t.heap ∧ sw_K G t ∧ va_D A ws') ∧ va_F A st t
def sw_Zq (G : sw_G) (μ : sw_Mt) (Q : (Nat → Nat) → Option Value → sw_M → Prop) : sw_Z := fun below args s A => MQ below (sw_QQ G Q A) args s (mK μ) (mS μ) A
def sw_E0 : State → (Nat → Prop) → Prop := fun _ _ => True
def sw_Pc (G : sw_G) (av : List Value) (ws : va_W) (sz : Nat) : Array Value → State → Prop := va_Pc av (fun U => U.heap.size = sz ∧ va_P (sw_D G) vwCl ws U.heap ∧ sw_K G U ∧ va_D (fun _ => True) ws)
abbrev sw_rm (μ : sw_Mt) : Room := { frames := mF μ, cells := mK μ, slots := mS μ, locals := 64 * mF μ }
/-- a method's contract over a memory: it returns, with Q of where tags lie then, its answer and the memory behind it -/
def KtA (l : Launch) (G : sw_G) (μ : sw_Mt) (av : List Value) (M : sw_M) (Q : (Nat → Nat) → Option Value → sw_M → Prop) : Prop :=
  ∀ (ws : va_W) (sz : Nat), sw_Rep G M ws → Met l (mY μ) (mT μ) (sw_rm μ) (sw_Pc G av ws sz) (sw_QQ G Q (va_A ws sz)) (mK μ) (mS μ) (va_A ws sz)
/-- .. of a method that makes nothing -/
def sw_q0 (G : sw_G) (Q : Option Value → sw_M → Prop) : (Nat → Nat) → Option Value → sw_M → Prop := fun al r M' => al = G.2.2.2 ∧ Q r M'
abbrev Kt (l : Launch) (G : sw_G) (μ : sw_Mt) (av : List Value) (M : sw_M) (Q : Option Value → sw_M → Prop) : Prop := KtA l G μ av M (sw_q0 G Q)
theorem KtA.of {l : Launch} {G : sw_G} {μ : sw_Mt} {av : List Value} {M : sw_M} {Q : (Nat → Nat) → Option Value → sw_M → Prop} (hpl : plainName (mY μ).cls = true) (hlen : (lg_sl av).length ≤ mL μ)
    (h : V l G μ sw_E0 (sw_Zq G μ Q) 0 (lv_args 0 av) [] M 0 0) : KtA l G μ av M Q := by
  intro ws sz hR
  refine Met.ofW (cc := mC μ) (maxL := mL μ) (ret := mR μ) hpl rfl ?_
  intro p e s m args below meth c s₁ B hml hv
  obtain ⟨rfl, hsz, hP, hK, hD0⟩ := hv
  subst hsz
  have hD := hD0.self (sz := s.heap.size)
  have hl := lv_entry av (n := mL μ) hlen
  rw [lg_entry_eq]
  exact h p e _ s m _ below meth c (va_A ws s.heap.size) s.heap [] ws _ ⟨B.exec, B.bytes, hml, findClass_of_methodNamed B.named, atoms_spec (ws := mT μ) B.pre, hK, fun q h => Or.inr h, Nat.le_refl _, Nat.le_refl _, Nat.le_refl _, Nat.le_refl _, B.returns, B.notSynchronized, (name_of_methodNamed B.named B.method).1, trivial⟩ hP hD va_S.rf hR hl
/-- the arguments' words in the locals -/
def sw_al0 : Nat → List Value → List (Nat × Value)
  | _, [] => []
  | i, v :: l => (i, v) :: sw_al0 (i + v.category) l

section SWV
variable {l : Launch} {G : sw_G} {μ : sw_Mt} {E : State → (Nat → Prop) → Prop} {Z : sw_Z} {pc : Nat} {lv : List (Nat × Value)} {st : List Value} {M : sw_M} {uc us : Nat}
theorem v_iconst {n : Int} (hd : decode (mC μ) pc = .ok (.iconst n, 1)) (k : V l G μ E Z (pc + 1) lv (sw_i n :: st) M uc us) : V l G μ E Z pc lv (st) M uc us := by
  intro p e R s m args below meth c A H locs ws ls C hP hD hS hR hl
  exact lv_iconst C.1 C.2.1 hd rfl (k p e R s m args below meth c A H locs ws ls C hP hD hS hR hl)
theorem v_bipush {n : Int} (hd : decode (mC μ) pc = .ok (.bipush n, 2)) (hv : (Int8.ofInt n).toInt32 = iN n) (k : V l G μ E Z (pc + 2) lv (sw_i n :: st) M uc us) : V l G μ E Z pc lv (st) M uc us := by
  intro p e R s m args below meth c A H locs ws ls C hP hD hS hR hl
  exact lv_bipush C.1 C.2.1 hd hv (k p e R s m args below meth c A H locs ws ls C hP hD hS hR hl)
theorem v_sipush {n : Int} (hd : decode (mC μ) pc = .ok (.sipush n, 3)) (hv : (Int16.ofInt n).toInt32 = iN n) (k : V l G μ E Z (pc + 3) lv (sw_i n :: st) M uc us) : V l G μ E Z pc lv (st) M uc us := by
  intro p e R s m args below meth c A H locs ws ls C hP hD hS hR hl
  exact lv_sipush C.1 C.2.1 hd hv (k p e R s m args below meth c A H locs ws ls C hP hD hS hR hl)
theorem v_lconst {n : Fin 2} {z : Int} (hd : decode (mC μ) pc = .ok (.lconst n, 1)) (hv : Int64.ofNat (n : Nat) = jN z) (k : V l G μ E Z (pc + 1) lv (sw_j z :: st) M uc us) : V l G μ E Z pc lv (st) M uc us := by
  intro p e R s m args below meth c A H locs ws ls C hP hD hS hR hl
  exact lv_lconst C.1 C.2.1 hd hv (k p e R s m args below meth c A H locs ws ls C hP hD hS hR hl)
theorem v_null (hd : decode (mC μ) pc = .ok (.aconst_null, 1)) (k : V l G μ E Z (pc + 1) lv (.null :: st) M uc us) : V l G μ E Z pc lv (st) M uc us := by
  intro p e R s m args below meth c A H locs ws ls C hP hD hS hR hl
  exact lv_null C.1 C.2.1 hd (k p e R s m args below meth c A H locs ws ls C hP hD hS hR hl)
theorem v_ldc {ix : Nat} {z : Int} {x : Int32} (hc : Cond.constant (mY μ).cls ix x ∈ sw_U) (hz : x = iN z) (hd : decode (mC μ) pc = .ok (.ldc ix, 2)) (k : V l G μ E Z (pc + 2) lv (sw_i z :: st) M uc us) : V l G μ E Z pc lv (st) M uc us := by
  intro p e R s m args below meth c A H locs ws ls C hP hD hS hR hl
  subst hz; exact lv_ldc C.1 C.2.1 C.2.2.2.1 (C.2.2.2.2.1 _ (List.mem_cons_of_mem _ hc)) hd (k p e R s m args below meth c A H locs ws ls C hP hD hS hR hl)
theorem v_ldcw {ix : Nat} {z : Int} {x : Int32} (hc : Cond.constant (mY μ).cls ix x ∈ sw_U) (hz : x = iN z) (hd : decode (mC μ) pc = .ok (.ldc_w ix, 3)) (k : V l G μ E Z (pc + 3) lv (sw_i z :: st) M uc us) : V l G μ E Z pc lv (st) M uc us := by
  intro p e R s m args below meth c A H locs ws ls C hP hD hS hR hl
  subst hz; exact lv_ldcw C.1 C.2.1 C.2.2.2.1 (C.2.2.2.2.1 _ (List.mem_cons_of_mem _ hc)) hd (k p e R s m args below meth c A H locs ws ls C hP hD hS hR hl)
theorem v_ldc2 {ix : Nat} {z : Int} {x : Int64} (hc : Cond.constantLong (mY μ).cls ix x ∈ sw_U) (hz : x = jN z) (hd : decode (mC μ) pc = .ok (.ldc2_w ix, 3)) (k : V l G μ E Z (pc + 3) lv (sw_j z :: st) M uc us) : V l G μ E Z pc lv (st) M uc us := by
  intro p e R s m args below meth c A H locs ws ls C hP hD hS hR hl
  subst hz; exact lv_ldc2 C.1 C.2.1 C.2.2.2.1 (C.2.2.2.2.1 _ (List.mem_cons_of_mem _ hc)) hd (k p e R s m args below meth c A H locs ws ls C hP hD hS hR hl)
theorem v_iload_n {k4 : Fin 4} {x : Int32} (hd : decode (mC μ) pc = .ok (.iload_n k4, 1)) (hk : sw_lk lv (k4 : Nat) = some (.int x)) (k : V l G μ E Z (pc + 1) lv (.int x :: st) M uc us) : V l G μ E Z pc lv (st) M uc us := by
  intro p e R s m args below meth c A H locs ws ls C hP hD hS hR hl
  exact lv_iload_n C.1 C.2.1 hd rfl (sw_at hl hk) (k p e R s m args below meth c A H locs ws ls C hP hD hS hR hl)
theorem v_iload {i : Nat} {x : Int32} (hd : decode (mC μ) pc = .ok (.iload i, 2)) (hk : sw_lk lv i = some (.int x)) (k : V l G μ E Z (pc + 2) lv (.int x :: st) M uc us) : V l G μ E Z pc lv (st) M uc us := by
  intro p e R s m args below meth c A H locs ws ls C hP hD hS hR hl
  exact lv_iload C.1 C.2.1 hd (sw_at hl hk) (k p e R s m args below meth c A H locs ws ls C hP hD hS hR hl)
theorem v_lload_n {k4 : Fin 4} {x : Int64} (hd : decode (mC μ) pc = .ok (.lload_n k4, 1)) (hk : sw_lk lv (k4 : Nat) = some (.long x)) (k : V l G μ E Z (pc + 1) lv (.long x :: st) M uc us) : V l G μ E Z pc lv (st) M uc us := by
  intro p e R s m args below meth c A H locs ws ls C hP hD hS hR hl
  exact lv_lload_n C.1 C.2.1 hd rfl (sw_at hl hk) (k p e R s m args below meth c A H locs ws ls C hP hD hS hR hl)
theorem v_lload {i : Nat} {x : Int64} (hd : decode (mC μ) pc = .ok (.lload i, 2)) (hk : sw_lk lv i = some (.long x)) (k : V l G μ E Z (pc + 2) lv (.long x :: st) M uc us) : V l G μ E Z pc lv (st) M uc us := by
  intro p e R s m args below meth c A H locs ws ls C hP hD hS hR hl
  exact lv_lload C.1 C.2.1 hd (sw_at hl hk) (k p e R s m args below meth c A H locs ws ls C hP hD hS hR hl)
theorem v_aload_n {k4 : Fin 4} {x : Nat} (hd : decode (mC μ) pc = .ok (.aload_n k4, 1)) (hk : sw_lk lv (k4 : Nat) = some (.ref x)) (k : V l G μ E Z (pc + 1) lv (.ref x :: st) M uc us) : V l G μ E Z pc lv (st) M uc us := by
  intro p e R s m args below meth c A H locs ws ls C hP hD hS hR hl
  exact lv_aload_n C.1 C.2.1 hd rfl (sw_at hl hk) (k p e R s m args below meth c A H locs ws ls C hP hD hS hR hl)
theorem v_aload {i : Nat} {x : Nat} (hd : decode (mC μ) pc = .ok (.aload i, 2)) (hk : sw_lk lv i = some (.ref x)) (k : V l G μ E Z (pc + 2) lv (.ref x :: st) M uc us) : V l G μ E Z pc lv (st) M uc us := by
  intro p e R s m args below meth c A H locs ws ls C hP hD hS hR hl
  exact lv_aload C.1 C.2.1 hd (sw_at hl hk) (k p e R s m args below meth c A H locs ws ls C hP hD hS hR hl)
theorem v_aload_nN {k4 : Fin 4} (hd : decode (mC μ) pc = .ok (.aload_n k4, 1)) (hk : sw_lk lv (k4 : Nat) = some .null) (k : V l G μ E Z (pc + 1) lv (.null :: st) M uc us) : V l G μ E Z pc lv (st) M uc us := by
  intro p e R s m args below meth c A H locs ws ls C hP hD hS hR hl
  exact lv_aload_nN C.1 C.2.1 hd rfl (sw_at hl hk) (k p e R s m args below meth c A H locs ws ls C hP hD hS hR hl)
theorem v_aloadN {i : Nat} (hd : decode (mC μ) pc = .ok (.aload i, 2)) (hk : sw_lk lv i = some .null) (k : V l G μ E Z (pc + 2) lv (.null :: st) M uc us) : V l G μ E Z pc lv (st) M uc us := by
  intro p e R s m args below meth c A H locs ws ls C hP hD hS hR hl
  exact lv_aloadN C.1 C.2.1 hd (sw_at hl hk) (k p e R s m args below meth c A H locs ws ls C hP hD hS hR hl)
theorem v_istore_n {k4 : Fin 4} {x : Int32} (hd : decode (mC μ) pc = .ok (.istore_n k4, 1)) (hn : (k4 : Nat) < mL μ) (k : V l G μ E Z (pc + 1) (sw_s1 lv (k4 : Nat) (.int x)) (st) M uc us) : V l G μ E Z pc lv (.int x :: st) M uc us := by
  intro p e R s m args below meth c A H locs ws ls C hP hD hS hR hl
  exact lv_istore_n C.1 C.2.1 hd rfl hl hn rfl (fun ls' hl' => k p e R s m args below meth c A H locs ws ls' C hP hD hS hR hl')
theorem v_istore {i : Nat} {x : Int32} (hd : decode (mC μ) pc = .ok (.istore i, 2)) (hn : i < mL μ) (k : V l G μ E Z (pc + 2) (sw_s1 lv i (.int x)) (st) M uc us) : V l G μ E Z pc lv (.int x :: st) M uc us := by
  intro p e R s m args below meth c A H locs ws ls C hP hD hS hR hl
  exact lv_istore C.1 C.2.1 hd hl hn rfl (fun ls' hl' => k p e R s m args below meth c A H locs ws ls' C hP hD hS hR hl')
theorem v_astore_n {k4 : Fin 4} {x : Nat} (hd : decode (mC μ) pc = .ok (.astore_n k4, 1)) (hn : (k4 : Nat) < mL μ) (k : V l G μ E Z (pc + 1) (sw_s1 lv (k4 : Nat) (.ref x)) (st) M uc us) : V l G μ E Z pc lv (.ref x :: st) M uc us := by
  intro p e R s m args below meth c A H locs ws ls C hP hD hS hR hl
  exact lv_astore_n C.1 C.2.1 hd rfl hl hn rfl (fun ls' hl' => k p e R s m args below meth c A H locs ws ls' C hP hD hS hR hl')
theorem v_astore {i : Nat} {x : Nat} (hd : decode (mC μ) pc = .ok (.astore i, 2)) (hn : i < mL μ) (k : V l G μ E Z (pc + 2) (sw_s1 lv i (.ref x)) (st) M uc us) : V l G μ E Z pc lv (.ref x :: st) M uc us := by
  intro p e R s m args below meth c A H locs ws ls C hP hD hS hR hl
  exact lv_astore C.1 C.2.1 hd hl hn rfl (fun ls' hl' => k p e R s m args below meth c A H locs ws ls' C hP hD hS hR hl')
theorem v_lstore_n {k4 : Fin 4} {x : Int64} (hd : decode (mC μ) pc = .ok (.lstore_n k4, 1)) (hn : (k4 : Nat) + 1 < mL μ) (k : V l G μ E Z (pc + 1) (sw_s2 lv (k4 : Nat) (.long x)) (st) M uc us) : V l G μ E Z pc lv (.long x :: st) M uc us := by
  intro p e R s m args below meth c A H locs ws ls C hP hD hS hR hl
  exact lv_lstore_n C.1 C.2.1 hd rfl hl hn rfl (fun ls' hl' => k p e R s m args below meth c A H locs ws ls' C hP hD hS hR hl')
theorem v_lstore {i : Nat} {x : Int64} (hd : decode (mC μ) pc = .ok (.lstore i, 2)) (hn : i + 1 < mL μ) (k : V l G μ E Z (pc + 2) (sw_s2 lv i (.long x)) (st) M uc us) : V l G μ E Z pc lv (.long x :: st) M uc us := by
  intro p e R s m args below meth c A H locs ws ls C hP hD hS hR hl
  exact lv_lstore C.1 C.2.1 hd hl hn rfl (fun ls' hl' => k p e R s m args below meth c A H locs ws ls' C hP hD hS hR hl')
theorem v_astore_nN {k4 : Fin 4} (hd : decode (mC μ) pc = .ok (.astore_n k4, 1)) (hn : (k4 : Nat) < mL μ) (k : V l G μ E Z (pc + 1) (sw_s1 lv (k4 : Nat) .null) (st) M uc us) : V l G μ E Z pc lv (.null :: st) M uc us := by
  intro p e R s m args below meth c A H locs ws ls C hP hD hS hR hl
  exact lv_astore_nN C.1 C.2.1 hd rfl hl hn rfl (fun ls' hl' => k p e R s m args below meth c A H locs ws ls' C hP hD hS hR hl')
theorem v_astoreN {i : Nat} (hd : decode (mC μ) pc = .ok (.astore i, 2)) (hn : i < mL μ) (k : V l G μ E Z (pc + 2) (sw_s1 lv i .null) (st) M uc us) : V l G μ E Z pc lv (.null :: st) M uc us := by
  intro p e R s m args below meth c A H locs ws ls C hP hD hS hR hl
  exact lv_astoreN C.1 C.2.1 hd hl hn rfl (fun ls' hl' => k p e R s m args below meth c A H locs ws ls' C hP hD hS hR hl')
theorem v_iinc {i : Nat} {n z : Int} (hd : decode (mC μ) pc = .ok (.iinc i n, 3)) (hk : sw_lk lv i = some (sw_i z)) (hn : i < mL μ) (k : V l G μ E Z (pc + 3) (sw_s1 lv i (sw_i (z + n))) st M uc us) : V l G μ E Z pc lv (st) M uc us := by
  intro p e R s m args below meth c A H locs ws ls C hP hD hS hR hl
  obtain ⟨q, hq⟩ := List.getElem?_of_mem (sw_lk_in hk)
  exact lv_iinc C.1 C.2.1 hd hl hq (iN_add z n) hn rfl (fun ls' hl' => k p e R s m args below meth c A H locs ws ls' C hP hD hS hR hl')
theorem v_dup {v : Value} (hd : decode (mC μ) pc = .ok (.dup, 1)) (hc : v.category = 1) (k : V l G μ E Z (pc + 1) lv (v :: v :: st) M uc us) : V l G μ E Z pc lv (v :: st) M uc us := by
  intro p e R s m args below meth c A H locs ws ls C hP hD hS hR hl
  exact lv_dup C.1 C.2.1 hd hc (k p e R s m args below meth c A H locs ws ls C hP hD hS hR hl)
theorem v_dup2 {v w : Value} (hd : decode (mC μ) pc = .ok (.dup2, 1)) (hc : v.category = 1) (hc2 : w.category = 1) (k : V l G μ E Z (pc + 1) lv (v :: w :: v :: w :: st) M uc us) : V l G μ E Z pc lv (v :: w :: st) M uc us := by
  intro p e R s m args below meth c A H locs ws ls C hP hD hS hR hl
  exact lv_dup2_11 C.1 C.2.1 hd hc hc2 (k p e R s m args below meth c A H locs ws ls C hP hD hS hR hl)
theorem v_pop {v : Value} (hd : decode (mC μ) pc = .ok (.pop, 1)) (hc : v.category = 1) (k : V l G μ E Z (pc + 1) lv (st) M uc us) : V l G μ E Z pc lv (v :: st) M uc us := by
  intro p e R s m args below meth c A H locs ws ls C hP hD hS hR hl
  exact lv_pop C.1 C.2.1 hd hc (k p e R s m args below meth c A H locs ws ls C hP hD hS hR hl)
theorem v_iadd {a b : Int} (hd : decode (mC μ) pc = .ok (.iadd, 1)) (k : V l G μ E Z (pc + 1) lv (sw_i (a + b) :: st) M uc us) : V l G μ E Z pc lv (sw_i b :: sw_i a :: st) M uc us := by
  intro p e R s m args below meth c A H locs ws ls C hP hD hS hR hl
  refine lv_iadd C.1 C.2.1 hd ?_
  rw [iN_add]
  exact k p e R s m args below meth c A H locs ws ls C hP hD hS hR hl
theorem v_isub {a b : Int} (hd : decode (mC μ) pc = .ok (.isub, 1)) (k : V l G μ E Z (pc + 1) lv (sw_i (a - b) :: st) M uc us) : V l G μ E Z pc lv (sw_i b :: sw_i a :: st) M uc us := by
  intro p e R s m args below meth c A H locs ws ls C hP hD hS hR hl
  refine lv_isub C.1 C.2.1 hd ?_
  rw [iN_sub]
  exact k p e R s m args below meth c A H locs ws ls C hP hD hS hR hl
theorem v_imul {a b : Int} (hd : decode (mC μ) pc = .ok (.imul, 1)) (k : V l G μ E Z (pc + 1) lv (sw_i (a * b) :: st) M uc us) : V l G μ E Z pc lv (sw_i b :: sw_i a :: st) M uc us := by
  intro p e R s m args below meth c A H locs ws ls C hP hD hS hR hl
  refine lv_imul C.1 C.2.1 hd ?_
  rw [iN_mul]
  exact k p e R s m args below meth c A H locs ws ls C hP hD hS hR hl
theorem v_ladd {a b : Int} (hd : decode (mC μ) pc = .ok (.ladd, 1)) (k : V l G μ E Z (pc + 1) lv (sw_j (a + b) :: st) M uc us) : V l G μ E Z pc lv (sw_j b :: sw_j a :: st) M uc us := by
  intro p e R s m args below meth c A H locs ws ls C hP hD hS hR hl
  refine lv_ladd C.1 C.2.1 hd ?_
  rw [jN_add]
  exact k p e R s m args below meth c A H locs ws ls C hP hD hS hR hl
theorem v_lsub {a b : Int} (hd : decode (mC μ) pc = .ok (.lsub, 1)) (k : V l G μ E Z (pc + 1) lv (sw_j (a - b) :: st) M uc us) : V l G μ E Z pc lv (sw_j b :: sw_j a :: st) M uc us := by
  intro p e R s m args below meth c A H locs ws ls C hP hD hS hR hl
  refine lv_lsub C.1 C.2.1 hd ?_
  rw [jN_sub]
  exact k p e R s m args below meth c A H locs ws ls C hP hD hS hR hl
theorem v_lmul {a b : Int} (hd : decode (mC μ) pc = .ok (.lmul, 1)) (k : V l G μ E Z (pc + 1) lv (sw_j (a * b) :: st) M uc us) : V l G μ E Z pc lv (sw_j b :: sw_j a :: st) M uc us := by
  intro p e R s m args below meth c A H locs ws ls C hP hD hS hR hl
  refine lv_lmul C.1 C.2.1 hd ?_
  rw [jN_mul]
  exact k p e R s m args below meth c A H locs ws ls C hP hD hS hR hl
theorem v_lneg {a : Int} (hd : decode (mC μ) pc = .ok (.lneg, 1)) (k : V l G μ E Z (pc + 1) lv (sw_j (-a) :: st) M uc us) : V l G μ E Z pc lv (sw_j a :: st) M uc us := by
  intro p e R s m args below meth c A H locs ws ls C hP hD hS hR hl
  refine lv_lneg C.1 C.2.1 hd ?_
  rw [jN_neg]
  exact k p e R s m args below meth c A H locs ws ls C hP hD hS hR hl
theorem v_idiv {a b : Int} (hd : decode (mC μ) pc = .ok (.idiv, 1)) (ha : sw_rg a) (h0 : 0 ≤ a) (hb : sw_rg b) (h1 : 0 < b) (k : V l G μ E Z (pc + 1) lv (sw_i (a / b) :: st) M uc us) : V l G μ E Z pc lv (sw_i b :: sw_i a :: st) M uc us := by
  intro p e R s m args below meth c A H locs ws ls C hP hD hS hR hl
  refine lv_idiv C.1 C.2.1 hd (fun h => ?_) ?_
  · rw [iN_0, iN_eq hb ⟨by omega, by omega⟩] at h
    omega
  · rw [iN_dv ha h0 hb h1]
    exact k p e R s m args below meth c A H locs ws ls C hP hD hS hR hl
theorem v_irem {a b : Int} (hd : decode (mC μ) pc = .ok (.irem, 1)) (ha : sw_rg a) (h0 : 0 ≤ a) (hb : sw_rg b) (h1 : 0 < b) (k : V l G μ E Z (pc + 1) lv (sw_i (a % b) :: st) M uc us) : V l G μ E Z pc lv (sw_i b :: sw_i a :: st) M uc us := by
  intro p e R s m args below meth c A H locs ws ls C hP hD hS hR hl
  refine lv_irem C.1 C.2.1 hd (fun h => ?_) ?_
  · rw [iN_0, iN_eq hb ⟨by omega, by omega⟩] at h
    omega
  · rw [iN_rm ha h0 hb h1]
    exact k p e R s m args below meth c A H locs ws ls C hP hD hS hR hl
theorem v_ldiv {a b : Int} (hd : decode (mC μ) pc = .ok (.ldiv, 1)) (ha : sw_rl a) (hb : sw_rl b) (h1 : b ≠ 0) (k : V l G μ E Z (pc + 1) lv (sw_j (a.tdiv b) :: st) M uc us) : V l G μ E Z pc lv (sw_j b :: sw_j a :: st) M uc us := by
  intro p e R s m args below meth c A H locs ws ls C hP hD hS hR hl
  refine lv_ldiv C.1 C.2.1 hd (fun h => ?_) ?_
  · rw [show (0 : Int64) = jN 0 from rfl, jN_eq hb ⟨by omega, by omega⟩] at h
    exact h1 h
  · rw [jN_dv ha hb]
    exact k p e R s m args below meth c A H locs ws ls C hP hD hS hR hl
theorem v_lrem {a b : Int} (hd : decode (mC μ) pc = .ok (.lrem, 1)) (ha : sw_rl a) (hb : sw_rl b) (h1 : b ≠ 0) (k : V l G μ E Z (pc + 1) lv (sw_j (a.tmod b) :: st) M uc us) : V l G μ E Z pc lv (sw_j b :: sw_j a :: st) M uc us := by
  intro p e R s m args below meth c A H locs ws ls C hP hD hS hR hl
  refine lv_lrem C.1 C.2.1 hd (fun h => ?_) ?_
  · rw [show (0 : Int64) = jN 0 from rfl, jN_eq hb ⟨by omega, by omega⟩] at h
    exact h1 h
  · rw [jN_rm ha hb]
    exact k p e R s m args below meth c A H locs ws ls C hP hD hS hR hl
theorem v_i2l {a : Int} (hd : decode (mC μ) pc = .ok (.i2l, 1)) (ha : sw_rg a) (k : V l G μ E Z (pc + 1) lv (sw_j a :: st) M uc us) : V l G μ E Z pc lv (sw_i a :: st) M uc us := by
  intro p e R s m args below meth c A H locs ws ls C hP hD hS hR hl
  exact lv_i2l C.1 C.2.1 hd (jN_l ha) (k p e R s m args below meth c A H locs ws ls C hP hD hS hR hl)
theorem v_l2i {a : Int} (hd : decode (mC μ) pc = .ok (.l2i, 1)) (k : V l G μ E Z (pc + 1) lv (sw_i a :: st) M uc us) : V l G μ E Z pc lv (sw_j a :: st) M uc us := by
  intro p e R s m args below meth c A H locs ws ls C hP hD hS hR hl
  exact lv_l2i C.1 C.2.1 hd (jN_i a) (k p e R s m args below meth c A H locs ws ls C hP hD hS hR hl)
theorem v_iand {x y : Int32} {z : Int} (hd : decode (mC μ) pc = .ok (.iand, 1)) (hz : x &&& y = iN z) (k : V l G μ E Z (pc + 1) lv (sw_i z :: st) M uc us) : V l G μ E Z pc lv (.int y :: .int x :: st) M uc us := by
  intro p e R s m args below meth c A H locs ws ls C hP hD hS hR hl
  refine lv_iand C.1 C.2.1 hd ?_
  rw [hz]
  exact k p e R s m args below meth c A H locs ws ls C hP hD hS hR hl
theorem v_ixor {x y : Int32} {z : Int} (hd : decode (mC μ) pc = .ok (.ixor, 1)) (hz : x ^^^ y = iN z) (k : V l G μ E Z (pc + 1) lv (sw_i z :: st) M uc us) : V l G μ E Z pc lv (.int y :: .int x :: st) M uc us := by
  intro p e R s m args below meth c A H locs ws ls C hP hD hS hR hl
  refine lv_ixor C.1 C.2.1 hd ?_
  rw [hz]
  exact k p e R s m args below meth c A H locs ws ls C hP hD hS hR hl
theorem v_ishl {x y : Int32} {z : Int} (hd : decode (mC μ) pc = .ok (.ishl, 1)) (hz : x <<< (y &&& 31) = iN z) (k : V l G μ E Z (pc + 1) lv (sw_i z :: st) M uc us) : V l G μ E Z pc lv (.int y :: .int x :: st) M uc us := by
  intro p e R s m args below meth c A H locs ws ls C hP hD hS hR hl
  refine lv_ishl C.1 C.2.1 hd ?_
  rw [hz]
  exact k p e R s m args below meth c A H locs ws ls C hP hD hS hR hl
theorem v_ishr {x y : Int32} {z : Int} (hd : decode (mC μ) pc = .ok (.ishr, 1)) (hz : x >>> (y &&& 31) = iN z) (k : V l G μ E Z (pc + 1) lv (sw_i z :: st) M uc us) : V l G μ E Z pc lv (.int y :: .int x :: st) M uc us := by
  intro p e R s m args below meth c A H locs ws ls C hP hD hS hR hl
  refine lv_ishr C.1 C.2.1 hd ?_
  rw [hz]
  exact k p e R s m args below meth c A H locs ws ls C hP hD hS hR hl
theorem v_iushr {x y : Int32} {z : Int} (hd : decode (mC μ) pc = .ok (.iushr, 1)) (hz : (x.toUInt32 >>> (y.toUInt32 &&& Int32.toUInt32 31)).toInt32 = iN z) (k : V l G μ E Z (pc + 1) lv (sw_i z :: st) M uc us) : V l G μ E Z pc lv (.int y :: .int x :: st) M uc us := by
  intro p e R s m args below meth c A H locs ws ls C hP hD hS hR hl
  exact lv_iushr C.1 C.2.1 hd hz (k p e R s m args below meth c A H locs ws ls C hP hD hS hR hl)
theorem v_lushr {x : Int64} {y : Int32} {z : Int} (hd : decode (mC μ) pc = .ok (.lushr, 1)) (hz : (x.toUInt64 >>> (y.toInt64.toUInt64 &&& Int64.toUInt64 63)).toInt64 = jN z) (k : V l G μ E Z (pc + 1) lv (sw_j z :: st) M uc us) : V l G μ E Z pc lv (.int y :: .long x :: st) M uc us := by
  intro p e R s m args below meth c A H locs ws ls C hP hD hS hR hl
  exact lv_lushr C.1 C.2.1 hd hz (k p e R s m args below meth c A H locs ws ls C hP hD hS hR hl)
theorem v_lshl {x : Int64} {y : Int32} {z : Int} (hd : decode (mC μ) pc = .ok (.lshl, 1)) (hz : x <<< (y.toInt64 &&& 63) = jN z) (k : V l G μ E Z (pc + 1) lv (sw_j z :: st) M uc us) : V l G μ E Z pc lv (.int y :: .long x :: st) M uc us := by
  intro p e R s m args below meth c A H locs ws ls C hP hD hS hR hl
  exact lv_lshl C.1 C.2.1 hd hz (k p e R s m args below meth c A H locs ws ls C hP hD hS hR hl)
theorem v_land {x y : Int64} {z : Int} (hd : decode (mC μ) pc = .ok (.land, 1)) (hz : x &&& y = jN z) (k : V l G μ E Z (pc + 1) lv (sw_j z :: st) M uc us) : V l G μ E Z pc lv (.long y :: .long x :: st) M uc us := by
  intro p e R s m args below meth c A H locs ws ls C hP hD hS hR hl
  refine lv_land C.1 C.2.1 hd ?_
  rw [hz]
  exact k p e R s m args below meth c A H locs ws ls C hP hD hS hR hl
theorem v_lor {x y : Int64} {z : Int} (hd : decode (mC μ) pc = .ok (.lor, 1)) (hz : x ||| y = jN z) (k : V l G μ E Z (pc + 1) lv (sw_j z :: st) M uc us) : V l G μ E Z pc lv (.long y :: .long x :: st) M uc us := by
  intro p e R s m args below meth c A H locs ws ls C hP hD hS hR hl
  refine lv_lor C.1 C.2.1 hd ?_
  rw [hz]
  exact k p e R s m args below meth c A H locs ws ls C hP hD hS hR hl
theorem v_icmp_lt {a b off : Int} {tgt : Nat} (hd : decode (mC μ) pc = .ok (.if_icmp .lt off, 3)) (ht : (pc : Int) + off = (tgt : Int)) (ha : sw_rg a) (hb : sw_rg b) (kt : a < b → V l G μ E Z (tgt) lv (st) M uc us) (kf : ¬ a < b → V l G μ E Z (pc + 3) lv (st) M uc us) : V l G μ E Z pc lv (sw_i b :: sw_i a :: st) M uc us := by
  intro p e R s m args below meth c A H locs ws ls C hP hD hS hR hl
  exact lv_icmp_lt C.1 C.2.1 hd ht (fun h => kt ((iN_lt ha hb).mp h) p e R s m args below meth c A H locs ws ls C hP hD hS hR hl) (fun h => kf (mt ((iN_lt ha hb).mpr) h) p e R s m args below meth c A H locs ws ls C hP hD hS hR hl)
theorem v_icmp_ge {a b off : Int} {tgt : Nat} (hd : decode (mC μ) pc = .ok (.if_icmp .ge off, 3)) (ht : (pc : Int) + off = (tgt : Int)) (ha : sw_rg a) (hb : sw_rg b) (kt : b ≤ a → V l G μ E Z (tgt) lv (st) M uc us) (kf : ¬ b ≤ a → V l G μ E Z (pc + 3) lv (st) M uc us) : V l G μ E Z pc lv (sw_i b :: sw_i a :: st) M uc us := by
  intro p e R s m args below meth c A H locs ws ls C hP hD hS hR hl
  exact lv_icmp_ge C.1 C.2.1 hd ht (fun h => kt ((iN_le hb ha).mp h) p e R s m args below meth c A H locs ws ls C hP hD hS hR hl) (fun h => kf (mt ((iN_le hb ha).mpr) h) p e R s m args below meth c A H locs ws ls C hP hD hS hR hl)
theorem v_icmp_gt {a b off : Int} {tgt : Nat} (hd : decode (mC μ) pc = .ok (.if_icmp .gt off, 3)) (ht : (pc : Int) + off = (tgt : Int)) (ha : sw_rg a) (hb : sw_rg b) (kt : b < a → V l G μ E Z (tgt) lv (st) M uc us) (kf : ¬ b < a → V l G μ E Z (pc + 3) lv (st) M uc us) : V l G μ E Z pc lv (sw_i b :: sw_i a :: st) M uc us := by
  intro p e R s m args below meth c A H locs ws ls C hP hD hS hR hl
  exact lv_icmp_gt C.1 C.2.1 hd ht (fun h => kt ((iN_lt hb ha).mp h) p e R s m args below meth c A H locs ws ls C hP hD hS hR hl) (fun h => kf (mt ((iN_lt hb ha).mpr) h) p e R s m args below meth c A H locs ws ls C hP hD hS hR hl)
theorem v_icmp_le {a b off : Int} {tgt : Nat} (hd : decode (mC μ) pc = .ok (.if_icmp .le off, 3)) (ht : (pc : Int) + off = (tgt : Int)) (ha : sw_rg a) (hb : sw_rg b) (kt : a ≤ b → V l G μ E Z (tgt) lv (st) M uc us) (kf : ¬ a ≤ b → V l G μ E Z (pc + 3) lv (st) M uc us) : V l G μ E Z pc lv (sw_i b :: sw_i a :: st) M uc us := by
  intro p e R s m args below meth c A H locs ws ls C hP hD hS hR hl
  exact lv_icmp_le C.1 C.2.1 hd ht (fun h => kt ((iN_le ha hb).mp h) p e R s m args below meth c A H locs ws ls C hP hD hS hR hl) (fun h => kf (mt ((iN_le ha hb).mpr) h) p e R s m args below meth c A H locs ws ls C hP hD hS hR hl)
theorem v_icmp_eq {a b off : Int} {tgt : Nat} (hd : decode (mC μ) pc = .ok (.if_icmp .eq off, 3)) (ht : (pc : Int) + off = (tgt : Int)) (ha : sw_rg a) (hb : sw_rg b) (kt : a = b → V l G μ E Z (tgt) lv (st) M uc us) (kf : ¬ a = b → V l G μ E Z (pc + 3) lv (st) M uc us) : V l G μ E Z pc lv (sw_i b :: sw_i a :: st) M uc us := by
  intro p e R s m args below meth c A H locs ws ls C hP hD hS hR hl
  exact lv_icmp_eq C.1 C.2.1 hd ht (fun h => kt ((iN_eq ha hb).mp h) p e R s m args below meth c A H locs ws ls C hP hD hS hR hl) (fun h => kf (mt ((iN_eq ha hb).mpr) h) p e R s m args below meth c A H locs ws ls C hP hD hS hR hl)
theorem v_icmp_ne {a b off : Int} {tgt : Nat} (hd : decode (mC μ) pc = .ok (.if_icmp .ne off, 3)) (ht : (pc : Int) + off = (tgt : Int)) (ha : sw_rg a) (hb : sw_rg b) (kt : ¬ a = b → V l G μ E Z (tgt) lv (st) M uc us) (kf : a = b → V l G μ E Z (pc + 3) lv (st) M uc us) : V l G μ E Z pc lv (sw_i b :: sw_i a :: st) M uc us := by
  intro p e R s m args below meth c A H locs ws ls C hP hD hS hR hl
  exact lv_icmp_ne C.1 C.2.1 hd ht (fun h => kt (mt ((iN_eq ha hb).mpr) h) p e R s m args below meth c A H locs ws ls C hP hD hS hR hl) (fun h => kf ((iN_eq ha hb).mp h) p e R s m args below meth c A H locs ws ls C hP hD hS hR hl)
theorem v_if_lt {a off : Int} {tgt : Nat} (hd : decode (mC μ) pc = .ok (.ifCond .lt off, 3)) (ht : (pc : Int) + off = (tgt : Int)) (ha : sw_rg a) (kt : a < 0 → V l G μ E Z (tgt) lv (st) M uc us) (kf : ¬ a < 0 → V l G μ E Z (pc + 3) lv (st) M uc us) : V l G μ E Z pc lv (sw_i a :: st) M uc us := by
  intro p e R s m args below meth c A H locs ws ls C hP hD hS hR hl
  have h0 : sw_rg 0 := ⟨by omega, by omega⟩
  exact lv_if_lt C.1 C.2.1 hd ht (fun h => kt ((iN_lt ha h0).mp h) p e R s m args below meth c A H locs ws ls C hP hD hS hR hl) (fun h => kf (mt ((iN_lt ha h0).mpr) h) p e R s m args below meth c A H locs ws ls C hP hD hS hR hl)
theorem v_if_ge {a off : Int} {tgt : Nat} (hd : decode (mC μ) pc = .ok (.ifCond .ge off, 3)) (ht : (pc : Int) + off = (tgt : Int)) (ha : sw_rg a) (kt : 0 ≤ a → V l G μ E Z (tgt) lv (st) M uc us) (kf : ¬ 0 ≤ a → V l G μ E Z (pc + 3) lv (st) M uc us) : V l G μ E Z pc lv (sw_i a :: st) M uc us := by
  intro p e R s m args below meth c A H locs ws ls C hP hD hS hR hl
  have h0 : sw_rg 0 := ⟨by omega, by omega⟩
  exact lv_if_ge C.1 C.2.1 hd ht (fun h => kt ((iN_le h0 ha).mp h) p e R s m args below meth c A H locs ws ls C hP hD hS hR hl) (fun h => kf (mt ((iN_le h0 ha).mpr) h) p e R s m args below meth c A H locs ws ls C hP hD hS hR hl)
theorem v_if_gt {a off : Int} {tgt : Nat} (hd : decode (mC μ) pc = .ok (.ifCond .gt off, 3)) (ht : (pc : Int) + off = (tgt : Int)) (ha : sw_rg a) (kt : 0 < a → V l G μ E Z (tgt) lv (st) M uc us) (kf : ¬ 0 < a → V l G μ E Z (pc + 3) lv (st) M uc us) : V l G μ E Z pc lv (sw_i a :: st) M uc us := by
  intro p e R s m args below meth c A H locs ws ls C hP hD hS hR hl
  have h0 : sw_rg 0 := ⟨by omega, by omega⟩
  exact lv_if_gt C.1 C.2.1 hd ht (fun h => kt ((iN_lt h0 ha).mp h) p e R s m args below meth c A H locs ws ls C hP hD hS hR hl) (fun h => kf (mt ((iN_lt h0 ha).mpr) h) p e R s m args below meth c A H locs ws ls C hP hD hS hR hl)
theorem v_if_le {a off : Int} {tgt : Nat} (hd : decode (mC μ) pc = .ok (.ifCond .le off, 3)) (ht : (pc : Int) + off = (tgt : Int)) (ha : sw_rg a) (kt : a ≤ 0 → V l G μ E Z (tgt) lv (st) M uc us) (kf : ¬ a ≤ 0 → V l G μ E Z (pc + 3) lv (st) M uc us) : V l G μ E Z pc lv (sw_i a :: st) M uc us := by
  intro p e R s m args below meth c A H locs ws ls C hP hD hS hR hl
  have h0 : sw_rg 0 := ⟨by omega, by omega⟩
  exact lv_if_le C.1 C.2.1 hd ht (fun h => kt ((iN_le ha h0).mp h) p e R s m args below meth c A H locs ws ls C hP hD hS hR hl) (fun h => kf (mt ((iN_le ha h0).mpr) h) p e R s m args below meth c A H locs ws ls C hP hD hS hR hl)
theorem v_if_eq {a off : Int} {tgt : Nat} (hd : decode (mC μ) pc = .ok (.ifCond .eq off, 3)) (ht : (pc : Int) + off = (tgt : Int)) (ha : sw_rg a) (kt : a = 0 → V l G μ E Z (tgt) lv (st) M uc us) (kf : ¬ a = 0 → V l G μ E Z (pc + 3) lv (st) M uc us) : V l G μ E Z pc lv (sw_i a :: st) M uc us := by
  intro p e R s m args below meth c A H locs ws ls C hP hD hS hR hl
  have h0 : sw_rg 0 := ⟨by omega, by omega⟩
  exact lv_if_eq C.1 C.2.1 hd ht (fun h => kt ((iN_eq ha h0).mp h) p e R s m args below meth c A H locs ws ls C hP hD hS hR hl) (fun h => kf (mt ((iN_eq ha h0).mpr) h) p e R s m args below meth c A H locs ws ls C hP hD hS hR hl)
theorem v_if_ne {a off : Int} {tgt : Nat} (hd : decode (mC μ) pc = .ok (.ifCond .ne off, 3)) (ht : (pc : Int) + off = (tgt : Int)) (ha : sw_rg a) (kt : ¬ a = 0 → V l G μ E Z (tgt) lv (st) M uc us) (kf : a = 0 → V l G μ E Z (pc + 3) lv (st) M uc us) : V l G μ E Z pc lv (sw_i a :: st) M uc us := by
  intro p e R s m args below meth c A H locs ws ls C hP hD hS hR hl
  have h0 : sw_rg 0 := ⟨by omega, by omega⟩
  exact lv_if_ne C.1 C.2.1 hd ht (fun h => kt (mt ((iN_eq ha h0).mpr) h) p e R s m args below meth c A H locs ws ls C hP hD hS hR hl) (fun h => kf ((iN_eq ha h0).mp h) p e R s m args below meth c A H locs ws ls C hP hD hS hR hl)
theorem v_lcmp_lt {a b off : Int} {tgt : Nat} (hd : decode (mC μ) pc = .ok (.lcmp, 1)) (hd2 : decode (mC μ) (pc + 1) = .ok (.ifCond .lt off, 3)) (ht : ((pc + 1 : Nat) : Int) + off = (tgt : Int)) (ha : sw_rl a) (hb : sw_rl b) (kt : a < b → V l G μ E Z (tgt) lv (st) M uc us) (kf : ¬ a < b → V l G μ E Z (pc + 4) lv (st) M uc us) : V l G μ E Z pc lv (sw_j b :: sw_j a :: st) M uc us := by
  intro p e R s m args below meth c A H locs ws ls C hP hD hS hR hl
  refine W.lcmp C.1 C.2.1 hd ?_
  exact lv_if_lt C.1 C.2.1 hd2 ht (fun h => kt (((lg_cmp_lt _ _).trans (jN_lt ha hb)).mp h) p e R s m args below meth c A H locs ws ls C hP hD hS hR hl) (fun h => kf (mt (((lg_cmp_lt _ _).trans (jN_lt ha hb)).mpr) h) p e R s m args below meth c A H locs ws ls C hP hD hS hR hl)
theorem v_lcmp_ge {a b off : Int} {tgt : Nat} (hd : decode (mC μ) pc = .ok (.lcmp, 1)) (hd2 : decode (mC μ) (pc + 1) = .ok (.ifCond .ge off, 3)) (ht : ((pc + 1 : Nat) : Int) + off = (tgt : Int)) (ha : sw_rl a) (hb : sw_rl b) (kt : b ≤ a → V l G μ E Z (tgt) lv (st) M uc us) (kf : ¬ b ≤ a → V l G μ E Z (pc + 4) lv (st) M uc us) : V l G μ E Z pc lv (sw_j b :: sw_j a :: st) M uc us := by
  intro p e R s m args below meth c A H locs ws ls C hP hD hS hR hl
  refine W.lcmp C.1 C.2.1 hd ?_
  exact lv_if_ge C.1 C.2.1 hd2 ht (fun h => kt (((lg_cmp_ge _ _).trans (jN_le hb ha)).mp h) p e R s m args below meth c A H locs ws ls C hP hD hS hR hl) (fun h => kf (mt (((lg_cmp_ge _ _).trans (jN_le hb ha)).mpr) h) p e R s m args below meth c A H locs ws ls C hP hD hS hR hl)
theorem v_lcmp_gt {a b off : Int} {tgt : Nat} (hd : decode (mC μ) pc = .ok (.lcmp, 1)) (hd2 : decode (mC μ) (pc + 1) = .ok (.ifCond .gt off, 3)) (ht : ((pc + 1 : Nat) : Int) + off = (tgt : Int)) (ha : sw_rl a) (hb : sw_rl b) (kt : b < a → V l G μ E Z (tgt) lv (st) M uc us) (kf : ¬ b < a → V l G μ E Z (pc + 4) lv (st) M uc us) : V l G μ E Z pc lv (sw_j b :: sw_j a :: st) M uc us := by
  intro p e R s m args below meth c A H locs ws ls C hP hD hS hR hl
  refine W.lcmp C.1 C.2.1 hd ?_
  exact lv_if_gt C.1 C.2.1 hd2 ht (fun h => kt (((lg_cmp_gt _ _).trans (jN_lt hb ha)).mp h) p e R s m args below meth c A H locs ws ls C hP hD hS hR hl) (fun h => kf (mt (((lg_cmp_gt _ _).trans (jN_lt hb ha)).mpr) h) p e R s m args below meth c A H locs ws ls C hP hD hS hR hl)
theorem v_lcmp_le {a b off : Int} {tgt : Nat} (hd : decode (mC μ) pc = .ok (.lcmp, 1)) (hd2 : decode (mC μ) (pc + 1) = .ok (.ifCond .le off, 3)) (ht : ((pc + 1 : Nat) : Int) + off = (tgt : Int)) (ha : sw_rl a) (hb : sw_rl b) (kt : a ≤ b → V l G μ E Z (tgt) lv (st) M uc us) (kf : ¬ a ≤ b → V l G μ E Z (pc + 4) lv (st) M uc us) : V l G μ E Z pc lv (sw_j b :: sw_j a :: st) M uc us := by
  intro p e R s m args below meth c A H locs ws ls C hP hD hS hR hl
  refine W.lcmp C.1 C.2.1 hd ?_
  exact lv_if_le C.1 C.2.1 hd2 ht (fun h => kt (((lg_cmp_le _ _).trans (jN_le ha hb)).mp h) p e R s m args below meth c A H locs ws ls C hP hD hS hR hl) (fun h => kf (mt (((lg_cmp_le _ _).trans (jN_le ha hb)).mpr) h) p e R s m args below meth c A H locs ws ls C hP hD hS hR hl)
theorem v_lcmp_eq {a b off : Int} {tgt : Nat} (hd : decode (mC μ) pc = .ok (.lcmp, 1)) (hd2 : decode (mC μ) (pc + 1) = .ok (.ifCond .eq off, 3)) (ht : ((pc + 1 : Nat) : Int) + off = (tgt : Int)) (ha : sw_rl a) (hb : sw_rl b) (kt : a = b → V l G μ E Z (tgt) lv (st) M uc us) (kf : ¬ a = b → V l G μ E Z (pc + 4) lv (st) M uc us) : V l G μ E Z pc lv (sw_j b :: sw_j a :: st) M uc us := by
  intro p e R s m args below meth c A H locs ws ls C hP hD hS hR hl
  refine W.lcmp C.1 C.2.1 hd ?_
  exact lv_if_eq C.1 C.2.1 hd2 ht (fun h => kt (((lg_cmp_eq _ _).trans (jN_eq ha hb)).mp h) p e R s m args below meth c A H locs ws ls C hP hD hS hR hl) (fun h => kf (mt (((lg_cmp_eq _ _).trans (jN_eq ha hb)).mpr) h) p e R s m args below meth c A H locs ws ls C hP hD hS hR hl)
theorem v_lcmp_ne {a b off : Int} {tgt : Nat} (hd : decode (mC μ) pc = .ok (.lcmp, 1)) (hd2 : decode (mC μ) (pc + 1) = .ok (.ifCond .ne off, 3)) (ht : ((pc + 1 : Nat) : Int) + off = (tgt : Int)) (ha : sw_rl a) (hb : sw_rl b) (kt : ¬ a = b → V l G μ E Z (tgt) lv (st) M uc us) (kf : a = b → V l G μ E Z (pc + 4) lv (st) M uc us) : V l G μ E Z pc lv (sw_j b :: sw_j a :: st) M uc us := by
  intro p e R s m args below meth c A H locs ws ls C hP hD hS hR hl
  refine W.lcmp C.1 C.2.1 hd ?_
  exact lv_if_ne C.1 C.2.1 hd2 ht (fun h => kt (mt (((lg_cmp_eq _ _).trans (jN_eq ha hb)).mpr) h) p e R s m args below meth c A H locs ws ls C hP hD hS hR hl) (fun h => kf (((lg_cmp_eq _ _).trans (jN_eq ha hb)).mp h) p e R s m args below meth c A H locs ws ls C hP hD hS hR hl)
theorem v_goto {off : Int} {tgt : Nat} (hd : decode (mC μ) pc = .ok (.goto off, 3)) (ht : (pc : Int) + off = (tgt : Int)) (k : V l G μ E Z (tgt) lv (st) M uc us) : V l G μ E Z pc lv (st) M uc us := by
  intro p e R s m args below meth c A H locs ws ls C hP hD hS hR hl
  exact lv_goto C.1 C.2.1 hd ht (k p e R s m args below meth c A H locs ws ls C hP hD hS hR hl)
theorem v_ifnull {x : Nat} {off : Int} (hd : decode (mC μ) pc = .ok (.ifnull off, 3)) (k : V l G μ E Z (pc + 3) lv (st) M uc us) : V l G μ E Z pc lv (.ref x :: st) M uc us := by
  intro p e R s m args below meth c A H locs ws ls C hP hD hS hR hl
  exact lv_ifnull C.1 C.2.1 hd (k p e R s m args below meth c A H locs ws ls C hP hD hS hR hl)
theorem v_ifnullN {off : Int} {tgt : Nat} (hd : decode (mC μ) pc = .ok (.ifnull off, 3)) (ht : (pc : Int) + off = (tgt : Int)) (k : V l G μ E Z (tgt) lv (st) M uc us) : V l G μ E Z pc lv (.null :: st) M uc us := by
  intro p e R s m args below meth c A H locs ws ls C hP hD hS hR hl
  exact lv_ifnullN C.1 C.2.1 hd ht (k p e R s m args below meth c A H locs ws ls C hP hD hS hR hl)
theorem v_ifnonnull {x : Nat} {off : Int} {tgt : Nat} (hd : decode (mC μ) pc = .ok (.ifnonnull off, 3)) (ht : (pc : Int) + off = (tgt : Int)) (k : V l G μ E Z (tgt) lv (st) M uc us) : V l G μ E Z pc lv (.ref x :: st) M uc us := by
  intro p e R s m args below meth c A H locs ws ls C hP hD hS hR hl
  exact lv_ifnonnull C.1 C.2.1 hd ht (k p e R s m args below meth c A H locs ws ls C hP hD hS hR hl)
theorem v_ifnonnullN {off : Int} (hd : decode (mC μ) pc = .ok (.ifnonnull off, 3)) (k : V l G μ E Z (pc + 3) lv (st) M uc us) : V l G μ E Z pc lv (.null :: st) M uc us := by
  intro p e R s m args below meth c A H locs ws ls C hP hD hS hR hl
  exact lv_ifnonnullN C.1 C.2.1 hd (k p e R s m args below meth c A H locs ws ls C hP hD hS hR hl)
/-- fewer locals, another memory that is the same -/
theorem v_sub {lv' : List (Nat × Value)} (hs : ∀ q ∈ lv', sw_lk lv q.1 = some q.2) (k : V l G μ E Z pc lv' st M uc us) : V l G μ E Z pc lv (st) M uc us := by
  intro p e R s m args below meth c A H locs ws ls C hP hD hS hR hl
  exact k p e R s m args below meth c A H locs ws ls C hP hD hS hR (sw_lsub hl hs)
theorem v_mem {M' : sw_M} (hM : M = M') (k : V l G μ E Z pc lv st M' uc us) : V l G μ E Z pc lv (st) M uc us := hM ▸ k
theorem v_room {uc' us' : Nat} (h1 : uc ≤ uc') (h2 : us ≤ us') (k : V l G μ E Z pc lv st M uc' us') : V l G μ E Z pc lv (st) M uc us := by
  intro p e R s m args below meth c A H locs ws ls C hP hD hS hR hl
  exact W.widen h1 h2 (k p e R s m args below meth c A H locs ws ls C hP hD hS hR hl)
end SWV
section SWR
variable {l : Launch} {G G0 : sw_G} {μ : sw_Mt} {E : State → (Nat → Prop) → Prop} {pc : Nat} {lv : List (Nat × Value)} {M : sw_M} {uc us : Nat} {QA : (Nat → Nat) → Option Value → sw_M → Prop} {Q : Option Value → sw_M → Prop}
theorem va_iretA (hG : G = sw_Gw G0 G.2.2.2) {x : Int32} (hd : decode (mC μ) pc = .ok (.ireturn, 1)) (hr : mR μ = some .int) (hu : uc ≤ mK μ) (hv : us ≤ mS μ) (hq : QA G.2.2.2 (some (.int x)) M) : V l G μ E (sw_Zq G0 μ QA) pc lv ([.int x]) M uc us := by
  intro p e R s m args below meth c A H locs ws ls C hP hD hS hR hl
  refine W.widen hu hv ?_
  have hKm : ∀ t : State, s.WarmedH t.vm → sw_K G0 t := fun t hW => by
    have h := sw_K.moved hW C.2.2.2.2.2.1
    rw [hG] at h
    exact h
  have hP0 : va_P (sw_D G0) vwCl ws H := by
    have h := hP
    rw [hG] at h
    exact h
  have hR0 : sw_Rep (sw_Gw G0 G.2.2.2) M ws := by rw [← hG]; exact hR
  exact W.iret (v := x) C.1 C.2.1 (C.2.2.2.2.2.2.2.2.2.2.2.1.trans hr) (fun t ht hW => ⟨⟨_, _, M, ws, rfl, hq, hR0, by rw [ht]; exact hP0, hKm t hW, hD⟩, hS.F ht⟩) hS.2.2 hd C.2.2.2.2.2.2.2.2.2.2.2.2.1
theorem v_iret {x : Int32} (hd : decode (mC μ) pc = .ok (.ireturn, 1)) (hr : mR μ = some .int) (hu : uc ≤ mK μ) (hv : us ≤ mS μ) (hq : Q (some (.int x)) M) : V l G μ E (sw_Zq G μ (sw_q0 G Q)) pc lv ([.int x]) M uc us :=
  va_iretA (G0 := G) rfl hd hr hu hv ⟨rfl, hq⟩
theorem va_zretA (hG : G = sw_Gw G0 G.2.2.2) {x : Int32} (hb : narrow .boolean (.int x) = .int x) (hd : decode (mC μ) pc = .ok (.ireturn, 1)) (hr : mR μ = some .boolean) (hu : uc ≤ mK μ) (hv : us ≤ mS μ) (hq : QA G.2.2.2 (some (.int x)) M) : V l G μ E (sw_Zq G0 μ QA) pc lv ([.int x]) M uc us := by
  intro p e R s m args below meth c A H locs ws ls C hP hD hS hR hl
  refine W.widen hu hv ?_
  have hKm : ∀ t : State, s.WarmedH t.vm → sw_K G0 t := fun t hW => by
    have h := sw_K.moved hW C.2.2.2.2.2.1
    rw [hG] at h
    exact h
  have hP0 : va_P (sw_D G0) vwCl ws H := by
    have h := hP
    rw [hG] at h
    exact h
  have hR0 : sw_Rep (sw_Gw G0 G.2.2.2) M ws := by rw [← hG]; exact hR
  exact W.zret (v := x) C.1 C.2.1 (C.2.2.2.2.2.2.2.2.2.2.2.1.trans hr) hb (fun t ht hW => ⟨⟨_, _, M, ws, rfl, hq, hR0, by rw [ht]; exact hP0, hKm t hW, hD⟩, hS.F ht⟩) hS.2.2 hd C.2.2.2.2.2.2.2.2.2.2.2.2.1
theorem v_zret {x : Int32} (hb : narrow .boolean (.int x) = .int x) (hd : decode (mC μ) pc = .ok (.ireturn, 1)) (hr : mR μ = some .boolean) (hu : uc ≤ mK μ) (hv : us ≤ mS μ) (hq : Q (some (.int x)) M) : V l G μ E (sw_Zq G μ (sw_q0 G Q)) pc lv ([.int x]) M uc us :=
  va_zretA (G0 := G) rfl hb hd hr hu hv ⟨rfl, hq⟩
theorem va_lretA (hG : G = sw_Gw G0 G.2.2.2) {x : Int64} (hd : decode (mC μ) pc = .ok (.lreturn, 1)) (hr : mR μ = some .long) (hu : uc ≤ mK μ) (hv : us ≤ mS μ) (hq : QA G.2.2.2 (some (.long x)) M) : V l G μ E (sw_Zq G0 μ QA) pc lv ([.long x]) M uc us := by
  intro p e R s m args below meth c A H locs ws ls C hP hD hS hR hl
  refine W.widen hu hv ?_
  have hKm : ∀ t : State, s.WarmedH t.vm → sw_K G0 t := fun t hW => by
    have h := sw_K.moved hW C.2.2.2.2.2.1
    rw [hG] at h
    exact h
  have hP0 : va_P (sw_D G0) vwCl ws H := by
    have h := hP
    rw [hG] at h
    exact h
  have hR0 : sw_Rep (sw_Gw G0 G.2.2.2) M ws := by rw [← hG]; exact hR
  exact W.lret (v := x) C.1 C.2.1 (C.2.2.2.2.2.2.2.2.2.2.2.1.trans hr) (fun t ht hW => ⟨⟨_, _, M, ws, rfl, hq, hR0, by rw [ht]; exact hP0, hKm t hW, hD⟩, hS.F ht⟩) hS.2.2 hd C.2.2.2.2.2.2.2.2.2.2.2.2.1
theorem v_lret {x : Int64} (hd : decode (mC μ) pc = .ok (.lreturn, 1)) (hr : mR μ = some .long) (hu : uc ≤ mK μ) (hv : us ≤ mS μ) (hq : Q (some (.long x)) M) : V l G μ E (sw_Zq G μ (sw_q0 G Q)) pc lv ([.long x]) M uc us :=
  va_lretA (G0 := G) rfl hd hr hu hv ⟨rfl, hq⟩
theorem va_vretA (hG : G = sw_Gw G0 G.2.2.2)  (hd : decode (mC μ) pc = .ok (.return_, 1)) (hr : mR μ = none) (hu : uc ≤ mK μ) (hv : us ≤ mS μ) (hq : QA G.2.2.2 (none) M) : V l G μ E (sw_Zq G0 μ QA) pc lv ([]) M uc us := by
  intro p e R s m args below meth c A H locs ws ls C hP hD hS hR hl
  refine W.widen hu hv ?_
  have hKm : ∀ t : State, s.WarmedH t.vm → sw_K G0 t := fun t hW => by
    have h := sw_K.moved hW C.2.2.2.2.2.1
    rw [hG] at h
    exact h
  have hP0 : va_P (sw_D G0) vwCl ws H := by
    have h := hP
    rw [hG] at h
    exact h
  have hR0 : sw_Rep (sw_Gw G0 G.2.2.2) M ws := by rw [← hG]; exact hR
  exact W.vret C.1 C.2.1 (C.2.2.2.2.2.2.2.2.2.2.2.1.trans hr) (fun t ht hW => ⟨⟨_, _, M, ws, rfl, hq, hR0, by rw [ht]; exact hP0, hKm t hW, hD⟩, hS.F ht⟩) hS.2.2 hd C.2.2.2.2.2.2.2.2.2.2.2.2.1
theorem v_vret  (hd : decode (mC μ) pc = .ok (.return_, 1)) (hr : mR μ = none) (hu : uc ≤ mK μ) (hv : us ≤ mS μ) (hq : Q (none) M) : V l G μ E (sw_Zq G μ (sw_q0 G Q)) pc lv ([]) M uc us :=
  va_vretA (G0 := G) rfl hd hr hu hv ⟨rfl, hq⟩
theorem va_aretA (hG : G = sw_Gw G0 G.2.2.2) {v : Value} {rt : FieldType} (hrt : (∃ n, rt = .object n) ∨ ∃ t, rt = .array t) (hv0 : v = .null ∨ ∃ a, v = .ref a) (hd : decode (mC μ) pc = .ok (.areturn, 1)) (hr : mR μ = some rt) (hu : uc ≤ mK μ) (hv : us ≤ mS μ) (hq : QA G.2.2.2 (some v) M) : V l G μ E (sw_Zq G0 μ QA) pc lv ([v]) M uc us := by
  intro p e R s m args below meth c A H locs ws ls C hP hD hS hR hl
  refine W.widen hu hv ?_
  have hKm : ∀ t : State, s.WarmedH t.vm → sw_K G0 t := fun t hW => by
    have h := sw_K.moved hW C.2.2.2.2.2.1
    rw [hG] at h
    exact h
  have hP0 : va_P (sw_D G0) vwCl ws H := by
    have h := hP
    rw [hG] at h
    exact h
  have hR0 : sw_Rep (sw_Gw G0 G.2.2.2) M ws := by rw [← hG]; exact hR
  exact W.aret (v := v) C.1 C.2.1 (C.2.2.2.2.2.2.2.2.2.2.2.1.trans hr) hrt hv0 (fun t ht hW => ⟨⟨_, _, M, ws, rfl, hq, hR0, by rw [ht]; exact hP0, hKm t hW, hD⟩, hS.F ht⟩) hS.2.2 hd C.2.2.2.2.2.2.2.2.2.2.2.2.1
theorem v_aret {v : Value} {rt : FieldType} (hrt : (∃ n, rt = .object n) ∨ ∃ t, rt = .array t) (hv0 : v = .null ∨ ∃ a, v = .ref a) (hd : decode (mC μ) pc = .ok (.areturn, 1)) (hr : mR μ = some rt) (hu : uc ≤ mK μ) (hv : us ≤ mS μ) (hq : Q (some v) M) : V l G μ E (sw_Zq G μ (sw_q0 G Q)) pc lv ([v]) M uc us :=
  va_aretA (G0 := G) rfl hrt hv0 hd hr hu hv ⟨rfl, hq⟩
end SWR
