/-! helpers: cells held, overlays, loops, ranges -/
def sw_hold (M : sw_M) (cs : List sw_Ce) : Prop := ∀ c ∈ cs, M c.1 = some c.2
theorem sw_hold0 {M : sw_M} : sw_hold M [] := fun _ h => absurd h List.not_mem_nil
theorem sw_hold1 {M : sw_M} {c : sw_Ce} {cs : List sw_Ce} (h : M c.1 = some c.2) (hs : sw_hold M cs) : sw_hold M (c :: cs) := fun x hx => (List.mem_cons.mp hx).elim (fun e => by rw [e]; exact h) (hs x)
theorem sw_hold.hd {M : sw_M} {c : sw_Ce} {cs : List sw_Ce} (h : sw_hold M (c :: cs)) : M c.1 = some c.2 := h c List.mem_cons_self
theorem sw_hold.tl {M : sw_M} {c : sw_Ce} {cs : List sw_Ce} (h : sw_hold M (c :: cs)) : sw_hold M cs := fun x hx => h x (List.mem_cons_of_mem _ hx)
theorem sw_hold.app {M : sw_M} {a b : List sw_Ce} (h : sw_hold M a) (k : sw_hold M b) : sw_hold M (a ++ b) := fun x hx => (List.mem_append.mp hx).elim (h x) (k x)
theorem sw_hold.ov {M : sw_M} {cs : List sw_Ce} (h : sw_hold M cs) : M = sw_ov M cs := (sw_ov_self h).symm
theorem sw_hold_all {M : sw_M} {cs : List sw_Ce} (hn : sw_nd (cs.map Prod.fst)) : sw_hold (sw_ov M cs) cs := fun c hc => by
  obtain ⟨k, hk⟩ := List.getElem?_of_mem hc
  exact sw_ov_at hn (q := k) (t := c.1) (x := c.2) hk
/-- the cells at places are held -/
theorem sw_pick {M : sw_M} {cs : List sw_Ce} (hn : sw_nd (cs.map Prod.fst)) (is : List Nat) {wc : List sw_Ce} (h : is.map (fun i => cs[i]?) = wc.map some) : sw_hold (sw_ov M cs) wc := fun c hc => by
  have h1 : some c ∈ wc.map some := List.mem_map.mpr ⟨c, hc, rfl⟩
  rw [← h] at h1
  obtain ⟨k, -, hk⟩ := List.mem_map.mp h1
  exact sw_ov_at hn (q := k) (t := c.1) (x := c.2) hk
theorem sw_nd_of : ∀ {l : List Nat}, l.Nodup → sw_nd l
  | [], _ => trivial
  | a :: l, h => ⟨fun b hb e => (List.nodup_cons.mp h).1 (e ▸ hb), sw_nd_of (List.nodup_cons.mp h).2⟩
/-- cells at places put anew -/
theorem sw_ovp {M : sw_M} {cs w1 : List sw_Ce} (hn : sw_nd (cs.map Prod.fst)) (is : List Nat) (hi : va_nd is = true) (h : is.map (fun i => (cs[i]?).map Prod.fst) = w1.map (fun c => some c.1)) : sw_ov (sw_ov M cs) w1 = sw_ov M (sw_put cs is w1) := by
  obtain ⟨wc, hwc, he⟩ : ∃ wc : List sw_Ce, is.map (fun i => cs[i]?) = wc.map some ∧ w1.map Prod.fst = wc.map Prod.fst := by
    clear hi hn
    induction is generalizing w1 with
    | nil =>
      cases w1 with
      | nil => exact ⟨[], rfl, rfl⟩
      | cons a l => simp at h
    | cons i is ih =>
      cases w1 with
      | nil => simp at h
      | cons a l =>
        simp only [List.map_cons, List.cons.injEq] at h
        obtain ⟨wc, h1, h2⟩ := ih h.2
        cases hx : cs[i]? with
        | none => rw [hx] at h; simp at h
        | some x =>
          rw [hx] at h
          have hf : x.1 = a.1 := by simpa using h.1
          exact ⟨x :: wc, by simp only [List.map_cons, hx, h1], by simp only [List.map_cons, h2, hf]⟩
  exact sw_ov_put hn (sw_nd_pick hn hi hwc) hwc he
theorem sw_h1 {lv : List (Nat × Value)} {i : Nat} {v : Value} {l : List (Nat × Value)} (h : sw_lk lv i = some v) (hs : ∀ q ∈ l, sw_lk lv q.1 = some q.2) : ∀ q ∈ (i, v) :: l, sw_lk lv q.1 = some q.2 := fun q hq => (List.mem_cons.mp hq).elim (fun e => by rw [e]; exact h) (hs q)
theorem sw_h0 {lv : List (Nat × Value)} : ∀ q ∈ ([] : List (Nat × Value)), sw_lk lv q.1 = some q.2 := fun _ h => absurd h List.not_mem_nil
/-- more locals than are needed, a known memory: on to a known place -/
theorem v_to {l : Launch} {G : sw_G} {μ : sw_Mt} {E : State → (Nat → Prop) → Prop} {Z : sw_Z} {pc : Nat} {lv lv' : List (Nat × Value)} {st : List Value} {M M' : sw_M} {uc us : Nat} (k : V l G μ E Z pc lv' st M' uc us) (hM : M = M') (hs : ∀ q ∈ lv', sw_lk lv q.1 = some q.2) : V l G μ E Z pc lv st M uc us := by
  subst hM
  exact v_sub hs k
def bI (p : Prop) [Decidable p] : Int := if p then 1 else 0
theorem bI_t {p : Prop} [Decidable p] (h : p) : bI p = 1 := if_pos h
theorem bI_f {p : Prop} [Decidable p] (h : ¬ p) : bI p = 0 := if_neg h
theorem bI_rg (p : Prop) [Decidable p] : sw_rg (bI p) := by
  unfold bI
  split <;> exact ⟨by omega, by omega⟩
section
variable {l : Launch} {G : sw_G} {μ : sw_Mt} {E : State → (Nat → Prop) → Prop} {Z : sw_Z} {pc : Nat} {lv : List (Nat × Value)} {st : List Value} {M : sw_M} {uc us : Nat}
theorem v_ifb_eq {p : Prop} [hp : Decidable p] {off : Int} {tgt : Nat} (hd : decode (mC μ) pc = .ok (.ifCond .eq off, 3)) (ht : (pc : Int) + off = (tgt : Int)) (kt : ¬ p → V l G μ E Z tgt lv st M uc us) (kf : p → V l G μ E Z (pc + 3) lv st M uc us) : V l G μ E Z pc lv (sw_i (bI p) :: st) M uc us := by
  refine v_if_eq hd ht (bI_rg p) (fun h => kt (fun q => ?_)) (fun h => kf ?_)
  · rw [bI_t q] at h; omega
  · by_cases q : p
    · exact q
    · rw [bI_f q] at h; omega
theorem v_ifb_ne {p : Prop} [hp : Decidable p] {off : Int} {tgt : Nat} (hd : decode (mC μ) pc = .ok (.ifCond .ne off, 3)) (ht : (pc : Int) + off = (tgt : Int)) (kt : p → V l G μ E Z tgt lv st M uc us) (kf : ¬ p → V l G μ E Z (pc + 3) lv st M uc us) : V l G μ E Z pc lv (sw_i (bI p) :: st) M uc us := by
  refine v_if_ne hd ht (bI_rg p) (fun h => kt ?_) (fun h => kf (fun q => ?_))
  · by_cases q : p
    · exact q
    · rw [bI_f q] at h; omega
  · rw [bI_t q] at h; omega
end
/-- cells that are there already needn't be laid over -/
theorem sw_ov_dr {M : sw_M} {cs2 : List sw_Ce} (h : sw_hold M cs2) : ∀ cs1 : List sw_Ce, sw_ov M (cs1 ++ cs2) = sw_ov M cs1
  | [] => sw_ov_self h
  | c :: cs1 => by
    funext q
    show (if q = c.1 then some c.2 else sw_ov M (cs1 ++ cs2) q) = (if q = c.1 then some c.2 else sw_ov M cs1 q)
    rw [sw_ov_dr h cs1]
theorem v_ovp {l : Launch} {G : sw_G} {μ : sw_Mt} {E : State → (Nat → Prop) → Prop} {Z : sw_Z} {pc : Nat} {lv : List (Nat × Value)} {st : List Value} {M : sw_M} {cs w1 : List sw_Ce} {uc us : Nat} (is : List Nat) (hi : va_nd is = true) (h : is.map (fun i => (cs[i]?).map Prod.fst) = w1.map (fun c => some c.1)) (hn : sw_nd (cs.map Prod.fst)) (k : V l G μ E Z pc lv st (sw_ov M (sw_put cs is w1)) uc us) : V l G μ E Z pc lv st (sw_ov (sw_ov M cs) w1) uc us := v_mem (sw_ovp hn is hi h) k
theorem sw_hold.out {M : sw_M} {cs hs : List sw_Ce} (h : sw_hold M hs) (hd : ∀ c ∈ hs, c.1 ∉ cs.map Prod.fst) : sw_hold (sw_ov M cs) hs := fun c hc => by
  rw [sw_ov_out (hd c hc)]
  exact h c hc
