/-! the reference: one object, its rows; what they hold told by slots -/
abbrev flR (G : sw_G) (x : Nat → Int) : List Value := [sw_i (x 0), .ref (sw_al G 71), sw_i (x 2), sw_i (x 3), sw_i (x 4), .ref (sw_al G 72), .ref (sw_al G 73), .ref (sw_al G 74), .ref (sw_al G 75), .ref (sw_al G 76), .ref (sw_al G 77), .ref (sw_al G 78), .ref (sw_al G 79), .ref (sw_al G 80), sw_i (x 14), .ref (sw_al G 81), sw_j (x 16), sw_j (x 17), .ref (sw_al G 82), sw_i (x 19), .ref (sw_al G 83), sw_i (x 21), sw_i (x 22), sw_i (x 23), .ref (sw_al G 84), .ref (sw_al G 85), sw_i (x 26), sw_i (x 27), sw_j (x 28), sw_j (x 29), sw_j (x 30), sw_j (x 31), sw_j (x 32), sw_j (x 33), sw_j (x 34), sw_i (x 35), sw_i (x 36), sw_i (x 37), sw_i (x 38), sw_i (x 39), .ref (sw_al G 86), .ref (sw_al G 87), .ref (sw_al G 88), .ref (sw_al G 89), .ref (sw_al G 90), sw_i (x 45), sw_i (x 46), sw_i (x 47), .ref (sw_al G 91), .ref (sw_al G 92), sw_i (x 50), sw_i (x 51), sw_i (x 52), sw_j (x 53)]
def arL : List (Nat × Nat × Nat) := [(1, 71, 240), (5, 72, 9), (6, 73, 9), (7, 74, 72), (8, 75, 72), (9, 76, 360), (10, 77, 9), (11, 78, 9), (12, 79, 9), (13, 80, 32), (15, 81, 5), (18, 82, 50), (20, 83, 20), (24, 84, 4), (25, 85, 4), (40, 86, 105), (41, 87, 5), (42, 88, 4), (43, 89, 4), (44, 90, 4), (48, 91, 20), (49, 92, 4)]
theorem ar_1 : (1, 71, 240) ∈ arL := by decide
theorem ar_5 : (5, 72, 9) ∈ arL := by decide
theorem ar_6 : (6, 73, 9) ∈ arL := by decide
theorem ar_7 : (7, 74, 72) ∈ arL := by decide
theorem ar_8 : (8, 75, 72) ∈ arL := by decide
theorem ar_9 : (9, 76, 360) ∈ arL := by decide
theorem ar_10 : (10, 77, 9) ∈ arL := by decide
theorem ar_11 : (11, 78, 9) ∈ arL := by decide
theorem ar_12 : (12, 79, 9) ∈ arL := by decide
theorem ar_13 : (13, 80, 32) ∈ arL := by decide
theorem ar_15 : (15, 81, 5) ∈ arL := by decide
theorem ar_18 : (18, 82, 50) ∈ arL := by decide
theorem ar_20 : (20, 83, 20) ∈ arL := by decide
theorem ar_24 : (24, 84, 4) ∈ arL := by decide
theorem ar_25 : (25, 85, 4) ∈ arL := by decide
theorem ar_40 : (40, 86, 105) ∈ arL := by decide
theorem ar_41 : (41, 87, 5) ∈ arL := by decide
theorem ar_42 : (42, 88, 4) ∈ arL := by decide
theorem ar_43 : (43, 89, 4) ∈ arL := by decide
theorem ar_44 : (44, 90, 4) ∈ arL := by decide
theorem ar_48 : (48, 91, 20) ∈ arL := by decide
theorem ar_49 : (49, 92, 4) ∈ arL := by decide
theorem arL_in : ∀ q ∈ arL, ∀ r ∈ arL, (q.2.1 = r.2.1 ∨ q.1 = r.1) → q = r := by decide +kernel
theorem arL_tg : ∀ q ∈ arL, 71 ≤ q.2.1 ∧ q.2.1 < 93 ∧ q.2.2 < 2147483648 := by decide +kernel
/-- a slot has another value; a row is another -/
abbrev upn (x : Nat → Int) (k : Nat) (v : Int) : Nat → Int := fun j => if j = k then v else x j
abbrev upa (a : Nat → Int → Int) (k : Nat) (f : Int → Int) : Nat → Int → Int := fun j => if j = k then f else a j
/-- the reference stands in the memory -/
def RS (G : sw_G) (M : sw_M) (x : Nat → Int) (a : Nat → Int → Int) : Prop := M 70 = some (sw_o 10 (flR G x)) ∧ ∀ q ∈ arL, M q.2.1 = some (sw_ia q.2.2 (a q.1))
/-- what isn't the reference's stays -/
def frR (M M' : sw_M) : Prop := ∀ t, t < 70 ∨ 93 ≤ t → M' t = M t
theorem frR.rf {M : sw_M} : frR M M := fun _ _ => rfl
theorem frR.tr {A B C : sw_M} (h : frR A B) (k : frR B C) : frR A C := fun t ht => (k t ht).trans (h t ht)
theorem frR.up {A B : sw_M} (h : frR A B) {t : Nat} {x : sw_Ob} (ht : 70 ≤ t ∧ t < 93) : frR A (sw_ov B [(t, x)]) := fun u hu => (if_neg (show ¬ u = t by omega)).trans (h u hu)
theorem RS.put {G : sw_G} {M : sw_M} {x x' : Nat → Int} {a : Nat → Int → Int} (h : RS G M x a) {fs : List Value} (e : fs = flR G x') : RS G (sw_ov M [(70, sw_o 10 fs)]) x' a := by
  subst e
  refine ⟨rfl, fun q hq => ?_⟩
  have := arL_tg q hq
  exact (if_neg (show ¬ q.2.1 = 70 by omega)).trans (h.2 q hq)
theorem RS.ast {G : sw_G} {M : sw_M} {x : Nat → Int} {a : Nat → Int → Int} (h : RS G M x a) {k t n : Nat} (hq : (k, t, n) ∈ arL) (f : Int → Int) : RS G (sw_ov M [(t, sw_ia n f)]) x (upa a k f) := by
  have ht := arL_tg _ hq
  dsimp only at ht
  refine ⟨(if_neg (show ¬ 70 = t by omega)).trans h.1, fun r hr => ?_⟩
  by_cases e : r.2.1 = t
  · have e2 := arL_in r hr _ hq (Or.inl e)
    subst e2
    show (if t = t then some (sw_ia n f) else M t) = some (sw_ia n (if k = k then f else a k))
    rw [if_pos rfl, if_pos rfl]
  · have e2 : ¬ r.1 = k := fun h1 => e (by have := arL_in r hr _ hq (Or.inr h1); rw [this])
    show (if r.2.1 = t then some (sw_ia n f) else M r.2.1) = some (sw_ia r.2.2 (if r.1 = k then f else a r.1))
    rw [if_neg e, if_neg e2]; exact h.2 r hr
theorem flS_0 (G : sw_G) (x : Nat → Int) (v : Int) : (flR G x).set 0 (sw_i v) = flR G (upn x 0 v) := rfl
theorem flS_2 (G : sw_G) (x : Nat → Int) (v : Int) : (flR G x).set 2 (sw_i v) = flR G (upn x 2 v) := rfl
theorem flS_3 (G : sw_G) (x : Nat → Int) (v : Int) : (flR G x).set 3 (sw_i v) = flR G (upn x 3 v) := rfl
theorem flS_4 (G : sw_G) (x : Nat → Int) (v : Int) : (flR G x).set 4 (sw_i v) = flR G (upn x 4 v) := rfl
theorem flS_14 (G : sw_G) (x : Nat → Int) (v : Int) : (flR G x).set 14 (sw_i v) = flR G (upn x 14 v) := rfl
theorem flS_16 (G : sw_G) (x : Nat → Int) (v : Int) : (flR G x).set 16 (sw_j v) = flR G (upn x 16 v) := rfl
theorem flS_17 (G : sw_G) (x : Nat → Int) (v : Int) : (flR G x).set 17 (sw_j v) = flR G (upn x 17 v) := rfl
theorem flS_19 (G : sw_G) (x : Nat → Int) (v : Int) : (flR G x).set 19 (sw_i v) = flR G (upn x 19 v) := rfl
theorem flS_21 (G : sw_G) (x : Nat → Int) (v : Int) : (flR G x).set 21 (sw_i v) = flR G (upn x 21 v) := rfl
theorem flS_22 (G : sw_G) (x : Nat → Int) (v : Int) : (flR G x).set 22 (sw_i v) = flR G (upn x 22 v) := rfl
theorem flS_23 (G : sw_G) (x : Nat → Int) (v : Int) : (flR G x).set 23 (sw_i v) = flR G (upn x 23 v) := rfl
theorem flS_26 (G : sw_G) (x : Nat → Int) (v : Int) : (flR G x).set 26 (sw_i v) = flR G (upn x 26 v) := rfl
theorem flS_27 (G : sw_G) (x : Nat → Int) (v : Int) : (flR G x).set 27 (sw_i v) = flR G (upn x 27 v) := rfl
theorem flS_28 (G : sw_G) (x : Nat → Int) (v : Int) : (flR G x).set 28 (sw_j v) = flR G (upn x 28 v) := rfl
theorem flS_29 (G : sw_G) (x : Nat → Int) (v : Int) : (flR G x).set 29 (sw_j v) = flR G (upn x 29 v) := rfl
theorem flS_30 (G : sw_G) (x : Nat → Int) (v : Int) : (flR G x).set 30 (sw_j v) = flR G (upn x 30 v) := rfl
theorem flS_31 (G : sw_G) (x : Nat → Int) (v : Int) : (flR G x).set 31 (sw_j v) = flR G (upn x 31 v) := rfl
theorem flS_32 (G : sw_G) (x : Nat → Int) (v : Int) : (flR G x).set 32 (sw_j v) = flR G (upn x 32 v) := rfl
theorem flS_33 (G : sw_G) (x : Nat → Int) (v : Int) : (flR G x).set 33 (sw_j v) = flR G (upn x 33 v) := rfl
theorem flS_34 (G : sw_G) (x : Nat → Int) (v : Int) : (flR G x).set 34 (sw_j v) = flR G (upn x 34 v) := rfl
theorem flS_35 (G : sw_G) (x : Nat → Int) (v : Int) : (flR G x).set 35 (sw_i v) = flR G (upn x 35 v) := rfl
theorem flS_36 (G : sw_G) (x : Nat → Int) (v : Int) : (flR G x).set 36 (sw_i v) = flR G (upn x 36 v) := rfl
theorem flS_37 (G : sw_G) (x : Nat → Int) (v : Int) : (flR G x).set 37 (sw_i v) = flR G (upn x 37 v) := rfl
theorem flS_38 (G : sw_G) (x : Nat → Int) (v : Int) : (flR G x).set 38 (sw_i v) = flR G (upn x 38 v) := rfl
theorem flS_39 (G : sw_G) (x : Nat → Int) (v : Int) : (flR G x).set 39 (sw_i v) = flR G (upn x 39 v) := rfl
theorem flS_45 (G : sw_G) (x : Nat → Int) (v : Int) : (flR G x).set 45 (sw_i v) = flR G (upn x 45 v) := rfl
theorem flS_46 (G : sw_G) (x : Nat → Int) (v : Int) : (flR G x).set 46 (sw_i v) = flR G (upn x 46 v) := rfl
theorem flS_47 (G : sw_G) (x : Nat → Int) (v : Int) : (flR G x).set 47 (sw_i v) = flR G (upn x 47 v) := rfl
theorem flS_50 (G : sw_G) (x : Nat → Int) (v : Int) : (flR G x).set 50 (sw_i v) = flR G (upn x 50 v) := rfl
theorem flS_51 (G : sw_G) (x : Nat → Int) (v : Int) : (flR G x).set 51 (sw_i v) = flR G (upn x 51 v) := rfl
theorem flS_52 (G : sw_G) (x : Nat → Int) (v : Int) : (flR G x).set 52 (sw_i v) = flR G (upn x 52 v) := rfl
theorem flS_53 (G : sw_G) (x : Nat → Int) (v : Int) : (flR G x).set 53 (sw_j v) = flR G (upn x 53 v) := rfl
section
variable {l : Launch} {G : sw_G} {μ : sw_Mt} {E : State → (Nat → Prop) → Prop} {Z : sw_Z} {pc : Nat} {lv : List (Nat × Value)} {st : List Value} {M M0 : sw_M} {uc us : Nat} {x : Nat → Int} {a : Nat → Int → Int}
theorem v_rgi (k : Nat) {ix : Nat} {z : Int} (hM : RS G M x a) (hz : x k = z) (hF : sw_fl (mY μ).cls ix 10 k) (hv : (flR G x)[k]? = some (sw_i (x k))) (hd : decode (mC μ) pc = .ok (.getfield ix, 3)) (kk : V l G μ E Z (pc + 3) lv (sw_i z :: st) M uc us) : V l G μ E Z pc lv (.ref (sw_al G 70) :: st) M uc us := by
  subst hz
  exact v_getfH k hM.1 hF hv hd kk
theorem v_rgj (k : Nat) {ix : Nat} {z : Int} (hM : RS G M x a) (hz : x k = z) (hF : sw_fl (mY μ).cls ix 10 k) (hv : (flR G x)[k]? = some (sw_j (x k))) (hd : decode (mC μ) pc = .ok (.getfield ix, 3)) (kk : V l G μ E Z (pc + 3) lv (sw_j z :: st) M uc us) : V l G μ E Z pc lv (.ref (sw_al G 70) :: st) M uc us := by
  subst hz
  exact v_getfH k hM.1 hF hv hd kk
theorem v_rp (k : Nat) {ix : Nat} {v : Value} {ty : FieldType} {x' : Nat → Int} (hM : RS G M x a) (hR : frR M0 M) (hS : (flR G x).set k v = flR G x') (hF : sw_fp (mY μ).cls ix 10 k false ty) (hna : narrow ty v = v) (hfi : fits ty v = true) (hle : k < (flR G x).length) (hd : decode (mC μ) pc = .ok (.putfield ix, 3)) (kk : ∀ M, RS G M x' a → frR M0 M → V l G μ E Z (pc + 3) lv st M uc us) : V l G μ E Z pc lv (v :: .ref (sw_al G 70) :: st) M uc us :=
  v_putfH k hM.1 hF hna hfi hle hd (kk _ (hM.put hS) (hR.up (by omega)))
theorem v_ris {k t n : Nat} {z w : Int} (hM : RS G M x a) (hR : frR M0 M) (hq : (k, t, n) ∈ arL) (h0 : 0 ≤ z) (h1 : z < n) (hd : decode (mC μ) pc = .ok (.iastore, 1)) (kk : ∀ M, RS G M x (upa a k (up (a k) z w)) → frR M0 M → V l G μ E Z (pc + 1) lv st M uc us) : V l G μ E Z pc lv (sw_i w :: sw_i z :: .ref (sw_al G t) :: st) M uc us :=
  v_iastH (hM.2 _ hq) (arL_tg _ hq).2.2 h0 h1 hd (kk _ (hM.ast hq _) (hR.up (by have := arL_tg _ hq; dsimp only at this; omega)))
theorem v_ria {k t n : Nat} {z w : Int} (hM : RS G M x a) (hq : (k, t, n) ∈ arL) (h0 : 0 ≤ z) (h1 : z < n) (hw : a k z = w) (hd : decode (mC μ) pc = .ok (.iaload, 1)) (kk : V l G μ E Z (pc + 1) lv (sw_i w :: st) M uc us) : V l G μ E Z pc lv (sw_i z :: .ref (sw_al G t) :: st) M uc us := by
  subst hw
  exact v_ialdH (hM.2 _ hq) (arL_tg _ hq).2.2 h0 h1 hd kk
end

