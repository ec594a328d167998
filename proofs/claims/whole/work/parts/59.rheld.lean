/-! the reference: which SALE, which SIGN; what is thought by signs -/
theorem bI_iff {p q : Prop} [Decidable p] [Decidable q] (h : p ↔ q) : bI p = bI q := by
  unfold bI
  by_cases c : p
  · rw [if_pos c, if_pos (h.mp c)]
  · rw [if_neg c, if_neg (fun k => c (h.mpr k))]
theorem zb {p : Prop} [Decidable p] : narrow .boolean (sw_i (bI p)) = sw_i (bI p) := by
  unfold bI
  split <;> rfl
/-- all slots but these are as they were; all rows but these -/
def xfr (L : List Nat) (x x' : Nat → Int) : Prop := ∀ k, k ∉ L → x' k = x k
def afr (K : List Nat) (a a' : Nat → Int → Int) : Prop := ∀ k, k ∉ K → a' k = a k
theorem xfr.rf {L : List Nat} {x : Nat → Int} : xfr L x x := fun _ _ => rfl
theorem afr.rf {L : List Nat} {x : Nat → Int → Int} : afr L x x := fun _ _ => rfl
theorem xfr.tr {A B L : List Nat} {x y z : Nat → Int} (h : xfr A x y) (k : xfr B y z) (ha : ∀ t ∈ A, t ∈ L) (hb : ∀ t ∈ B, t ∈ L) : xfr L x z := fun t ht => (k t (fun q => ht (hb t q))).trans (h t (fun q => ht (ha t q)))
theorem afr.tr {A B L : List Nat} {x y z : Nat → Int → Int} (h : afr A x y) (k : afr B y z) (ha : ∀ t ∈ A, t ∈ L) (hb : ∀ t ∈ B, t ∈ L) : afr L x z := fun t ht => (k t (fun q => ht (hb t q))).trans (h t (fun q => ht (ha t q)))
theorem xfr.up {L : List Nat} {x y : Nat → Int} (h : xfr L x y) {k : Nat} {v : Int} (hk : k ∈ L) : xfr L x (upn y k v) := fun t ht => (upn_o (fun e => ht (by rw [e]; exact hk))).trans (h t ht)
theorem afr.up {L : List Nat} {x y : Nat → Int → Int} (h : afr L x y) {k : Nat} {f : Int → Int} (hk : k ∈ L) : afr L x (upa y k f) := fun t ht => (upa_o (fun e => ht (by rw [e]; exact hk))).trans (h t ht)
theorem rowR.fr {K : List Nat} {a a' : Nat → Int → Int} {s : Int} {σ : SaleT} (h : rowR a s σ) (f : afr K a a') (hk : ∀ t ∈ [5, 6, 7, 8, 9, 10, 11, 12], t ∉ K) : rowR a' s σ := by
  have e : ∀ t ∈ [5, 6, 7, 8, 9, 10, 11, 12], a' t = a t := fun t ht => f t (hk t ht)
  unfold rowR
  rw [e 5 (by simp), e 6 (by simp), e 7 (by simp), e 8 (by simp), e 9 (by simp), e 10 (by simp), e 11 (by simp), e 12 (by simp)]
  exact h
/-- a number to a power, times w -/
def mpw (w o : Int) : Nat → Int
  | 0 => w
  | n + 1 => mpw w o n * o
theorem mpw_mul (w o c : Int) : ∀ n, mpw (w * c) o n = mpw w o n * c
  | 0 => rfl
  | n + 1 => by
    show mpw (w * c) o n * o = mpw w o n * o * c
    rw [mpw_mul w o c n, Int.mul_assoc, Int.mul_comm c o, ← Int.mul_assoc]
/-- a TRUTH's weight with so many of each SIGN seen -/
def wS (σ : SaleT) (S : Int → Int) (t : Int) : Nat → Int
  | 0 => sW σ t
  | k + 1 => mpw (wS σ S t k) (sO σ (t * 5 + k)) (S k).toNat
theorem wS_zero (σ : SaleT) (t : Int) : ∀ n, wS σ (fun _ => 0) t n = sW σ t
  | 0 => rfl
  | n + 1 => wS_zero σ t n
theorem wS_congr {σ : SaleT} {S S' : Int → Int} (t : Int) : ∀ n : Nat, (∀ k : Nat, k < n → S k = S' k) → wS σ S t n = wS σ S' t n
  | 0, _ => rfl
  | n + 1, h => by
    show mpw (wS σ S t n) (sO σ (t * 5 + n)) (S n).toNat = mpw (wS σ S' t n) (sO σ (t * 5 + n)) (S' n).toNat
    rw [wS_congr t n (fun k hk => h k (by omega)), h n (by omega)]
theorem wS_add {σ : SaleT} {S : Int → Int} {t c : Int} (hS : ∀ k : Int, 0 ≤ S k) : ∀ n : Nat, wS σ (fun k => S k + (if k = c then 1 else 0)) t n = wS σ S t n * (if 0 ≤ c ∧ c < (n : Int) then sO σ (t * 5 + c) else 1)
  | 0 => by
    rw [if_neg (by omega), Int.mul_one]; rfl
  | n + 1 => by
    show mpw (wS σ (fun k => S k + (if k = c then 1 else 0)) t n) (sO σ (t * 5 + n)) (S n + (if (n : Int) = c then 1 else 0)).toNat = mpw (wS σ S t n) (sO σ (t * 5 + n)) (S n).toNat * _
    rw [wS_add hS n]
    have h0 := hS n
    by_cases e : (n : Int) = c
    · rw [if_pos e, if_neg (by omega), if_pos (by omega), Int.mul_one, show (S n + 1).toNat = (S n).toNat + 1 by omega, ← e]; rfl
    · rw [if_neg e, Int.add_zero]
      by_cases e2 : 0 ≤ c ∧ c < (n : Int)
      · rw [if_pos e2, if_pos (by omega), mpw_mul]
      · rw [if_neg e2, if_neg (by omega), Int.mul_one, Int.mul_one]
/-- how many of four are this one -/
def cn4 (a b c d k : Int) : Int := (if k = a then 1 else 0) + (if k = b then 1 else 0) + (if k = c then 1 else 0) + (if k = d then 1 else 0)
theorem cn4_bd (a b c d k : Int) : 0 ≤ cn4 a b c d k ∧ cn4 a b c d k ≤ 4 := by
  unfold cn4
  split <;> split <;> split <;> split <;> omega
theorem wS_cn {σ : SaleT} (hsg : sSg σ ≤ 5) {a b c d : Int} (ha : soN σ a) (hb : soN σ b) (hc : soN σ c) (hd : soN σ d) (t : Int) : wS σ (cn4 a b c d) t 5 = wgt σ a b c d t := by
  have hz : ∀ (p : Prop) [Decidable p], 0 ≤ (if p then (1 : Int) else 0) := fun p _ => by split <;> omega
  have hs : ∀ {q : Int}, soN σ q → (if 0 ≤ q ∧ q < ((5 : Nat) : Int) then sO σ (t * 5 + q) else 1) = see σ t q := by
    intro q hq
    unfold soN at hq
    unfold see
    by_cases e : 0 ≤ q ∧ q < sSg σ
    · rw [if_pos e, if_pos (by omega)]
    · rw [if_neg e, if_neg (by omega)]
  have e1 : wS σ (fun k => (fun k => (fun k => (fun k => (fun _ => (0 : Int)) k + (if k = a then 1 else 0)) k + (if k = b then 1 else 0)) k + (if k = c then 1 else 0)) k + (if k = d then 1 else 0)) t 5 = wgt σ a b c d t := by
    rw [wS_add (fun k => by have h1 := hz (k = a); have h2 := hz (k = b); have h3 := hz (k = c); dsimp only; omega), wS_add (fun k => by have h1 := hz (k = a); have h2 := hz (k = b); dsimp only; omega), wS_add (fun k => by have h1 := hz (k = a); dsimp only; omega), wS_add (fun k => Int.le_refl 0), wS_zero, hs ha, hs hb, hs hc, hs hd]
    rfl
  rw [← e1]
  refine wS_congr t 5 (fun k hk => ?_)
  show cn4 a b c d k = 0 + (if (k : Int) = a then 1 else 0) + (if (k : Int) = b then 1 else 0) + (if (k : Int) = c then 1 else 0) + (if (k : Int) = d then 1 else 0)
  unfold cn4
  omega
section
variable {l : Launch} {G : sw_G} {M : sw_M} {x : Nat → Int} {a : Nat → Int → Int}
theorem K10_isSale {s N : Int} (hM : RS G M x a) (h14 : x 14 = N) (hN : 0 ≤ N ∧ N ≤ 8) (hs : sw_rg s) : Kt l G μX10_isSale [.ref (sw_al G 70), sw_i s] M (fun r M' => r = some (sw_i (bI (0 ≤ s ∧ s < N))) ∧ M' = M) := by
  refine KtA.of (by decide +kernel) (Nat.le_of_ble_eq_true rfl) ?_
  refine v_iload_n dX10_isSale_0 rfl ?_
  refine v_iconst dX10_isSale_1 ?_
  refine v_aload_n dX10_isSale_2 rfl ?_
  refine v_rgi 14 hM h14 fl_X10_126 rfl dX10_isSale_3 ?_
  refine v_iconst dX10_isSale_6 ?_
  refine v_isub dX10_isSale_7 ?_
  refine v_callS (K10_in (v := s) (lo := 0) (hi := N - 1) hs ⟨by omega, by omega⟩ ⟨by omega, by omega⟩) ⟨rfl, rfl⟩ (Nat.le_refl _) (Nat.le_refl _) ⟨ml_X10_107, mm_X10_in⟩ ⟨(Nat.le_of_ble_eq_true rfl), (Nat.le_of_ble_eq_true rfl)⟩ mp_X10_in rfl rfl (Nat.le_of_ble_eq_true rfl) dX10_isSale_8 (fun r M' h => ?_)
  obtain ⟨rfl, rfl⟩ := h
  rw [bI_iff (show (0 ≤ s ∧ s ≤ N - 1) ↔ (0 ≤ s ∧ s < N) by omega)]
  exact v_zret zb dX10_isSale_11 rfl (Nat.le_refl _) (Nat.le_refl _) ⟨rfl, rfl⟩
theorem K10_isSign {s k sg : Int} (hM : RS G M x a) (h5 : a 5 s = sg) (hsg : 0 ≤ sg ∧ sg ≤ 5) (hs : 0 ≤ s ∧ s < 9) (hk : sw_rg k) : Kt l G μX10_isSign [.ref (sw_al G 70), sw_i s, sw_i k] M (fun r M' => r = some (sw_i (bI (0 ≤ k ∧ k < sg))) ∧ M' = M) := by
  refine KtA.of (by decide +kernel) (Nat.le_of_ble_eq_true rfl) ?_
  refine v_iload_n dX10_isSign_0 rfl ?_
  refine v_iconst dX10_isSign_1 ?_
  refine v_aload_n dX10_isSign_2 rfl ?_
  refine v_getfH 5 hM.1 fl_X10_13 rfl dX10_isSign_3 ?_
  refine v_iload_n dX10_isSign_6 rfl ?_
  refine v_ria hM ar_5 (by omega) (by omega) h5 dX10_isSign_7 ?_
  refine v_iconst dX10_isSign_8 ?_
  refine v_isub dX10_isSign_9 ?_
  refine v_callS (K10_in (v := k) (lo := 0) (hi := sg - 1) hk ⟨by omega, by omega⟩ ⟨by omega, by omega⟩) ⟨rfl, rfl⟩ (Nat.le_refl _) (Nat.le_refl _) ⟨ml_X10_107, mm_X10_in⟩ ⟨(Nat.le_of_ble_eq_true rfl), (Nat.le_of_ble_eq_true rfl)⟩ mp_X10_in rfl rfl (Nat.le_of_ble_eq_true rfl) dX10_isSign_10 (fun r M' h => ?_)
  obtain ⟨rfl, rfl⟩ := h
  rw [bI_iff (show (0 ≤ k ∧ k ≤ sg - 1) ↔ (0 ≤ k ∧ k < sg) by omega)]
  exact v_zret zb dX10_isSign_13 rfl (Nat.le_refl _) (Nat.le_refl _) ⟨rfl, rfl⟩
theorem K10_isSignOrNone {s k sg : Int} (hM : RS G M x a) (h5 : a 5 s = sg) (hsg : 0 ≤ sg ∧ sg ≤ 5) (hs : 0 ≤ s ∧ s < 9) (hk : sw_rg k) : Kt l G μX10_isSignOrNone [.ref (sw_al G 70), sw_i s, sw_i k] M (fun r M' => r = some (sw_i (bI (k = -1 ∨ 0 ≤ k ∧ k < sg))) ∧ M' = M) := by
  refine KtA.of (by decide +kernel) (Nat.le_of_ble_eq_true rfl) ?_
  obtain ⟨k0, k1⟩ := id hk
  refine v_iload_n dX10_isSignOrNone_0 rfl ?_
  refine v_iconst dX10_isSignOrNone_1 ?_
  refine v_icmp_eq (tgt := 14) dX10_isSignOrNone_2 (by decide) ⟨by omega, by omega⟩ ⟨by omega, by omega⟩ (fun h2 => ?_) (fun h2 => ?_)
  · skip
    refine v_iconst dX10_isSignOrNone_14 ?_
    refine v_goto (tgt := 19) dX10_isSignOrNone_15 (by decide) ?_
    exact v_zret rfl dX10_isSignOrNone_19 rfl (Nat.le_refl _) (Nat.le_refl _) (⟨by unfold bI; rw [if_pos (Or.inl (by omega))], rfl⟩)
  · skip
    refine v_aload_n dX10_isSignOrNone_5 rfl ?_
    refine v_iload_n dX10_isSignOrNone_6 rfl ?_
    refine v_iload_n dX10_isSignOrNone_7 rfl ?_
    refine v_callV (ci := 10) (K10_isSign hM h5 hsg hs hk) ⟨rfl, rfl⟩ (Nat.le_refl _) (Nat.le_refl _) hM.1 rfl ⟨ml_X10_162, mm_X10_isSign⟩ ⟨(Nat.le_of_ble_eq_true rfl), (Nat.le_of_ble_eq_true rfl)⟩ mp_X10_isSign rfl rfl (Nat.le_of_ble_eq_true rfl) dX10_isSignOrNone_8 (fun r M' h => ?_)
    obtain ⟨rfl, rfl⟩ := h
    refine v_ifb_eq (tgt := 18) dX10_isSignOrNone_11 (by decide) (fun q => ?_) (fun q => ?_)
    · skip
      refine v_iconst dX10_isSignOrNone_18 ?_
      exact v_zret rfl dX10_isSignOrNone_19 rfl (Nat.le_refl _) (Nat.le_refl _) (⟨by unfold bI; rw [if_neg (fun h => h.elim (fun e => by omega) q)], rfl⟩)
    · skip
      refine v_iconst dX10_isSignOrNone_14 ?_
      refine v_goto (tgt := 19) dX10_isSignOrNone_15 (by decide) ?_
      exact v_zret rfl dX10_isSignOrNone_19 rfl (Nat.le_refl _) (Nat.le_refl _) (⟨by unfold bI; rw [if_pos (Or.inr q)], rfl⟩)
theorem K10_isSeat {s k N nb : Int} (hM : RS G M x a) (h14 : x 14 = N) (hN : 0 ≤ N ∧ N ≤ 8) (h10 : 0 ≤ s ∧ s < N → a 10 s = nb) (hnb : 0 ≤ nb ∧ nb ≤ 4) (hs : sw_rg s) (hk : sw_rg k) : Kt l G μX10_isSeat [.ref (sw_al G 70), sw_i s, sw_i k] M (fun r M' => r = some (sw_i (bI ((0 ≤ s ∧ s < N) ∧ 0 ≤ k ∧ k < nb))) ∧ M' = M) := by
  refine KtA.of (by decide +kernel) (Nat.le_of_ble_eq_true rfl) ?_
  refine v_aload_n dX10_isSeat_0 rfl ?_
  refine v_iload_n dX10_isSeat_1 rfl ?_
  refine v_callV (ci := 10) (K10_isSale hM h14 hN hs) ⟨rfl, rfl⟩ (Nat.le_refl _) (Nat.le_refl _) hM.1 rfl ⟨ml_X10_129, mm_X10_isSale⟩ ⟨(Nat.le_of_ble_eq_true rfl), (Nat.le_of_ble_eq_true rfl)⟩ mp_X10_isSale rfl rfl (Nat.le_of_ble_eq_true rfl) dX10_isSeat_2 (fun r M' h => ?_)
  obtain ⟨rfl, rfl⟩ := h
  refine v_ifb_eq (tgt := 28) dX10_isSeat_5 (by decide) (fun q => ?_) (fun q => ?_)
  · skip
    refine v_iconst dX10_isSeat_28 ?_
    exact v_zret rfl dX10_isSeat_29 rfl (Nat.le_refl _) (Nat.le_refl _) (⟨by unfold bI; rw [if_neg (fun h => q h.1)], rfl⟩)
  · skip
    refine v_iload_n dX10_isSeat_8 rfl ?_
    refine v_iconst dX10_isSeat_9 ?_
    refine v_aload_n dX10_isSeat_10 rfl ?_
    refine v_getfH 10 hM.1 fl_X10_28 rfl dX10_isSeat_11 ?_
    refine v_iload_n dX10_isSeat_14 rfl ?_
    refine v_ria hM ar_10 (by omega) (by omega) (h10 q) dX10_isSeat_15 ?_
    refine v_iconst dX10_isSeat_16 ?_
    refine v_isub dX10_isSeat_17 ?_
    refine v_callS (K10_in (v := k) (lo := 0) (hi := nb - 1) hk ⟨by omega, by omega⟩ ⟨by omega, by omega⟩) ⟨rfl, rfl⟩ (Nat.le_refl _) (Nat.le_refl _) ⟨ml_X10_107, mm_X10_in⟩ ⟨(Nat.le_of_ble_eq_true rfl), (Nat.le_of_ble_eq_true rfl)⟩ mp_X10_in rfl rfl (Nat.le_of_ble_eq_true rfl) dX10_isSeat_18 (fun r M' h => ?_)
    obtain ⟨rfl, rfl⟩ := h
    refine v_ifb_eq (tgt := 28) dX10_isSeat_21 (by decide) (fun q2 => ?_) (fun q2 => ?_)
    · skip
      refine v_iconst dX10_isSeat_28 ?_
      exact v_zret rfl dX10_isSeat_29 rfl (Nat.le_refl _) (Nat.le_refl _) (⟨by unfold bI; rw [if_neg (fun h => q2 ⟨h.2.1, by omega⟩)], rfl⟩)
    · skip
      refine v_iconst dX10_isSeat_24 ?_
      refine v_goto (tgt := 29) dX10_isSeat_25 (by decide) ?_
      exact v_zret rfl dX10_isSeat_29 rfl (Nat.le_refl _) (Nat.le_refl _) (⟨by unfold bI; rw [if_pos ⟨q, q2.1, by omega⟩], rfl⟩)
theorem K10_allWeights {s : Int} {σ : SaleT} (hM : RS G M x a) (hr : rowR a s σ) (hs : 0 ≤ s ∧ s < 9) (ht : 0 ≤ sTr σ ∧ sTr σ ≤ 8) : Kt l G μX10_allWeights [.ref (sw_al G 70), sw_i s] M (fun r M' => r = some (sw_i (sm (sW σ) (sTr σ).toNat)) ∧ M' = M) := by
  refine KtA.of (by decide +kernel) (Nat.le_of_ble_eq_true rfl) ?_
  obtain ⟨q5, q6, q10, q11, q12, qr⟩ := hr
  have loop : ∀ (n : Nat) (t : Int), 0 ≤ t → t + n = sTr σ → V l G μX10_allWeights sw_E0 (sw_Zq G μX10_allWeights (sw_q0 G (fun r M' => r = some (sw_i (sm (sW σ) (sTr σ).toNat)) ∧ M' = M))) 4 [(0, .ref (sw_al G 70)), (1, sw_i s), (2, sw_i (sm (sW σ) t.toNat)), (3, sw_i t)] [] M 0 0 := by
    intro n
    induction n with
    | zero =>
      intro t t0 tn
      have e : t = sTr σ := by omega
      subst e
      refine v_iload_n dX10_allWeights_4 rfl ?_
      refine v_aload_n dX10_allWeights_5 rfl ?_
      refine v_getfH 6 hM.1 fl_X10_16 rfl dX10_allWeights_6 ?_
      refine v_iload_n dX10_allWeights_9 rfl ?_
      refine v_ria hM ar_6 (by omega) (by omega) q6 dX10_allWeights_10 ?_
      refine v_icmp_ge (tgt := 34) dX10_allWeights_11 (by decide) ⟨by omega, by omega⟩ ⟨by omega, by omega⟩ (fun h11 => ?_) (fun h11 => ?_)
      · skip
        refine v_iload_n dX10_allWeights_34 rfl ?_
        exact v_iret dX10_allWeights_35 rfl (Nat.le_refl _) (Nat.le_refl _) (⟨rfl, rfl⟩)
      · skip
        exfalso; omega
    | succ n ih =>
      intro t t0 tn
      refine v_iload_n dX10_allWeights_4 rfl ?_
      refine v_aload_n dX10_allWeights_5 rfl ?_
      refine v_getfH 6 hM.1 fl_X10_16 rfl dX10_allWeights_6 ?_
      refine v_iload_n dX10_allWeights_9 rfl ?_
      refine v_ria hM ar_6 (by omega) (by omega) q6 dX10_allWeights_10 ?_
      refine v_icmp_ge (tgt := 34) dX10_allWeights_11 (by decide) ⟨by omega, by omega⟩ ⟨by omega, by omega⟩ (fun h11 => ?_) (fun h11 => ?_)
      · skip
        exfalso; omega
      · skip
        refine v_iload_n dX10_allWeights_14 rfl ?_
        refine v_aload_n dX10_allWeights_15 rfl ?_
        refine v_getfH 8 hM.1 fl_X10_22 rfl dX10_allWeights_16 ?_
        refine v_bipush dX10_allWeights_19 (by decide +kernel) ?_
        refine v_iload_n dX10_allWeights_21 rfl ?_
        refine v_imul dX10_allWeights_22 ?_
        refine v_iload_n dX10_allWeights_23 rfl ?_
        refine v_iadd dX10_allWeights_24 ?_
        refine v_ria hM ar_8 (by omega) (by omega) (qr t t0 (by omega)).2.1 dX10_allWeights_25 ?_
        refine v_iadd dX10_allWeights_26 ?_
        refine v_istore_n dX10_allWeights_27 (Nat.le_of_ble_eq_true rfl) ?_
        refine v_iinc dX10_allWeights_28 rfl (Nat.le_of_ble_eq_true rfl) ?_
        refine v_goto (tgt := 4) dX10_allWeights_31 (by decide) ?_
        refine v_to (ih (t + 1) (by omega) (by omega)) rfl ?_
        rw [sm_step _ t0]
        exact sw_h1 rfl (sw_h1 rfl (sw_h1 rfl (sw_h1 rfl sw_h0)))
  refine v_iconst dX10_allWeights_0 ?_
  refine v_istore_n dX10_allWeights_1 (Nat.le_of_ble_eq_true rfl) ?_
  refine v_iconst dX10_allWeights_2 ?_
  refine v_istore_n dX10_allWeights_3 (Nat.le_of_ble_eq_true rfl) ?_
  exact v_to (loop (sTr σ).toNat 0 (by omega) (by omega)) rfl (sw_h1 rfl (sw_h1 rfl (sw_h1 rfl (sw_h1 rfl sw_h0))))
theorem K10_see {p q r' s' : Int} (hM : RS G M x a) (hp : sw_rg p) (hq : sw_rg q) (hr : sw_rg r') (hs : sw_rg s') : Kt l G μX10_see [.ref (sw_al G 70), sw_i p, sw_i q, sw_i r', sw_i s'] M (fun r M' => ∃ S, r = none ∧ RS G M' x (upa a 15 S) ∧ frR M M' ∧ ∀ k, 0 ≤ k → k < 5 → S k = cn4 p q r' s' k) := by
  refine KtA.of (by decide +kernel) (Nat.le_of_ble_eq_true rfl) ?_
  obtain ⟨p1, p2⟩ := hp
  obtain ⟨q1, q2⟩ := hq
  obtain ⟨r1, r2⟩ := hr
  obtain ⟨s1, s2⟩ := hs
  obtain ⟨Zq, hZ⟩ : ∃ Zq : Option Value → sw_M → Prop, Zq = (fun r M' => ∃ S, r = none ∧ RS G M' x (upa a 15 S) ∧ frR M M' ∧ ∀ k, 0 ≤ k → k < 5 → S k = cn4 p q r' s' k) := ⟨_, rfl⟩
  rw [← hZ]
  have loop : ∀ (n : Nat) (k : Int) (S : Int → Int) (M1 : sw_M), 0 ≤ k → k + n = 5 → RS G M1 x (upa a 15 S) → frR M M1 → (∀ j, 0 ≤ j → j < k → S j = cn4 p q r' s' j) → V l G μX10_see sw_E0 (sw_Zq G μX10_see (sw_q0 G Zq)) 3 [(0, .ref (sw_al G 70)), (1, sw_i p), (2, sw_i q), (3, sw_i r'), (4, sw_i s'), (5, sw_i k)] [] M1 0 0 := by
    intro n
    induction n with
    | zero =>
      intro k S M1 k0 kn hM hF hS
      refine v_iload dX10_see_3 rfl ?_
      refine v_iconst dX10_see_5 ?_
      refine v_icmp_ge (tgt := 70) dX10_see_6 (by decide) ⟨by omega, by omega⟩ ⟨by omega, by omega⟩ (fun h6 => ?_) (fun h6 => ?_)
      · skip
        exact v_vret dX10_see_70 rfl (Nat.le_refl _) (Nat.le_refl _) (by rw [hZ]; exact ⟨S, rfl, hM, hF, fun j j0 j1 => hS j j0 (by omega)⟩)
      · skip
        exfalso; omega
    | succ n ih =>
      intro k S M1 k0 kn hM hF hS
      have nxt : ∀ v, v = cn4 p q r' s' k → ∀ M2, RS G M2 x (upa a 15 (up S k v)) → frR M M2 → V l G μX10_see sw_E0 (sw_Zq G μX10_see (sw_q0 G Zq)) 3 [(0, .ref (sw_al G 70)), (1, sw_i p), (2, sw_i q), (3, sw_i r'), (4, sw_i s'), (5, sw_i (k + 1))] [] M2 0 0 := fun v hv M2 g1 g2 => ih (k + 1) _ M2 (by omega) (by omega) g1 g2 (fun j j0 j1 => by
        by_cases c : j = k
        · subst c; rw [up_eq, hv]
        · rw [up_ne c]; exact hS j j0 (by omega))
      refine v_iload dX10_see_3 rfl ?_
      refine v_iconst dX10_see_5 ?_
      refine v_icmp_ge (tgt := 70) dX10_see_6 (by decide) ⟨by omega, by omega⟩ ⟨by omega, by omega⟩ (fun h6 => ?_) (fun h6 => ?_)
      · skip
        exfalso; omega
      · skip
        refine v_aload_n dX10_see_9 rfl ?_
        refine v_getfH 15 hM.1 fl_X10_40 rfl dX10_see_10 ?_
        refine v_iload dX10_see_13 rfl ?_
        refine v_iload dX10_see_15 rfl ?_
        refine v_iload_n dX10_see_17 rfl ?_
        refine v_icmp_ne (tgt := 25) dX10_see_18 (by decide) ⟨by omega, by omega⟩ ⟨by omega, by omega⟩ (fun h18 => ?_) (fun h18 => ?_)
        · skip
          refine v_iconst dX10_see_25 ?_
          refine v_iload dX10_see_26 rfl ?_
          refine v_iload_n dX10_see_28 rfl ?_
          refine v_icmp_ne (tgt := 36) dX10_see_29 (by decide) ⟨by omega, by omega⟩ ⟨by omega, by omega⟩ (fun h29 => ?_) (fun h29 => ?_)
          · skip
            refine v_iconst dX10_see_36 ?_
            refine v_iadd dX10_see_37 ?_
            refine v_iload dX10_see_38 rfl ?_
            refine v_iload_n dX10_see_40 rfl ?_
            refine v_icmp_ne (tgt := 48) dX10_see_41 (by decide) ⟨by omega, by omega⟩ ⟨by omega, by omega⟩ (fun h41 => ?_) (fun h41 => ?_)
            · skip
              refine v_iconst dX10_see_48 ?_
              refine v_iadd dX10_see_49 ?_
              refine v_iload dX10_see_50 rfl ?_
              refine v_iload dX10_see_52 rfl ?_
              refine v_icmp_ne (tgt := 61) dX10_see_54 (by decide) ⟨by omega, by omega⟩ ⟨by omega, by omega⟩ (fun h54 => ?_) (fun h54 => ?_)
              · skip
                refine v_iconst dX10_see_61 ?_
                refine v_iadd dX10_see_62 ?_
                refine v_ris hM hF ar_15 (by omega) (by omega) dX10_see_63 (fun M hM hF => ?_)
                refine v_iinc dX10_see_64 rfl (Nat.le_of_ble_eq_true rfl) ?_
                refine v_goto (tgt := 3) dX10_see_67 (by decide) ?_
                rw [upa_upa, upa_s] at hM
                exact v_to (nxt _ (by unfold cn4; (repeat' split) <;> omega) _ hM hF) rfl (sw_h1 rfl (sw_h1 rfl (sw_h1 rfl (sw_h1 rfl (sw_h1 rfl (sw_h1 rfl sw_h0))))))
              · skip
                refine v_iconst dX10_see_57 ?_
                refine v_goto (tgt := 62) dX10_see_58 (by decide) ?_
                refine v_iadd dX10_see_62 ?_
                refine v_ris hM hF ar_15 (by omega) (by omega) dX10_see_63 (fun M hM hF => ?_)
                refine v_iinc dX10_see_64 rfl (Nat.le_of_ble_eq_true rfl) ?_
                refine v_goto (tgt := 3) dX10_see_67 (by decide) ?_
                rw [upa_upa, upa_s] at hM
                exact v_to (nxt _ (by unfold cn4; (repeat' split) <;> omega) _ hM hF) rfl (sw_h1 rfl (sw_h1 rfl (sw_h1 rfl (sw_h1 rfl (sw_h1 rfl (sw_h1 rfl sw_h0))))))
            · skip
              refine v_iconst dX10_see_44 ?_
              refine v_goto (tgt := 49) dX10_see_45 (by decide) ?_
              refine v_iadd dX10_see_49 ?_
              refine v_iload dX10_see_50 rfl ?_
              refine v_iload dX10_see_52 rfl ?_
              refine v_icmp_ne (tgt := 61) dX10_see_54 (by decide) ⟨by omega, by omega⟩ ⟨by omega, by omega⟩ (fun h54 => ?_) (fun h54 => ?_)
              · skip
                refine v_iconst dX10_see_61 ?_
                refine v_iadd dX10_see_62 ?_
                refine v_ris hM hF ar_15 (by omega) (by omega) dX10_see_63 (fun M hM hF => ?_)
                refine v_iinc dX10_see_64 rfl (Nat.le_of_ble_eq_true rfl) ?_
                refine v_goto (tgt := 3) dX10_see_67 (by decide) ?_
                rw [upa_upa, upa_s] at hM
                exact v_to (nxt _ (by unfold cn4; (repeat' split) <;> omega) _ hM hF) rfl (sw_h1 rfl (sw_h1 rfl (sw_h1 rfl (sw_h1 rfl (sw_h1 rfl (sw_h1 rfl sw_h0))))))
              · skip
                refine v_iconst dX10_see_57 ?_
                refine v_goto (tgt := 62) dX10_see_58 (by decide) ?_
                refine v_iadd dX10_see_62 ?_
                refine v_ris hM hF ar_15 (by omega) (by omega) dX10_see_63 (fun M hM hF => ?_)
                refine v_iinc dX10_see_64 rfl (Nat.le_of_ble_eq_true rfl) ?_
                refine v_goto (tgt := 3) dX10_see_67 (by decide) ?_
                rw [upa_upa, upa_s] at hM
                exact v_to (nxt _ (by unfold cn4; (repeat' split) <;> omega) _ hM hF) rfl (sw_h1 rfl (sw_h1 rfl (sw_h1 rfl (sw_h1 rfl (sw_h1 rfl (sw_h1 rfl sw_h0))))))
          · skip
            refine v_iconst dX10_see_32 ?_
            refine v_goto (tgt := 37) dX10_see_33 (by decide) ?_
            refine v_iadd dX10_see_37 ?_
            refine v_iload dX10_see_38 rfl ?_
            refine v_iload_n dX10_see_40 rfl ?_
            refine v_icmp_ne (tgt := 48) dX10_see_41 (by decide) ⟨by omega, by omega⟩ ⟨by omega, by omega⟩ (fun h41 => ?_) (fun h41 => ?_)
            · skip
              refine v_iconst dX10_see_48 ?_
              refine v_iadd dX10_see_49 ?_
              refine v_iload dX10_see_50 rfl ?_
              refine v_iload dX10_see_52 rfl ?_
              refine v_icmp_ne (tgt := 61) dX10_see_54 (by decide) ⟨by omega, by omega⟩ ⟨by omega, by omega⟩ (fun h54 => ?_) (fun h54 => ?_)
              · skip
                refine v_iconst dX10_see_61 ?_
                refine v_iadd dX10_see_62 ?_
                refine v_ris hM hF ar_15 (by omega) (by omega) dX10_see_63 (fun M hM hF => ?_)
                refine v_iinc dX10_see_64 rfl (Nat.le_of_ble_eq_true rfl) ?_
                refine v_goto (tgt := 3) dX10_see_67 (by decide) ?_
                rw [upa_upa, upa_s] at hM
                exact v_to (nxt _ (by unfold cn4; (repeat' split) <;> omega) _ hM hF) rfl (sw_h1 rfl (sw_h1 rfl (sw_h1 rfl (sw_h1 rfl (sw_h1 rfl (sw_h1 rfl sw_h0))))))
              · skip
                refine v_iconst dX10_see_57 ?_
                refine v_goto (tgt := 62) dX10_see_58 (by decide) ?_
                refine v_iadd dX10_see_62 ?_
                refine v_ris hM hF ar_15 (by omega) (by omega) dX10_see_63 (fun M hM hF => ?_)
                refine v_iinc dX10_see_64 rfl (Nat.le_of_ble_eq_true rfl) ?_
                refine v_goto (tgt := 3) dX10_see_67 (by decide) ?_
                rw [upa_upa, upa_s] at hM
                exact v_to (nxt _ (by unfold cn4; (repeat' split) <;> omega) _ hM hF) rfl (sw_h1 rfl (sw_h1 rfl (sw_h1 rfl (sw_h1 rfl (sw_h1 rfl (sw_h1 rfl sw_h0))))))
            · skip
              refine v_iconst dX10_see_44 ?_
              refine v_goto (tgt := 49) dX10_see_45 (by decide) ?_
              refine v_iadd dX10_see_49 ?_
              refine v_iload dX10_see_50 rfl ?_
              refine v_iload dX10_see_52 rfl ?_
              refine v_icmp_ne (tgt := 61) dX10_see_54 (by decide) ⟨by omega, by omega⟩ ⟨by omega, by omega⟩ (fun h54 => ?_) (fun h54 => ?_)
              · skip
                refine v_iconst dX10_see_61 ?_
                refine v_iadd dX10_see_62 ?_
                refine v_ris hM hF ar_15 (by omega) (by omega) dX10_see_63 (fun M hM hF => ?_)
                refine v_iinc dX10_see_64 rfl (Nat.le_of_ble_eq_true rfl) ?_
                refine v_goto (tgt := 3) dX10_see_67 (by decide) ?_
                rw [upa_upa, upa_s] at hM
                exact v_to (nxt _ (by unfold cn4; (repeat' split) <;> omega) _ hM hF) rfl (sw_h1 rfl (sw_h1 rfl (sw_h1 rfl (sw_h1 rfl (sw_h1 rfl (sw_h1 rfl sw_h0))))))
              · skip
                refine v_iconst dX10_see_57 ?_
                refine v_goto (tgt := 62) dX10_see_58 (by decide) ?_
                refine v_iadd dX10_see_62 ?_
                refine v_ris hM hF ar_15 (by omega) (by omega) dX10_see_63 (fun M hM hF => ?_)
                refine v_iinc dX10_see_64 rfl (Nat.le_of_ble_eq_true rfl) ?_
                refine v_goto (tgt := 3) dX10_see_67 (by decide) ?_
                rw [upa_upa, upa_s] at hM
                exact v_to (nxt _ (by unfold cn4; (repeat' split) <;> omega) _ hM hF) rfl (sw_h1 rfl (sw_h1 rfl (sw_h1 rfl (sw_h1 rfl (sw_h1 rfl (sw_h1 rfl sw_h0))))))
        · skip
          refine v_iconst dX10_see_21 ?_
          refine v_goto (tgt := 26) dX10_see_22 (by decide) ?_
          refine v_iload dX10_see_26 rfl ?_
          refine v_iload_n dX10_see_28 rfl ?_
          refine v_icmp_ne (tgt := 36) dX10_see_29 (by decide) ⟨by omega, by omega⟩ ⟨by omega, by omega⟩ (fun h29 => ?_) (fun h29 => ?_)
          · skip
            refine v_iconst dX10_see_36 ?_
            refine v_iadd dX10_see_37 ?_
            refine v_iload dX10_see_38 rfl ?_
            refine v_iload_n dX10_see_40 rfl ?_
            refine v_icmp_ne (tgt := 48) dX10_see_41 (by decide) ⟨by omega, by omega⟩ ⟨by omega, by omega⟩ (fun h41 => ?_) (fun h41 => ?_)
            · skip
              refine v_iconst dX10_see_48 ?_
              refine v_iadd dX10_see_49 ?_
              refine v_iload dX10_see_50 rfl ?_
              refine v_iload dX10_see_52 rfl ?_
              refine v_icmp_ne (tgt := 61) dX10_see_54 (by decide) ⟨by omega, by omega⟩ ⟨by omega, by omega⟩ (fun h54 => ?_) (fun h54 => ?_)
              · skip
                refine v_iconst dX10_see_61 ?_
                refine v_iadd dX10_see_62 ?_
                refine v_ris hM hF ar_15 (by omega) (by omega) dX10_see_63 (fun M hM hF => ?_)
                refine v_iinc dX10_see_64 rfl (Nat.le_of_ble_eq_true rfl) ?_
                refine v_goto (tgt := 3) dX10_see_67 (by decide) ?_
                rw [upa_upa, upa_s] at hM
                exact v_to (nxt _ (by unfold cn4; (repeat' split) <;> omega) _ hM hF) rfl (sw_h1 rfl (sw_h1 rfl (sw_h1 rfl (sw_h1 rfl (sw_h1 rfl (sw_h1 rfl sw_h0))))))
              · skip
                refine v_iconst dX10_see_57 ?_
                refine v_goto (tgt := 62) dX10_see_58 (by decide) ?_
                refine v_iadd dX10_see_62 ?_
                refine v_ris hM hF ar_15 (by omega) (by omega) dX10_see_63 (fun M hM hF => ?_)
                refine v_iinc dX10_see_64 rfl (Nat.le_of_ble_eq_true rfl) ?_
                refine v_goto (tgt := 3) dX10_see_67 (by decide) ?_
                rw [upa_upa, upa_s] at hM
                exact v_to (nxt _ (by unfold cn4; (repeat' split) <;> omega) _ hM hF) rfl (sw_h1 rfl (sw_h1 rfl (sw_h1 rfl (sw_h1 rfl (sw_h1 rfl (sw_h1 rfl sw_h0))))))
            · skip
              refine v_iconst dX10_see_44 ?_
              refine v_goto (tgt := 49) dX10_see_45 (by decide) ?_
              refine v_iadd dX10_see_49 ?_
              refine v_iload dX10_see_50 rfl ?_
              refine v_iload dX10_see_52 rfl ?_
              refine v_icmp_ne (tgt := 61) dX10_see_54 (by decide) ⟨by omega, by omega⟩ ⟨by omega, by omega⟩ (fun h54 => ?_) (fun h54 => ?_)
              · skip
                refine v_iconst dX10_see_61 ?_
                refine v_iadd dX10_see_62 ?_
                refine v_ris hM hF ar_15 (by omega) (by omega) dX10_see_63 (fun M hM hF => ?_)
                refine v_iinc dX10_see_64 rfl (Nat.le_of_ble_eq_true rfl) ?_
                refine v_goto (tgt := 3) dX10_see_67 (by decide) ?_
                rw [upa_upa, upa_s] at hM
                exact v_to (nxt _ (by unfold cn4; (repeat' split) <;> omega) _ hM hF) rfl (sw_h1 rfl (sw_h1 rfl (sw_h1 rfl (sw_h1 rfl (sw_h1 rfl (sw_h1 rfl sw_h0))))))
              · skip
                refine v_iconst dX10_see_57 ?_
                refine v_goto (tgt := 62) dX10_see_58 (by decide) ?_
                refine v_iadd dX10_see_62 ?_
                refine v_ris hM hF ar_15 (by omega) (by omega) dX10_see_63 (fun M hM hF => ?_)
                refine v_iinc dX10_see_64 rfl (Nat.le_of_ble_eq_true rfl) ?_
                refine v_goto (tgt := 3) dX10_see_67 (by decide) ?_
                rw [upa_upa, upa_s] at hM
                exact v_to (nxt _ (by unfold cn4; (repeat' split) <;> omega) _ hM hF) rfl (sw_h1 rfl (sw_h1 rfl (sw_h1 rfl (sw_h1 rfl (sw_h1 rfl (sw_h1 rfl sw_h0))))))
          · skip
            refine v_iconst dX10_see_32 ?_
            refine v_goto (tgt := 37) dX10_see_33 (by decide) ?_
            refine v_iadd dX10_see_37 ?_
            refine v_iload dX10_see_38 rfl ?_
            refine v_iload_n dX10_see_40 rfl ?_
            refine v_icmp_ne (tgt := 48) dX10_see_41 (by decide) ⟨by omega, by omega⟩ ⟨by omega, by omega⟩ (fun h41 => ?_) (fun h41 => ?_)
            · skip
              refine v_iconst dX10_see_48 ?_
              refine v_iadd dX10_see_49 ?_
              refine v_iload dX10_see_50 rfl ?_
              refine v_iload dX10_see_52 rfl ?_
              refine v_icmp_ne (tgt := 61) dX10_see_54 (by decide) ⟨by omega, by omega⟩ ⟨by omega, by omega⟩ (fun h54 => ?_) (fun h54 => ?_)
              · skip
                refine v_iconst dX10_see_61 ?_
                refine v_iadd dX10_see_62 ?_
                refine v_ris hM hF ar_15 (by omega) (by omega) dX10_see_63 (fun M hM hF => ?_)
                refine v_iinc dX10_see_64 rfl (Nat.le_of_ble_eq_true rfl) ?_
                refine v_goto (tgt := 3) dX10_see_67 (by decide) ?_
                rw [upa_upa, upa_s] at hM
                exact v_to (nxt _ (by unfold cn4; (repeat' split) <;> omega) _ hM hF) rfl (sw_h1 rfl (sw_h1 rfl (sw_h1 rfl (sw_h1 rfl (sw_h1 rfl (sw_h1 rfl sw_h0))))))
              · skip
                refine v_iconst dX10_see_57 ?_
                refine v_goto (tgt := 62) dX10_see_58 (by decide) ?_
                refine v_iadd dX10_see_62 ?_
                refine v_ris hM hF ar_15 (by omega) (by omega) dX10_see_63 (fun M hM hF => ?_)
                refine v_iinc dX10_see_64 rfl (Nat.le_of_ble_eq_true rfl) ?_
                refine v_goto (tgt := 3) dX10_see_67 (by decide) ?_
                rw [upa_upa, upa_s] at hM
                exact v_to (nxt _ (by unfold cn4; (repeat' split) <;> omega) _ hM hF) rfl (sw_h1 rfl (sw_h1 rfl (sw_h1 rfl (sw_h1 rfl (sw_h1 rfl (sw_h1 rfl sw_h0))))))
            · skip
              refine v_iconst dX10_see_44 ?_
              refine v_goto (tgt := 49) dX10_see_45 (by decide) ?_
              refine v_iadd dX10_see_49 ?_
              refine v_iload dX10_see_50 rfl ?_
              refine v_iload dX10_see_52 rfl ?_
              refine v_icmp_ne (tgt := 61) dX10_see_54 (by decide) ⟨by omega, by omega⟩ ⟨by omega, by omega⟩ (fun h54 => ?_) (fun h54 => ?_)
              · skip
                refine v_iconst dX10_see_61 ?_
                refine v_iadd dX10_see_62 ?_
                refine v_ris hM hF ar_15 (by omega) (by omega) dX10_see_63 (fun M hM hF => ?_)
                refine v_iinc dX10_see_64 rfl (Nat.le_of_ble_eq_true rfl) ?_
                refine v_goto (tgt := 3) dX10_see_67 (by decide) ?_
                rw [upa_upa, upa_s] at hM
                exact v_to (nxt _ (by unfold cn4; (repeat' split) <;> omega) _ hM hF) rfl (sw_h1 rfl (sw_h1 rfl (sw_h1 rfl (sw_h1 rfl (sw_h1 rfl (sw_h1 rfl sw_h0))))))
              · skip
                refine v_iconst dX10_see_57 ?_
                refine v_goto (tgt := 62) dX10_see_58 (by decide) ?_
                refine v_iadd dX10_see_62 ?_
                refine v_ris hM hF ar_15 (by omega) (by omega) dX10_see_63 (fun M hM hF => ?_)
                refine v_iinc dX10_see_64 rfl (Nat.le_of_ble_eq_true rfl) ?_
                refine v_goto (tgt := 3) dX10_see_67 (by decide) ?_
                rw [upa_upa, upa_s] at hM
                exact v_to (nxt _ (by unfold cn4; (repeat' split) <;> omega) _ hM hF) rfl (sw_h1 rfl (sw_h1 rfl (sw_h1 rfl (sw_h1 rfl (sw_h1 rfl (sw_h1 rfl sw_h0))))))
  refine v_iconst dX10_see_0 ?_
  refine v_istore dX10_see_1 (Nat.le_of_ble_eq_true rfl) ?_
  exact v_to (loop 5 0 (a 15) M (by omega) (by omega) (by rw [upa_self]; exact hM) frR.rf (fun j j0 j1 => by omega)) rfl (sw_h1 rfl (sw_h1 rfl (sw_h1 rfl (sw_h1 rfl (sw_h1 rfl (sw_h1 rfl sw_h0))))))
theorem K10_weigh {s p q r' s' : Int} {σ : SaleT} (hM : RS G M x a) (hr : rowR a s σ) (hs : 0 ≤ s ∧ s < 9) (hwf : wfS σ) (hS : ∀ k, 0 ≤ k → k < 5 → a 15 k = cn4 p q r' s' k) (hp : soN σ p) (hq : soN σ q) (hr' : soN σ r') (hs' : soN σ s') : Kt l G μX10_weigh [.ref (sw_al G 70), sw_i s] M (fun r M' => r = none ∧ RS G M' (upn (upn x 16 (upS σ p q r' s' (sTr σ).toNat)) 17 (dnS σ p q r' s' (sTr σ).toNat)) a ∧ frR M M') := by
  refine KtA.of (by decide +kernel) (Nat.le_of_ble_eq_true rfl) ?_
  have hF : frR M M := frR.rf
  obtain ⟨q5, q6, q10, q11, q12, qr⟩ := hr
  have hsg : 0 ≤ sSg σ ∧ sSg σ ≤ 5 := by have := hwf.1; omega
  have ht : 0 ≤ sTr σ ∧ sTr σ ≤ 8 := by have := hwf.2.1; omega
  have hWb := fun t h0 h1 => hwf.2.2.2.2.2.1 t h0 h1
  have hOb := fun t k h0 h1 h2 h3 => hwf.2.2.2.2.2.2.1 t k h0 h1 h2 h3
  obtain ⟨C, hC⟩ : ∃ C, cn4 p q r' s' = C := ⟨_, rfl⟩
  have hcb : ∀ k, 0 ≤ C k ∧ C k ≤ 4 := fun k => by rw [← hC]; exact cn4_bd _ _ _ _ k
  have hC0 : ∀ k, sSg σ ≤ k → C k = 0 := fun k hk => by
    rw [← hC]
    unfold soN at hp hq hr' hs'
    unfold cn4
    rw [if_neg (by omega), if_neg (by omega), if_neg (by omega), if_neg (by omega)]; rfl
  have hw5 : ∀ t, wS σ C t 5 = wgt σ p q r' s' t := fun t => by rw [← hC]; exact wS_cn hsg.2 hp hq hr' hs' t
  rw [hC] at hS
  obtain ⟨Zq, hZ⟩ : ∃ Zq : Option Value → sw_M → Prop, Zq = (fun r M' => r = none ∧ RS G M' (upn (upn x 16 (upS σ p q r' s' (sTr σ).toNat)) 17 (dnS σ p q r' s' (sTr σ).toNat)) a ∧ frR M M') := ⟨_, rfl⟩
  rw [← hZ]
  have kx : ∀ u d v, upn (upn (upn x 16 u) 17 d) 16 v = upn (upn x 16 v) 17 d := fun u d v => by rw [upn_comm (show (17 : Nat) ≠ 16 by decide), upn_upn]
  have outer : ∀ (n : Nat) (t : Int) (M1 : sw_M), 0 ≤ t → t + n = sTr σ → RS G M1 (upn (upn x 16 (upS σ p q r' s' t.toNat)) 17 (dnS σ p q r' s' t.toNat)) a → frR M M1 → V l G μX10_weigh sw_E0 (sw_Zq G μX10_weigh (sw_q0 G Zq)) 12 [(0, .ref (sw_al G 70)), (1, sw_i s), (2, sw_i t)] [] M1 0 0 := by
    intro n
    induction n with
    | zero =>
      intro t M1 t0 tn hM hF
      have e : t = sTr σ := by omega
      subst e
      refine v_iload_n dX10_weigh_12 rfl ?_
      refine v_aload_n dX10_weigh_13 rfl ?_
      refine v_getfH 6 hM.1 fl_X10_16 rfl dX10_weigh_14 ?_
      refine v_iload_n dX10_weigh_17 rfl ?_
      refine v_ria hM ar_6 (by omega) (by omega) q6 dX10_weigh_18 ?_
      refine v_icmp_ge (tgt := 130) dX10_weigh_19 (by decide) ⟨by omega, by omega⟩ ⟨by omega, by omega⟩ (fun h19 => ?_) (fun h19 => ?_)
      · skip
        exact v_vret dX10_weigh_130 rfl (Nat.le_refl _) (Nat.le_refl _) (by rw [hZ]; exact ⟨rfl, hM, hF⟩)
      · skip
        exfalso; omega
    | succ n ih =>
      intro t M1 t0 tn hM hF
      obtain ⟨v1, v2, v3⟩ := qr t t0 (by omega)
      have mid : ∀ (n2 : Nat) (k : Nat), k + n2 = 5 → V l G μX10_weigh sw_E0 (sw_Zq G μX10_weigh (sw_q0 G Zq)) 38 [(0, .ref (sw_al G 70)), (1, sw_i s), (2, sw_i t), (3, sw_j (wS σ C t k)), (5, sw_i (k : Int))] [] M1 0 0 := by
        intro n2
        induction n2 with
        | zero =>
          intro k kn
          have e : k = 5 := by omega
          subst e
          have f16 : upn (upn x 16 (upS σ p q r' s' t.toNat)) 17 (dnS σ p q r' s' t.toNat) 16 = upS σ p q r' s' t.toNat := (upn_o (by decide)).trans upn_s
          refine v_iload dX10_weigh_38 rfl ?_
          refine v_iconst dX10_weigh_40 ?_
          refine v_icmp_ge (tgt := 91) dX10_weigh_41 (by decide) ⟨by omega, by omega⟩ ⟨by omega, by omega⟩ (fun h41 => ?_) (fun h41 => ?_)
          · skip
            refine v_aload_n dX10_weigh_91 rfl ?_
            refine v_dup dX10_weigh_92 rfl ?_
            refine v_rgj 16 hM f16 fl_X10_135 rfl dX10_weigh_93 ?_
            refine v_lload_n dX10_weigh_96 rfl ?_
            refine v_aload_n dX10_weigh_97 rfl ?_
            refine v_getfH 7 hM.1 fl_X10_19 rfl dX10_weigh_98 ?_
            refine v_bipush dX10_weigh_101 (by decide +kernel) ?_
            refine v_iload_n dX10_weigh_103 rfl ?_
            refine v_imul dX10_weigh_104 ?_
            refine v_iload_n dX10_weigh_105 rfl ?_
            refine v_iadd dX10_weigh_106 ?_
            refine v_ria hM ar_7 (by omega) (by omega) v1 dX10_weigh_107 ?_
            refine v_i2l dX10_weigh_108 ⟨by have := hWb t t0 (by omega); omega, by have := hWb t t0 (by omega); omega⟩ ?_
            refine v_lmul dX10_weigh_109 ?_
            refine v_ladd dX10_weigh_110 ?_
            refine v_rp 16 hM hF (flS_16 G _ _) fp_X10_135 rfl rfl (Nat.le_of_ble_eq_true rfl) dX10_weigh_111 (fun M hM hF => ?_)
            replace hM := hM.xe (kx _ _ _)
            refine v_aload_n dX10_weigh_114 rfl ?_
            refine v_dup dX10_weigh_115 rfl ?_
            refine v_rgj 17 hM upn_s fl_X10_139 rfl dX10_weigh_116 ?_
            refine v_lload_n dX10_weigh_119 rfl ?_
            refine v_ladd dX10_weigh_120 ?_
            refine v_rp 17 hM hF (flS_17 G _ _) fp_X10_139 rfl rfl (Nat.le_of_ble_eq_true rfl) dX10_weigh_121 (fun M hM hF => ?_)
            refine v_iinc dX10_weigh_124 rfl (Nat.le_of_ble_eq_true rfl) ?_
            refine v_goto (tgt := 12) dX10_weigh_127 (by decide) ?_
            refine v_to (ih (t + 1) _ (by omega) (by omega) (hM.xe ?_) hF) rfl (sw_h1 rfl (sw_h1 rfl (sw_h1 rfl sw_h0)))
            have e1 : upS σ p q r' s' (t + 1).toNat = upS σ p q r' s' t.toNat + wgt σ p q r' s' t * sV σ t := sm_step _ t0
            have e2 : dnS σ p q r' s' (t + 1).toNat = dnS σ p q r' s' t.toNat + wgt σ p q r' s' t := sm_step _ t0
            rw [upn_upn, e1, e2, ← hw5 t]
          · skip
            exfalso; omega
        | succ n2 ih2 =>
          intro k kn
          have hk5 := hS k (by omega) (by omega)
          have hb := hcb k
          have inner : ∀ (n3 i : Nat), (i : Int) + n3 = C k → V l G μX10_weigh sw_E0 (sw_Zq G μX10_weigh (sw_q0 G Zq)) 47 [(0, .ref (sw_al G 70)), (1, sw_i s), (2, sw_i t), (3, sw_j (mpw (wS σ C t k) (sO σ (t * 5 + k)) i)), (5, sw_i (k : Int)), (6, sw_i (i : Int))] [] M1 0 0 := by
            intro n3
            induction n3 with
            | zero =>
              intro i hi
              refine v_iload dX10_weigh_47 rfl ?_
              refine v_aload_n dX10_weigh_49 rfl ?_
              refine v_getfH 15 hM.1 fl_X10_40 rfl dX10_weigh_50 ?_
              refine v_iload dX10_weigh_53 rfl ?_
              refine v_ria hM ar_15 (by omega) (by omega) hk5 dX10_weigh_55 ?_
              refine v_icmp_ge (tgt := 85) dX10_weigh_56 (by decide) ⟨by omega, by omega⟩ ⟨by omega, by omega⟩ (fun h56 => ?_) (fun h56 => ?_)
              · skip
                refine v_iinc dX10_weigh_85 rfl (Nat.le_of_ble_eq_true rfl) ?_
                refine v_goto (tgt := 38) dX10_weigh_88 (by decide) ?_
                refine v_to (ih2 (k + 1) (by omega)) rfl ?_
                have e : wS σ C t (k + 1) = mpw (wS σ C t k) (sO σ (t * 5 + k)) i := by
                  show mpw (wS σ C t k) (sO σ (t * 5 + k)) (C k).toNat = _
                  rw [show (C k).toNat = i by omega]
                rw [e]
                exact sw_h1 rfl (sw_h1 rfl (sw_h1 rfl (sw_h1 rfl (sw_h1 rfl sw_h0))))
              · skip
                exfalso; omega
            | succ n3 ih3 =>
              intro i hi
              have hks : (k : Int) < sSg σ := by
                by_cases c : (k : Int) < sSg σ
                · exact c
                · have := hC0 k (by omega); omega
              refine v_iload dX10_weigh_47 rfl ?_
              refine v_aload_n dX10_weigh_49 rfl ?_
              refine v_getfH 15 hM.1 fl_X10_40 rfl dX10_weigh_50 ?_
              refine v_iload dX10_weigh_53 rfl ?_
              refine v_ria hM ar_15 (by omega) (by omega) hk5 dX10_weigh_55 ?_
              refine v_icmp_ge (tgt := 85) dX10_weigh_56 (by decide) ⟨by omega, by omega⟩ ⟨by omega, by omega⟩ (fun h56 => ?_) (fun h56 => ?_)
              · skip
                exfalso; omega
              · skip
                refine v_lload_n dX10_weigh_59 rfl ?_
                refine v_aload_n dX10_weigh_60 rfl ?_
                refine v_getfH 9 hM.1 fl_X10_25 rfl dX10_weigh_61 ?_
                refine v_iconst dX10_weigh_64 ?_
                refine v_bipush dX10_weigh_65 (by decide +kernel) ?_
                refine v_iload_n dX10_weigh_67 rfl ?_
                refine v_imul dX10_weigh_68 ?_
                refine v_iload_n dX10_weigh_69 rfl ?_
                refine v_iadd dX10_weigh_70 ?_
                refine v_imul dX10_weigh_71 ?_
                refine v_iload dX10_weigh_72 rfl ?_
                refine v_iadd dX10_weigh_74 ?_
                refine v_ria hM ar_9 (by omega) (by omega) (v3 k (by omega) hks) dX10_weigh_75 ?_
                refine v_i2l dX10_weigh_76 ⟨by have := hOb t k t0 (by omega) (by omega) hks; omega, by have := hOb t k t0 (by omega) (by omega) hks; omega⟩ ?_
                refine v_lmul dX10_weigh_77 ?_
                refine v_lstore_n dX10_weigh_78 (Nat.le_of_ble_eq_true rfl) ?_
                refine v_iinc dX10_weigh_79 rfl (Nat.le_of_ble_eq_true rfl) ?_
                refine v_goto (tgt := 47) dX10_weigh_82 (by decide) ?_
                exact v_to (ih3 (i + 1) (by omega)) rfl (sw_h1 rfl (sw_h1 rfl (sw_h1 rfl (sw_h1 rfl (sw_h1 rfl (sw_h1 rfl sw_h0))))))
          refine v_iload dX10_weigh_38 rfl ?_
          refine v_iconst dX10_weigh_40 ?_
          refine v_icmp_ge (tgt := 91) dX10_weigh_41 (by decide) ⟨by omega, by omega⟩ ⟨by omega, by omega⟩ (fun h41 => ?_) (fun h41 => ?_)
          · skip
            exfalso; omega
          · skip
            refine v_iconst dX10_weigh_44 ?_
            refine v_istore dX10_weigh_45 (Nat.le_of_ble_eq_true rfl) ?_
            exact v_to (inner (C k).toNat 0 (by omega)) rfl (sw_h1 rfl (sw_h1 rfl (sw_h1 rfl (sw_h1 rfl (sw_h1 rfl (sw_h1 rfl sw_h0))))))
      refine v_iload_n dX10_weigh_12 rfl ?_
      refine v_aload_n dX10_weigh_13 rfl ?_
      refine v_getfH 6 hM.1 fl_X10_16 rfl dX10_weigh_14 ?_
      refine v_iload_n dX10_weigh_17 rfl ?_
      refine v_ria hM ar_6 (by omega) (by omega) q6 dX10_weigh_18 ?_
      refine v_icmp_ge (tgt := 130) dX10_weigh_19 (by decide) ⟨by omega, by omega⟩ ⟨by omega, by omega⟩ (fun h19 => ?_) (fun h19 => ?_)
      · skip
        exfalso; omega
      · skip
        refine v_aload_n dX10_weigh_22 rfl ?_
        refine v_getfH 8 hM.1 fl_X10_22 rfl dX10_weigh_23 ?_
        refine v_bipush dX10_weigh_26 (by decide +kernel) ?_
        refine v_iload_n dX10_weigh_28 rfl ?_
        refine v_imul dX10_weigh_29 ?_
        refine v_iload_n dX10_weigh_30 rfl ?_
        refine v_iadd dX10_weigh_31 ?_
        refine v_ria hM ar_8 (by omega) (by omega) v2 dX10_weigh_32 ?_
        refine v_i2l dX10_weigh_33 ⟨by have := hWb t t0 (by omega); omega, by have := hWb t t0 (by omega); omega⟩ ?_
        refine v_lstore_n dX10_weigh_34 (Nat.le_of_ble_eq_true rfl) ?_
        refine v_iconst dX10_weigh_35 ?_
        refine v_istore dX10_weigh_36 (Nat.le_of_ble_eq_true rfl) ?_
        exact v_to (mid 5 0 rfl) rfl (sw_h1 rfl (sw_h1 rfl (sw_h1 rfl (sw_h1 rfl (sw_h1 rfl sw_h0)))))
  refine v_aload_n dX10_weigh_0 rfl ?_
  refine v_lconst (z := 0) dX10_weigh_1 (by decide +kernel) ?_
  refine v_rp 16 hM hF (flS_16 G _ _) fp_X10_135 rfl rfl (Nat.le_of_ble_eq_true rfl) dX10_weigh_2 (fun M hM hF => ?_)
  refine v_aload_n dX10_weigh_5 rfl ?_
  refine v_lconst (z := 0) dX10_weigh_6 (by decide +kernel) ?_
  refine v_rp 17 hM hF (flS_17 G _ _) fp_X10_139 rfl rfl (Nat.le_of_ble_eq_true rfl) dX10_weigh_7 (fun M hM hF => ?_)
  refine v_iconst dX10_weigh_10 ?_
  refine v_istore_n dX10_weigh_11 (Nat.le_of_ble_eq_true rfl) ?_
  exact v_to (outer (sTr σ).toNat 0 M (by omega) (by omega) hM hF) rfl (sw_h1 rfl (sw_h1 rfl (sw_h1 rfl sw_h0)))
end

