/-! the reference's face: bar -/
theorem pk_low (g : Int → Int) : ∀ (k : Nat) (j : Int), 0 ≤ j → j < pk g k → g j < g (pk g k)
  | 0, j, h0, h1 => by
    have h1 : j < 0 := h1
    omega
  | k + 1, j, h0, h1 => by
    have hst : pk g (k + 1) = if g (pk g k) < g ((k : Int) + 1) then (k : Int) + 1 else pk g k := rfl
    rw [hst] at h1 ⊢
    by_cases c : g (pk g k) < g ((k : Int) + 1)
    · rw [if_pos c] at h1 ⊢
      have := pk_max g k j h0 (by omega)
      omega
    · rw [if_neg c] at h1 ⊢
      exact pk_low g k j h0 h1
theorem rkb_flo {B : Int → Int} {b : Int} (hb : 0 ≤ b) : ∀ k : Nat, (∀ i : Int, 0 ≤ i → i < k → 0 ≤ B i ∧ B i ≤ 60) → (rkb B b k).1 = (if b ≤ (rkb B 0 k).1 then (rkb B 0 k).1 else -1) ∧ (rkb B b k).2.2.1 = (if b ≤ (rkb B 0 k).2.2.1 then (rkb B 0 k).2.2.1 else -1) ∧ 0 ≤ (rkb B b k).2.2.2 ∧ (rkb B b k).2.2.2 ≤ (rkb B 0 k).2.2.2
  | 0, _ => by
    show (-1 : Int) = (if b ≤ -1 then -1 else -1) ∧ (-1 : Int) = (if b ≤ -1 then -1 else -1) ∧ (0 : Int) ≤ 0 ∧ (0 : Int) ≤ 0
    refine ⟨by split <;> rfl, by split <;> rfl, by omega, by omega⟩
  | k + 1, h => by
    have ih := rkb_flo hb k (fun i i0 i1 => h i i0 (by omega))
    have hB := h k (by omega) (by omega)
    have o1 := (rkb_ok (B := B) (le := b) hb k (fun i i0 i1 => by have := h i i0 (by omega); omega)).1
    have o2 := (rkb_ok (B := B) (le := 0) (Int.le_refl 0) k (fun i i0 i1 => by have := h i i0 (by omega); omega)).1
    show (rks b (rkb B b k) (B k)).1 = (if b ≤ (rks 0 (rkb B 0 k) (B k)).1 then (rks 0 (rkb B 0 k) (B k)).1 else -1) ∧ (rks b (rkb B b k) (B k)).2.2.1 = (if b ≤ (rks 0 (rkb B 0 k) (B k)).2.2.1 then (rks 0 (rkb B 0 k) (B k)).2.2.1 else -1) ∧ 0 ≤ (rks b (rkb B b k) (B k)).2.2.2 ∧ (rks b (rkb B b k) (B k)).2.2.2 ≤ (rks 0 (rkb B 0 k) (B k)).2.2.2
    generalize rkb B b k = q at *
    generalize rkb B 0 k = p at *
    generalize B k = v at *
    obtain ⟨h1, n1, x1, t1⟩ := q
    obtain ⟨h2, n2, x2, t2⟩ := p
    unfold qkO at o1 o2
    dsimp only at ih o1 o2
    obtain ⟨i1, i2, i3, i4⟩ := ih
    simp only [rks]
    refine ⟨?_, ?_, ?_, ?_⟩ <;> grind
section
variable {σ : SaleT} {m : Nat} {f : Int → Int → Int}
/-- what is taken by one case and a LEAST, by what stands above none -/
theorem go_bar (hw : wfS σ) (hf : fBd f m (sSg σ)) {b : Int} (hb : 0 ≤ b ∧ b ≤ 60) (S : Int → Int) (hS : sOK σ S m) : goT σ b (sWy σ) m f (-1) (-1) (-1) (-1) (-1) (-1) 29 S = tkB (sWy σ) b (rk (rwF f) S b m) * crW σ S (pS σ (-1)) m ∧ qkO b (rk (rwF f) S b m) ∧ (rk (rwF f) S b m).1 = (if b ≤ (rk (rwF f) S 0 m).1 then (rk (rwF f) S 0 m).1 else -1) ∧ (rk (rwF f) S b m).2.2.1 = (if b ≤ (rk (rwF f) S 0 m).2.2.1 then (rk (rwF f) S 0 m).2.2.1 else -1) ∧ 0 ≤ (rk (rwF f) S b m).2.2.2 ∧ (rk (rwF f) S b m).2.2.2 ≤ (rk (rwF f) S 0 m).2.2.2 ∧ qkO 0 (rk (rwF f) S 0 m) ∧ (rk (rwF f) S 0 m).1 ≤ 60 := by
  have hsg := hw.1
  have hB : ∀ i : Int, 0 ≤ i → i < (m : Int) → 0 ≤ (fun i => rwF f (i * 5 + S i)) i ∧ (fun i => rwF f (i * 5 + S i)) i ≤ 60 := fun i i0 i1 => by
    have hs := hS i.toNat (by omega)
    rw [show ((i.toNat : Nat) : Int) = i by omega] at hs
    show 0 ≤ rwF f (i * 5 + S i) ∧ rwF f (i * 5 + S i) ≤ 60
    rw [rwF_at f _ _ hs.1 (by omega)]
    exact hf i (S i) i0 i1 hs.1 hs.2
  have hBB : bbO (fun i => rwF f (i * 5 + S i)) m := fun i i0 i1 => by have := hB i i0 i1; omega
  have fl := rkb_flo (B := fun i => rwF f (i * 5 + S i)) hb.1 m hB
  have k1 := rkb_ok (B := fun i => rwF f (i * 5 + S i)) hb.1 m hBB
  have k0 := rkb_ok (B := fun i => rwF f (i * 5 + S i)) (Int.le_refl 0) m hBB
  refine ⟨?_, ?_⟩
  · unfold goT
    rw [if_pos ⟨Or.inl rfl, Or.inl rfl⟩, ly_q hw hS]
    show sm (fun t => cwt σ S (-1) (-1) m t * tkB (sWy σ) b (rk (rwF f) S b m)) _ = _
    rw [sm_kl, sm_congr (g := pwt σ S (pS σ (-1)) m) _ (fun t _ _ => cwt_1 t)]
    rfl
  · rw [rk_rkb, rk_rkb]
    exact ⟨k1.1, fl.1, fl.2.1, fl.2.2.1, fl.2.2.2, k0.1, k0.2.1⟩
/-- by another way than the second: no LEAST takes the most -/
theorem bar_0 (hw : wfS σ) (hm : m ≤ 4) (hf : fBd f m (sSg σ)) (hy : sWy σ ≠ 1) {b : Int} (hb : 0 ≤ b ∧ b ≤ 60) : ms (sSg σ).toNat m (goT σ b (sWy σ) m f (-1) (-1) (-1) (-1) (-1) (-1) 29) ≤ ms (sSg σ).toNat m (goT σ 0 (sWy σ) m f (-1) (-1) (-1) (-1) (-1) (-1) 29) := by
  have hsg := hw.1
  refine ms_mono m (fun S hS' => ?_)
  have hS : sOK σ S m := fun i hi => by have := hS' i hi; omega
  obtain ⟨e1, o1, h1, x1, t0, t1, o0, b0⟩ := go_bar hw hf hb S hS
  obtain ⟨e2, -, -, -, t2, -, -, -⟩ := go_bar hw hf (b := 0) ⟨by omega, by omega⟩ S hS
  have hcw := (crW_bd hw (pS_B hw (-1)) hS hm).1
  rw [e1, e2]
  refine Int.mul_le_mul_of_nonneg_right ?_ hcw
  unfold tkB payB
  rw [if_neg hy, if_neg hy]
  unfold qkO at o1 o0
  generalize rk (rwF f) S b m = q at *
  generalize rk (rwF f) S 0 m = p at *
  by_cases c : b ≤ p.1
  · rw [if_pos c] at h1
    rw [if_neg (show ¬ q.1 = -1 by omega), if_neg (show ¬ p.1 = -1 by omega)]
    split <;> omega
  · rw [if_neg c] at h1
    rw [if_pos h1]
    (repeat' split) <;> omega
/-- taken by the second way, a twelfth, by a case -/
def vB (σ : SaleT) (f : Int → Int → Int) (m : Nat) (b : Int) (S : Int → Int) : Int := if b ≤ (rk (rwF f) S 0 m).1 then (if b ≤ (rk (rwF f) S 0 m).2.2.1 then (rk (rwF f) S 0 m).2.2.1 else b) * crW σ S (pS σ (-1)) m else 0
theorem bar_1 (hw : wfS σ) (hf : fBd f m (sSg σ)) (hy : sWy σ = 1) {b : Int} (hb : 0 ≤ b ∧ b ≤ 60) : ms (sSg σ).toNat m (goT σ b (sWy σ) m f (-1) (-1) (-1) (-1) (-1) (-1) 29) = 12 * ms (sSg σ).toNat m (vB σ f m b) := by
  rw [← ms_cmul]
  refine ms_sOK hw (fun S hS => ?_)
  obtain ⟨e1, o1, h1, x1, t0, t1, o0, b0⟩ := go_bar hw hf hb S hS
  rw [e1]
  unfold tkB payB vB
  rw [if_pos hy, if_neg (show ¬ sWy σ = 2 by omega)]
  unfold qkO at o1 o0
  generalize rk (rwF f) S b m = q at *
  generalize rk (rwF f) S 0 m = p at *
  by_cases c : b ≤ p.1
  · rw [if_pos c] at h1 ⊢
    rw [if_neg (show ¬ q.1 = -1 by omega)]
    by_cases d : b ≤ p.2.2.1
    · rw [if_pos d] at x1 ⊢
      rw [if_neg (show ¬ q.2.2.1 = -1 by omega), x1, Int.mul_assoc]
    · rw [if_neg d] at x1 ⊢
      rw [if_pos x1, Int.mul_assoc]
  · rw [if_neg c] at h1 ⊢
    rw [if_pos h1, Int.zero_mul, Int.mul_zero]
theorem brH_ms (hw : wfS σ) (a : Int) : brH σ f (pS σ (-1)) m a = ms (sSg σ).toNat m (fun S => if (rk (rwF f) S 0 m).1 = a then crW σ S (pS σ (-1)) m else 0) := sn_ms (by have := hw.1; omega) m (F := fun S => if (rk (rwF f) S 0 m).1 = a then crW σ S (pS σ (-1)) m else 0) (fun S S' h => by
  show (if (rk (rwF f) S 0 m).1 = a then crW σ S (pS σ (-1)) m else 0) = if (rk (rwF f) S' 0 m).1 = a then crW σ S' (pS σ (-1)) m else 0
  rw [rk_congr h, crW_congr (fun _ _ _ => rfl) h])
theorem brN_ms (hw : wfS σ) (a : Int) : brN σ f (pS σ (-1)) m a = ms (sSg σ).toNat m (fun S => if (rk (rwF f) S 0 m).2.2.1 = a then crW σ S (pS σ (-1)) m else 0) := sn_ms (by have := hw.1; omega) m (F := fun S => if (rk (rwF f) S 0 m).2.2.1 = a then crW σ S (pS σ (-1)) m else 0) (fun S S' h => by
  show (if (rk (rwF f) S 0 m).2.2.1 = a then crW σ S (pS σ (-1)) m else 0) = if (rk (rwF f) S' 0 m).2.2.1 = a then crW σ S' (pS σ (-1)) m else 0
  rw [rk_congr h, crW_congr (fun _ _ _ => rfl) h])
/-- what the class has summed after so many bars -/
theorem bs_sums (hw : wfS σ) (hf : fBd f m (sSg σ)) : ∀ n : Nat, n ≤ 61 → (bsN (brH σ f (pS σ (-1)) m) (brN σ f (pS σ (-1)) m) n).2.2.1 = ms (sSg σ).toNat m (fun S => if 61 - (n : Int) ≤ (rk (rwF f) S 0 m).1 then crW σ S (pS σ (-1)) m else 0) ∧ (bsN (brH σ f (pS σ (-1)) m) (brN σ f (pS σ (-1)) m) n).2.2.2.1 = ms (sSg σ).toNat m (fun S => if 61 - (n : Int) ≤ (rk (rwF f) S 0 m).2.2.1 then crW σ S (pS σ (-1)) m else 0) ∧ (bsN (brH σ f (pS σ (-1)) m) (brN σ f (pS σ (-1)) m) n).2.2.2.2 = ms (sSg σ).toNat m (fun S => if 61 - (n : Int) ≤ (rk (rwF f) S 0 m).2.2.1 then (rk (rwF f) S 0 m).2.2.1 * crW σ S (pS σ (-1)) m else 0)
  | 0, _ => by
    have hq : ∀ S, sOK σ S m → (rk (rwF f) S 0 m).1 ≤ 60 ∧ (rk (rwF f) S 0 m).2.2.1 ≤ 60 := fun S hS => by
      have h := go_bar hw hf (b := 0) ⟨by omega, by omega⟩ S hS
      have o := h.2.1
      unfold qkO at o
      have := h.2.2.2.2.2.2.2
      omega
    have z : ∀ (F : (Int → Int) → Int), (∀ S, sOK σ S m → F S = 0) → (0 : Int) = ms (sSg σ).toNat m F := fun F h => by
      rw [ms_sOK hw (F' := fun _ => 0) h, ms_zero]
    exact ⟨z _ (fun S hS => if_neg (by have := hq S hS; omega)), z _ (fun S hS => if_neg (by have := hq S hS; omega)), z _ (fun S hS => if_neg (by have := hq S hS; omega))⟩
  | n + 1, hn => by
    obtain ⟨i1, i2, i3⟩ := bs_sums hw hf n (by omega)
    have hst : ∀ H N : Int → Int, bsN H N (n + 1) = bsS H N (60 - (n : Int)) (bsN H N n) := fun _ _ => rfl
    have hs3 : ∀ (H N : Int → Int) (k : Int) q, (bsS H N k q).2.2.1 = q.2.2.1 + H k ∧ (bsS H N k q).2.2.2.1 = q.2.2.2.1 + N k ∧ (bsS H N k q).2.2.2.2 = q.2.2.2.2 + k * N k := fun H N k q => by
      unfold bsS
      split <;> exact ⟨rfl, rfl, rfl⟩
    rw [hst, (hs3 _ _ _ _).1, (hs3 _ _ _ _).2.1, (hs3 _ _ _ _).2.2, i1, i2, i3, brH_ms hw, brN_ms hw, ← ms_plus, ← ms_plus, ← ms_cmul, ← ms_plus]
    refine ⟨ms_sOK hw (fun S _ => ?_), ms_sOK hw (fun S _ => ?_), ms_sOK hw (fun S _ => ?_)⟩
    · (repeat' split) <;> omega
    · (repeat' split) <;> omega
    · by_cases c : (rk (rwF f) S 0 m).2.2.1 = 60 - (n : Int)
      · rw [if_pos c, if_neg (by omega), if_pos (by omega), c]; omega
      · rw [if_neg c, Int.mul_zero]
        (repeat' split) <;> omega
theorem ms_sub {sg : Nat} (m : Nat) (F F' : (Int → Int) → Int) : ms sg m (fun S => F S - F' S) = ms sg m F - ms sg m F' := by
  have h := ms_plus (sg := sg) m (fun S => F S - F' S) F'
  rw [show (fun S => F S - F' S + F' S) = F from funext (fun S => by omega)] at h
  omega
/-- the class's value of a bar -/
theorem bs_val (hw : wfS σ) (hf : fBd f m (sSg σ)) (n : Nat) (hn : n ≤ 60) : (bsN (brH σ f (pS σ (-1)) m) (brN σ f (pS σ (-1)) m) n).2.2.2.2 + (60 - (n : Int)) * brN σ f (pS σ (-1)) m (60 - n) + (60 - (n : Int)) * ((bsN (brH σ f (pS σ (-1)) m) (brN σ f (pS σ (-1)) m) n).2.2.1 + brH σ f (pS σ (-1)) m (60 - n) - ((bsN (brH σ f (pS σ (-1)) m) (brN σ f (pS σ (-1)) m) n).2.2.2.1 + brN σ f (pS σ (-1)) m (60 - n))) = ms (sSg σ).toNat m (vB σ f m (60 - n)) := by
  obtain ⟨i1, i2, i3⟩ := bs_sums hw hf (n + 1) (by omega)
  have hst : ∀ H N : Int → Int, bsN H N (n + 1) = bsS H N (60 - (n : Int)) (bsN H N n) := fun _ _ => rfl
  have hs3 : ∀ (H N : Int → Int) (k : Int) q, (bsS H N k q).2.2.1 = q.2.2.1 + H k ∧ (bsS H N k q).2.2.2.1 = q.2.2.2.1 + N k ∧ (bsS H N k q).2.2.2.2 = q.2.2.2.2 + k * N k := fun H N k q => by
    unfold bsS
    split <;> exact ⟨rfl, rfl, rfl⟩
  rw [hst, (hs3 _ _ _ _).1] at i1
  rw [hst, (hs3 _ _ _ _).2.1] at i2
  rw [hst, (hs3 _ _ _ _).2.2] at i3
  rw [i1, i2, i3, Int.mul_sub, ← ms_cmul, ← ms_cmul]
  rw [← ms_sub, ← ms_plus]
  refine ms_sOK hw (fun S hS => ?_)
  have o := (go_bar hw hf (b := 0) ⟨by omega, by omega⟩ S hS).2.1
  unfold qkO at o
  unfold vB
  rw [show 61 - ((n + 1 : Nat) : Int) = 60 - (n : Int) by omega]
  generalize rk (rwF f) S 0 m = p at *
  by_cases c : 60 - (n : Int) ≤ p.1
  · rw [if_pos c, if_pos c]
    by_cases d : 60 - (n : Int) ≤ p.2.2.1
    · rw [if_pos d, if_pos d, if_pos d]; omega
    · rw [if_neg d, if_neg d, if_neg d]; omega
  · have d : ¬ 60 - (n : Int) ≤ p.2.2.1 := by omega
    rw [if_neg c, if_neg c, if_neg d, if_neg d]; omega
theorem bs_best (hw : wfS σ) (hm : m ≤ 4) (hf : fBd f m (sSg σ)) : ∀ n : Nat, 1 ≤ n → n ≤ 61 → (61 - (n : Int) ≤ (bsN (brH σ f (pS σ (-1)) m) (brN σ f (pS σ (-1)) m) n).1 ∧ (bsN (brH σ f (pS σ (-1)) m) (brN σ f (pS σ (-1)) m) n).1 ≤ 60) ∧ (bsN (brH σ f (pS σ (-1)) m) (brN σ f (pS σ (-1)) m) n).2.1 = ms (sSg σ).toNat m (vB σ f m (bsN (brH σ f (pS σ (-1)) m) (brN σ f (pS σ (-1)) m) n).1) ∧ ∀ k : Int, 61 - (n : Int) ≤ k → k ≤ 60 → ms (sSg σ).toNat m (vB σ f m k) ≤ (bsN (brH σ f (pS σ (-1)) m) (brN σ f (pS σ (-1)) m) n).2.1 ∧ (k < (bsN (brH σ f (pS σ (-1)) m) (brN σ f (pS σ (-1)) m) n).1 → ms (sSg σ).toNat m (vB σ f m k) < (bsN (brH σ f (pS σ (-1)) m) (brN σ f (pS σ (-1)) m) n).2.1)
  | 0, h, _ => by omega
  | n + 1, _, hn => by
    have hv := bs_val hw hf n (by omega)
    have hst : ∀ H N : Int → Int, bsN H N (n + 1) = bsS H N (60 - (n : Int)) (bsN H N n) := fun _ _ => rfl
    rw [hst]
    unfold bsS
    rw [hv]
    have ih := fun h => bs_best hw hm hf n h (by omega)
    have hz : n = 0 → (bsN (brH σ f (pS σ (-1)) m) (brN σ f (pS σ (-1)) m) n).2.1 = 0 := fun h => by subst h; rfl
    have hnn : 0 ≤ ms (sSg σ).toNat m (vB σ f m (60 - n)) := by
      have h0 := ms_mono (sg := (sSg σ).toNat) m (F := fun _ => 0) (F' := vB σ f m (60 - n)) (fun S hS' => by
        have hS : sOK σ S m := fun i hi => by have := hS' i hi; have := hw.1; omega
        have hcw := (crW_bd hw (pS_B hw (-1)) hS hm).1
        unfold vB
        by_cases c : 60 - (n : Int) ≤ (rk (rwF f) S 0 m).1
        · rw [if_pos c]
          exact Int.mul_nonneg (by split <;> omega) hcw
        · rw [if_neg c]; exact Int.le_refl _)
      rw [ms_zero] at h0
      exact h0
    generalize bsN (brH σ f (pS σ (-1)) m) (brN σ f (pS σ (-1)) m) n = q at *
    by_cases c : q.2.1 ≤ ms (sSg σ).toNat m (vB σ f m (60 - n))
    · rw [if_pos c]
      dsimp only
      refine ⟨⟨by omega, by omega⟩, rfl, fun k k0 k1 => ⟨?_, fun hk => by omega⟩⟩
      by_cases d : k = 60 - (n : Int)
      · rw [d]; exact Int.le_refl _
      · have := ((ih (by omega)).2.2 k (by omega) k1).1
        omega
    · rw [if_neg c]
      dsimp only
      have hn1 : 1 ≤ n := by
        rcases Nat.eq_zero_or_pos n with h | h
        · have := hz h; omega
        · exact h
      obtain ⟨a1, a2, a3⟩ := ih hn1
      refine ⟨⟨by omega, a1.2⟩, a2, fun k k0 k1 => ?_⟩
      by_cases d : k = 60 - (n : Int)
      · rw [d]; exact ⟨by omega, fun _ => by omega⟩
      · exact a3 k (by omega) k1
/-- the reference's lowest best bar is the class's -/
theorem pk_bar (hw : wfS σ) (hm : m ≤ 4) (hf : fBd f m (sSg σ)) : pk (fun b => ms (sSg σ).toNat m (goT σ b (sWy σ) m f (-1) (-1) (-1) (-1) (-1) (-1) 29)) 60 = if sWy σ = 1 then (bsN (brH σ f (pS σ (-1)) m) (brN σ f (pS σ (-1)) m) 61).1 else 0 := by
  obtain ⟨g, hg⟩ : ∃ g : Int → Int, (fun b => ms (sSg σ).toNat m (goT σ b (sWy σ) m f (-1) (-1) (-1) (-1) (-1) (-1) 29)) = g := ⟨_, rfl⟩
  rw [hg]
  have hb := pk_bd g 60
  have hmx := pk_max g 60
  have hlo := pk_low g 60
  by_cases hy : sWy σ = 1
  · rw [if_pos hy]
    obtain ⟨a1, a2, a3⟩ := bs_best hw hm hf 61 (by omega) (by omega)
    have hgv : ∀ b, 0 ≤ b → b ≤ 60 → g b = 12 * ms (sSg σ).toNat m (vB σ f m b) := fun b b0 b1 => by
      rw [← hg]; exact bar_1 hw hf hy ⟨b0, b1⟩
    generalize (bsN (brH σ f (pS σ (-1)) m) (brN σ f (pS σ (-1)) m) 61).2.1 = most at *
    generalize (bsN (brH σ f (pS σ (-1)) m) (brN σ f (pS σ (-1)) m) 61).1 = best at *
    have v1 := hgv best (by omega) (by omega)
    have v2 := hgv (pk g 60) hb.1 (by omega)
    have b2 := a3 (pk g 60) (by omega) (by omega)
    by_cases c : pk g 60 < best
    · have := b2.2 c
      have := hmx best (by omega) (by omega)
      omega
    · by_cases c2 : best < pk g 60
      · have := hlo best (by omega) c2
        omega
      · omega
  · rw [if_neg hy]
    by_cases c : 0 < pk g 60
    · have h1 := hlo 0 (by omega) c
      have h2 : g (pk g 60) ≤ g 0 := by
        rw [← hg] at hb ⊢
        exact bar_0 hw hm hf hy ⟨hb.1, by omega⟩
      omega
    · omega
end

