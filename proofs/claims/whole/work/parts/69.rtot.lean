/-! the reference's counts are the class's -/
theorem cwt_1 {σ : SaleT} {S : Int → Int} {told : Int} {m : Nat} (t : Int) : cwt σ S (-1) told m t = pwt σ S (pS σ told) m t := if_pos rfl
section
variable {σ : SaleT} {f : Int → Int → Int} {S : Int → Int} {m : Nat} {ask told : Int}
theorem ly_pl (hw : wfS σ) (hS : sOK σ S m) (i : Nat) (hi : i < m) : lyB σ f S ask (-1) (-1) i = rwF f ((i : Int) * 5 + S i) := by
  have h := hS i hi
  have := hw.1
  rw [rwF_at f _ _ h.1 (by omega)]
  unfold lyB ly0
  rw [if_neg (fun h => h.1 rfl), if_neg (fun h => h.1 rfl), if_neg (fun h => h.2 rfl)]
theorem ly_q (hw : wfS σ) (hS : sOK σ S m) (le : Int) : rkb (lyB σ f S ask (-1) (-1)) le m = rk (rwF f) S le m := by
  rw [rk_rkb]
  exact rkb_congr m (fun i hi => ly_pl hw hS i hi)
theorem sm_kl (k : Int) (g : Int → Int) (n : Nat) : sm (fun t => g t * k) n = k * sm g n := by
  rw [← sm_mul]; exact sm_congr n (fun t _ _ => Int.mul_comm _ _)
theorem rk_qk (hw : wfS σ) (hf : fBd f m (sSg σ)) (hS : sOK σ S m) : qkO (sLe σ) (rk (rwF f) S (sLe σ) m) ∧ (rk (rwF f) S (sLe σ) m).1 ≤ 60 ∧ (rk (rwF f) S (sLe σ) m).2.1 ≤ m ∧ -1 ≤ (rk (rwF f) S (sLe σ) m).1 ∧ 0 ≤ (rk (rwF f) S (sLe σ) m).2.1 := by
  rw [← ly_q hw hS (ask := -1) (sLe σ)]
  exact rkb_ok hw.2.2.2.1.1 m (lyB_bd hw hf hS ⟨Int.le_refl _, by omega⟩)
theorem goT28 : goT σ (sLe σ) (sWy σ) m f ask (-1) (-1) (-1) (-1) told 28 S = tW σ (pS σ told) m S := by
  unfold goT
  rw [if_pos ⟨Or.inl rfl, Or.inl rfl⟩]
  show sm (fun t => 12 * cwt σ S (-1) told m t) _ = 12 * sm (pwt σ S (pS σ told) m) _
  rw [← sm_mul]
  exact sm_congr _ (fun t _ _ => by rw [cwt_1])
theorem goT29 (hw : wfS σ) (hf : fBd f m (sSg σ)) (hS : sOK σ S m) : goT σ (sLe σ) (sWy σ) m f ask (-1) (-1) (-1) (-1) told 29 S = tT σ (rwF f) (pS σ told) m (sLe σ) (decide (sWy σ = 2)) S := by
  have hq := rk_qk hw hf hS
  have o := hq.1
  unfold qkO at o
  unfold goT
  rw [if_pos ⟨Or.inl rfl, Or.inl rfl⟩, ly_q hw hS]
  show sm (fun t => cwt σ S (-1) told m t * tkB (sWy σ) (sLe σ) (rk (rwF f) S (sLe σ) m)) _ = _
  rw [sm_kl, sm_congr (g := pwt σ S (pS σ told) m) _ (fun t _ _ => cwt_1 t)]
  show tkB (sWy σ) (sLe σ) (rk (rwF f) S (sLe σ) m) * crW σ S (pS σ told) m = _
  unfold tT tkB
  by_cases c : (rk (rwF f) S (sLe σ) m).2.1 = 0
  · rw [if_pos c, if_pos (by omega), Int.zero_mul]
  · rw [if_neg c, if_neg (by omega)]
    by_cases c2 : sWy σ = 2
    · rw [if_pos c2, if_pos (decide_eq_true c2), Int.mul_assoc, Int.mul_assoc, Int.mul_comm (rk (rwF f) S (sLe σ) m).2.2.2]
    · rw [if_neg c2, if_neg (by rw [decide_eq_false c2]; exact Bool.false_ne_true), Int.mul_assoc, Int.mul_assoc, Int.mul_comm (payB _ _ _)]; rfl
theorem goT30 (hw : wfS σ) (hf : fBd f m (sSg σ)) (hS : sOK σ S m) : goT σ (sLe σ) (sWy σ) m f ask (-1) (-1) (-1) (-1) told 30 S = tS σ (rwF f) (pS σ told) m (sLe σ) S := by
  have hq := rk_qk hw hf hS
  have o := hq.1
  unfold qkO at o
  unfold goT
  rw [if_pos ⟨Or.inl rfl, Or.inl rfl⟩, ly_q hw hS]
  show sm (fun t => if (rk (rwF f) S (sLe σ) m).1 ≠ -1 ∧ sV σ t < payB (sWy σ) (sLe σ) (rk (rwF f) S (sLe σ) m) then 12 * cwt σ S (-1) told m t else 0) _ = _
  unfold tS
  by_cases c : (rk (rwF f) S (sLe σ) m).2.1 = 0
  · rw [if_pos c]
    have e := sm_congr (f := fun t => if (rk (rwF f) S (sLe σ) m).1 ≠ -1 ∧ sV σ t < payB (sWy σ) (sLe σ) (rk (rwF f) S (sLe σ) m) then 12 * cwt σ S (-1) told m t else 0) (g := fun t => 0 * sV σ t) (sTr σ).toNat (fun t _ _ => by rw [if_neg (by omega), Int.zero_mul])
    rw [e, sm_mul, Int.zero_mul]
  · rw [if_neg c]
    show _ = 12 * sm (fun t => if sV σ t < payB (sWy σ) (sLe σ) (rk (rwF f) S (sLe σ) m) then pwt σ S (pS σ told) m t else 0) _
    rw [← sm_mul]
    exact sm_congr _ (fun t _ _ => by
      rw [cwt_1]
      by_cases d : sV σ t < payB (sWy σ) (sLe σ) (rk (rwF f) S (sLe σ) m)
      · rw [if_pos ⟨by omega, d⟩, if_pos d]
      · rw [if_neg (fun h => d h.2), if_neg d, Int.mul_zero])
theorem goT31 (hw : wfS σ) (hf : fBd f m (sSg σ)) (hS : sOK σ S m) : goT σ (sLe σ) (sWy σ) m f ask (-1) (-1) (-1) (-1) told 31 S = tU σ (rwF f) (pS σ told) m (sLe σ) S := by
  have hq := rk_qk hw hf hS
  have o := hq.1
  unfold qkO at o
  unfold goT
  rw [if_pos ⟨Or.inl rfl, Or.inl rfl⟩, ly_q hw hS]
  show sm (fun t => if (rk (rwF f) S (sLe σ) m).1 = -1 then 12 * cwt σ S (-1) told m t else 0) _ = _
  unfold tU
  by_cases c : (rk (rwF f) S (sLe σ) m).2.1 = 0
  · rw [if_pos c]
    show _ = 12 * sm (pwt σ S (pS σ told) m) _
    rw [← sm_mul]
    exact sm_congr _ (fun t _ _ => by rw [if_pos (by omega), cwt_1])
  · rw [if_neg c]
    have e := sm_congr (f := fun t => if (rk (rwF f) S (sLe σ) m).1 = -1 then 12 * cwt σ S (-1) told m t else 0) (g := fun t => 0 * sV σ t) (sTr σ).toNat (fun t _ _ => by rw [if_neg (by omega), Int.zero_mul])
    rw [e, sm_mul, Int.zero_mul]
/-- the gain over all truths by a weight -/
theorem sm_gn (wy le : Int) (q : Int × Int × Int × Int) (b : Int) (W V : Int → Int) (n : Nat) : sm (fun t => W t * gnB' wy le q b (V t)) n = if b = -1 then 0 else if wy = 2 then (if b = q.1 then 12 / q.2.1 else 0) * sm (fun t => W t * V t) n - 12 * b * sm W n else (if b = q.1 then 12 / q.2.1 else 0) * (sm (fun t => W t * V t) n - payB wy le q * sm W n) := by
  induction n with
  | zero =>
    show (0 : Int) = if b = -1 then 0 else if wy = 2 then (if b = q.1 then 12 / q.2.1 else 0) * 0 - 12 * b * 0 else (if b = q.1 then 12 / q.2.1 else 0) * (0 - payB wy le q * 0)
    rw [Int.mul_zero, Int.mul_zero, Int.mul_zero, Int.sub_self, Int.mul_zero]
    (repeat' split) <;> rfl
  | succ n ih =>
    show sm _ n + W n * gnB' wy le q b (V n) = if b = -1 then 0 else if wy = 2 then (if b = q.1 then 12 / q.2.1 else 0) * (sm (fun t => W t * V t) n + W n * V n) - 12 * b * (sm W n + W n) else (if b = q.1 then 12 / q.2.1 else 0) * (sm (fun t => W t * V t) n + W n * V n - payB wy le q * (sm W n + W n))
    rw [ih]
    unfold gnB'
    generalize (if b = q.1 then 12 / q.2.1 else 0) = k
    generalize payB wy le q = p
    by_cases c1 : b = -1
    · rw [if_pos c1, if_pos c1, if_pos c1]; omega
    · rw [if_neg c1, if_neg c1, if_neg c1]
      by_cases c2 : wy = 2
      · rw [if_pos c2, if_pos c2, if_pos c2]
        grind
      · rw [if_neg c2, if_neg c2, if_neg c2]
        grind
theorem nw_at (hw : wfS σ) (hS : sOK σ S m) {i : Nat} (hi : i < m) : nwB (lyB σ f S (i : Int) (-1) (-1)) (sLe σ) (i : Int) = if rwF f ((i : Int) * 5 + S i) < sLe σ then -1 else rwF f ((i : Int) * 5 + S i) := by
  unfold nwB
  rw [ly_pl hw hS i hi]
theorem goT32 (hw : wfS σ) (hf : fBd f m (sSg σ)) (hS : sOK σ S m) {i : Nat} (hi : i < m) : goT σ (sLe σ) (sWy σ) m f (i : Int) (-1) (-1) (-1) (-1) told 32 S = tG σ (rwF f) (pS σ told) m (sLe σ) (decide (sWy σ = 2)) i S := by
  have hq := rk_qk hw hf hS
  have o := hq.1
  unfold qkO at o
  have hle := hw.2.2.2.1
  have hmx := rkb_max hle.1 m (lyB_bd hw hf hS (ask := (i : Int)) (ab := -1) (sil := -1) ⟨Int.le_refl _, by omega⟩) (i := (i : Int)) (by omega) (by omega)
  rw [ly_q hw hS, nw_at hw hS hi] at hmx
  have hb0 : 0 ≤ rwF f ((i : Int) * 5 + S i) := by
    have hs := hS i hi
    have hsg := hw.1
    rw [rwF_at f _ _ hs.1 (by omega)]
    exact (hf i (S i) (by omega) (by omega) hs.1 hs.2).1
  unfold goT
  rw [if_pos ⟨Or.inl rfl, Or.inl rfl⟩, ly_q hw hS, nw_at hw hS hi]
  have e1 : ∀ b q, sm (fun t => cnD (sWy σ) (sLe σ) q (i : Int) b (sV σ t) (cwt σ S (-1) told m t) 32) (sTr σ).toNat = sm (fun t => pwt σ S (pS σ told) m t * gnB' (sWy σ) (sLe σ) q b (sV σ t)) (sTr σ).toNat := fun b q => sm_congr _ (fun t _ _ => by
    show (if (i : Int) = -1 then 0 else cwt σ S (-1) told m t * gnB' (sWy σ) (sLe σ) q b (sV σ t)) = _
    rw [if_neg (by omega), cwt_1])
  rw [e1, sm_gn]
  show (if _ = -1 then 0 else if sWy σ = 2 then _ * crV σ S (pS σ told) m - _ * crW σ S (pS σ told) m else _ * (crV σ S (pS σ told) m - _ * crW σ S (pS σ told) m)) = _
  unfold tG pdB
  rw [show crP σ (sLe σ) (rk (rwF f) S (sLe σ) m).1 (rk (rwF f) S (sLe σ) m).2.2.1 = payB (sWy σ) (sLe σ) (rk (rwF f) S (sLe σ) m) from rfl]
  generalize payB (sWy σ) (sLe σ) (rk (rwF f) S (sLe σ) m) = pr
  generalize rk (rwF f) S (sLe σ) m = q at *
  generalize rwF f ((i : Int) * 5 + S i) = b at *
  generalize crV σ S (pS σ told) m = cv
  generalize crW σ S (pS σ told) m = cw
  by_cases c1 : b < sLe σ
  · rw [if_pos c1, if_pos rfl]
    by_cases c2 : q.2.1 = 0
    · rw [if_pos c2]
    · rw [if_neg c2, if_neg (show ¬ b = q.1 by omega)]
      by_cases c3 : sWy σ = 2
      · rw [if_pos (decide_eq_true c3), if_neg (show ¬ sLe σ ≤ b by omega), Int.mul_zero]; rfl
      · rw [if_neg (by rw [decide_eq_false c3]; exact Bool.false_ne_true), if_neg (fun h => by omega), Int.mul_zero]; rfl
  · rw [if_neg c1] at hmx ⊢
    rw [if_neg (show ¬ b = -1 by omega), if_neg (show ¬ q.2.1 = 0 by omega)]
    by_cases c3 : sWy σ = 2
    · rw [if_pos c3, if_pos (decide_eq_true c3), if_pos (show sLe σ ≤ b by omega)]
      by_cases c4 : b = q.1
      · rw [if_pos c4, if_pos c4, Int.mul_comm cw]
      · rw [if_neg c4, if_neg c4, Int.zero_mul, Int.mul_comm cw]
    · have d3 : ¬ decide (sWy σ = 2) = true := by rw [decide_eq_false c3]; exact Bool.false_ne_true
      rw [if_neg c3, if_neg d3]
      by_cases c4 : b = q.1
      · rw [if_pos c4, if_pos c4, if_pos ⟨c4, by omega⟩]
        grind
      · rw [if_neg c4, if_neg c4, if_neg (fun h => c4 h.1), Int.zero_mul, Int.mul_zero]; rfl
theorem goT3x (hw : wfS σ) (hf : fBd f m (sSg σ)) (hS : sOK σ S m) {i : Nat} (hi : i < m) {k : Int} (hk : k ≠ -1) : goT σ (sLe σ) (sWy σ) m f (i : Int) k (-1) (-1) (-1) told 33 S = tX (rwF f) m (sLe σ) i k (fun S => crV σ S (pS σ told) m) S ∧ goT σ (sLe σ) (sWy σ) m f (i : Int) k (-1) (-1) (-1) told 34 S = tX (rwF f) m (sLe σ) i k (fun S => crW σ S (pS σ told) m) S := by
  have hq := rk_qk hw hf hS
  have o := hq.1
  unfold qkO at o
  have hle := hw.2.2.2.1
  have hmx := rkb_max hle.1 m (lyB_bd hw hf hS (ask := (i : Int)) (ab := -1) (sil := -1) ⟨Int.le_refl _, by omega⟩) (i := (i : Int)) (by omega) (by omega)
  rw [ly_q hw hS, nw_at hw hS hi] at hmx
  have hb0 : 0 ≤ rwF f ((i : Int) * 5 + S i) := by
    have hs := hS i hi
    have hsg := hw.1
    rw [rwF_at f _ _ hs.1 (by omega)]
    exact (hf i (S i) (by omega) (by omega) hs.1 hs.2).1
  unfold goT tX
  rw [ly_q hw hS, nw_at hw hS hi]
  generalize rk (rwF f) S (sLe σ) m = q at *
  generalize rwF f ((i : Int) * 5 + S i) = b at *
  have e33 : ∀ z, sm (fun t => cnD (sWy σ) (sLe σ) q (i : Int) z (sV σ t) (cwt σ S (-1) told m t) 33) (sTr σ).toNat = (if z ≠ -1 ∧ z = q.1 then 12 / q.2.1 else 0) * crV σ S (pS σ told) m := fun z => by
    show _ = _ * sm (fun t => pwt σ S (pS σ told) m t * sV σ t) _
    rw [← sm_mul]
    exact sm_congr _ (fun t _ _ => by
      show (if (i : Int) = -1 then 0 else wnB q z (cwt σ S (-1) told m t) * sV σ t) = _
      rw [if_neg (by omega), cwt_1]
      unfold wnB
      by_cases c : z ≠ -1 ∧ z = q.1
      · rw [if_pos c, if_pos c, Int.mul_comm _ (12 / q.2.1), Int.mul_assoc]
      · rw [if_neg c, if_neg c, Int.zero_mul, Int.zero_mul])
  have e34 : ∀ z, sm (fun t => cnD (sWy σ) (sLe σ) q (i : Int) z (sV σ t) (cwt σ S (-1) told m t) 34) (sTr σ).toNat = (if z ≠ -1 ∧ z = q.1 then 12 / q.2.1 else 0) * crW σ S (pS σ told) m := fun z => by
    show _ = _ * sm (pwt σ S (pS σ told) m) _
    rw [← sm_mul]
    exact sm_congr _ (fun t _ _ => by
      show (if (i : Int) = -1 then 0 else wnB q z (cwt σ S (-1) told m t)) = _
      rw [if_neg (by omega), cwt_1]
      unfold wnB
      by_cases c : z ≠ -1 ∧ z = q.1
      · rw [if_pos c, if_pos c, Int.mul_comm]
      · rw [if_neg c, if_neg c, Int.zero_mul])
  rw [e33, e34]
  obtain ⟨z, hz⟩ : ∃ z, (if b < sLe σ then -1 else b) = z := ⟨_, rfl⟩
  have hz2 : b < sLe σ ∧ z = -1 ∨ ¬ b < sLe σ ∧ z = b := by rw [← hz]; split <;> omega
  rw [hz] at hmx ⊢
  by_cases c0 : S i = k
  · have t1 : (k = -1 ∨ S i = k) ∧ ((-1 : Int) = -1 ∨ S 0 = 0) := ⟨Or.inr c0, Or.inl rfl⟩
    rw [if_pos t1, if_pos t1]
    by_cases c2 : q.2.1 = 0
    · have t2 : ¬ (z ≠ -1 ∧ z = q.1) := by omega
      rw [if_pos c2, if_pos c2, if_neg t2, Int.zero_mul, Int.zero_mul]; exact ⟨rfl, rfl⟩
    · rw [if_neg c2, if_neg c2]
      by_cases c3 : b = q.1
      · have t2 : z ≠ -1 ∧ z = q.1 := by omega
        have t3 : S i = k ∧ b = q.1 := ⟨c0, c3⟩
        rw [if_pos t2, if_pos t3, if_pos t3]; exact ⟨rfl, rfl⟩
      · have t2 : ¬ (z ≠ -1 ∧ z = q.1) := by omega
        have t3 : ¬ (S i = k ∧ b = q.1) := fun h => c3 h.2
        rw [if_neg t3, if_neg t3, if_neg t2, Int.zero_mul, Int.zero_mul]; exact ⟨rfl, rfl⟩
  · have t1 : ¬ ((k = -1 ∨ S i = k) ∧ ((-1 : Int) = -1 ∨ S 0 = 0)) := fun h => by omega
    have t3 : ¬ (S i = k ∧ b = q.1) := fun h => c0 h.1
    rw [if_neg t1, if_neg t1, if_neg t3, if_neg t3]
    exact ⟨by split <;> rfl, by split <;> rfl⟩
theorem ms_sOK {F F' : (Int → Int) → Int} (hw : wfS σ) (h : ∀ S, sOK σ S m → F S = F' S) : ms (sSg σ).toNat m F = ms (sSg σ).toNat m F' := ms_congr m (fun S hS => h S (fun i hi => by have := hS i hi; have := hw.1; omega))
theorem go28 (hw : wfS σ) : ms (sSg σ).toNat m (goT σ (sLe σ) (sWy σ) m f ask (-1) (-1) (-1) (-1) told 28) = TA σ (pS σ told) m := by
  rw [ms_sOK hw (fun S _ => goT28)]
  exact (sn_ms (by have := hw.1; omega) m (F := tW σ (pS σ told) m) (fun S S' h => by unfold tW; rw [crW_congr (fun _ _ _ => rfl) h])).symm
theorem go29 (hw : wfS σ) (hf : fBd f m (sSg σ)) : ms (sSg σ).toNat m (goT σ (sLe σ) (sWy σ) m f ask (-1) (-1) (-1) (-1) told 29) = TT σ (rwF f) (pS σ told) m := by
  rw [ms_sOK hw (fun S hS => goT29 hw hf hS)]
  exact (sn_ms (by have := hw.1; omega) m (F := tT σ (rwF f) (pS σ told) m (sLe σ) (decide (sWy σ = 2))) (fun S S' h => by unfold tT; rw [crW_congr (fun _ _ _ => rfl) h, rk_congr h])).symm
theorem go30 (hw : wfS σ) (hf : fBd f m (sSg σ)) : ms (sSg σ).toNat m (goT σ (sLe σ) (sWy σ) m f ask (-1) (-1) (-1) (-1) told 30) = TS σ (rwF f) (pS σ told) m := by
  rw [ms_sOK hw (fun S hS => goT30 hw hf hS)]
  exact (sn_ms (by have := hw.1; omega) m (F := tS σ (rwF f) (pS σ told) m (sLe σ)) (fun S S' h => by unfold tS; rw [crB_congr (fun _ _ _ => rfl) h, rk_congr h])).symm
theorem go31 (hw : wfS σ) (hf : fBd f m (sSg σ)) : ms (sSg σ).toNat m (goT σ (sLe σ) (sWy σ) m f ask (-1) (-1) (-1) (-1) told 31) = TU σ (rwF f) (pS σ told) m := by
  rw [ms_sOK hw (fun S hS => goT31 hw hf hS)]
  exact (sn_ms (by have := hw.1; omega) m (F := tU σ (rwF f) (pS σ told) m (sLe σ)) (fun S S' h => by unfold tU; rw [crW_congr (fun _ _ _ => rfl) h, rk_congr h])).symm
theorem go32 (hw : wfS σ) (hf : fBd f m (sSg σ)) {i : Nat} (hi : i < m) : ms (sSg σ).toNat m (goT σ (sLe σ) (sWy σ) m f (i : Int) (-1) (-1) (-1) (-1) told 32) = TG σ (rwF f) (pS σ told) m i := by
  rw [ms_sOK hw (fun S hS => goT32 hw hf hS hi)]
  exact (sn_ms (by have := hw.1; omega) m (F := tG σ (rwF f) (pS σ told) m (sLe σ) (decide (sWy σ = 2)) i) (fun S S' h => by unfold tG; rw [crW_congr (fun _ _ _ => rfl) h, crV_congr (fun _ _ _ => rfl) h, rk_congr h, h i hi])).symm
theorem go33 (hw : wfS σ) (hf : fBd f m (sSg σ)) {i : Nat} (hi : i < m) {k : Int} (hk : k ≠ -1) : ms (sSg σ).toNat m (goT σ (sLe σ) (sWy σ) m f (i : Int) k (-1) (-1) (-1) told 33) = TV σ (rwF f) (pS σ told) m i k := by
  rw [ms_sOK hw (fun S hS => (goT3x hw hf hS hi hk).1)]
  exact (sn_ms (by have := hw.1; omega) m (F := tX (rwF f) m (sLe σ) i k (fun S => crV σ S (pS σ told) m)) (fun S S' h => by unfold tX; dsimp only; rw [crV_congr (fun _ _ _ => rfl) h, rk_congr h, h i hi])).symm
theorem go34 (hw : wfS σ) (hf : fBd f m (sSg σ)) {i : Nat} (hi : i < m) {k : Int} (hk : k ≠ -1) : ms (sSg σ).toNat m (goT σ (sLe σ) (sWy σ) m f (i : Int) k (-1) (-1) (-1) told 34) = TC σ (rwF f) (pS σ told) m i k := by
  rw [ms_sOK hw (fun S hS => (goT3x hw hf hS hi hk).2)]
  exact (sn_ms (by have := hw.1; omega) m (F := tX (rwF f) m (sLe σ) i k (fun S => crW σ S (pS σ told) m)) (fun S S' h => by unfold tX; dsimp only; rw [crW_congr (fun _ _ _ => rfl) h, rk_congr h, h i hi])).symm
end

