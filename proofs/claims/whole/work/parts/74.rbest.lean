/-! the reference's gain by a bid is the rivals' count's -/
theorem RG_one {σ : SaleT} (hw : wfS σ) {f : Int → Int → Int} {P0 : Int → Int} {n : Nat} (hn : n ≤ 3) (hf : fBd f n (sSg σ)) {b : Int} (hb : 0 ≤ b ∧ b ≤ 60) : RG σ f P0 n b = ms (sSg σ).toNat n (fun S => sm (fun t => pwt σ S P0 n t * gnB' (sWy σ) (sLe σ) (rks (sLe σ) (rk (rwF f) S (sLe σ) n) b) (if b < sLe σ then -1 else b) (sV σ t)) (sTr σ).toNat) := by
  obtain ⟨k, rfl⟩ : ∃ k : Nat, b = (k : Int) := ⟨b.toNat, by omega⟩
  have hle := hw.2.2.2.1
  have e1 : RG σ f P0 n (k : Int) = sn (fun i => gn4 (fun a => gX (rwF f) n (sLe σ) (fun S => crW σ S P0 n) a (sq (sSg σ) n z0 i)) (fun a => gX (rwF f) n (sLe σ) (fun S => crV σ S P0 n) a (sq (sSg σ) n z0 i)) (gF (rwF f) n (sLe σ) (fun S => crW σ S P0 n) (sq (sSg σ) n z0 i)) (gF (rwF f) n (sLe σ) (fun S => crV σ S P0 n) (sq (sSg σ) n z0 i)) (sLe σ) (sWy σ) k) (pwi (sSg σ) n).toNat := by
    show gn4 (rvW σ (rwF f) P0 n z0) (rvV σ (rwF f) P0 n z0) (rvF σ (rwF f) P0 n z0) (rvG σ (rwF f) P0 n z0) (sLe σ) (sWy σ) ((k : Int)).toNat = _
    rw [Int.toNat_natCast]
    exact gn4_sn (fun a i => gX (rwF f) n (sLe σ) (fun S => crW σ S P0 n) a (sq (sSg σ) n z0 i)) (fun a i => gX (rwF f) n (sLe σ) (fun S => crV σ S P0 n) a (sq (sSg σ) n z0 i)) _ _ _ _ k _
  rw [e1, sn_ms (by have := hw.1; omega) n (F := fun S => gn4 (fun a => gX (rwF f) n (sLe σ) (fun S => crW σ S P0 n) a S) (fun a => gX (rwF f) n (sLe σ) (fun S => crV σ S P0 n) a S) (gF (rwF f) n (sLe σ) (fun S => crW σ S P0 n) S) (gF (rwF f) n (sLe σ) (fun S => crV σ S P0 n) S) (sLe σ) (sWy σ) k) (fun S S' h => by
    unfold gX gF
    dsimp only
    rw [rk_congr h, crW_congr (fun _ _ _ => rfl) h, crV_congr (fun _ _ _ => rfl) h])]
  refine ms_sOK hw (fun S hS => ?_)
  have hq := rk_qk hw hf hS
  have h1 := gn_one (w := crW σ S P0 n) (v := crV σ S P0 n) (wy := sWy σ) (k := k) hq.1 hq.2.1 (by omega) hle.1 (by omega)
  rw [sm_gn]
  unfold gX gF
  dsimp only
  rw [h1]
  by_cases c : (k : Int) < sLe σ
  · rw [if_pos c, if_pos c, if_pos rfl]
  · rw [if_neg c, if_neg c, if_neg (show ¬ (k : Int) = -1 by omega)]
    rfl
theorem cwt_cg {σ : SaleT} {S S' : Int → Int} {kn told : Int} {n : Nat} (h : ∀ j : Nat, j ≤ n → S j = S' j) (t : Int) : cwt σ S kn told (n + 1) t = cwt σ S' kn told (n + 1) t := by
  unfold cwt
  rw [pwt_congr (S' := S') (k := n + 1) (fun i hi => h i (by omega)) t, pwt_congr (S := fun i => S (i + 1)) (S' := fun i => S' (i + 1)) (k := n + 1 - 1) (fun i hi => h (i + 1) (by omega)) t]
theorem ly_cg {σ : SaleT} {f : Int → Int → Int} {S S' : Int → Int} {ask ab : Int} {n : Nat} (h : ∀ j : Nat, j ≤ n → S j = S' j) (j : Nat) (hj : j < n + 1) : lyB σ f S ask ab (-1) j = lyB σ f S' ask ab (-1) j := by
  have c1 : ∀ c : Prop, ¬ ((-1 : Int) ≠ -1 ∧ c) := fun c h => h.1 rfl
  unfold lyB ly0
  rw [if_neg (c1 _), if_neg (c1 _), if_neg (c1 _), if_neg (c1 _), h j (by omega)]
section
variable {σ : SaleT} {f : Int → Int → Int} {n i : Nat} {b d kn : Int}
theorem ly_ins (hw : wfS σ) {S : Int → Int} (hS : sOK σ S n) (hb : 0 ≤ b ∧ b ≤ 60) (hi : i ≤ n) (j : Nat) (hj : j < n + 1) : lyB σ f (ins S i d) i b (-1) j = ins (fun p => rwF (fun p k => f (if p < (i : Int) then p else p + 1) k) (p * 5 + S p)) i b j := by
  have hsg := hw.1
  unfold lyB ly0 ins
  rw [if_neg (fun h => h.1 rfl), if_neg (fun h => h.1 rfl)]
  by_cases c1 : (j : Int) < i
  · have hs := hS j (by omega)
    rw [if_neg (by omega), if_pos c1, if_pos c1]
    show _ = rwF (fun p k => f (if p < (i : Int) then p else p + 1) k) ((j : Int) * 5 + S j)
    rw [rwF_at _ _ _ hs.1 (by omega), if_pos c1]
  · by_cases c2 : (j : Int) = i
    · rw [if_pos ⟨c2, by omega⟩, if_neg c1, if_pos c2]
    · have hs := hS (j - 1) (by omega)
      rw [show ((j - 1 : Nat) : Int) = (j : Int) - 1 by omega] at hs
      rw [if_neg (fun h => c2 h.1), if_neg c1, if_neg c2, if_neg c1, if_neg c2]
      show _ = rwF (fun p k => f (if p < (i : Int) then p else p + 1) k) (((j : Int) - 1) * 5 + S ((j : Int) - 1))
      rw [rwF_at _ _ _ hs.1 (by omega), if_neg (by omega), show (j : Int) - 1 + 1 = j by omega]
theorem go_ins (hw : wfS σ) {P0 : Int → Int} (hn : n ≤ 3) (hf : fBd f (n + 1) (sSg σ)) (hb : 0 ≤ b ∧ b ≤ 60) (hi : i ≤ n) (hd : 0 ≤ d ∧ d < sSg σ) (hP : ∀ S, sOK σ S n → ∀ t, 0 ≤ t → t < sTr σ → cwt σ (ins S i d) kn (-1) (n + 1) t = pwt σ S P0 n t) : ms (sSg σ).toNat (n + 1) (fun S => if S i = d then sm (fun t => cnD (sWy σ) (sLe σ) (rkb (lyB σ f S i b (-1)) (sLe σ) (n + 1)) i (nwB (lyB σ f S i b (-1)) (sLe σ) i) (sV σ t) (cwt σ S kn (-1) (n + 1) t) 32) (sTr σ).toNat else 0) = RG σ (fun p k => f (if p < (i : Int) then p else p + 1) k) P0 n b := by
  obtain ⟨d', rfl⟩ : ∃ d' : Nat, d = (d' : Int) := ⟨d.toNat, by omega⟩
  have hle := hw.2.2.2.1
  have hf' : fBd (fun p k => f (if p < (i : Int) then p else p + 1) k) n (sSg σ) := fun p k p0 p1 k0 k1 => by
    by_cases c : p < (i : Int)
    · show 0 ≤ f (if p < (i : Int) then p else p + 1) k ∧ f (if p < (i : Int) then p else p + 1) k ≤ 60
      rw [if_pos c]; exact hf p k p0 (by omega) k0 k1
    · show 0 ≤ f (if p < (i : Int) then p else p + 1) k ∧ f (if p < (i : Int) then p else p + 1) k ≤ 60
      rw [if_neg c]; exact hf (p + 1) k (by omega) (by omega) k0 k1
  rw [RG_one hw hn hf' hb]
  rw [ms_ins (show d' < (sSg σ).toNat by omega) n (fun S => sm (fun t => cnD (sWy σ) (sLe σ) (rkb (lyB σ f S i b (-1)) (sLe σ) (n + 1)) i (nwB (lyB σ f S i b (-1)) (sLe σ) i) (sV σ t) (cwt σ S kn (-1) (n + 1) t) 32) (sTr σ).toNat) hi (fun S S' h => by
    rw [rkb_congr (n + 1) (ly_cg h), show nwB (lyB σ f S i b (-1)) (sLe σ) i = nwB (lyB σ f S' i b (-1)) (sLe σ) i from by unfold nwB; rw [ly_cg h i (by omega)]]
    exact sm_congr _ (fun t _ _ => by rw [cwt_cg h t]))]
  refine ms_sOK hw (fun S hS => ?_)
  have e1 : rkb (lyB σ f (ins S i d') i b (-1)) (sLe σ) (n + 1) = rks (sLe σ) (rk (rwF (fun p k => f (if p < (i : Int) then p else p + 1) k)) S (sLe σ) n) b := by
    rw [rkb_congr (n + 1) (fun j hj => ly_ins hw hS hb hi j hj), rkb_ins hle.1 hb n hi (fun j j0 j1 => ?_), rk_rkb]
    have hs := hS j.toNat (by omega)
    rw [show ((j.toNat : Nat) : Int) = j by omega] at hs
    rw [rwF_at _ _ _ hs.1 (by have := hw.1; omega)]
    exact hf' j (S j) j0 j1 hs.1 hs.2
  have e2 : nwB (lyB σ f (ins S i d') i b (-1)) (sLe σ) i = if b < sLe σ then -1 else b := by
    unfold nwB
    rw [ly_ins hw hS hb hi i (by omega), show ins (fun p => rwF (fun p k => f (if p < (i : Int) then p else p + 1) k) (p * 5 + S p)) (i : Int) b (i : Int) = b from by unfold ins; rw [if_neg (by omega), if_pos rfl]]
  rw [e1, e2]
  refine sm_congr _ (fun t t0 t1 => ?_)
  rw [hP S hS t t0 (by omega)]
  show (if (i : Int) = -1 then 0 else _ * _) = _
  rw [if_neg (by omega)]
theorem go_best (hw : wfS σ) (hn : n ≤ 3) (hf : fBd f (n + 1) (sSg σ)) (hb : 0 ≤ b ∧ b ≤ 60) (hi : i ≤ n) (hd : 0 ≤ d ∧ d < sSg σ) : ms (sSg σ).toNat (n + 1) (goT σ (sLe σ) (sWy σ) (n + 1) f i d b (-1) (-1) (-1) 32) = RG σ (fun p k => f (if p < (i : Int) then p else p + 1) k) (pS σ d) n b := by
  rw [← go_ins (kn := -1) hw hn hf hb hi hd (fun S hS t t0 t1 => by
    rw [cwt_1]
    exact pwt_ins (by
      show sW σ t * see σ t d = sW σ t * see σ t (-1) * sO σ (t * 5 + d)
      have h1 : see σ t (-1) = 1 := if_neg (by omega)
      have h2 : see σ t d = sO σ (t * 5 + d) := if_pos hd
      rw [h1, h2, Int.mul_one]) n hi)]
  refine ms_congr (n + 1) (fun S _ => ?_)
  unfold goT
  by_cases c : S i = d
  · rw [if_pos ⟨Or.inr c, Or.inl rfl⟩, if_pos c]
  · have c2 : ¬ ((d = -1 ∨ S i = d) ∧ ((-1 : Int) = -1 ∨ S 0 = 0)) := fun h => by omega
    rw [if_neg c2, if_neg c]
theorem pwt_z {S P0 : Int → Int} {t : Int} (h : P0 t = 0) : ∀ m : Nat, pwt σ S P0 m t = 0
  | 0 => h
  | m + 1 => by
    show pwt σ S P0 m t * sO σ (t * 5 + S m) = 0
    rw [pwt_z h m, Int.zero_mul]
theorem go_near (hw : wfS σ) (hn : n ≤ 3) (hf : fBd f (n + 1) (sSg σ)) (hb : 0 ≤ b ∧ b ≤ 60) (hk : 0 ≤ kn) : ms (sSg σ).toNat (n + 1) (goT σ (sLe σ) (sWy σ) (n + 1) f 0 (-1) b kn (-1) (-1) 32) = RG σ (fun p k => f (if p < ((0 : Nat) : Int) then p else p + 1) k) (pT σ kn) n b := by
  rw [← go_ins (kn := kn) (i := 0) (d := 0) hw hn hf hb (Nat.zero_le _) (by have := hw.1; omega) (fun S hS t t0 t1 => by
    unfold cwt
    rw [if_neg (by omega)]
    have e : (fun z : Int => ins S ((0 : Nat) : Int) 0 (z + 1)) = fun z => if z + 1 < 0 then S (z + 1) else if z + 1 = 0 then 0 else S z := funext (fun z => by
      unfold ins
      rw [show z + 1 - 1 = z by omega]; rfl)
    by_cases c : kn = t
    · rw [if_pos c]
      rw [pwt_congr (S' := S) (k := n + 1 - 1) (fun z hz => by
        show ins S ((0 : Nat) : Int) 0 ((z : Int) + 1) = S z
        unfold ins
        rw [if_neg (by omega), if_neg (by omega), show (z : Int) + 1 - 1 = z by omega]) t]
      exact pwt_at t (by
        show sW σ t * see σ t (-1) = if t = kn then sW σ t else 0
        have h1 : see σ t (-1) = 1 := if_neg (by omega)
        rw [h1, if_pos c.symm, Int.mul_one]) n
    · rw [if_neg c]
      exact (pwt_z (by
        show (if t = kn then sW σ t else 0) = 0
        rw [if_neg (fun h => c h.symm)]) n).symm)]
  refine ms_congr (n + 1) (fun S _ => ?_)
  unfold goT
  by_cases c : S ((0 : Nat) : Int) = 0
  · rw [if_pos ⟨Or.inl rfl, Or.inr c⟩, if_pos c]; rfl
  · have c2 : ¬ (((-1 : Int) = -1 ∨ S 0 = -1) ∧ (kn = -1 ∨ S 0 = 0)) := fun h => by
      rcases h.2 with h | h
      · omega
      · exact c h
    rw [if_neg c2, if_neg c]
end

