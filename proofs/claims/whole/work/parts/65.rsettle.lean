/-! the reference: what stands of laid bids; pays, gains, taken -/
def nwB (B : Int → Int) (le i : Int) : Int := if B i < le then -1 else B i
def rkb (B : Int → Int) (le : Int) : Nat → Int × Int × Int × Int
  | 0 => (-1, 0, -1, 0)
  | k + 1 => rks le (rkb B le k) (B k)
def bbO (B : Int → Int) (m : Nat) : Prop := ∀ i : Int, 0 ≤ i → i < m → -1 ≤ B i ∧ B i ≤ 60
def qkO (le : Int) (q : Int × Int × Int × Int) : Prop := (q.1 = -1 ∧ q.2.1 = 0 ∧ q.2.2.1 = -1) ∨ (0 ≤ q.1 ∧ le ≤ q.1 ∧ 1 ≤ q.2.1 ∧ (q.2.2.1 = -1 ∨ 0 ≤ q.2.2.1 ∧ le ≤ q.2.2.1 ∧ q.2.2.1 ≤ q.1) ∧ (q.2.1 = 1 → q.2.2.1 < q.1) ∧ (1 < q.2.1 → q.2.2.1 = q.1))
theorem rks_ok {le b v : Int} {q : Int × Int × Int × Int} (hle : 0 ≤ le) (hb : -1 ≤ b ∧ b ≤ 60) (hv : v = if b < le then -1 else b) (hq : qkO le q) (h1 : q.1 ≤ 60) : qkO le (rks le q b) ∧ (rks le q b).1 ≤ 60 ∧ (rks le q b).2.1 ≤ q.2.1 + 1 ∧ q.1 ≤ (rks le q b).1 ∧ ((rks le q b).1 = q.1 → q.2.1 ≤ (rks le q b).2.1) ∧ (rks le q b).2.2.2 = q.2.2.2 + (if 0 < v then v else 0) ∧ (rks le q b).1 = (if q.1 < v then v else q.1) ∧ (rks le q b).2.1 = (if q.1 < v then 1 else if v = q.1 ∧ q.1 ≠ -1 then q.2.1 + 1 else q.2.1) := by
  unfold qkO at hq ⊢
  unfold rks
  by_cases c1 : b < le
  · rw [if_pos c1] at hv ⊢
    subst hv
    have e1 : ¬ q.1 < -1 := by omega
    rw [if_neg e1, if_neg e1]
    refine ⟨hq, h1, by omega, by omega, fun _ => by omega, by omega, rfl, ?_⟩
    split <;> omega
  · rw [if_neg c1] at hv ⊢
    subst hv
    have e0 : q.2.2.2 + v = q.2.2.2 + (if 0 < v then v else 0) := by split <;> omega
    by_cases c2 : q.1 < v
    · rw [if_pos c2]; dsimp only; refine ⟨by omega, by omega, by omega, by omega, fun _ => by omega, e0, by rw [if_pos c2], by rw [if_pos c2]⟩
    · rw [if_neg c2]
      by_cases c3 : v = q.1
      · rw [if_pos c3]; dsimp only; refine ⟨by omega, by omega, by omega, by omega, fun _ => by omega, e0, by rw [if_neg c2], by rw [if_neg c2, if_pos ⟨c3, by omega⟩]⟩
      · rw [if_neg c3]
        by_cases c4 : q.2.2.1 < v
        · rw [if_pos c4]; dsimp only; refine ⟨by omega, by omega, by omega, by omega, fun _ => by omega, e0, by rw [if_neg c2], by rw [if_neg c2, if_neg (fun h => c3 h.1)]⟩
        · rw [if_neg c4]; dsimp only; refine ⟨by omega, by omega, by omega, by omega, fun _ => by omega, e0, by rw [if_neg c2], by rw [if_neg c2, if_neg (fun h => c3 h.1)]⟩
theorem rkb_ok {B : Int → Int} {le : Int} (hle : 0 ≤ le) : ∀ k : Nat, bbO B k → qkO le (rkb B le k) ∧ (rkb B le k).1 ≤ 60 ∧ (rkb B le k).2.1 ≤ k ∧ -1 ≤ (rkb B le k).1 ∧ 0 ≤ (rkb B le k).2.1
  | 0, _ => ⟨Or.inl ⟨rfl, rfl, rfl⟩, by show (-1 : Int) ≤ 60; omega, by show (0 : Int) ≤ ((0 : Nat) : Int); omega, by show (-1 : Int) ≤ -1; omega, by show (0 : Int) ≤ 0; omega⟩
  | k + 1, h => by
    have ih := rkb_ok hle k (fun i i0 i1 => h i i0 (by omega))
    have s := rks_ok (b := B k) hle (h k (by omega) (by omega)) rfl ih.1 ih.2.1
    show qkO le (rks le (rkb B le k) (B k)) ∧ (rks le (rkb B le k) (B k)).1 ≤ 60 ∧ (rks le (rkb B le k) (B k)).2.1 ≤ ((k + 1 : Nat) : Int) ∧ -1 ≤ (rks le (rkb B le k) (B k)).1 ∧ 0 ≤ (rks le (rkb B le k) (B k)).2.1
    refine ⟨s.1, s.2.1, by omega, by omega, ?_⟩
    have := s.1
    unfold qkO at this
    omega
theorem rk_rkb {R S : Int → Int} {le : Int} : ∀ k : Nat, rk R S le k = rkb (fun i => R (i * 5 + S i)) le k
  | 0 => rfl
  | k + 1 => by
    show rks le (rk R S le k) (R ((k : Int) * 5 + S k)) = rks le (rkb _ le k) (R ((k : Int) * 5 + S k))
    rw [rk_rkb k]
theorem rkb_congr {B B' : Int → Int} {le : Int} : ∀ k : Nat, (∀ i : Nat, i < k → B i = B' i) → rkb B le k = rkb B' le k
  | 0, _ => rfl
  | k + 1, h => by
    show rks le (rkb B le k) (B k) = rks le (rkb B' le k) (B' k)
    rw [rkb_congr k (fun i hi => h i (by omega)), h k (by omega)]
theorem rkb_max {B : Int → Int} {le : Int} (hle : 0 ≤ le) : ∀ k : Nat, bbO B k → ∀ {i : Int}, 0 ≤ i → i < k → nwB B le i ≤ (rkb B le k).1
  | 0, _, i, i0, i1 => by omega
  | k + 1, h, i, i0, i1 => by
    have o := rkb_ok hle k (fun i i0 i1 => h i i0 (by omega))
    have hb := h k (by omega) (by omega)
    have s := rks_ok (b := B k) hle hb (v := nwB B le k) rfl o.1 o.2.1
    show nwB B le i ≤ (rks le (rkb B le k) (B k)).1
    by_cases c : i = (k : Int)
    · subst c; have := s.2.2.2.2.2.2.1; split at this <;> omega
    · have := rkb_max hle k (fun i i0 i1 => h i i0 (by omega)) i0 (show i < (k : Int) by omega)
      have := s.2.2.2.1
      omega
/-- what a winner pays -/
def payB (wy le : Int) (q : Int × Int × Int × Int) : Int := if wy = 1 then (if q.2.2.1 = -1 then le else q.2.2.1) else q.1
def mxB (B : Int → Int) (le H : Int) : Nat → Int
  | 0 => le
  | k + 1 => if nwB B le k < H then (if mxB B le H k < nwB B le k then nwB B le k else mxB B le H k) else mxB B le H k
theorem mxB_eq {B : Int → Int} {le H : Int} (hle : 0 ≤ le) (hH : 0 ≤ H) : ∀ k : Nat, bbO B k → (rkb B le k).1 ≤ H → ((rkb B le k).1 = H → (rkb B le k).2.1 ≤ 1) → mxB B le H k = if (rkb B le k).1 < H then (if (rkb B le k).1 < le then le else (rkb B le k).1) else (if (rkb B le k).2.2.1 = -1 then le else (rkb B le k).2.2.1)
  | 0, _, h1, _ => by
    show le = if (-1 : Int) < H then (if (-1 : Int) < le then le else -1) else _
    rw [if_pos (by omega), if_pos (by omega)]
  | k + 1, hB, h1, h2 => by
    have o := rkb_ok hle k (fun i i0 i1 => hB i i0 (by omega))
    have hb := hB k (by omega) (by omega)
    have s := rks_ok (b := B k) hle hb rfl o.1 o.2.1
    have h1' : (rks le (rkb B le k) (B k)).1 ≤ H := h1
    have h2' : (rks le (rkb B le k) (B k)).1 = H → (rks le (rkb B le k) (B k)).2.1 ≤ 1 := h2
    have ih := mxB_eq hle hH k (fun i i0 i1 => hB i i0 (by omega)) (by omega) (fun e => by have := s.2.2.2.2.1 (by omega); have := h2' (by omega); omega)
    show (if nwB B le k < H then (if mxB B le H k < nwB B le k then nwB B le k else mxB B le H k) else mxB B le H k) = if (rks le (rkb B le k) (B k)).1 < H then (if (rks le (rkb B le k) (B k)).1 < le then le else (rks le (rkb B le k) (B k)).1) else (if (rks le (rkb B le k) (B k)).2.2.1 = -1 then le else (rks le (rkb B le k) (B k)).2.2.1)
    rw [ih]
    have hq := o.1
    have hs := s.1
    clear ih s o h1 h2
    unfold nwB
    generalize rkb B le k = q at *
    generalize B k = b at *
    unfold rks at h1' h2' hs ⊢
    unfold qkO at hq
    by_cases c1 : b < le
    · rw [if_pos c1] at h1' h2' ⊢
      rw [if_pos c1]
      have hm : ∀ z : Int, 0 ≤ z → (if (-1 : Int) < H then (if z < -1 then -1 else z) else z) = z := fun z hz => by rw [if_pos (by omega), if_neg (by omega)]
      refine hm _ ?_
      (repeat' split) <;> omega
    · rw [if_neg c1] at h1' h2' ⊢
      rw [if_neg c1]
      by_cases c2 : q.1 < b
      · rw [if_pos c2] at h1' h2' ⊢
        dsimp only at h1' h2' ⊢
        (repeat' split) <;> omega
      · rw [if_neg c2] at h1' h2' ⊢
        by_cases c3 : b = q.1
        · rw [if_pos c3] at h1' h2' ⊢
          dsimp only at h1' h2' ⊢
          (repeat' split) <;> omega
        · rw [if_neg c3] at h1' h2' ⊢
          by_cases c4 : q.2.2.1 < b
          · rw [if_pos c4] at h1' h2' ⊢
            dsimp only at h1' h2' ⊢
            (repeat' split) <;> omega
          · rw [if_neg c4] at h1' h2' ⊢
            dsimp only at h1' h2' ⊢
            (repeat' split) <;> omega
theorem payB_bd {wy le : Int} {q : Int × Int × Int × Int} (hle : 0 ≤ le ∧ le ≤ 60) (hq : qkO le q) (h1 : -1 ≤ q.1 ∧ q.1 ≤ 60) : -1 ≤ payB wy le q ∧ payB wy le q ≤ 60 := by
  unfold qkO at hq
  unfold payB
  (repeat' split) <;> omega
/-- the laid bids have been settled -/
def StB (x : Nat → Int) (a : Nat → Int → Int) (B : Int → Int) (le wy : Int) (m : Nat) : Prop := x 21 = (m : Int) ∧ x 22 = le ∧ x 23 = wy ∧ x 26 = (rkb B le m).1 ∧ x 27 = (rkb B le m).2.1 ∧ ∀ i, 0 ≤ i → i < (m : Int) → a 24 i = nwB B le i
/-- what a seat gains, times twelve, by what it is worth; what the seller takes -/
def gnB' (wy le : Int) (q : Int × Int × Int × Int) (b v : Int) : Int := if b = -1 then 0 else if wy = 2 then (if b = q.1 then 12 / q.2.1 else 0) * v - 12 * b else (if b = q.1 then 12 / q.2.1 else 0) * (v - payB wy le q)
def tkB (wy le : Int) (q : Int × Int × Int × Int) : Int := if q.1 = -1 then 0 else if wy = 2 then 12 * q.2.2.2 else 12 * payB wy le q
section
variable {l : Launch} {G : sw_G} {M : sw_M} {x : Nat → Int} {a : Nat → Int → Int}
theorem K10_settle {B : Int → Int} {le wy : Int} {m : Nat} (hM : RS G M x a) (h21 : x 21 = (m : Int)) (h22 : x 22 = le) (h23 : x 23 = wy) (ha24 : ∀ i, 0 ≤ i → i < (m : Int) → a 24 i = B i) (hm : m ≤ 4) (hle : 0 ≤ le ∧ le ≤ 60) (hB : bbO B m) : Kt l G μX10_settle [.ref (sw_al G 70)] M (fun r M' => ∃ x' a', r = none ∧ RS G M' x' a' ∧ frR M M' ∧ xfr [26, 27] x x' ∧ afr [24] a a' ∧ StB x' a' B le wy m) := by
  refine KtA.of (by decide +kernel) (Nat.le_of_ble_eq_true rfl) ?_
  have hF : frR M M := frR.rf
  obtain ⟨Zq, hZ⟩ : ∃ Zq : Option Value → sw_M → Prop, Zq = (fun r M' => ∃ x' a', r = none ∧ RS G M' x' a' ∧ frR M M' ∧ xfr [26, 27] x x' ∧ afr [24] a a' ∧ StB x' a' B le wy m) := ⟨_, rfl⟩
  rw [← hZ]
  have loop : ∀ (n k : Nat) (x1 : Nat → Int) (a1 : Nat → Int → Int) (M1 : sw_M), k + n = m → RS G M1 x1 a1 → frR M M1 → xfr [26, 27] x x1 → afr [24] a a1 → x1 26 = (rkb B le k).1 → x1 27 = (rkb B le k).2.1 → (∀ i, 0 ≤ i → i < (m : Int) → a1 24 i = if i < (k : Int) then nwB B le i else B i) → V l G μX10_settle sw_E0 (sw_Zq G μX10_settle (sw_q0 G Zq)) 12 [(0, .ref (sw_al G 70)), (1, sw_i (k : Int))] [] M1 0 0 := by
    intro n
    induction n with
    | zero =>
      intro k x1 a1 M1 hk hM hF hx ha g26 g27 gN
      have e : k = m := by omega
      subst e
      have g21 : x1 21 = (k : Int) := (hx 21 (by decide)).trans h21
      refine v_iload_n dX10_settle_12 rfl ?_
      refine v_aload_n dX10_settle_13 rfl ?_
      refine v_rgi 21 hM g21 fl_X10_176 rfl dX10_settle_14 ?_
      refine v_icmp_ge (tgt := 127) dX10_settle_17 (by decide) ⟨by omega, by omega⟩ ⟨by omega, by omega⟩ (fun h17 => ?_) (fun h17 => ?_)
      · skip
        exact v_vret dX10_settle_127 rfl (Nat.le_refl _) (Nat.le_refl _) (by rw [hZ]; exact ⟨x1, a1, rfl, hM, hF, hx, ha, g21, (hx 22 (by decide)).trans h22, (hx 23 (by decide)).trans h23, g26, g27, fun i i0 i1 => by rw [gN i i0 i1, if_pos i1]⟩)
      · skip
        exfalso; omega
    | succ n ih =>
      intro k x1 a1 M1 hk hM hF hx ha g26 g27 gN
      have g21 : x1 21 = (m : Int) := (hx 21 (by decide)).trans h21
      have g22 : x1 22 = le := (hx 22 (by decide)).trans h22
      have o := rkb_ok (B := B) hle.1 k (fun i i0 i1 => hB i i0 (by omega))
      have hb := hB k (by omega) (by omega)
      have s := rks_ok (b := B k) hle.1 hb (v := nwB B le k) rfl o.1 o.2.1
      have gB : a1 24 k = B k := by rw [gN k (by omega) (by omega), if_neg (by omega)]
      have nxt : ∀ (hi al : Int) (M2 : sw_M), hi = (rks le (rkb B le k) (B k)).1 → al = (rks le (rkb B le k) (B k)).2.1 → RS G M2 (upn (upn x1 27 al) 26 hi) (upa a1 24 (up (a1 24) k (nwB B le k))) → frR M M2 → V l G μX10_settle sw_E0 (sw_Zq G μX10_settle (sw_q0 G Zq)) 12 [(0, .ref (sw_al G 70)), (1, sw_i ((k : Int) + 1))] [] M2 0 0 := fun hi al M2 h2 h3 g1 g2 => v_to (ih (k + 1) _ _ M2 (by omega) g1 g2 ((hx.up (k := 27) (by decide)).up (k := 26) (by decide)) (ha.up (k := 24) (by decide)) (upn_s.trans h2) ((upn_o (by decide)).trans (upn_s.trans h3)) (fun i i0 i1 => by
        show up (a1 24) k (nwB B le k) i = _
        by_cases c : i = (k : Int)
        · subst c; rw [up_eq, if_pos (by omega)]
        · rw [up_ne c, gN i i0 i1]
          by_cases c2 : i < (k : Int)
          · rw [if_pos c2, if_pos (by omega)]
          · rw [if_neg c2, if_neg (by omega)])) rfl (sw_h1 rfl (sw_h1 rfl sw_h0))
      obtain ⟨-, -, -, -, -, -, s1, s2⟩ := s
      have hv : B k < le ∧ nwB B le k = -1 ∨ ¬ B k < le ∧ nwB B le k = B k := by unfold nwB; split <;> omega
      generalize nwB B le k = v at *
      generalize rks le (rkb B le k) (B k) = q' at s1 s2 nxt
      generalize rkb B le k = q at *
      generalize B k = b at gB hb hv
      refine v_iload_n dX10_settle_12 rfl ?_
      refine v_aload_n dX10_settle_13 rfl ?_
      refine v_rgi 21 hM g21 fl_X10_176 rfl dX10_settle_14 ?_
      refine v_icmp_ge (tgt := 127) dX10_settle_17 (by decide) ⟨by omega, by omega⟩ ⟨by omega, by omega⟩ (fun h17 => ?_) (fun h17 => ?_)
      · skip
        exfalso; omega
      · skip
        refine v_aload_n dX10_settle_20 rfl ?_
        refine v_getfH 24 hM.1 fl_X10_49 rfl dX10_settle_21 ?_
        refine v_iload_n dX10_settle_24 rfl ?_
        refine v_aload_n dX10_settle_25 rfl ?_
        refine v_getfH 24 hM.1 fl_X10_49 rfl dX10_settle_26 ?_
        refine v_iload_n dX10_settle_29 rfl ?_
        refine v_ria hM ar_24 (by omega) (by omega) gB dX10_settle_30 ?_
        refine v_aload_n dX10_settle_31 rfl ?_
        refine v_rgi 22 hM g22 fl_X10_183 rfl dX10_settle_32 ?_
        refine v_icmp_ge (tgt := 42) dX10_settle_35 (by decide) ⟨by omega, by omega⟩ ⟨by omega, by omega⟩ (fun h35 => ?_) (fun h35 => ?_)
        · skip
          have ev : v = b := by omega
          subst ev
          refine v_aload_n dX10_settle_42 rfl ?_
          refine v_getfH 24 hM.1 fl_X10_49 rfl dX10_settle_43 ?_
          refine v_iload_n dX10_settle_46 rfl ?_
          refine v_ria hM ar_24 (by omega) (by omega) gB dX10_settle_47 ?_
          refine v_ris hM hF ar_24 (by omega) (by omega) dX10_settle_48 (fun M hM hF => ?_)
          refine v_aload_n dX10_settle_49 rfl ?_
          refine v_aload_n dX10_settle_50 rfl ?_
          refine v_getfH 24 hM.1 fl_X10_49 rfl dX10_settle_51 ?_
          refine v_iload_n dX10_settle_54 rfl ?_
          refine v_ria hM ar_24 (by omega) (by omega) up_eq dX10_settle_55 ?_
          refine v_aload_n dX10_settle_56 rfl ?_
          refine v_rgi 26 hM g26 fl_X10_202 rfl dX10_settle_57 ?_
          refine v_icmp_le (tgt := 67) dX10_settle_60 (by decide) ⟨by omega, by omega⟩ ⟨by omega, by omega⟩ (fun h60 => ?_) (fun h60 => ?_)
          · skip
            refine v_aload_n dX10_settle_67 rfl ?_
            refine v_getfH 24 hM.1 fl_X10_49 rfl dX10_settle_68 ?_
            refine v_iload_n dX10_settle_71 rfl ?_
            refine v_ria hM ar_24 (by omega) (by omega) up_eq dX10_settle_72 ?_
            refine v_aload_n dX10_settle_73 rfl ?_
            refine v_rgi 26 hM g26 fl_X10_202 rfl dX10_settle_74 ?_
            refine v_icmp_ne (tgt := 97) dX10_settle_77 (by decide) ⟨by omega, by omega⟩ ⟨by omega, by omega⟩ (fun h77 => ?_) (fun h77 => ?_)
            · skip
              refine v_aload_n dX10_settle_97 rfl ?_
              refine v_rgi 27 hM g27 fl_X10_205 rfl dX10_settle_98 ?_
              refine v_rp 27 hM hF (flS_27 G _ _) fp_X10_205 rfl rfl (Nat.le_of_ble_eq_true rfl) dX10_settle_101 (fun M hM hF => ?_)
              refine v_aload_n dX10_settle_104 rfl ?_
              refine v_aload_n dX10_settle_105 rfl ?_
              refine v_rgi 26 hM ((upn_o (by decide)).trans g26) fl_X10_202 rfl dX10_settle_106 ?_
              refine v_aload_n dX10_settle_109 rfl ?_
              refine v_getfH 24 hM.1 fl_X10_49 rfl dX10_settle_110 ?_
              refine v_iload_n dX10_settle_113 rfl ?_
              refine v_ria hM ar_24 (by omega) (by omega) up_eq dX10_settle_114 ?_
              refine v_max ⟨by omega, by omega⟩ ⟨by omega, by omega⟩ ql_X10_208 ⟨Nat.le_of_ble_eq_true rfl, Nat.le_of_ble_eq_true rfl⟩ (Nat.le_refl _) (Nat.le_refl _) dX10_settle_115 ?_
              refine v_rp 26 hM hF (flS_26 G _ _) fp_X10_202 rfl rfl (Nat.le_of_ble_eq_true rfl) dX10_settle_118 (fun M hM hF => ?_)
              refine v_iinc dX10_settle_121 rfl (Nat.le_of_ble_eq_true rfl) ?_
              refine v_goto (tgt := 12) dX10_settle_124 (by decide) ?_
              exact v_to (nxt _ _ _ (by rw [s1]) (by rw [s2]; (repeat' split) <;> omega) hM hF) rfl (sw_h1 rfl (sw_h1 rfl sw_h0))
            · skip
              refine v_aload_n dX10_settle_80 rfl ?_
              refine v_rgi 26 hM g26 fl_X10_202 rfl dX10_settle_81 ?_
              refine v_iconst dX10_settle_84 ?_
              refine v_icmp_eq (tgt := 97) dX10_settle_85 (by decide) ⟨by omega, by omega⟩ ⟨by omega, by omega⟩ (fun h85 => ?_) (fun h85 => ?_)
              · skip
                refine v_aload_n dX10_settle_97 rfl ?_
                refine v_rgi 27 hM g27 fl_X10_205 rfl dX10_settle_98 ?_
                refine v_rp 27 hM hF (flS_27 G _ _) fp_X10_205 rfl rfl (Nat.le_of_ble_eq_true rfl) dX10_settle_101 (fun M hM hF => ?_)
                refine v_aload_n dX10_settle_104 rfl ?_
                refine v_aload_n dX10_settle_105 rfl ?_
                refine v_rgi 26 hM ((upn_o (by decide)).trans g26) fl_X10_202 rfl dX10_settle_106 ?_
                refine v_aload_n dX10_settle_109 rfl ?_
                refine v_getfH 24 hM.1 fl_X10_49 rfl dX10_settle_110 ?_
                refine v_iload_n dX10_settle_113 rfl ?_
                refine v_ria hM ar_24 (by omega) (by omega) up_eq dX10_settle_114 ?_
                refine v_max ⟨by omega, by omega⟩ ⟨by omega, by omega⟩ ql_X10_208 ⟨Nat.le_of_ble_eq_true rfl, Nat.le_of_ble_eq_true rfl⟩ (Nat.le_refl _) (Nat.le_refl _) dX10_settle_115 ?_
                refine v_rp 26 hM hF (flS_26 G _ _) fp_X10_202 rfl rfl (Nat.le_of_ble_eq_true rfl) dX10_settle_118 (fun M hM hF => ?_)
                refine v_iinc dX10_settle_121 rfl (Nat.le_of_ble_eq_true rfl) ?_
                refine v_goto (tgt := 12) dX10_settle_124 (by decide) ?_
                exact v_to (nxt _ _ _ (by rw [s1]) (by rw [s2]; (repeat' split) <;> omega) hM hF) rfl (sw_h1 rfl (sw_h1 rfl sw_h0))
              · skip
                refine v_aload_n dX10_settle_88 rfl ?_
                refine v_rgi 27 hM g27 fl_X10_205 rfl dX10_settle_89 ?_
                refine v_iconst dX10_settle_92 ?_
                refine v_iadd dX10_settle_93 ?_
                refine v_goto (tgt := 101) dX10_settle_94 (by decide) ?_
                refine v_rp 27 hM hF (flS_27 G _ _) fp_X10_205 rfl rfl (Nat.le_of_ble_eq_true rfl) dX10_settle_101 (fun M hM hF => ?_)
                refine v_aload_n dX10_settle_104 rfl ?_
                refine v_aload_n dX10_settle_105 rfl ?_
                refine v_rgi 26 hM ((upn_o (by decide)).trans g26) fl_X10_202 rfl dX10_settle_106 ?_
                refine v_aload_n dX10_settle_109 rfl ?_
                refine v_getfH 24 hM.1 fl_X10_49 rfl dX10_settle_110 ?_
                refine v_iload_n dX10_settle_113 rfl ?_
                refine v_ria hM ar_24 (by omega) (by omega) up_eq dX10_settle_114 ?_
                refine v_max ⟨by omega, by omega⟩ ⟨by omega, by omega⟩ ql_X10_208 ⟨Nat.le_of_ble_eq_true rfl, Nat.le_of_ble_eq_true rfl⟩ (Nat.le_refl _) (Nat.le_refl _) dX10_settle_115 ?_
                refine v_rp 26 hM hF (flS_26 G _ _) fp_X10_202 rfl rfl (Nat.le_of_ble_eq_true rfl) dX10_settle_118 (fun M hM hF => ?_)
                refine v_iinc dX10_settle_121 rfl (Nat.le_of_ble_eq_true rfl) ?_
                refine v_goto (tgt := 12) dX10_settle_124 (by decide) ?_
                exact v_to (nxt _ _ _ (by rw [s1]) (by rw [s2]; (repeat' split) <;> omega) hM hF) rfl (sw_h1 rfl (sw_h1 rfl sw_h0))
          · skip
            refine v_iconst dX10_settle_63 ?_
            refine v_goto (tgt := 101) dX10_settle_64 (by decide) ?_
            refine v_rp 27 hM hF (flS_27 G _ _) fp_X10_205 rfl rfl (Nat.le_of_ble_eq_true rfl) dX10_settle_101 (fun M hM hF => ?_)
            refine v_aload_n dX10_settle_104 rfl ?_
            refine v_aload_n dX10_settle_105 rfl ?_
            refine v_rgi 26 hM ((upn_o (by decide)).trans g26) fl_X10_202 rfl dX10_settle_106 ?_
            refine v_aload_n dX10_settle_109 rfl ?_
            refine v_getfH 24 hM.1 fl_X10_49 rfl dX10_settle_110 ?_
            refine v_iload_n dX10_settle_113 rfl ?_
            refine v_ria hM ar_24 (by omega) (by omega) up_eq dX10_settle_114 ?_
            refine v_max ⟨by omega, by omega⟩ ⟨by omega, by omega⟩ ql_X10_208 ⟨Nat.le_of_ble_eq_true rfl, Nat.le_of_ble_eq_true rfl⟩ (Nat.le_refl _) (Nat.le_refl _) dX10_settle_115 ?_
            refine v_rp 26 hM hF (flS_26 G _ _) fp_X10_202 rfl rfl (Nat.le_of_ble_eq_true rfl) dX10_settle_118 (fun M hM hF => ?_)
            refine v_iinc dX10_settle_121 rfl (Nat.le_of_ble_eq_true rfl) ?_
            refine v_goto (tgt := 12) dX10_settle_124 (by decide) ?_
            exact v_to (nxt _ _ _ (by rw [s1]) (by rw [s2]; (repeat' split) <;> omega) hM hF) rfl (sw_h1 rfl (sw_h1 rfl sw_h0))
        · skip
          have ev : v = -1 := by omega
          subst ev
          refine v_iconst dX10_settle_38 ?_
          refine v_goto (tgt := 48) dX10_settle_39 (by decide) ?_
          refine v_ris hM hF ar_24 (by omega) (by omega) dX10_settle_48 (fun M hM hF => ?_)
          refine v_aload_n dX10_settle_49 rfl ?_
          refine v_aload_n dX10_settle_50 rfl ?_
          refine v_getfH 24 hM.1 fl_X10_49 rfl dX10_settle_51 ?_
          refine v_iload_n dX10_settle_54 rfl ?_
          refine v_ria hM ar_24 (by omega) (by omega) up_eq dX10_settle_55 ?_
          refine v_aload_n dX10_settle_56 rfl ?_
          refine v_rgi 26 hM g26 fl_X10_202 rfl dX10_settle_57 ?_
          refine v_icmp_le (tgt := 67) dX10_settle_60 (by decide) ⟨by omega, by omega⟩ ⟨by omega, by omega⟩ (fun h60 => ?_) (fun h60 => ?_)
          · skip
            refine v_aload_n dX10_settle_67 rfl ?_
            refine v_getfH 24 hM.1 fl_X10_49 rfl dX10_settle_68 ?_
            refine v_iload_n dX10_settle_71 rfl ?_
            refine v_ria hM ar_24 (by omega) (by omega) up_eq dX10_settle_72 ?_
            refine v_aload_n dX10_settle_73 rfl ?_
            refine v_rgi 26 hM g26 fl_X10_202 rfl dX10_settle_74 ?_
            refine v_icmp_ne (tgt := 97) dX10_settle_77 (by decide) ⟨by omega, by omega⟩ ⟨by omega, by omega⟩ (fun h77 => ?_) (fun h77 => ?_)
            · skip
              refine v_aload_n dX10_settle_97 rfl ?_
              refine v_rgi 27 hM g27 fl_X10_205 rfl dX10_settle_98 ?_
              refine v_rp 27 hM hF (flS_27 G _ _) fp_X10_205 rfl rfl (Nat.le_of_ble_eq_true rfl) dX10_settle_101 (fun M hM hF => ?_)
              refine v_aload_n dX10_settle_104 rfl ?_
              refine v_aload_n dX10_settle_105 rfl ?_
              refine v_rgi 26 hM ((upn_o (by decide)).trans g26) fl_X10_202 rfl dX10_settle_106 ?_
              refine v_aload_n dX10_settle_109 rfl ?_
              refine v_getfH 24 hM.1 fl_X10_49 rfl dX10_settle_110 ?_
              refine v_iload_n dX10_settle_113 rfl ?_
              refine v_ria hM ar_24 (by omega) (by omega) up_eq dX10_settle_114 ?_
              refine v_max ⟨by omega, by omega⟩ ⟨by omega, by omega⟩ ql_X10_208 ⟨Nat.le_of_ble_eq_true rfl, Nat.le_of_ble_eq_true rfl⟩ (Nat.le_refl _) (Nat.le_refl _) dX10_settle_115 ?_
              refine v_rp 26 hM hF (flS_26 G _ _) fp_X10_202 rfl rfl (Nat.le_of_ble_eq_true rfl) dX10_settle_118 (fun M hM hF => ?_)
              refine v_iinc dX10_settle_121 rfl (Nat.le_of_ble_eq_true rfl) ?_
              refine v_goto (tgt := 12) dX10_settle_124 (by decide) ?_
              exact v_to (nxt _ _ _ (by rw [s1]) (by rw [s2]; (repeat' split) <;> omega) hM hF) rfl (sw_h1 rfl (sw_h1 rfl sw_h0))
            · skip
              refine v_aload_n dX10_settle_80 rfl ?_
              refine v_rgi 26 hM g26 fl_X10_202 rfl dX10_settle_81 ?_
              refine v_iconst dX10_settle_84 ?_
              refine v_icmp_eq (tgt := 97) dX10_settle_85 (by decide) ⟨by omega, by omega⟩ ⟨by omega, by omega⟩ (fun h85 => ?_) (fun h85 => ?_)
              · skip
                refine v_aload_n dX10_settle_97 rfl ?_
                refine v_rgi 27 hM g27 fl_X10_205 rfl dX10_settle_98 ?_
                refine v_rp 27 hM hF (flS_27 G _ _) fp_X10_205 rfl rfl (Nat.le_of_ble_eq_true rfl) dX10_settle_101 (fun M hM hF => ?_)
                refine v_aload_n dX10_settle_104 rfl ?_
                refine v_aload_n dX10_settle_105 rfl ?_
                refine v_rgi 26 hM ((upn_o (by decide)).trans g26) fl_X10_202 rfl dX10_settle_106 ?_
                refine v_aload_n dX10_settle_109 rfl ?_
                refine v_getfH 24 hM.1 fl_X10_49 rfl dX10_settle_110 ?_
                refine v_iload_n dX10_settle_113 rfl ?_
                refine v_ria hM ar_24 (by omega) (by omega) up_eq dX10_settle_114 ?_
                refine v_max ⟨by omega, by omega⟩ ⟨by omega, by omega⟩ ql_X10_208 ⟨Nat.le_of_ble_eq_true rfl, Nat.le_of_ble_eq_true rfl⟩ (Nat.le_refl _) (Nat.le_refl _) dX10_settle_115 ?_
                refine v_rp 26 hM hF (flS_26 G _ _) fp_X10_202 rfl rfl (Nat.le_of_ble_eq_true rfl) dX10_settle_118 (fun M hM hF => ?_)
                refine v_iinc dX10_settle_121 rfl (Nat.le_of_ble_eq_true rfl) ?_
                refine v_goto (tgt := 12) dX10_settle_124 (by decide) ?_
                exact v_to (nxt _ _ _ (by rw [s1]) (by rw [s2]; (repeat' split) <;> omega) hM hF) rfl (sw_h1 rfl (sw_h1 rfl sw_h0))
              · skip
                refine v_aload_n dX10_settle_88 rfl ?_
                refine v_rgi 27 hM g27 fl_X10_205 rfl dX10_settle_89 ?_
                refine v_iconst dX10_settle_92 ?_
                refine v_iadd dX10_settle_93 ?_
                refine v_goto (tgt := 101) dX10_settle_94 (by decide) ?_
                refine v_rp 27 hM hF (flS_27 G _ _) fp_X10_205 rfl rfl (Nat.le_of_ble_eq_true rfl) dX10_settle_101 (fun M hM hF => ?_)
                refine v_aload_n dX10_settle_104 rfl ?_
                refine v_aload_n dX10_settle_105 rfl ?_
                refine v_rgi 26 hM ((upn_o (by decide)).trans g26) fl_X10_202 rfl dX10_settle_106 ?_
                refine v_aload_n dX10_settle_109 rfl ?_
                refine v_getfH 24 hM.1 fl_X10_49 rfl dX10_settle_110 ?_
                refine v_iload_n dX10_settle_113 rfl ?_
                refine v_ria hM ar_24 (by omega) (by omega) up_eq dX10_settle_114 ?_
                refine v_max ⟨by omega, by omega⟩ ⟨by omega, by omega⟩ ql_X10_208 ⟨Nat.le_of_ble_eq_true rfl, Nat.le_of_ble_eq_true rfl⟩ (Nat.le_refl _) (Nat.le_refl _) dX10_settle_115 ?_
                refine v_rp 26 hM hF (flS_26 G _ _) fp_X10_202 rfl rfl (Nat.le_of_ble_eq_true rfl) dX10_settle_118 (fun M hM hF => ?_)
                refine v_iinc dX10_settle_121 rfl (Nat.le_of_ble_eq_true rfl) ?_
                refine v_goto (tgt := 12) dX10_settle_124 (by decide) ?_
                exact v_to (nxt _ _ _ (by rw [s1]) (by rw [s2]; (repeat' split) <;> omega) hM hF) rfl (sw_h1 rfl (sw_h1 rfl sw_h0))
          · skip
            refine v_iconst dX10_settle_63 ?_
            refine v_goto (tgt := 101) dX10_settle_64 (by decide) ?_
            refine v_rp 27 hM hF (flS_27 G _ _) fp_X10_205 rfl rfl (Nat.le_of_ble_eq_true rfl) dX10_settle_101 (fun M hM hF => ?_)
            refine v_aload_n dX10_settle_104 rfl ?_
            refine v_aload_n dX10_settle_105 rfl ?_
            refine v_rgi 26 hM ((upn_o (by decide)).trans g26) fl_X10_202 rfl dX10_settle_106 ?_
            refine v_aload_n dX10_settle_109 rfl ?_
            refine v_getfH 24 hM.1 fl_X10_49 rfl dX10_settle_110 ?_
            refine v_iload_n dX10_settle_113 rfl ?_
            refine v_ria hM ar_24 (by omega) (by omega) up_eq dX10_settle_114 ?_
            refine v_max ⟨by omega, by omega⟩ ⟨by omega, by omega⟩ ql_X10_208 ⟨Nat.le_of_ble_eq_true rfl, Nat.le_of_ble_eq_true rfl⟩ (Nat.le_refl _) (Nat.le_refl _) dX10_settle_115 ?_
            refine v_rp 26 hM hF (flS_26 G _ _) fp_X10_202 rfl rfl (Nat.le_of_ble_eq_true rfl) dX10_settle_118 (fun M hM hF => ?_)
            refine v_iinc dX10_settle_121 rfl (Nat.le_of_ble_eq_true rfl) ?_
            refine v_goto (tgt := 12) dX10_settle_124 (by decide) ?_
            exact v_to (nxt _ _ _ (by rw [s1]) (by rw [s2]; (repeat' split) <;> omega) hM hF) rfl (sw_h1 rfl (sw_h1 rfl sw_h0))
  refine v_aload_n dX10_settle_0 rfl ?_
  refine v_iconst dX10_settle_1 ?_
  refine v_rp 26 hM hF (flS_26 G _ _) fp_X10_202 rfl rfl (Nat.le_of_ble_eq_true rfl) dX10_settle_2 (fun M hM hF => ?_)
  refine v_aload_n dX10_settle_5 rfl ?_
  refine v_iconst dX10_settle_6 ?_
  refine v_rp 27 hM hF (flS_27 G _ _) fp_X10_205 rfl rfl (Nat.le_of_ble_eq_true rfl) dX10_settle_7 (fun M hM hF => ?_)
  refine v_iconst dX10_settle_10 ?_
  refine v_istore_n dX10_settle_11 (Nat.le_of_ble_eq_true rfl) ?_
  exact v_to (loop m 0 _ a M (by omega) hM hF ((xfr.rf.up (k := 26) (by decide)).up (k := 27) (by decide)) afr.rf ((upn_o (by decide)).trans upn_s) upn_s (fun i i0 i1 => by rw [ha24 i i0 i1, if_neg (by omega)])) rfl (sw_h1 rfl (sw_h1 rfl sw_h0))
theorem K10_pays {B : Int → Int} {le wy : Int} {m : Nat} (hM : RS G M x a) (hq : StB x a B le wy m) (hm : m ≤ 4) (hle : 0 ≤ le ∧ le ≤ 60) (hB : bbO B m) (hwy : 0 ≤ wy ∧ wy ≤ 2) (hhi : 0 ≤ (rkb B le m).1) : Kt l G μX10_pays [.ref (sw_al G 70)] M (fun r M' => r = some (sw_i (payB wy le (rkb B le m))) ∧ M' = M) := by
  refine KtA.of (by decide +kernel) (Nat.le_of_ble_eq_true rfl) ?_
  obtain ⟨g21, g22, g23, g26, g27, gN⟩ := hq
  have o := rkb_ok hle.1 m hB
  obtain ⟨o1, o2, o3, o4, o5⟩ := o
  have hO := o1
  unfold qkO at o1
  have loop : (rkb B le m).2.1 ≤ 1 → wy = 1 → ∀ (n k : Nat), k + n = m → V l G μX10_pays sw_E0 (sw_Zq G μX10_pays (sw_q0 G (fun r M' => r = some (sw_i (payB wy le (rkb B le m))) ∧ M' = M))) 28 [(0, .ref (sw_al G 70)), (1, sw_i (mxB B le (rkb B le m).1 k)), (2, sw_i (k : Int))] [] M 0 0 := by
    intro hal hwy1 n
    induction n with
    | zero =>
      intro k hk
      have e : k = m := by omega
      subst e
      have h := mxB_eq hle.1 hhi k hB (Int.le_refl _) (fun _ => hal)
      rw [if_neg (by omega)] at h
      refine v_iload_n dX10_pays_28 rfl ?_
      refine v_aload_n dX10_pays_29 rfl ?_
      refine v_rgi 21 hM g21 fl_X10_176 rfl dX10_pays_30 ?_
      refine v_icmp_ge (tgt := 70) dX10_pays_33 (by decide) ⟨by omega, by omega⟩ ⟨by omega, by omega⟩ (fun h33 => ?_) (fun h33 => ?_)
      · skip
        refine v_iload_n dX10_pays_70 rfl ?_
        exact v_iret dX10_pays_71 rfl (Nat.le_refl _) (Nat.le_refl _) (⟨by rw [h]; unfold payB; rw [if_pos hwy1], rfl⟩)
      · skip
        exfalso; omega
    | succ n ih =>
      intro k hk
      have hb := hB k (by omega) (by omega)
      have gB := gN k (by omega) (by omega)
      have hv : -1 ≤ nwB B le k ∧ nwB B le k ≤ 60 := by unfold nwB; split <;> omega
      have hmx : 0 ≤ mxB B le (rkb B le m).1 k ∧ mxB B le (rkb B le m).1 k ≤ 60 := by
        clear ih hk gB hb hv
        induction k with
        | zero => exact hle
        | succ k ihk =>
          have ih := ihk
          show 0 ≤ (if nwB B le k < (rkb B le m).1 then (if mxB B le (rkb B le m).1 k < nwB B le k then nwB B le k else mxB B le (rkb B le m).1 k) else mxB B le (rkb B le m).1 k) ∧ _ ≤ (60 : Int)
          have : mxB B le (rkb B le m).1 (k + 1) = (if nwB B le k < (rkb B le m).1 then (if mxB B le (rkb B le m).1 k < nwB B le k then nwB B le k else mxB B le (rkb B le m).1 k) else mxB B le (rkb B le m).1 k) := rfl
          rw [this]
          (repeat' split) <;> omega
      have hst : mxB B le (rkb B le m).1 (k + 1) = (if nwB B le k < (rkb B le m).1 then (if mxB B le (rkb B le m).1 k < nwB B le k then nwB B le k else mxB B le (rkb B le m).1 k) else mxB B le (rkb B le m).1 k) := rfl
      have ih := ih (k + 1) (by omega)
      rw [hst] at ih
      refine v_iload_n dX10_pays_28 rfl ?_
      refine v_aload_n dX10_pays_29 rfl ?_
      refine v_rgi 21 hM g21 fl_X10_176 rfl dX10_pays_30 ?_
      refine v_icmp_ge (tgt := 70) dX10_pays_33 (by decide) ⟨by omega, by omega⟩ ⟨by omega, by omega⟩ (fun h33 => ?_) (fun h33 => ?_)
      · skip
        exfalso; omega
      · skip
        refine v_aload_n dX10_pays_36 rfl ?_
        refine v_getfH 24 hM.1 fl_X10_49 rfl dX10_pays_37 ?_
        refine v_iload_n dX10_pays_40 rfl ?_
        refine v_ria hM ar_24 (by omega) (by omega) gB dX10_pays_41 ?_
        refine v_aload_n dX10_pays_42 rfl ?_
        refine v_rgi 26 hM g26 fl_X10_202 rfl dX10_pays_43 ?_
        refine v_icmp_ge (tgt := 62) dX10_pays_46 (by decide) ⟨by omega, by omega⟩ ⟨by omega, by omega⟩ (fun h46 => ?_) (fun h46 => ?_)
        · skip
          rw [if_neg (by omega)] at ih
          refine v_iload_n dX10_pays_62 rfl ?_
          refine v_istore_n dX10_pays_63 (Nat.le_of_ble_eq_true rfl) ?_
          refine v_iinc dX10_pays_64 rfl (Nat.le_of_ble_eq_true rfl) ?_
          refine v_goto (tgt := 28) dX10_pays_67 (by decide) ?_
          exact v_to ih rfl (sw_h1 rfl (sw_h1 rfl (sw_h1 rfl sw_h0)))
        · skip
          rw [if_pos (by omega)] at ih
          refine v_iload_n dX10_pays_49 rfl ?_
          refine v_aload_n dX10_pays_50 rfl ?_
          refine v_getfH 24 hM.1 fl_X10_49 rfl dX10_pays_51 ?_
          refine v_iload_n dX10_pays_54 rfl ?_
          refine v_ria hM ar_24 (by omega) (by omega) gB dX10_pays_55 ?_
          refine v_max ⟨by omega, by omega⟩ ⟨by omega, by omega⟩ ql_X10_208 ⟨Nat.le_of_ble_eq_true rfl, Nat.le_of_ble_eq_true rfl⟩ (Nat.le_refl _) (Nat.le_refl _) dX10_pays_56 ?_
          refine v_goto (tgt := 63) dX10_pays_59 (by decide) ?_
          refine v_istore_n dX10_pays_63 (Nat.le_of_ble_eq_true rfl) ?_
          refine v_iinc dX10_pays_64 rfl (Nat.le_of_ble_eq_true rfl) ?_
          refine v_goto (tgt := 28) dX10_pays_67 (by decide) ?_
          exact v_to ih rfl (sw_h1 rfl (sw_h1 rfl (sw_h1 rfl sw_h0)))
  refine v_aload_n dX10_pays_0 rfl ?_
  refine v_rgi 23 hM g23 fl_X10_186 rfl dX10_pays_1 ?_
  refine v_iconst dX10_pays_4 ?_
  refine v_icmp_ne (tgt := 16) dX10_pays_5 (by decide) ⟨by omega, by omega⟩ ⟨by omega, by omega⟩ (fun h5 => ?_) (fun h5 => ?_)
  · skip
    refine v_aload_n dX10_pays_16 rfl ?_
    refine v_rgi 26 hM g26 fl_X10_202 rfl dX10_pays_17 ?_
    exact v_iret dX10_pays_20 rfl (Nat.le_refl _) (Nat.le_refl _) (⟨by unfold payB; rw [if_neg (by omega)], rfl⟩)
  · skip
    refine v_aload_n dX10_pays_8 rfl ?_
    refine v_rgi 27 hM g27 fl_X10_205 rfl dX10_pays_9 ?_
    refine v_iconst dX10_pays_12 ?_
    refine v_icmp_le (tgt := 21) dX10_pays_13 (by decide) ⟨by omega, by omega⟩ ⟨by omega, by omega⟩ (fun h13 => ?_) (fun h13 => ?_)
    · skip
      refine v_aload_n dX10_pays_21 rfl ?_
      refine v_rgi 22 hM g22 fl_X10_183 rfl dX10_pays_22 ?_
      refine v_istore_n dX10_pays_25 (Nat.le_of_ble_eq_true rfl) ?_
      refine v_iconst dX10_pays_26 ?_
      refine v_istore_n dX10_pays_27 (Nat.le_of_ble_eq_true rfl) ?_
      exact v_to (loop (by omega) (by omega) m 0 (by omega)) rfl (sw_h1 rfl (sw_h1 rfl (sw_h1 rfl sw_h0)))
    · skip
      refine v_aload_n dX10_pays_16 rfl ?_
      refine v_rgi 26 hM g26 fl_X10_202 rfl dX10_pays_17 ?_
      exact v_iret dX10_pays_20 rfl (Nat.le_refl _) (Nat.le_refl _) (⟨by unfold payB; rw [if_pos (by omega), if_neg (by omega), show (rkb B le m).2.2.1 = (rkb B le m).1 by omega], rfl⟩)
theorem K10_gains {B : Int → Int} {le wy i v : Int} {m : Nat} (hM : RS G M x a) (hq : StB x a B le wy m) (hm : m ≤ 4) (hle : 0 ≤ le ∧ le ≤ 60) (hB : bbO B m) (hwy : 0 ≤ wy ∧ wy ≤ 2) (hi : 0 ≤ i ∧ i < (m : Int)) (hv : 0 ≤ v ∧ v ≤ 60) : Kt l G μX10_gains [.ref (sw_al G 70), sw_i i, sw_i v] M (fun r M' => r = some (sw_j (gnB' wy le (rkb B le m) (nwB B le i) v)) ∧ M' = M) := by
  refine KtA.of (by decide +kernel) (Nat.le_of_ble_eq_true rfl) ?_
  obtain ⟨g21, g22, g23, g26, g27, gN⟩ := id hq
  have gB := gN i hi.1 hi.2
  have hb := hB i hi.1 hi.2
  have hw : (B i < le ∧ nwB B le i = -1) ∨ (le ≤ B i ∧ nwB B le i = B i) := by unfold nwB; split <;> omega
  obtain ⟨o1, o2, o3, o4, o5⟩ := rkb_ok hle.1 m hB
  have o1' := o1
  unfold qkO at o1'
  have hpb := payB_bd (wy := wy) hle o1 ⟨o4, o2⟩
  have hmax : nwB B le i ≤ (rkb B le m).1 := rkb_max hle.1 m hB hi.1 hi.2
  refine v_aload_n dX10_gains_0 rfl ?_
  refine v_getfH 24 hM.1 fl_X10_49 rfl dX10_gains_1 ?_
  refine v_iload_n dX10_gains_4 rfl ?_
  refine v_ria hM ar_24 (by omega) (by omega) gB dX10_gains_5 ?_
  refine v_iconst dX10_gains_6 ?_
  refine v_icmp_ne (tgt := 12) dX10_gains_7 (by decide) ⟨by omega, by omega⟩ ⟨by omega, by omega⟩ (fun h7 => ?_) (fun h7 => ?_)
  · skip
    refine v_aload_n dX10_gains_12 rfl ?_
    refine v_getfH 24 hM.1 fl_X10_49 rfl dX10_gains_13 ?_
    refine v_iload_n dX10_gains_16 rfl ?_
    refine v_ria hM ar_24 (by omega) (by omega) gB dX10_gains_17 ?_
    refine v_aload_n dX10_gains_18 rfl ?_
    refine v_rgi 26 hM g26 fl_X10_202 rfl dX10_gains_19 ?_
    refine v_icmp_ne (tgt := 37) dX10_gains_22 (by decide) ⟨by omega, by omega⟩ ⟨by omega, by omega⟩ (fun c22 => ?_) (fun c22 => ?_)
    · skip
      refine v_lconst (z := 0) dX10_gains_37 (by decide +kernel) ?_
      refine v_lstore_n dX10_gains_38 (Nat.le_of_ble_eq_true rfl) ?_
      refine v_aload_n dX10_gains_39 rfl ?_
      refine v_rgi 23 hM g23 fl_X10_186 rfl dX10_gains_40 ?_
      refine v_iconst dX10_gains_43 ?_
      refine v_icmp_ne (tgt := 66) dX10_gains_44 (by decide) ⟨by omega, by omega⟩ ⟨by omega, by omega⟩ (fun c44 => ?_) (fun c44 => ?_)
      · skip
        refine v_lload_n dX10_gains_66 rfl ?_
        refine v_iload_n dX10_gains_67 rfl ?_
        refine v_aload_n dX10_gains_68 rfl ?_
        refine v_callV (ci := 10) (K10_pays hM hq hm hle hB hwy (by omega)) ⟨rfl, rfl⟩ (Nat.le_refl _) (Nat.le_refl _) hM.1 rfl ⟨ml_X10_213, mm_X10_pays⟩ ⟨(Nat.le_of_ble_eq_true rfl), (Nat.le_of_ble_eq_true rfl)⟩ mp_X10_pays rfl rfl (Nat.le_of_ble_eq_true rfl) dX10_gains_69 (fun r M' h => ?_)
        obtain ⟨rfl, rfl⟩ := h
        refine v_isub dX10_gains_72 ?_
        refine v_i2l dX10_gains_73 ⟨by omega, by omega⟩ ?_
        refine v_lmul dX10_gains_74 ?_
        exact v_lret dX10_gains_75 rfl (Nat.le_refl _) (Nat.le_refl _) (⟨by unfold gnB'; rw [if_neg (by omega), if_neg c44]; first | rw [if_pos c22] | rw [if_neg c22], rfl⟩)
      · skip
        refine v_lload_n dX10_gains_47 rfl ?_
        refine v_iload_n dX10_gains_48 rfl ?_
        refine v_i2l dX10_gains_49 ⟨by omega, by omega⟩ ?_
        refine v_lmul dX10_gains_50 ?_
        refine v_ldc2 (z := 12) kl_X10_211 (by decide +kernel) dX10_gains_51 ?_
        refine v_aload_n dX10_gains_54 rfl ?_
        refine v_getfH 24 hM.1 fl_X10_49 rfl dX10_gains_55 ?_
        refine v_iload_n dX10_gains_58 rfl ?_
        refine v_ria hM ar_24 (by omega) (by omega) gB dX10_gains_59 ?_
        refine v_i2l dX10_gains_60 ⟨by omega, by omega⟩ ?_
        refine v_lmul dX10_gains_61 ?_
        refine v_lsub dX10_gains_62 ?_
        refine v_goto (tgt := 75) dX10_gains_63 (by decide) ?_
        exact v_lret dX10_gains_75 rfl (Nat.le_refl _) (Nat.le_refl _) (⟨by unfold gnB'; rw [if_neg (by omega), if_pos c44]; first | rw [if_pos c22] | rw [if_neg c22], rfl⟩)
    · skip
      refine v_ldc2 (z := 12) kl_X10_211 (by decide +kernel) dX10_gains_25 ?_
      refine v_aload_n dX10_gains_28 rfl ?_
      refine v_rgi 27 hM g27 fl_X10_205 rfl dX10_gains_29 ?_
      refine v_i2l dX10_gains_32 ⟨by omega, by omega⟩ ?_
      refine v_ldiv dX10_gains_33 ⟨by omega, by omega⟩ ⟨by omega, by omega⟩ (by omega) ?_
      rw [show (12 : Int).tdiv (rkb B le m).2.1 = 12 / (rkb B le m).2.1 from Int.tdiv_eq_ediv_of_nonneg (by omega)]
      refine v_goto (tgt := 38) dX10_gains_34 (by decide) ?_
      refine v_lstore_n dX10_gains_38 (Nat.le_of_ble_eq_true rfl) ?_
      refine v_aload_n dX10_gains_39 rfl ?_
      refine v_rgi 23 hM g23 fl_X10_186 rfl dX10_gains_40 ?_
      refine v_iconst dX10_gains_43 ?_
      refine v_icmp_ne (tgt := 66) dX10_gains_44 (by decide) ⟨by omega, by omega⟩ ⟨by omega, by omega⟩ (fun c44 => ?_) (fun c44 => ?_)
      · skip
        refine v_lload_n dX10_gains_66 rfl ?_
        refine v_iload_n dX10_gains_67 rfl ?_
        refine v_aload_n dX10_gains_68 rfl ?_
        refine v_callV (ci := 10) (K10_pays hM hq hm hle hB hwy (by omega)) ⟨rfl, rfl⟩ (Nat.le_refl _) (Nat.le_refl _) hM.1 rfl ⟨ml_X10_213, mm_X10_pays⟩ ⟨(Nat.le_of_ble_eq_true rfl), (Nat.le_of_ble_eq_true rfl)⟩ mp_X10_pays rfl rfl (Nat.le_of_ble_eq_true rfl) dX10_gains_69 (fun r M' h => ?_)
        obtain ⟨rfl, rfl⟩ := h
        refine v_isub dX10_gains_72 ?_
        refine v_i2l dX10_gains_73 ⟨by omega, by omega⟩ ?_
        refine v_lmul dX10_gains_74 ?_
        exact v_lret dX10_gains_75 rfl (Nat.le_refl _) (Nat.le_refl _) (⟨by unfold gnB'; rw [if_neg (by omega), if_neg c44]; first | rw [if_pos c22] | rw [if_neg c22], rfl⟩)
      · skip
        refine v_lload_n dX10_gains_47 rfl ?_
        refine v_iload_n dX10_gains_48 rfl ?_
        refine v_i2l dX10_gains_49 ⟨by omega, by omega⟩ ?_
        refine v_lmul dX10_gains_50 ?_
        refine v_ldc2 (z := 12) kl_X10_211 (by decide +kernel) dX10_gains_51 ?_
        refine v_aload_n dX10_gains_54 rfl ?_
        refine v_getfH 24 hM.1 fl_X10_49 rfl dX10_gains_55 ?_
        refine v_iload_n dX10_gains_58 rfl ?_
        refine v_ria hM ar_24 (by omega) (by omega) gB dX10_gains_59 ?_
        refine v_i2l dX10_gains_60 ⟨by omega, by omega⟩ ?_
        refine v_lmul dX10_gains_61 ?_
        refine v_lsub dX10_gains_62 ?_
        refine v_goto (tgt := 75) dX10_gains_63 (by decide) ?_
        exact v_lret dX10_gains_75 rfl (Nat.le_refl _) (Nat.le_refl _) (⟨by unfold gnB'; rw [if_neg (by omega), if_pos c44]; first | rw [if_pos c22] | rw [if_neg c22], rfl⟩)
  · skip
    refine v_lconst (z := 0) dX10_gains_10 (by decide +kernel) ?_
    exact v_lret dX10_gains_11 rfl (Nat.le_refl _) (Nat.le_refl _) (⟨by unfold gnB'; rw [if_pos (by omega)], rfl⟩)
theorem K10_taken {B : Int → Int} {le wy : Int} {m : Nat} (hM : RS G M x a) (hq : StB x a B le wy m) (hm : m ≤ 4) (hle : 0 ≤ le ∧ le ≤ 60) (hB : bbO B m) (hwy : 0 ≤ wy ∧ wy ≤ 2) : Kt l G μX10_taken [.ref (sw_al G 70)] M (fun r M' => r = some (sw_j (tkB wy le (rkb B le m))) ∧ M' = M) := by
  refine KtA.of (by decide +kernel) (Nat.le_of_ble_eq_true rfl) ?_
  obtain ⟨g21, g22, g23, g26, g27, gN⟩ := id hq
  obtain ⟨o1, o2, o3, o4, o5⟩ := rkb_ok hle.1 m hB
  have hpb := payB_bd (wy := wy) hle o1 ⟨o4, o2⟩
  have loop : (rkb B le m).1 ≠ -1 → wy = 2 → ∀ (n k : Nat), k + n = m → V l G μX10_taken sw_E0 (sw_Zq G μX10_taken (sw_q0 G (fun r M' => r = some (sw_j (tkB wy le (rkb B le m))) ∧ M' = M))) 32 [(0, .ref (sw_al G 70)), (1, sw_j (rkb B le k).2.2.2), (3, sw_i (k : Int))] [] M 0 0 := by
    intro h1 h2 n
    induction n with
    | zero =>
      intro k hk
      have e : k = m := by omega
      subst e
      refine v_iload_n dX10_taken_32 rfl ?_
      refine v_aload_n dX10_taken_33 rfl ?_
      refine v_rgi 21 hM g21 fl_X10_176 rfl dX10_taken_34 ?_
      refine v_icmp_ge (tgt := 60) dX10_taken_37 (by decide) ⟨by omega, by omega⟩ ⟨by omega, by omega⟩ (fun h37 => ?_) (fun h37 => ?_)
      · skip
        refine v_ldc2 (z := 12) kl_X10_211 (by decide +kernel) dX10_taken_60 ?_
        refine v_lload_n dX10_taken_63 rfl ?_
        refine v_lmul dX10_taken_64 ?_
        exact v_lret dX10_taken_65 rfl (Nat.le_refl _) (Nat.le_refl _) (⟨by unfold tkB; rw [if_neg h1, if_pos h2], rfl⟩)
      · skip
        exfalso; omega
    | succ n ih =>
      intro k hk
      have hb := hB k (by omega) (by omega)
      have gB := gN k (by omega) (by omega)
      have hv : -1 ≤ nwB B le k ∧ nwB B le k ≤ 60 := by unfold nwB; split <;> omega
      have ok := rkb_ok hle.1 k (fun i i0 i1 => hB i i0 (by omega))
      have s := rks_ok (b := B k) hle.1 hb (v := nwB B le k) rfl ok.1 ok.2.1
      have ih := ih (k + 1) (by omega)
      rw [show (rkb B le (k + 1)).2.2.2 = _ from s.2.2.2.2.2.1] at ih
      refine v_iload_n dX10_taken_32 rfl ?_
      refine v_aload_n dX10_taken_33 rfl ?_
      refine v_rgi 21 hM g21 fl_X10_176 rfl dX10_taken_34 ?_
      refine v_icmp_ge (tgt := 60) dX10_taken_37 (by decide) ⟨by omega, by omega⟩ ⟨by omega, by omega⟩ (fun h37 => ?_) (fun h37 => ?_)
      · skip
        exfalso; omega
      · skip
        refine v_lload_n dX10_taken_40 rfl ?_
        refine v_iconst dX10_taken_41 ?_
        refine v_aload_n dX10_taken_42 rfl ?_
        refine v_getfH 24 hM.1 fl_X10_49 rfl dX10_taken_43 ?_
        refine v_iload_n dX10_taken_46 rfl ?_
        refine v_ria hM ar_24 (by omega) (by omega) gB dX10_taken_47 ?_
        refine v_max ⟨by omega, by omega⟩ ⟨by omega, by omega⟩ ql_X10_208 ⟨Nat.le_of_ble_eq_true rfl, Nat.le_of_ble_eq_true rfl⟩ (Nat.le_refl _) (Nat.le_refl _) dX10_taken_48 ?_
        refine v_i2l dX10_taken_51 ⟨by split <;> omega, by split <;> omega⟩ ?_
        refine v_ladd dX10_taken_52 ?_
        refine v_lstore_n dX10_taken_53 (Nat.le_of_ble_eq_true rfl) ?_
        refine v_iinc dX10_taken_54 rfl (Nat.le_of_ble_eq_true rfl) ?_
        refine v_goto (tgt := 32) dX10_taken_57 (by decide) ?_
        exact v_to ih rfl (sw_h1 rfl (sw_h1 rfl (sw_h1 rfl sw_h0)))
  refine v_aload_n dX10_taken_0 rfl ?_
  refine v_rgi 26 hM g26 fl_X10_202 rfl dX10_taken_1 ?_
  refine v_iconst dX10_taken_4 ?_
  refine v_icmp_ne (tgt := 10) dX10_taken_5 (by decide) ⟨by omega, by omega⟩ ⟨by omega, by omega⟩ (fun h5 => ?_) (fun h5 => ?_)
  · skip
    refine v_aload_n dX10_taken_10 rfl ?_
    refine v_rgi 23 hM g23 fl_X10_186 rfl dX10_taken_11 ?_
    refine v_iconst dX10_taken_14 ?_
    refine v_icmp_eq (tgt := 28) dX10_taken_15 (by decide) ⟨by omega, by omega⟩ ⟨by omega, by omega⟩ (fun h15 => ?_) (fun h15 => ?_)
    · skip
      refine v_lconst (z := 0) dX10_taken_28 (by decide +kernel) ?_
      refine v_lstore_n dX10_taken_29 (Nat.le_of_ble_eq_true rfl) ?_
      refine v_iconst dX10_taken_30 ?_
      refine v_istore_n dX10_taken_31 (Nat.le_of_ble_eq_true rfl) ?_
      exact v_to (loop (by omega) (by omega) m 0 (by omega)) rfl (sw_h1 rfl (sw_h1 rfl (sw_h1 rfl sw_h0)))
    · skip
      refine v_ldc2 (z := 12) kl_X10_211 (by decide +kernel) dX10_taken_18 ?_
      refine v_aload_n dX10_taken_21 rfl ?_
      refine v_callV (ci := 10) (K10_pays hM hq hm hle hB hwy (by omega)) ⟨rfl, rfl⟩ (Nat.le_refl _) (Nat.le_refl _) hM.1 rfl ⟨ml_X10_213, mm_X10_pays⟩ ⟨(Nat.le_of_ble_eq_true rfl), (Nat.le_of_ble_eq_true rfl)⟩ mp_X10_pays rfl rfl (Nat.le_of_ble_eq_true rfl) dX10_taken_22 (fun r M' h => ?_)
      obtain ⟨rfl, rfl⟩ := h
      refine v_i2l dX10_taken_25 ⟨by omega, by omega⟩ ?_
      refine v_lmul dX10_taken_26 ?_
      exact v_lret dX10_taken_27 rfl (Nat.le_refl _) (Nat.le_refl _) (⟨by unfold tkB; rw [if_neg (by omega), if_neg (by omega)], rfl⟩)
  · skip
    refine v_lconst (z := 0) dX10_taken_8 (by decide +kernel) ?_
    exact v_lret dX10_taken_9 rfl (Nat.le_refl _) (Nat.le_refl _) (⟨by unfold tkB; rw [if_pos (by omega)], rfl⟩)
theorem K10_ask {s t b : Int} (hM : RS G M x a) : Kt l G μX10_ask [.ref (sw_al G 70), sw_i s, sw_i t, sw_i b] M (fun r M' => ∃ x', r = none ∧ RS G M' x' a ∧ frR M M' ∧ xfr [28, 29, 30, 31, 32, 33, 34, 35, 36, 37, 38, 39] x x' ∧ x' 35 = s ∧ x' 36 = t ∧ x' 37 = b ∧ x' 38 = -1 ∧ x' 39 = -1 ∧ ∀ k : Nat, 28 ≤ k → k ≤ 34 → x' k = 0) := by
  refine KtA.of (by decide +kernel) (Nat.le_of_ble_eq_true rfl) ?_
  have hF : frR M M := frR.rf
  refine v_aload_n dX10_ask_0 rfl ?_
  refine v_iload_n dX10_ask_1 rfl ?_
  refine v_rp 35 hM hF (flS_35 G _ _) fp_X10_216 rfl rfl (Nat.le_of_ble_eq_true rfl) dX10_ask_2 (fun M hM hF => ?_)
  refine v_aload_n dX10_ask_5 rfl ?_
  refine v_iload_n dX10_ask_6 rfl ?_
  refine v_rp 36 hM hF (flS_36 G _ _) fp_X10_219 rfl rfl (Nat.le_of_ble_eq_true rfl) dX10_ask_7 (fun M hM hF => ?_)
  refine v_aload_n dX10_ask_10 rfl ?_
  refine v_iload_n dX10_ask_11 rfl ?_
  refine v_rp 37 hM hF (flS_37 G _ _) fp_X10_222 rfl rfl (Nat.le_of_ble_eq_true rfl) dX10_ask_12 (fun M hM hF => ?_)
  refine v_aload_n dX10_ask_15 rfl ?_
  refine v_iconst dX10_ask_16 ?_
  refine v_rp 38 hM hF (flS_38 G _ _) fp_X10_225 rfl rfl (Nat.le_of_ble_eq_true rfl) dX10_ask_17 (fun M hM hF => ?_)
  refine v_aload_n dX10_ask_20 rfl ?_
  refine v_iconst dX10_ask_21 ?_
  refine v_rp 39 hM hF (flS_39 G _ _) fp_X10_228 rfl rfl (Nat.le_of_ble_eq_true rfl) dX10_ask_22 (fun M hM hF => ?_)
  refine v_aload_n dX10_ask_25 rfl ?_
  refine v_lconst (z := 0) dX10_ask_26 (by decide +kernel) ?_
  refine v_rp 28 hM hF (flS_28 G _ _) fp_X10_231 rfl rfl (Nat.le_of_ble_eq_true rfl) dX10_ask_27 (fun M hM hF => ?_)
  refine v_aload_n dX10_ask_30 rfl ?_
  refine v_lconst (z := 0) dX10_ask_31 (by decide +kernel) ?_
  refine v_rp 29 hM hF (flS_29 G _ _) fp_X10_234 rfl rfl (Nat.le_of_ble_eq_true rfl) dX10_ask_32 (fun M hM hF => ?_)
  refine v_aload_n dX10_ask_35 rfl ?_
  refine v_lconst (z := 0) dX10_ask_36 (by decide +kernel) ?_
  refine v_rp 30 hM hF (flS_30 G _ _) fp_X10_237 rfl rfl (Nat.le_of_ble_eq_true rfl) dX10_ask_37 (fun M hM hF => ?_)
  refine v_aload_n dX10_ask_40 rfl ?_
  refine v_lconst (z := 0) dX10_ask_41 (by decide +kernel) ?_
  refine v_rp 31 hM hF (flS_31 G _ _) fp_X10_240 rfl rfl (Nat.le_of_ble_eq_true rfl) dX10_ask_42 (fun M hM hF => ?_)
  refine v_aload_n dX10_ask_45 rfl ?_
  refine v_lconst (z := 0) dX10_ask_46 (by decide +kernel) ?_
  refine v_rp 32 hM hF (flS_32 G _ _) fp_X10_243 rfl rfl (Nat.le_of_ble_eq_true rfl) dX10_ask_47 (fun M hM hF => ?_)
  refine v_aload_n dX10_ask_50 rfl ?_
  refine v_lconst (z := 0) dX10_ask_51 (by decide +kernel) ?_
  refine v_rp 33 hM hF (flS_33 G _ _) fp_X10_246 rfl rfl (Nat.le_of_ble_eq_true rfl) dX10_ask_52 (fun M hM hF => ?_)
  refine v_aload_n dX10_ask_55 rfl ?_
  refine v_lconst (z := 0) dX10_ask_56 (by decide +kernel) ?_
  refine v_rp 34 hM hF (flS_34 G _ _) fp_X10_249 rfl rfl (Nat.le_of_ble_eq_true rfl) dX10_ask_57 (fun M hM hF => ?_)
  exact v_vret dX10_ask_60 rfl (Nat.le_refl _) (Nat.le_refl _) (⟨_, rfl, hM, hF, ((((((((((((xfr.rf.up (k := 35) (by decide)).up (k := 36) (by decide)).up (k := 37) (by decide)).up (k := 38) (by decide)).up (k := 39) (by decide)).up (k := 28) (by decide)).up (k := 29) (by decide)).up (k := 30) (by decide)).up (k := 31) (by decide)).up (k := 32) (by decide)).up (k := 33) (by decide)).up (k := 34) (by decide)), rfl, rfl, rfl, rfl, rfl, fun k k0 k1 => by have h : k = 28 ∨ k = 29 ∨ k = 30 ∨ k = 31 ∨ k = 32 ∨ k = 33 ∨ k = 34 := (by omega); rcases h with rfl | rfl | rfl | rfl | rfl | rfl | rfl <;> rfl⟩)
end

