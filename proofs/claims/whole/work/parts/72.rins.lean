/-! one seat put among the others: sums, bids, weights -/
def ins (S : Int → Int) (i d : Int) : Int → Int := fun j => if j < i then S j else if j = i then d else S (j - 1)
theorem ins_up (S : Int → Int) {i : Int} (d e : Int) {n : Int} (h : i ≤ n) : ins (up S n e) i d = up (ins S i d) (n + 1) e := by
  funext j
  show (if j < i then (if j = n then e else S j) else if j = i then d else (if j - 1 = n then e else S (j - 1))) = if j = n + 1 then e else (if j < i then S j else if j = i then d else S (j - 1))
  by_cases c1 : j < i
  · rw [if_pos c1, if_neg (by omega), if_neg (by omega), if_pos c1]
  · rw [if_neg c1, if_neg c1]
    by_cases c2 : j = i
    · rw [if_pos c2, if_neg (by omega), if_pos c2]
    · rw [if_neg c2, if_neg c2]
      by_cases c3 : j = n + 1
      · rw [if_pos c3, if_pos (by omega)]
      · rw [if_neg c3, if_neg (by omega)]
theorem sn_one {g : Nat → Int} {d : Nat} : ∀ n : Nat, d < n → (∀ j, j < n → j ≠ d → g j = 0) → sn g n = g d
  | 0, h, _ => by omega
  | n + 1, h, h0 => by
    show sn g n + g n = g d
    by_cases c : d = n
    · subst c
      rw [sn_congr d (F' := fun _ => 0) (fun j hj => h0 j (by omega) (by omega)), sn_zero]; omega
    · rw [sn_one n (by omega) (fun j hj hd => h0 j (by omega) hd), h0 n (by omega) (by omega)]; omega
theorem ms_zero {sg : Nat} : ∀ m : Nat, ms sg m (fun _ => 0) = 0
  | 0 => rfl
  | m + 1 => by
    show sn (fun _ => ms sg m (fun _ => 0)) sg = 0
    rw [ms_zero m, sn_zero]
theorem ms_ins {sg d i : Nat} (hd : d < sg) : ∀ (n : Nat) (F : (Int → Int) → Int), i ≤ n → (∀ S S' : Int → Int, (∀ j : Nat, j ≤ n → S j = S' j) → F S = F S') → ms sg (n + 1) (fun S => if S i = (d : Int) then F S else 0) = ms sg n (fun S => F (ins S i d))
  | 0, F, hi, hF => by
    have e : i = 0 := by omega
    subst e
    show sn (fun c => if up z0 ((0 : Nat) : Int) (c : Int) ((0 : Nat) : Int) = (d : Int) then F (up z0 ((0 : Nat) : Int) (c : Int)) else 0) sg = F (ins z0 ((0 : Nat) : Int) d)
    rw [sn_one sg hd (fun j hj hjd => if_neg (by rw [up_eq]; omega))]
    rw [if_pos up_eq]
    exact hF _ _ (fun j hj => by
      have e : j = 0 := by omega
      subst e
      rw [up_eq]
      show (d : Int) = if ((0 : Nat) : Int) < ((0 : Nat) : Int) then _ else if ((0 : Nat) : Int) = ((0 : Nat) : Int) then (d : Int) else _
      rw [if_neg (by omega), if_pos rfl])
  | n + 1, F, hi, hF => by
    by_cases c : i = n + 1
    · subst c
      show sn (fun e => ms sg (n + 1) (fun S => if up S ((n + 1 : Nat) : Int) (e : Int) ((n + 1 : Nat) : Int) = (d : Int) then F (up S ((n + 1 : Nat) : Int) (e : Int)) else 0)) sg = _
      rw [sn_one (d := d) sg hd (fun j hj hjd => by
        rw [show (fun S : Int → Int => if up S ((n + 1 : Nat) : Int) (j : Int) ((n + 1 : Nat) : Int) = (d : Int) then F (up S ((n + 1 : Nat) : Int) (j : Int)) else 0) = fun _ => 0 from funext (fun S => if_neg (by rw [up_eq]; omega))]
        exact ms_zero _)]
      refine ms_congr (n + 1) (fun S _ => ?_)
      rw [if_pos up_eq]
      exact hF _ _ (fun j hj => by
        show (if (j : Int) = ((n + 1 : Nat) : Int) then (d : Int) else S j) = if (j : Int) < ((n + 1 : Nat) : Int) then S j else if (j : Int) = ((n + 1 : Nat) : Int) then (d : Int) else S (j - 1)
        by_cases e : j = n + 1
        · rw [if_pos (by omega), if_neg (by omega), if_pos (by omega)]
        · rw [if_neg (by omega), if_pos (by omega)])
    · show sn (fun e => ms sg (n + 1) (fun S => if up S ((n + 1 : Nat) : Int) (e : Int) (i : Int) = (d : Int) then F (up S ((n + 1 : Nat) : Int) (e : Int)) else 0)) sg = sn (fun e => ms sg n (fun S => F (ins (up S (n : Int) (e : Int)) i d))) sg
      refine sn_congr sg (fun e _ => ?_)
      have h1 : (fun S : Int → Int => if up S ((n + 1 : Nat) : Int) (e : Int) (i : Int) = (d : Int) then F (up S ((n + 1 : Nat) : Int) (e : Int)) else 0) = fun S => if S i = (d : Int) then (fun S => F (up S ((n + 1 : Nat) : Int) (e : Int))) S else 0 := funext (fun S => by rw [up_ne (show ¬ (i : Int) = ((n + 1 : Nat) : Int) by omega)])
      rw [h1, ms_ins hd n (fun S => F (up S ((n + 1 : Nat) : Int) (e : Int))) (by omega) (fun S S' h => hF _ _ (fun j hj => by
        show (if (j : Int) = ((n + 1 : Nat) : Int) then (e : Int) else S j) = if (j : Int) = ((n + 1 : Nat) : Int) then (e : Int) else S' j
        by_cases c2 : j = n + 1
        · rw [if_pos (by omega), if_pos (by omega)]
        · rw [if_neg (by omega), if_neg (by omega)]; exact h j (by omega)))]
      refine ms_congr n (fun S _ => ?_)
      show F (up (ins S i d) ((n + 1 : Nat) : Int) (e : Int)) = _
      rw [ins_up S (d : Int) (e : Int) (show (i : Int) ≤ (n : Int) by omega)]; rfl
theorem rks_comm {le a b : Int} {q : Int × Int × Int × Int} (hq : qkO le q) (hle : 0 ≤ le) (ha : 0 ≤ a) (hb : 0 ≤ b) : rks le (rks le q a) b = rks le (rks le q b) a := by
  obtain ⟨h, n, x, t⟩ := q
  unfold qkO at hq
  dsimp only at hq
  simp only [rks]
  grind
theorem rkb_ins {B : Int → Int} {le k : Int} {i : Nat} (hle : 0 ≤ le) (hk : 0 ≤ k ∧ k ≤ 60) : ∀ n : Nat, i ≤ n → (∀ j : Int, 0 ≤ j → j < n → 0 ≤ B j ∧ B j ≤ 60) → rkb (ins B i k) le (n + 1) = rks le (rkb B le n) k
  | 0, hi, _ => by
    have e : i = 0 := by omega
    subst e
    show rks le (-1, 0, -1, 0) (ins B ((0 : Nat) : Int) k ((0 : Nat) : Int)) = rks le (-1, 0, -1, 0) k
    rw [show ins B ((0 : Nat) : Int) k ((0 : Nat) : Int) = k from by unfold ins; rw [if_neg (by omega), if_pos rfl]]
  | n + 1, hi, hB => by
    have ok := rkb_ok (B := B) hle n (fun j j0 j1 => by have := hB j j0 (by omega); omega)
    show rks le (rkb (ins B i k) le (n + 1)) (ins B i k ((n + 1 : Nat) : Int)) = rks le (rks le (rkb B le n) (B n)) k
    by_cases c : i = n + 1
    · subst c
      rw [show ins B ((n + 1 : Nat) : Int) k ((n + 1 : Nat) : Int) = k from by unfold ins; rw [if_neg (by omega), if_pos rfl]]
      rw [rkb_congr (B' := B) (n + 1) (fun j hj => by unfold ins; rw [if_pos (by omega)])]; rfl
    · rw [show ins B (i : Int) k ((n + 1 : Nat) : Int) = B n from by unfold ins; rw [if_neg (by omega), if_neg (by omega)]; congr 1; omega]
      rw [rkb_ins hle hk n (by omega) (fun j j0 j1 => hB j j0 (by omega))]
      exact rks_comm ok.1 hle hk.1 (hB n (by omega) (by omega)).1
theorem pwt_mulP {σ : SaleT} {S P0 : Int → Int} (c t : Int) : ∀ n : Nat, pwt σ S P0 n t * c = pwt σ S (fun t => P0 t * c) n t
  | 0 => rfl
  | n + 1 => by
    show pwt σ S P0 n t * sO σ (t * 5 + S n) * c = pwt σ S (fun t => P0 t * c) n t * sO σ (t * 5 + S n)
    rw [← pwt_mulP c t n, Int.mul_assoc, Int.mul_assoc, Int.mul_comm c]
theorem pwt_at {σ : SaleT} {S P0 P1 : Int → Int} (t : Int) (h : P0 t = P1 t) : ∀ n : Nat, pwt σ S P0 n t = pwt σ S P1 n t
  | 0 => h
  | n + 1 => by
    show pwt σ S P0 n t * sO σ (t * 5 + S n) = pwt σ S P1 n t * sO σ (t * 5 + S n)
    rw [pwt_at t h n]
theorem pwt_ins {σ : SaleT} {S P0 P1 : Int → Int} {i : Nat} {d t : Int} (hP : P1 t = P0 t * sO σ (t * 5 + d)) : ∀ n : Nat, i ≤ n → pwt σ (ins S i d) P0 (n + 1) t = pwt σ S P1 n t
  | 0, hi => by
    have e : i = 0 := by omega
    subst e
    show P0 t * sO σ (t * 5 + ins S ((0 : Nat) : Int) d ((0 : Nat) : Int)) = P1 t
    rw [show ins S ((0 : Nat) : Int) d ((0 : Nat) : Int) = d from by unfold ins; rw [if_neg (by omega), if_pos rfl], hP]
  | n + 1, hi => by
    show pwt σ (ins S i d) P0 (n + 1) t * sO σ (t * 5 + ins S i d ((n + 1 : Nat) : Int)) = pwt σ S P1 n t * sO σ (t * 5 + S n)
    by_cases c : i = n + 1
    · subst c
      rw [show ins S ((n + 1 : Nat) : Int) d ((n + 1 : Nat) : Int) = d from by unfold ins; rw [if_neg (by omega), if_pos rfl]]
      rw [pwt_congr (S' := S) (k := n + 1) (fun j hj => by unfold ins; rw [if_pos (by omega)]) t, pwt_mulP]
      show pwt σ S (fun t => P0 t * sO σ (_ + d)) (n + 1) t = pwt σ S P1 (n + 1) t
      exact pwt_at t (by rw [hP]) (n + 1)
    · rw [show ins S (i : Int) d ((n + 1 : Nat) : Int) = S n from by unfold ins; rw [if_neg (by omega), if_neg (by omega)]; congr 1; omega]
      rw [pwt_ins hP n (by omega)]

