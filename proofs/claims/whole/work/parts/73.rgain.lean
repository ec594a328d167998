/-! the rivals' gains, bid by bid -/
theorem pr3_add (X Y : Int → Int) (b : Int) : ∀ n, pr3 (fun a => X a + Y a) b n = pr3 X b n + pr3 Y b n
  | 0 => rfl
  | n + 1 => by
    show pr3 (fun a => X a + Y a) b n + (X (b * 4 + ((n : Int) + 1)) + Y (b * 4 + ((n : Int) + 1))) = pr3 X b n + X (b * 4 + ((n : Int) + 1)) + (pr3 Y b n + Y (b * 4 + ((n : Int) + 1)))
    rw [pr3_add X Y b n]; omega
theorem ps3_add (X Y : Int → Int) (b : Int) : ∀ n, ps3 (fun a => X a + Y a) b n = ps3 X b n + ps3 Y b n
  | 0 => rfl
  | n + 1 => by
    show ps3 (fun a => X a + Y a) b n + 12 / ((n : Int) + 1 + 1) * (X (b * 4 + ((n : Int) + 1)) + Y (b * 4 + ((n : Int) + 1))) = ps3 X b n + 12 / ((n : Int) + 1 + 1) * X (b * 4 + ((n : Int) + 1)) + (ps3 Y b n + 12 / ((n : Int) + 1 + 1) * Y (b * 4 + ((n : Int) + 1)))
    rw [ps3_add X Y b n, Int.mul_add]; omega
theorem pt3_add (X Y : Int → Int) (b : Int) : ∀ n, pt3 (fun a => X a + Y a) b n = pt3 X b n + pt3 Y b n
  | 0 => rfl
  | n + 1 => by
    show pt3 (fun a => X a + Y a) b n + 12 / ((n : Int) + 1 + 1) * (X (b * 4 + ((n : Int) + 1)) + Y (b * 4 + ((n : Int) + 1))) * b = pt3 X b n + 12 / ((n : Int) + 1 + 1) * X (b * 4 + ((n : Int) + 1)) * b + (pt3 Y b n + 12 / ((n : Int) + 1 + 1) * Y (b * 4 + ((n : Int) + 1)) * b)
    rw [pt3_add X Y b n, Int.mul_add, Int.add_mul]; omega
theorem pq3_add (X Y : Int → Int) (b : Int) : ∀ n, pq3 (fun a => X a + Y a) b n = pq3 X b n + pq3 Y b n
  | 0 => rfl
  | n + 1 => by
    show pq3 (fun a => X a + Y a) b n + (X (b * 4 + ((n : Int) + 1)) + Y (b * 4 + ((n : Int) + 1))) * b = pq3 X b n + X (b * 4 + ((n : Int) + 1)) * b + (pq3 Y b n + Y (b * 4 + ((n : Int) + 1)) * b)
    rw [pq3_add X Y b n, Int.add_mul]; omega
theorem bt4_add (X Y : Int → Int) (f g le : Int) : ∀ n, bt4 (fun a => X a + Y a) (f + g) le n = bt4 X f le n + bt4 Y g le n
  | 0 => rfl
  | n + 1 => by
    show (if (n : Int) < le then bt4 (fun a => X a + Y a) (f + g) le n else bt4 (fun a => X a + Y a) (f + g) le n + pr3 (fun a => X a + Y a) n 3) = (if (n : Int) < le then bt4 X f le n else bt4 X f le n + pr3 X n 3) + (if (n : Int) < le then bt4 Y g le n else bt4 Y g le n + pr3 Y n 3)
    rw [bt4_add X Y f g le n, pr3_add]
    (repeat' split) <;> omega
theorem nt4_add (X Y : Int → Int) (f g le : Int) : ∀ n, nt4 (fun a => X a + Y a) (f + g) le n = nt4 X f le n + nt4 Y g le n
  | 0 => Int.add_mul _ _ _
  | n + 1 => by
    show (if (n : Int) < le then nt4 (fun a => X a + Y a) (f + g) le n else nt4 (fun a => X a + Y a) (f + g) le n + pq3 (fun a => X a + Y a) n 3) = (if (n : Int) < le then nt4 X f le n else nt4 X f le n + pq3 X n 3) + (if (n : Int) < le then nt4 Y g le n else nt4 Y g le n + pq3 Y n 3)
    rw [nt4_add X Y f g le n, pq3_add]
    (repeat' split) <;> omega
theorem gn4_add (X Y X' Y' : Int → Int) (f g f' g' le wy : Int) (k : Nat) : gn4 (fun a => X a + Y a) (fun a => X' a + Y' a) (f + g) (f' + g') le wy k = gn4 X X' f f' le wy k + gn4 Y Y' g g' le wy k := by
  unfold gn4
  rw [bt4_add, bt4_add, ps3_add, pt3_add, nt4_add, sm_add]
  generalize bt4 X f le k = a1
  generalize bt4 Y g le k = a2
  generalize bt4 X' f' le k = a3
  generalize bt4 Y' g' le k = a4
  (repeat' split) <;> grind
theorem gn4_0 (le wy : Int) (k : Nat) : gn4 (fun _ => 0) (fun _ => 0) 0 0 le wy k = 0 := by
  have h := gn4_add (fun _ => 0) (fun _ => 0) (fun _ => 0) (fun _ => 0) 0 0 0 0 le wy k
  rw [show gn4 (fun _ => (fun _ => (0 : Int)) (0 : Int) + (fun _ => (0 : Int)) (0 : Int)) (fun _ => (fun _ => (0 : Int)) (0 : Int) + (fun _ => (0 : Int)) (0 : Int)) (0 + 0) (0 + 0) le wy k = gn4 (fun _ => 0) (fun _ => 0) 0 0 le wy k from rfl] at h
  omega
theorem gn4_sn (F H : Int → Nat → Int) (u v : Nat → Int) (le wy : Int) (k : Nat) : ∀ N, gn4 (fun a => sn (F a) N) (fun a => sn (H a) N) (sn u N) (sn v N) le wy k = sn (fun i => gn4 (fun a => F a i) (fun a => H a i) (u i) (v i) le wy k) N
  | 0 => gn4_0 le wy k
  | N + 1 => by
    show gn4 (fun a => sn (F a) N + F a N) (fun a => sn (H a) N + H a N) (sn u N + u N) (sn v N + v N) le wy k = sn (fun i => gn4 (fun a => F a i) (fun a => H a i) (u i) (v i) le wy k) N + gn4 (fun a => F a N) (fun a => H a N) (u N) (v N) le wy k
    rw [gn4_add (fun a => sn (F a) N) (fun a => F a N) (fun a => sn (H a) N) (fun a => H a N), gn4_sn F H u v le wy k N]
/-- one weight at one place -/
def pt1 (c w : Int) : Int → Int := fun a => if c = a then w else 0
section
variable {h al w : Int}
theorem pr3_1 (ha : 1 ≤ al ∧ al ≤ 3) (b : Int) : pr3 (pt1 (h * 4 + al) w) b 3 = if b = h then w else 0 := by
  show 0 + pt1 (h * 4 + al) w (b * 4 + 1) + pt1 (h * 4 + al) w (b * 4 + 2) + pt1 (h * 4 + al) w (b * 4 + 3) = _
  unfold pt1
  (repeat' split) <;> omega
theorem ps3_1 (ha : 1 ≤ al ∧ al ≤ 3) (b : Int) : ps3 (pt1 (h * 4 + al) w) b 3 = if b = h then 12 / (al + 1) * w else 0 := by
  show 0 + 6 * pt1 (h * 4 + al) w (b * 4 + 1) + 4 * pt1 (h * 4 + al) w (b * 4 + 2) + 3 * pt1 (h * 4 + al) w (b * 4 + 3) = _
  have h3 : al = 1 ∨ al = 2 ∨ al = 3 := by omega
  unfold pt1
  rcases h3 with rfl | rfl | rfl
  · show _ = if b = h then 6 * w else 0
    (repeat' split) <;> omega
  · show _ = if b = h then 4 * w else 0
    (repeat' split) <;> omega
  · show _ = if b = h then 3 * w else 0
    (repeat' split) <;> omega
theorem pt3_1 (ha : 1 ≤ al ∧ al ≤ 3) (b : Int) : pt3 (pt1 (h * 4 + al) w) b 3 = (if b = h then 12 / (al + 1) * w else 0) * b := by
  rw [← ps3_1 ha b]
  show 0 + 6 * pt1 (h * 4 + al) w (b * 4 + 1) * b + 4 * pt1 (h * 4 + al) w (b * 4 + 2) * b + 3 * pt1 (h * 4 + al) w (b * 4 + 3) * b = (0 + 6 * pt1 (h * 4 + al) w (b * 4 + 1) + 4 * pt1 (h * 4 + al) w (b * 4 + 2) + 3 * pt1 (h * 4 + al) w (b * 4 + 3)) * b
  grind
theorem pq3_1 (ha : 1 ≤ al ∧ al ≤ 3) (b : Int) : pq3 (pt1 (h * 4 + al) w) b 3 = (if b = h then w else 0) * b := by
  rw [← pr3_1 ha b]
  show 0 + pt1 (h * 4 + al) w (b * 4 + 1) * b + pt1 (h * 4 + al) w (b * 4 + 2) * b + pt1 (h * 4 + al) w (b * 4 + 3) * b = (0 + pt1 (h * 4 + al) w (b * 4 + 1) + pt1 (h * 4 + al) w (b * 4 + 2) + pt1 (h * 4 + al) w (b * 4 + 3)) * b
  grind
theorem bt4_1 (ha : 1 ≤ al ∧ al ≤ 3) {le : Int} (hl : 0 ≤ h ∧ le ≤ h) : ∀ k : Nat, bt4 (pt1 (h * 4 + al) w) 0 le k = if h < (k : Int) then w else 0
  | 0 => by show (0 : Int) = if h < ((0 : Nat) : Int) then w else 0; rw [if_neg (by omega)]
  | k + 1 => by
    show (if (k : Int) < le then bt4 _ 0 le k else bt4 _ 0 le k + pr3 _ k 3) = _
    rw [bt4_1 ha hl k, pr3_1 ha]
    (repeat' split) <;> omega
theorem nt4_1 (ha : 1 ≤ al ∧ al ≤ 3) {le : Int} (hl : 0 ≤ h ∧ le ≤ h) : ∀ k : Nat, nt4 (pt1 (h * 4 + al) w) 0 le k = if h < (k : Int) then w * h else 0
  | 0 => by show (0 : Int) * le = if h < ((0 : Nat) : Int) then w * h else 0; rw [if_neg (by omega), Int.zero_mul]
  | k + 1 => by
    show (if (k : Int) < le then nt4 _ 0 le k else nt4 _ 0 le k + pq3 _ k 3) = _
    rw [nt4_1 ha hl k, pq3_1 ha]
    by_cases c : (k : Int) = h
    · rw [if_neg (by omega), if_neg (by omega), if_pos c, if_pos (by omega), c]; omega
    · rw [if_neg c, Int.zero_mul]
      (repeat' split) <;> omega
theorem sm_pt1 {c : Int} : ∀ n : Nat, 0 ≤ c → sm (pt1 c w) n = if c < (n : Int) then w else 0
  | 0, hc => by show (0 : Int) = if c < ((0 : Nat) : Int) then w else 0; rw [if_neg (by omega)]
  | n + 1, hc => by
    show sm (pt1 c w) n + (if c = (n : Int) then w else 0) = _
    rw [sm_pt1 n hc]
    (repeat' split) <;> omega
theorem bt4_z (f le : Int) : ∀ k : Nat, bt4 (fun _ => 0) f le k = f
  | 0 => rfl
  | k + 1 => by
    show (if (k : Int) < le then bt4 _ f le k else bt4 _ f le k + (0 + 0 + 0 + 0)) = f
    rw [bt4_z f le k]; split <;> omega
theorem nt4_z (f le : Int) : ∀ k : Nat, nt4 (fun _ => 0) f le k = f * le
  | 0 => rfl
  | k + 1 => by
    show (if (k : Int) < le then nt4 _ f le k else nt4 _ f le k + (0 + 0 * (k : Int) + 0 * (k : Int) + 0 * (k : Int))) = f * le
    rw [nt4_z f le k]; split <;> omega
end
theorem sm_z : ∀ n : Nat, sm (fun _ => 0) n = 0
  | 0 => rfl
  | n + 1 => by show sm (fun _ => 0) n + 0 = 0; rw [sm_z n]; rfl
/-- one case's gain by a bid against the rivals' -/
theorem gn_one {le wy w v : Int} {q : Int × Int × Int × Int} {k : Nat} (hq : qkO le q) (h1 : q.1 ≤ 60) (h2 : q.2.1 ≤ 3) (hle : 0 ≤ le) (hk : k ≤ 60) : gn4 (fun a => if q.2.1 = 0 then 0 else if q.1 * 4 + q.2.1 = a then w else 0) (fun a => if q.2.1 = 0 then 0 else if q.1 * 4 + q.2.1 = a then v else 0) (if q.2.1 = 0 then w else 0) (if q.2.1 = 0 then v else 0) le wy k = if (k : Int) < le then 0 else if wy = 2 then (if (k : Int) = (rks le q k).1 then 12 / (rks le q k).2.1 else 0) * v - 12 * (k : Int) * w else (if (k : Int) = (rks le q k).1 then 12 / (rks le q k).2.1 else 0) * (v - payB wy le (rks le q k) * w) := by
  have hqq := hq
  unfold qkO at hqq
  by_cases c0 : (k : Int) < le
  · unfold gn4
    rw [if_pos c0, if_pos c0]
  · rw [if_neg c0]
    by_cases c1 : q.2.1 = 0
    · have e1 : (fun a : Int => if q.2.1 = 0 then (0 : Int) else if q.1 * 4 + q.2.1 = a then w else 0) = fun _ => 0 := funext (fun a => if_pos c1)
      have e2 : (fun a : Int => if q.2.1 = 0 then (0 : Int) else if q.1 * 4 + q.2.1 = a then v else 0) = fun _ => 0 := funext (fun a => if_pos c1)
      rw [e1, e2, if_pos c1, if_pos c1]
      unfold gn4
      rw [if_neg c0, bt4_z, bt4_z, nt4_z]
      have e3 : sm (fun _ => 0) 244 = 0 := sm_z 244
      rw [e3, show ps3 (fun _ => 0) (k : Int) 3 = 0 from rfl, show pt3 (fun _ => 0) (k : Int) 3 = 0 from by show 0 + 6 * 0 * (k : Int) + 4 * 0 * (k : Int) + 3 * 0 * (k : Int) = 0; omega]
      have e4 : rks le q k = ((k : Int), 1, q.1, q.2.2.2 + k) := by unfold rks; rw [if_neg c0, if_pos (by omega)]
      rw [e4]
      unfold payB
      dsimp only
      rw [if_pos rfl, show (12 : Int) / 1 = 12 from rfl]
      by_cases c2 : wy = 2
      · rw [if_pos c2, if_pos c2]; grind
      · rw [if_neg c2, if_neg c2]
        by_cases c3 : wy = 1
        · rw [if_pos c3, if_pos c3, if_pos (by omega)]; grind
        · rw [if_neg c3, if_neg c3]; grind
    · have ha : 1 ≤ q.2.1 ∧ q.2.1 ≤ 3 := by omega
      have hl : 0 ≤ q.1 ∧ le ≤ q.1 := by omega
      have e1 : ∀ z, (fun a : Int => if q.2.1 = 0 then (0 : Int) else if q.1 * 4 + q.2.1 = a then z else 0) = pt1 (q.1 * 4 + q.2.1) z := fun z => funext (fun a => if_neg c1)
      rw [e1, e1, if_neg c1, if_neg c1]
      unfold gn4
      rw [if_neg c0, bt4_1 ha hl, bt4_1 ha hl, nt4_1 ha hl, ps3_1 ha, pt3_1 ha, sm_pt1 _ (by omega), if_pos (show q.1 * 4 + q.2.1 < ((244 : Nat) : Int) by omega)]
      have s := rks_ok (b := (k : Int)) hle ⟨by omega, by omega⟩ (v := (k : Int)) (by rw [if_neg c0]) hq h1
      by_cases d1 : q.1 < (k : Int)
      · have e4 : rks le q k = ((k : Int), 1, q.1, q.2.2.2 + k) := by unfold rks; rw [if_neg c0, if_pos d1]
        rw [e4]
        unfold payB
        dsimp only
        have d2 : ¬ (k : Int) = q.1 := by omega
        have d3 : ¬ q.1 = -1 := by omega
        rw [if_pos d1, if_pos d1, if_pos d1, if_pos rfl, if_neg d2, if_neg d2, show (12 : Int) / 1 = 12 from rfl]
        by_cases c2 : wy = 2
        · rw [if_pos c2, if_pos c2]; grind
        · rw [if_neg c2, if_neg c2]
          by_cases c3 : wy = 1
          · rw [if_pos c3, if_pos c3, if_neg d3]; grind
          · rw [if_neg c3, if_neg c3]; grind
      · rw [if_neg d1, if_neg d1, if_neg d1]
        by_cases d2 : (k : Int) = q.1
        · have e4 : rks le q k = (q.1, q.2.1 + 1, (k : Int), q.2.2.2 + k) := by unfold rks; rw [if_neg c0, if_neg d1, if_pos d2]
          rw [e4]
          unfold payB
          dsimp only
          rw [if_pos d2, if_pos d2]
          generalize 12 / (q.2.1 + 1) = z
          by_cases c2 : wy = 2
          · rw [if_pos c2, if_pos c2]; grind
          · rw [if_neg c2, if_neg c2]
            by_cases c3 : wy = 1
            · rw [if_pos c3, if_pos c3, if_neg (show ¬ (k : Int) = -1 by omega)]; clear s; grind
            · rw [if_neg c3, if_neg c3]; grind
        · have e4 : ¬ (k : Int) = (rks le q k).1 := by
            have := s.2.2.2.2.2.2.1
            rw [if_neg d1] at this
            omega
          rw [if_neg e4, if_neg d2, if_neg d2]
          by_cases c2 : wy = 2
          · rw [if_pos c2, if_pos c2]; grind
          · rw [if_neg c2, if_neg c2]
            by_cases c3 : wy = 1
            · rw [if_pos c3]; grind
            · rw [if_neg c3]; grind

