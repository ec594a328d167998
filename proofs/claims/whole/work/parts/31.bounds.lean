/-! bounds of sums; the rivals as functions of rows and base weights -/
theorem sn_bd {F : Nat → Int} {A B : Int} : ∀ (n : Nat), (∀ i, i < n → A ≤ F i ∧ F i ≤ B) → A * n ≤ sn F n ∧ sn F n ≤ B * n
  | 0, _ => by simp [sn]
  | n + 1, h => by
    have ih := sn_bd n (fun i hi => h i (by omega))
    have h1 := h n (by omega)
    have e1 : A * ((n + 1 : Nat) : Int) = A * n + A := by rw [Int.natCast_add]; show A * (n + 1) = _; rw [Int.mul_add, Int.mul_one]
    have e2 : B * ((n + 1 : Nat) : Int) = B * n + B := by rw [Int.natCast_add]; show B * (n + 1) = _; rw [Int.mul_add, Int.mul_one]
    rw [e1, e2]
    show _ ≤ sn F n + F n ∧ sn F n + F n ≤ _
    omega
theorem sn_congr {F F' : Nat → Int} : ∀ (n : Nat), (∀ i, i < n → F i = F' i) → sn F n = sn F' n
  | 0, _ => rfl
  | n + 1, h => by
    show sn F n + F n = sn F' n + F' n
    rw [sn_congr n (fun i hi => h i (by omega)), h n (by omega)]
def pB (σ : SaleT) (P0 : Int → Int) : Prop := ∀ t, 0 ≤ t → t < sTr σ → 0 ≤ P0 t ∧ P0 t ≤ 90
theorem pwt_bd {σ : SaleT} (hw : wfS σ) {P0 S : Int → Int} {m : Nat} (hP : pB σ P0) (hS : sOK σ S m) (hm : m ≤ 4) {t : Int} (h0 : 0 ≤ t) (h1 : t < sTr σ) : 0 ≤ pwt σ S P0 m t ∧ pwt σ S P0 m t ≤ 900000 := by
  have b0 : 0 ≤ pwt σ S P0 0 t ∧ pwt σ S P0 0 t ≤ 90 := hP t h0 h1
  have st : ∀ k : Nat, k < m → 0 ≤ sO σ (t * 5 + S k) ∧ sO σ (t * 5 + S k) ≤ 10 := fun k hk => hw.2.2.2.2.2.2.1 t (S k) h0 h1 (hS k hk).1 (hS k hk).2
  match m, hm, hS, st with
  | 0, _, _, _ => omega
  | 1, _, _, st =>
    have b1 : 0 ≤ pwt σ S P0 1 t ∧ pwt σ S P0 1 t ≤ 90 * 10 := mul_bd b0 (st 0 (by omega))
    omega
  | 2, _, _, st =>
    have b1 : 0 ≤ pwt σ S P0 1 t ∧ pwt σ S P0 1 t ≤ 90 * 10 := mul_bd b0 (st 0 (by omega))
    have b2 : 0 ≤ pwt σ S P0 2 t ∧ pwt σ S P0 2 t ≤ 90 * 10 * 10 := mul_bd b1 (st 1 (by omega))
    omega
  | 3, _, _, st =>
    have b1 : 0 ≤ pwt σ S P0 1 t ∧ pwt σ S P0 1 t ≤ 90 * 10 := mul_bd b0 (st 0 (by omega))
    have b2 : 0 ≤ pwt σ S P0 2 t ∧ pwt σ S P0 2 t ≤ 90 * 10 * 10 := mul_bd b1 (st 1 (by omega))
    have b3 : 0 ≤ pwt σ S P0 3 t ∧ pwt σ S P0 3 t ≤ 90 * 10 * 10 * 10 := mul_bd b2 (st 2 (by omega))
    omega
  | 4, _, _, st =>
    have b1 : 0 ≤ pwt σ S P0 1 t ∧ pwt σ S P0 1 t ≤ 90 * 10 := mul_bd b0 (st 0 (by omega))
    have b2 : 0 ≤ pwt σ S P0 2 t ∧ pwt σ S P0 2 t ≤ 90 * 10 * 10 := mul_bd b1 (st 1 (by omega))
    have b3 : 0 ≤ pwt σ S P0 3 t ∧ pwt σ S P0 3 t ≤ 90 * 10 * 10 * 10 := mul_bd b2 (st 2 (by omega))
    have b4 : 0 ≤ pwt σ S P0 4 t ∧ pwt σ S P0 4 t ≤ 90 * 10 * 10 * 10 * 10 := mul_bd b3 (st 3 (by omega))
    omega
theorem crW_bd {σ : SaleT} (hw : wfS σ) {P0 S : Int → Int} {m : Nat} (hP : pB σ P0) (hS : sOK σ S m) (hm : m ≤ 4) : 0 ≤ crW σ S P0 m ∧ crW σ S P0 m ≤ 7200000 := by
  have h := sm_bd (f := pwt σ S P0 m) (A := 0) (B := 900000) (sTr σ).toNat (fun i h0 h1 => pwt_bd hw hP hS hm h0 (by omega))
  have := hw.2.1
  unfold crW
  omega
theorem crV_bd {σ : SaleT} (hw : wfS σ) {P0 S : Int → Int} {m : Nat} (hP : pB σ P0) (hS : sOK σ S m) (hm : m ≤ 4) : 0 ≤ crV σ S P0 m ∧ crV σ S P0 m ≤ 432000000 := by
  have h := sm_bd (f := fun t => pwt σ S P0 m t * sV σ t) (A := 0) (B := 54000000) (sTr σ).toNat (fun i h0 h1 => mul_bd (pwt_bd hw hP hS hm h0 (by omega)) (hw.2.2.2.2.2.1 i h0 (by omega)).1)
  have := hw.2.1
  unfold crV
  omega
def rvW (σ : SaleT) (R P0 : Int → Int) (n : Nat) (S0 : Int → Int) (a : Int) : Int := sn (fun i => gX R n (sLe σ) (fun S => crW σ S P0 n) a (sq (sSg σ) n S0 i)) (pwi (sSg σ) n).toNat
def rvV (σ : SaleT) (R P0 : Int → Int) (n : Nat) (S0 : Int → Int) (a : Int) : Int := sn (fun i => gX R n (sLe σ) (fun S => crV σ S P0 n) a (sq (sSg σ) n S0 i)) (pwi (sSg σ) n).toNat
def rvF (σ : SaleT) (R P0 : Int → Int) (n : Nat) (S0 : Int → Int) : Int := sn (fun i => gF R n (sLe σ) (fun S => crW σ S P0 n) (sq (sSg σ) n S0 i)) (pwi (sSg σ) n).toNat
def rvG (σ : SaleT) (R P0 : Int → Int) (n : Nat) (S0 : Int → Int) : Int := sn (fun i => gF R n (sLe σ) (fun S => crV σ S P0 n) (sq (sSg σ) n S0 i)) (pwi (sSg σ) n).toNat
def rvg (σ : SaleT) (R P0 : Int → Int) (n : Nat) (S0 : Int → Int) (j : Int) : Int := gn4 (rvW σ R P0 n S0) (rvV σ R P0 n S0) (rvF σ R P0 n S0) (rvG σ R P0 n S0) (sLe σ) (sWy σ) j.toNat
theorem sum_bd {σ : SaleT} (hw : wfS σ) {n : Nat} (hn : n ≤ 4) {F : Nat → Int} {B : Int} (hB : 0 ≤ B) (h : ∀ i, 0 ≤ F i ∧ F i ≤ B) : 0 ≤ sn F (pwi (sSg σ) n).toNat ∧ sn F (pwi (sSg σ) n).toNat ≤ B * 625 := by
  have hp := pwi_bd (sg := sSg σ) (by have := hw.1; omega) (by have := hw.1; omega) hn
  have h1 := sn_bd (F := F) (A := 0) (B := B) (pwi (sSg σ) n).toNat (fun i _ => h i)
  have h2 : B * ((pwi (sSg σ) n).toNat : Int) ≤ B * 625 := Int.mul_le_mul_of_nonneg_left (by omega) hB
  omega
theorem rv_bd {σ : SaleT} (hw : wfS σ) {R P0 : Int → Int} {n : Nat} (hP : pB σ P0) (hn : n ≤ 4) (S0 : Int → Int) : (∀ a, 0 ≤ rvW σ R P0 n S0 a ∧ rvW σ R P0 n S0 a ≤ 4500000000) ∧ (∀ a, 0 ≤ rvV σ R P0 n S0 a ∧ rvV σ R P0 n S0 a ≤ 270000000000) ∧ (0 ≤ rvF σ R P0 n S0 ∧ rvF σ R P0 n S0 ≤ 4500000000) ∧ (0 ≤ rvG σ R P0 n S0 ∧ rvG σ R P0 n S0 ≤ 270000000000) := by
  have hsg := hw.1
  have hs : ∀ i, sOK σ (sq (sSg σ) n S0 i) n := fun i j hj => sq_ok (by omega) n S0 i j hj
  have a1 := fun i => crW_bd hw hP (hs i) hn
  have a2 := fun i => crV_bd hw hP (hs i) hn
  refine ⟨fun a => ?_, fun a => ?_, ?_, ?_⟩
  · have h := sum_bd hw hn (B := 7200000) (F := fun i => gX R n (sLe σ) (fun S => crW σ S P0 n) a (sq (sSg σ) n S0 i)) (by omega) (fun i => by
      unfold gX
      have := a1 i
      split
      · omega
      · split <;> omega)
    exact h
  · have h := sum_bd hw hn (B := 432000000) (F := fun i => gX R n (sLe σ) (fun S => crV σ S P0 n) a (sq (sSg σ) n S0 i)) (by omega) (fun i => by
      unfold gX
      have := a2 i
      split
      · omega
      · split <;> omega)
    exact h
  · have h := sum_bd hw hn (B := 7200000) (F := fun i => gF R n (sLe σ) (fun S => crW σ S P0 n) (sq (sSg σ) n S0 i)) (by omega) (fun i => by
      unfold gF
      have := a1 i
      split <;> omega)
    exact h
  · have h := sum_bd hw hn (B := 432000000) (F := fun i => gF R n (sLe σ) (fun S => crV σ S P0 n) (sq (sSg σ) n S0 i)) (by omega) (fun i => by
      unfold gF
      have := a2 i
      split <;> omega)
    exact h
theorem pr3_eq (X : Int → Int) (b : Int) : pr3 X b 3 = 0 + X (b * 4 + 1) + X (b * 4 + 2) + X (b * 4 + 3) := rfl
theorem ps3_eq (X : Int → Int) (b : Int) : ps3 X b 3 = 0 + 6 * X (b * 4 + 1) + 4 * X (b * 4 + 2) + 3 * X (b * 4 + 3) := rfl
theorem pt3_eq (X : Int → Int) (b : Int) : pt3 X b 3 = 0 + 6 * X (b * 4 + 1) * b + 4 * X (b * 4 + 2) * b + 3 * X (b * 4 + 3) * b := rfl
theorem pq3_eq (X : Int → Int) (b : Int) : pq3 X b 3 = 0 + X (b * 4 + 1) * b + X (b * 4 + 2) * b + X (b * 4 + 3) * b := rfl
theorem bt4_bd {X : Int → Int} {f le B : Int} (hX : ∀ a, 0 ≤ X a ∧ X a ≤ B) (hf : 0 ≤ f ∧ f ≤ B) : ∀ k : Nat, 0 ≤ bt4 X f le k ∧ bt4 X f le k ≤ B * (1 + 3 * k)
  | 0 => by show 0 ≤ f ∧ f ≤ B * (1 + 3 * 0); omega
  | k + 1 => by
    have ih := bt4_bd (le := le) hX hf k
    have h1 := hX ((k : Int) * 4 + 1)
    have h2 := hX ((k : Int) * 4 + 2)
    have h3 := hX ((k : Int) * 4 + 3)
    have e : B * (1 + 3 * ((k + 1 : Nat) : Int)) = B * (1 + 3 * k) + 3 * B := by
      rw [show (1 + 3 * ((k + 1 : Nat) : Int)) = (1 + 3 * (k : Int)) + 3 by omega, Int.mul_add B, Int.mul_comm B 3]
    rw [e]
    unfold bt4
    split
    · omega
    · rw [pr3_eq]; omega
theorem nt4_bd {X : Int → Int} {f le B : Int} (hX : ∀ a, 0 ≤ X a ∧ X a ≤ B) (hf : 0 ≤ f ∧ f ≤ B) (hl : 0 ≤ le ∧ le ≤ 60) : ∀ k : Nat, k ≤ 61 → 0 ≤ nt4 X f le k ∧ nt4 X f le k ≤ B * 60 * (1 + 3 * k)
  | 0, _ => by
    show 0 ≤ f * le ∧ f * le ≤ B * 60 * (1 + 3 * 0)
    have := mul_bd hf hl
    omega
  | k + 1, hk => by
    have ih := nt4_bd hX hf hl k (by omega)
    have h1 := mul_bd (hX ((k : Int) * 4 + 1)) (y := (k : Int)) (B := 60) ⟨by omega, by omega⟩
    have h2 := mul_bd (hX ((k : Int) * 4 + 2)) (y := (k : Int)) (B := 60) ⟨by omega, by omega⟩
    have h3 := mul_bd (hX ((k : Int) * 4 + 3)) (y := (k : Int)) (B := 60) ⟨by omega, by omega⟩
    have e : B * 60 * (1 + 3 * ((k + 1 : Nat) : Int)) = B * 60 * (1 + 3 * k) + 3 * (B * 60) := by
      rw [show (1 + 3 * ((k + 1 : Nat) : Int)) = (1 + 3 * (k : Int)) + 3 by omega, Int.mul_add (B * 60), Int.mul_comm (B * 60) 3]
    rw [e]
    unfold nt4
    split
    · omega
    · rw [pq3_eq]; omega
theorem gn4_bd {Wt Wo : Int → Int} {fw fo le wy : Int} (h1 : ∀ a, 0 ≤ Wt a ∧ Wt a ≤ 4500000000) (h2 : ∀ a, 0 ≤ Wo a ∧ Wo a ≤ 270000000000) (h3 : 0 ≤ fw ∧ fw ≤ 4500000000) (h4 : 0 ≤ fo ∧ fo ≤ 270000000000) (hl : 0 ≤ le ∧ le ≤ 60) {k : Nat} (hk : k ≤ 60) : -1000000000000000000 ≤ gn4 Wt Wo fw fo le wy k ∧ gn4 Wt Wo fw fo le wy k ≤ 1000000000000000000 := by
  have a1 := bt4_bd (le := le) h1 h3 k
  have a2 := bt4_bd (le := le) h2 h4 k
  have a3 := nt4_bd h1 h3 hl k (by omega)
  have a4 := sm_bd (f := Wt) (A := 0) (B := 4500000000) 244 (fun i _ _ => h1 i)
  have a5 := mul_bd (x := bt4 Wt fw le k) (A := 4500000000 * 200) ⟨a1.1, by omega⟩ (y := (k : Int)) (B := 60) ⟨by omega, by omega⟩
  have a6 := mul_bd (x := 12 * (fw + sm Wt 244)) (A := 12 * (4500000000 * 250)) ⟨by omega, by omega⟩ (y := (k : Int)) (B := 60) ⟨by omega, by omega⟩
  have w1 := mul_bd (x := 6 * Wt ((k : Int) * 4 + 1)) (A := 27000000000) ⟨by have := h1 ((k : Int) * 4 + 1); omega, by have := h1 ((k : Int) * 4 + 1); omega⟩ (y := (k : Int)) (B := 60) ⟨by omega, by omega⟩
  have w2 := mul_bd (x := 4 * Wt ((k : Int) * 4 + 2)) (A := 18000000000) ⟨by have := h1 ((k : Int) * 4 + 2); omega, by have := h1 ((k : Int) * 4 + 2); omega⟩ (y := (k : Int)) (B := 60) ⟨by omega, by omega⟩
  have w3 := mul_bd (x := 3 * Wt ((k : Int) * 4 + 3)) (A := 13500000000) ⟨by have := h1 ((k : Int) * 4 + 3); omega, by have := h1 ((k : Int) * 4 + 3); omega⟩ (y := (k : Int)) (B := 60) ⟨by omega, by omega⟩
  have o1 := h2 ((k : Int) * 4 + 1)
  have o2 := h2 ((k : Int) * 4 + 2)
  have o3 := h2 ((k : Int) * 4 + 3)
  unfold gn4
  rw [ps3_eq, pt3_eq]
  split
  · omega
  · split
    · omega
    · split <;> omega
theorem bt4_congr {X Y : Int → Int} (h : ∀ a, 0 ≤ a → a < 244 → X a = Y a) (f le : Int) : ∀ k : Nat, k ≤ 61 → bt4 X f le k = bt4 Y f le k
  | 0, _ => rfl
  | k + 1, hk => by
    unfold bt4
    rw [bt4_congr h f le k (by omega), pr3_eq, pr3_eq, h _ (by omega) (by omega), h ((k : Int) * 4 + 2) (by omega) (by omega), h ((k : Int) * 4 + 3) (by omega) (by omega)]
theorem nt4_congr {X Y : Int → Int} (h : ∀ a, 0 ≤ a → a < 244 → X a = Y a) (f le : Int) : ∀ k : Nat, k ≤ 61 → nt4 X f le k = nt4 Y f le k
  | 0, _ => rfl
  | k + 1, hk => by
    unfold nt4
    rw [nt4_congr h f le k (by omega), pq3_eq, pq3_eq, h _ (by omega) (by omega), h ((k : Int) * 4 + 2) (by omega) (by omega), h ((k : Int) * 4 + 3) (by omega) (by omega)]
theorem gn4_congr {Wt Wo Wt' Wo' : Int → Int} (h1 : ∀ a, 0 ≤ a → a < 244 → Wt a = Wt' a) (h2 : ∀ a, 0 ≤ a → a < 244 → Wo a = Wo' a) (fw fo le wy : Int) {k : Nat} (hk : k ≤ 60) : gn4 Wt Wo fw fo le wy k = gn4 Wt' Wo' fw fo le wy k := by
  unfold gn4
  rw [bt4_congr h1 fw le k (by omega), bt4_congr h2 fo le k (by omega), nt4_congr h1 fw le k (by omega), ps3_eq, ps3_eq, pt3_eq, pt3_eq, sm_congr 244 (fun i a b => h1 i a b), h1 _ (by omega) (by omega), h1 ((k : Int) * 4 + 2) (by omega) (by omega), h1 ((k : Int) * 4 + 3) (by omega) (by omega), h2 _ (by omega) (by omega), h2 ((k : Int) * 4 + 2) (by omega) (by omega), h2 ((k : Int) * 4 + 3) (by omega) (by omega)]
theorem pk_congr {g h : Int → Int} : ∀ k : Nat, k ≤ 60 → (∀ j : Nat, j ≤ 60 → g j = h j) → pk g k = pk h k
  | 0, _, _ => rfl
  | k + 1, hk, e => by
    have ih := pk_congr k (by omega) e
    have hb := pk_bd h k
    unfold pk
    rw [ih]
    have e1 : g (pk h k) = h (pk h k) := by
      have := e (pk h k).toNat (by omega)
      rw [show (((pk h k).toNat : Nat) : Int) = pk h k by omega] at this
      exact this
    have e2 : g ((k : Int) + 1) = h ((k : Int) + 1) := e (k + 1) (by omega)
    rw [e1, e2]
theorem rvg_bd {σ : SaleT} (hw : wfS σ) {R P0 : Int → Int} {n : Nat} (hP : pB σ P0) (hn : n ≤ 4) (S0 : Int → Int) {j : Int} (h0 : 0 ≤ j) (h1 : j ≤ 60) : sw_rl (rvg σ R P0 n S0 j) := by
  obtain ⟨a1, a2, a3, a4⟩ := rv_bd (R := R) hw hP hn S0
  have h := gn4_bd (wy := sWy σ) a1 a2 a3 a4 hw.2.2.2.1 (k := j.toNat) (by omega)
  exact ⟨by unfold rvg; omega, by unfold rvg; omega⟩

