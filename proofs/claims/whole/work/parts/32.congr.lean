/-! what doesn't depend on what lies beyond the places -/
theorem nx_congr {sg : Int} : ∀ (k : Nat) {S S' : Int → Int}, (∀ i : Nat, i < k → S i = S' i) → ∀ i : Nat, i < k → nx sg k S i = nx sg k S' i
  | 0, _, _, _, i, hi => by omega
  | k + 1, S, S', h, i, hi => by
    have hk := h k (by omega)
    unfold nx
    rw [hk]
    by_cases c : S' k + 1 < sg
    · rw [if_pos c, if_pos c]
      show (if (i : Int) = k then _ else S i) = (if (i : Int) = k then _ else S' i)
      by_cases e : (i : Int) = k
      · rw [if_pos e, if_pos e]
      · rw [if_neg e, if_neg e]; exact h i hi
    · rw [if_neg c, if_neg c]
      by_cases e : i = k
      · subst e
        rw [nx_hi i _ i (Nat.le_refl _), nx_hi i _ i (Nat.le_refl _)]
        show (if (i : Int) = i then _ else _) = (if (i : Int) = i then _ else _)
        rw [if_pos rfl, if_pos rfl]
      · refine nx_congr k (fun j hj => ?_) i (by omega)
        show (if (j : Int) = k then _ else S j) = (if (j : Int) = k then _ else S' j)
        rw [if_neg (by omega), if_neg (by omega)]; exact h j (by omega)
theorem sq_congr (sg : Int) (m : Nat) (S0 S1 : Int → Int) : ∀ (n i : Nat), i < m → sq sg m S0 n i = sq sg m S1 n i
  | 0, i, hi => by
    show fl S0 0 m i = fl S1 0 m i
    rw [fl_in hi, fl_in hi]
  | n + 1, i, hi => nx_congr m (fun j hj => sq_congr sg m S0 S1 n j hj) i hi
theorem rk_congrR {R R' S S' : Int → Int} {le : Int} : ∀ {k : Nat}, (∀ i : Nat, i < k → S i = S' i) → (∀ i : Nat, i < k → R ((i : Int) * 5 + S' i) = R' ((i : Int) * 5 + S' i)) → rk R S le k = rk R' S' le k
  | 0, _, _ => rfl
  | k + 1, h, hr => by
    show rks le (rk R S le k) (R ((k : Int) * 5 + S k)) = rks le (rk R' S' le k) (R' ((k : Int) * 5 + S' k))
    rw [rk_congrR (fun i hi => h i (by omega)) (fun i hi => hr i (by omega)), h k (by omega), hr k (by omega)]
theorem pwt_congrP {σ : SaleT} {S S' P0 P1 : Int → Int} (hP : ∀ t, 0 ≤ t → t < sTr σ → P0 t = P1 t) : ∀ {k : Nat}, (∀ i : Nat, i < k → S i = S' i) → ∀ t, 0 ≤ t → t < sTr σ → pwt σ S P0 k t = pwt σ S' P1 k t
  | 0, _, t, h0, h1 => hP t h0 h1
  | k + 1, h, t, h0, h1 => by
    show pwt σ S P0 k t * sO σ (t * 5 + S k) = pwt σ S' P1 k t * sO σ (t * 5 + S' k)
    rw [pwt_congrP hP (fun i hi => h i (by omega)) t h0 h1, h k (by omega)]
theorem crW_congr {σ : SaleT} {S S' P0 P1 : Int → Int} {m : Nat} (hP : ∀ t, 0 ≤ t → t < sTr σ → P0 t = P1 t) (h : ∀ i : Nat, i < m → S i = S' i) : crW σ S P0 m = crW σ S' P1 m := sm_congr _ (fun t h0 h1 => pwt_congrP hP h t h0 (by omega))
theorem crV_congr {σ : SaleT} {S S' P0 P1 : Int → Int} {m : Nat} (hP : ∀ t, 0 ≤ t → t < sTr σ → P0 t = P1 t) (h : ∀ i : Nat, i < m → S i = S' i) : crV σ S P0 m = crV σ S' P1 m := sm_congr _ (fun t h0 h1 => by
  show pwt σ S P0 m t * sV σ t = pwt σ S' P1 m t * sV σ t
  rw [pwt_congrP hP h t h0 (by omega)])
theorem crB_congr {σ : SaleT} {S S' P0 P1 : Int → Int} {m : Nat} (hP : ∀ t, 0 ≤ t → t < sTr σ → P0 t = P1 t) (h : ∀ i : Nat, i < m → S i = S' i) (pr : Int) : crB σ S P0 m pr = crB σ S' P1 m pr := sm_congr _ (fun t h0 h1 => by
  show (if sV σ t < pr then pwt σ S P0 m t else 0) = (if sV σ t < pr then pwt σ S' P1 m t else 0)
  rw [pwt_congrP hP h t h0 (by omega)])
/-- rows told by place and sign -/
def rwF (f : Int → Int → Int) : Int → Int := fun i => f (i / 5) (i % 5)
theorem rwF_at (f : Int → Int → Int) (p k : Int) (h0 : 0 ≤ k) (h1 : k < 5) : rwF f (p * 5 + k) = f p k := by
  unfold rwF
  rw [show (p * 5 + k) / 5 = p by omega, show (p * 5 + k) % 5 = k by omega]
/-- rows that are alike where signs can be -/
def rEq (σ : SaleT) (R R' : Int → Int) (m : Nat) : Prop := ∀ (i : Nat) (k : Int), i < m → 0 ≤ k → k < sSg σ → R ((i : Int) * 5 + k) = R' ((i : Int) * 5 + k)
def z0 : Int → Int := fun _ => 0
section
variable {σ : SaleT} {R R' P0 P1 : Int → Int} {m : Nat}
theorem sq_eq (hw : wfS σ) (S0 : Int → Int) (n : Nat) : (∀ i : Nat, i < m → sq (sSg σ) m S0 n i = sq (sSg σ) m z0 n i) := fun i hi => sq_congr _ m S0 z0 n i hi
theorem rk_eq (hw : wfS σ) (hR : rEq σ R R' m) (S0 : Int → Int) (n : Nat) (le : Int) : rk R (sq (sSg σ) m S0 n) le m = rk R' (sq (sSg σ) m z0 n) le m :=
  rk_congrR (sq_eq hw S0 n) (fun i hi => by
    have hs := sq_ok (sg := sSg σ) (by have := hw.1; omega) m z0 n i hi
    exact hR i _ hi hs.1 hs.2)
theorem gX_eq (hw : wfS σ) (hR : rEq σ R R' m) (S0 : Int → Int) (n : Nat) (le : Int) {w w' : (Int → Int) → Int} (h : w (sq (sSg σ) m S0 n) = w' (sq (sSg σ) m z0 n)) (a : Int) : gX R m le w a (sq (sSg σ) m S0 n) = gX R' m le w' a (sq (sSg σ) m z0 n) := by
  unfold gX
  rw [rk_eq hw hR S0 n le, h]
theorem gF_eq (hw : wfS σ) (hR : rEq σ R R' m) (S0 : Int → Int) (n : Nat) (le : Int) {w w' : (Int → Int) → Int} (h : w (sq (sSg σ) m S0 n) = w' (sq (sSg σ) m z0 n)) : gF R m le w (sq (sSg σ) m S0 n) = gF R' m le w' (sq (sSg σ) m z0 n) := by
  unfold gF
  rw [rk_eq hw hR S0 n le, h]
theorem rvg_eq (hw : wfS σ) (hR : rEq σ R R' m) (hP : ∀ t, 0 ≤ t → t < sTr σ → P0 t = P1 t) (S0 : Int → Int) (j : Int) : rvg σ R P0 m S0 j = rvg σ R' P1 m z0 j := by
  have e1 : rvW σ R P0 m S0 = rvW σ R' P1 m z0 := funext fun a => sn_congr _ (fun i _ => gX_eq hw hR S0 i _ (crW_congr hP (sq_eq hw S0 i)) a)
  have e2 : rvV σ R P0 m S0 = rvV σ R' P1 m z0 := funext fun a => sn_congr _ (fun i _ => gX_eq hw hR S0 i _ (crV_congr hP (sq_eq hw S0 i)) a)
  have e3 : rvF σ R P0 m S0 = rvF σ R' P1 m z0 := sn_congr _ (fun i _ => gF_eq hw hR S0 i _ (crW_congr hP (sq_eq hw S0 i)))
  have e4 : rvG σ R P0 m S0 = rvG σ R' P1 m z0 := sn_congr _ (fun i _ => gF_eq hw hR S0 i _ (crV_congr hP (sq_eq hw S0 i)))
  unfold rvg
  rw [e1, e2, e3, e4]
theorem tW_eq (hw : wfS σ) (hP : ∀ t, 0 ≤ t → t < sTr σ → P0 t = P1 t) (S0 : Int → Int) (n : Nat) : tW σ P0 m (sq (sSg σ) m S0 n) = tW σ P1 m (sq (sSg σ) m z0 n) := by
  unfold tW
  rw [crW_congr hP (sq_eq hw S0 n)]
theorem tT_eq (hw : wfS σ) (hR : rEq σ R R' m) (hP : ∀ t, 0 ≤ t → t < sTr σ → P0 t = P1 t) (S0 : Int → Int) (n : Nat) (le : Int) (ap : Bool) : tT σ R P0 m le ap (sq (sSg σ) m S0 n) = tT σ R' P1 m le ap (sq (sSg σ) m z0 n) := by
  unfold tT
  rw [rk_eq hw hR S0 n le, crW_congr hP (sq_eq hw S0 n)]
theorem tS_eq (hw : wfS σ) (hR : rEq σ R R' m) (hP : ∀ t, 0 ≤ t → t < sTr σ → P0 t = P1 t) (S0 : Int → Int) (n : Nat) (le : Int) : tS σ R P0 m le (sq (sSg σ) m S0 n) = tS σ R' P1 m le (sq (sSg σ) m z0 n) := by
  unfold tS
  rw [rk_eq hw hR S0 n le, crB_congr hP (sq_eq hw S0 n)]
theorem tU_eq (hw : wfS σ) (hR : rEq σ R R' m) (hP : ∀ t, 0 ≤ t → t < sTr σ → P0 t = P1 t) (S0 : Int → Int) (n : Nat) (le : Int) : tU σ R P0 m le (sq (sSg σ) m S0 n) = tU σ R' P1 m le (sq (sSg σ) m z0 n) := by
  unfold tU
  rw [rk_eq hw hR S0 n le, crW_congr hP (sq_eq hw S0 n)]
theorem tG_eq (hw : wfS σ) (hR : rEq σ R R' m) (hP : ∀ t, 0 ≤ t → t < sTr σ → P0 t = P1 t) (S0 : Int → Int) (n : Nat) (le : Int) (ap : Bool) {i : Nat} (hi : i < m) : tG σ R P0 m le ap i (sq (sSg σ) m S0 n) = tG σ R' P1 m le ap i (sq (sSg σ) m z0 n) := by
  have hs := sq_ok (sg := sSg σ) (by have := hw.1; omega) m z0 n i hi
  unfold tG
  rw [rk_eq hw hR S0 n le, crW_congr hP (sq_eq hw S0 n), crV_congr hP (sq_eq hw S0 n), sq_eq hw S0 n i hi, hR i _ hi hs.1 hs.2]
theorem tX_eq (hw : wfS σ) (hR : rEq σ R R' m) (S0 : Int → Int) (n : Nat) (le : Int) {i : Nat} (hi : i < m) (k : Int) {w w' : (Int → Int) → Int} (h : w (sq (sSg σ) m S0 n) = w' (sq (sSg σ) m z0 n)) : tX R m le i k w (sq (sSg σ) m S0 n) = tX R' m le i k w' (sq (sSg σ) m z0 n) := by
  have hs := sq_ok (sg := sSg σ) (by have := hw.1; omega) m z0 n i hi
  unfold tX
  rw [rk_eq hw hR S0 n le, sq_eq hw S0 n i hi, hR i _ hi hs.1 hs.2, h]
end
/-- the tally's numbers over all signs: CASES, what the seller takes, SORRY, unsold, gained, worth won, cases won -/
def TA (σ : SaleT) (P0 : Int → Int) (m : Nat) : Int := sn (fun n => tW σ P0 m (sq (sSg σ) m z0 n)) (pwi (sSg σ) m).toNat
def TT (σ : SaleT) (R P0 : Int → Int) (m : Nat) : Int := sn (fun n => tT σ R P0 m (sLe σ) (decide (sWy σ = 2)) (sq (sSg σ) m z0 n)) (pwi (sSg σ) m).toNat
def TS (σ : SaleT) (R P0 : Int → Int) (m : Nat) : Int := sn (fun n => tS σ R P0 m (sLe σ) (sq (sSg σ) m z0 n)) (pwi (sSg σ) m).toNat
def TU (σ : SaleT) (R P0 : Int → Int) (m : Nat) : Int := sn (fun n => tU σ R P0 m (sLe σ) (sq (sSg σ) m z0 n)) (pwi (sSg σ) m).toNat
def TG (σ : SaleT) (R P0 : Int → Int) (m i : Nat) : Int := sn (fun n => tG σ R P0 m (sLe σ) (decide (sWy σ = 2)) i (sq (sSg σ) m z0 n)) (pwi (sSg σ) m).toNat
def TV (σ : SaleT) (R P0 : Int → Int) (m i : Nat) (k : Int) : Int := sn (fun n => tX R m (sLe σ) i k (fun S => crV σ S P0 m) (sq (sSg σ) m z0 n)) (pwi (sSg σ) m).toNat
def TC (σ : SaleT) (R P0 : Int → Int) (m i : Nat) (k : Int) : Int := sn (fun n => tX R m (sLe σ) i k (fun S => crW σ S P0 m) (sq (sSg σ) m z0 n)) (pwi (sSg σ) m).toNat
/-- base weights: with one sign more seen outside (-1: none); one truth alone -/
def pS (σ : SaleT) (k : Int) : Int → Int := fun t => sW σ t * see σ t k
def pT (σ : SaleT) (k : Int) : Int → Int := fun t => if t = k then sW σ t else 0
theorem pS_B {σ : SaleT} (hw : wfS σ) (k : Int) : pB σ (pS σ k) := fun t h0 h1 => by
  have a := hw.2.2.2.2.2.1 t h0 h1
  exact mul_bd (A := 9) (B := 10) ⟨by omega, a.2.2⟩ (see_bd hw h0 h1 k)
theorem pT_B {σ : SaleT} (hw : wfS σ) (k : Int) : pB σ (pT σ k) := fun t h0 h1 => by
  have a := hw.2.2.2.2.2.1 t h0 h1
  unfold pT
  split <;> omega
/-- the rivals' gains by rows told by place and sign -/
def RG (σ : SaleT) (f : Int → Int → Int) (P0 : Int → Int) (n : Nat) : Int → Int := rvg σ (rwF f) P0 n z0
theorem RG_of {σ : SaleT} (hw : wfS σ) {R P0 : Int → Int} {n : Nat} (hn : n ≤ 4) {f : Int → Int → Int} (hR : ∀ p k, 0 ≤ p → p < (n : Int) → 0 ≤ k → k < sSg σ → R (p * 5 + k) = f p k) {S Wt Wo g : Int → Int} {fw fo : Int} (q1 : fw = rvF σ R P0 n S) (q2 : fo = rvG σ R P0 n S) (q3 : ∀ a, 0 ≤ a → a < 244 → Wt a = rvW σ R P0 n S a) (q4 : ∀ a, 0 ≤ a → a < 244 → Wo a = rvV σ R P0 n S a) (q5 : ∀ j : Nat, j ≤ 60 → g j = gn4 Wt Wo fw fo (sLe σ) (sWy σ) j) : ∀ j : Nat, j ≤ 60 → g j = RG σ f P0 n j := by
  intro j hj
  have hre : rEq σ R (rwF f) n := fun i k hi h0 h1 => by
    rw [rwF_at f _ k h0 (by have := hw.1; omega)]
    exact hR i k (by omega) (by omega) h0 h1
  unfold RG
  rw [← rvg_eq hw hre (fun _ _ _ => rfl) S j, q5 j hj, gn4_congr q3 q4 fw fo _ _ hj, q1, q2]
  unfold rvg
  rw [show ((j : Int)).toNat = j by omega]

