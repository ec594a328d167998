/-! the reference: counting a case -/
/-- a case's weight by a truth; what each count gets of it -/
def cwt (σ : SaleT) (S : Int → Int) (kn told : Int) (m : Nat) (t : Int) : Int := if kn = -1 then pwt σ S (pS σ told) m t else if kn = t then pwt σ (fun i => S (i + 1)) (pS σ told) (m - 1) t else 0
def wnB (q : Int × Int × Int × Int) (b w : Int) : Int := if b ≠ -1 ∧ b = q.1 then w * (12 / q.2.1) else 0
def cnD (wy le : Int) (q : Int × Int × Int × Int) (ask b v w : Int) (j : Nat) : Int :=
  if j = 28 then 12 * w else if j = 29 then w * tkB wy le q else if j = 30 then (if q.1 ≠ -1 ∧ v < payB wy le q then 12 * w else 0) else if j = 31 then (if q.1 = -1 then 12 * w else 0) else if ask = -1 then 0 else if j = 32 then w * gnB' wy le q b v else if j = 33 then wnB q b w * v else wnB q b w
theorem wnB_0 (q : Int × Int × Int × Int) (b : Int) : wnB q b 0 = 0 := by unfold wnB; rw [Int.zero_mul]; split <;> rfl
theorem cnD_0 (wy le : Int) (q : Int × Int × Int × Int) (ask b v : Int) (j : Nat) : cnD wy le q ask b v 0 j = 0 := by
  unfold cnD
  rw [wnB_0, Int.zero_mul, Int.zero_mul, Int.zero_mul, Int.mul_zero]
  (repeat' split) <;> rfl
theorem ifp {c : Prop} [Decidable c] {z a b : Int} (h : c) : z + a = z + (if c then a else b) := by rw [if_pos h]
theorem ifn {c : Prop} [Decidable c] {z a b : Int} (h : ¬ c) : z + b = z + (if c then a else b) := by rw [if_neg h]
theorem if0 {c : Prop} [Decidable c] {z b : Int} (h : c) : z = z + (if c then 0 else b) := by rw [if_pos h]; omega
theorem wn33p {ask z b w v : Int} {q : Int × Int × Int × Int} (h : ask ≠ -1) (h2 : b ≠ -1 ∧ b = q.1) : z + w * (12 / q.2.1) * v = z + (if ask = -1 then 0 else wnB q b w * v) := by unfold wnB; rw [if_neg h, if_pos h2]
theorem wn33n {ask z b w v : Int} {q : Int × Int × Int × Int} (h : ask ≠ -1) (h2 : ¬ (b ≠ -1 ∧ b = q.1)) : z + 0 * v = z + (if ask = -1 then 0 else wnB q b w * v) := by unfold wnB; rw [if_neg h, if_neg h2]
theorem wn34p {ask z b w : Int} {q : Int × Int × Int × Int} (h : ask ≠ -1) (h2 : b ≠ -1 ∧ b = q.1) : z + w * (12 / q.2.1) = z + (if ask = -1 then 0 else wnB q b w) := by unfold wnB; rw [if_neg h, if_pos h2]
theorem wn34n {ask z b w : Int} {q : Int × Int × Int × Int} (h : ask ≠ -1) (h2 : ¬ (b ≠ -1 ∧ b = q.1)) : z + 0 = z + (if ask = -1 then 0 else wnB q b w) := by unfold wnB; rw [if_neg h, if_neg h2]
theorem StB.up {x : Nat → Int} {a : Nat → Int → Int} {B : Int → Int} {le wy : Int} {m : Nat} (h : StB x a B le wy m) {k : Nat} {v : Int} (hk : 21 ≠ k ∧ 22 ≠ k ∧ 23 ≠ k ∧ 26 ≠ k ∧ 27 ≠ k) : StB (upn x k v) a B le wy m := ⟨(upn_o hk.1).trans h.1, (upn_o hk.2.1).trans h.2.1, (upn_o hk.2.2.1).trans h.2.2.1, (upn_o hk.2.2.2.1).trans h.2.2.2.1, (upn_o hk.2.2.2.2).trans h.2.2.2.2.1, h.2.2.2.2.2⟩
section
variable {l : Launch} {G : sw_G} {M : sw_M} {x : Nat → Int} {a : Nat → Int → Int}
theorem K10_count {s le wy ask told kn : Int} {m : Nat} {σ : SaleT} {B S : Int → Int} (hM : RS G M x a) (hr : rowR a s σ) (hs : 0 ≤ s ∧ s < 8) (hwf : wfS σ) (hq : StB x a B le wy m) (hm : m ≤ 4) (hm1 : 1 ≤ m) (hle : 0 ≤ le ∧ le ≤ 60) (hB : bbO B m) (hwy : 0 ≤ wy ∧ wy ≤ 2) (h35 : x 35 = ask) (h38 : x 38 = kn) (hask : -1 ≤ ask ∧ ask < (m : Int)) (hkn : -1 ≤ kn ∧ kn < sTr σ) (hto : soN σ told) (hS : sOK σ S m) (hSa : ∀ i, 0 ≤ i → i < (m : Int) → a 25 i = S i) : Kt l G μX10_count [.ref (sw_al G 70), sw_i s, sw_i told] M (fun r M' => ∃ x', r = none ∧ RS G M' x' a ∧ frR M M' ∧ xfr [28, 29, 30, 31, 32, 33, 34] x x' ∧ ∀ j, 28 ≤ j → j ≤ 34 → x' j = x j + sm (fun t => cnD wy le (rkb B le m) ask (nwB B le ask) (sV σ t) (cwt σ S kn told m t) j) (sTr σ).toNat) := by
  refine KtA.of (by decide +kernel) (Nat.le_of_ble_eq_true rfl) ?_
  have hF : frR M M := frR.rf
  obtain ⟨q5, q6, q10, q11, q12, qr⟩ := id hr
  have hsg := hwf.1
  have htr := hwf.2.1
  have hVb := fun t h0 h1 => hwf.2.2.2.2.2.1 t h0 h1
  have hOb := fun t k h0 h1 h2 h3 => hwf.2.2.2.2.2.2.1 t k h0 h1 h2 h3
  have ho := rkb_ok hle.1 m hB
  have hpb := payB_bd (wy := wy) hle ho.1 ⟨ho.2.2.2.1, ho.2.1⟩
  have hqk := ho.1
  unfold qkO at hqk
  obtain ⟨Zq, hZ⟩ : ∃ Zq : Option Value → sw_M → Prop, Zq = (fun r M' => ∃ x', r = none ∧ RS G M' x' a ∧ frR M M' ∧ xfr [28, 29, 30, 31, 32, 33, 34] x x' ∧ ∀ j, 28 ≤ j → j ≤ 34 → x' j = x j + sm (fun t => cnD wy le (rkb B le m) ask (nwB B le ask) (sV σ t) (cwt σ S kn told m t) j) (sTr σ).toNat) := ⟨_, rfl⟩
  rw [← hZ]
  have outer : ∀ (n : Nat) (t : Int) (x1 : Nat → Int) (M1 : sw_M) (Q : List (Nat × Value)), 0 ≤ t → t + n = sTr σ → RS G M1 x1 a → frR M M1 → xfr [28, 29, 30, 31, 32, 33, 34] x x1 → (∀ j, 28 ≤ j → j ≤ 34 → x1 j = x j + sm (fun t => cnD wy le (rkb B le m) ask (nwB B le ask) (sV σ t) (cwt σ S kn told m t) j) t.toNat) → V l G μX10_count sw_E0 (sw_Zq G μX10_count (sw_q0 G Zq)) 2 [(0, .ref (sw_al G 70)), (1, sw_i s), (2, sw_i told), (3, sw_i t)] [] M1 0 0 := by
    intro n
    induction n with
    | zero =>
      intro t x1 M1 _ t0 tn hM hF hx hj
      have e : t = sTr σ := by omega
      subst e
      refine v_iload_n dX10_count_2 rfl ?_
      refine v_aload_n dX10_count_3 rfl ?_
      refine v_getfH 6 hM.1 fl_X10_16 rfl dX10_count_4 ?_
      refine v_iload_n dX10_count_7 rfl ?_
      refine v_ria hM ar_6 (by omega) (by omega) q6 dX10_count_8 ?_
      refine v_icmp_ge (tgt := 341) dX10_count_9 (by decide) ⟨by omega, by omega⟩ ⟨by omega, by omega⟩ (fun h9 => ?_) (fun h9 => ?_)
      · skip
        exact v_vret dX10_count_341 rfl (Nat.le_refl _) (Nat.le_refl _) (by rw [hZ]; exact ⟨x1, rfl, hM, hF, hx, hj⟩)
      · skip
        exfalso; omega
    | succ n ih =>
      intro t x1 M1 _ t0 tn hM hF hx hj
      obtain ⟨v1, v2, v3⟩ := qr t t0 (by omega)
      have hvb := hVb t t0 (by omega)
      have g35 : x1 35 = ask := (hx 35 (by decide)).trans h35
      have g38 : x1 38 = kn := (hx 38 (by decide)).trans h38
      have hq1 : StB x1 a B le wy m := ⟨(hx 21 (by decide)).trans hq.1, (hx 22 (by decide)).trans hq.2.1, (hx 23 (by decide)).trans hq.2.2.1, (hx 26 (by decide)).trans hq.2.2.2.1, (hx 27 (by decide)).trans hq.2.2.2.2.1, hq.2.2.2.2.2⟩
      have nxt : ∀ (y : Nat → Int) (M2 : sw_M), RS G M2 y a → frR M M2 → xfr [28, 29, 30, 31, 32, 33, 34] x1 y → (∀ j, 28 ≤ j → j ≤ 34 → y j = x1 j + cnD wy le (rkb B le m) ask (nwB B le ask) (sV σ t) (cwt σ S kn told m t) j) → V l G μX10_count sw_E0 (sw_Zq G μX10_count (sw_q0 G Zq)) 2 [(0, .ref (sw_al G 70)), (1, sw_i s), (2, sw_i told), (3, sw_i (t + 1))] [] M2 0 0 := fun y M2 g1 g2 g3 g4 => ih (t + 1) y M2 [] (by omega) (by omega) g1 g2 (hx.tr g3 (fun t h => h) (fun t h => h)) (fun j j0 j1 => by
        rw [g4 j j0 j1, hj j j0 j1, sm_step _ t0, Int.add_assoc])
      have pst : ∀ (y : Nat → Int) (w : Int) (M2 : sw_M), w = cwt σ S kn told m t → RS G M2 y a → frR M M2 → xfr [28, 29, 30, 31, 32, 33, 34] x1 y → y 28 = x1 28 + 12 * w → y 29 = x1 29 + w * tkB wy le (rkb B le m) → y 30 = x1 30 + (if (rkb B le m).1 ≠ -1 ∧ sV σ t < payB wy le (rkb B le m) then 12 * w else 0) → y 31 = x1 31 + (if (rkb B le m).1 = -1 then 12 * w else 0) → y 32 = x1 32 + (if ask = -1 then 0 else w * gnB' wy le (rkb B le m) (nwB B le ask) (sV σ t)) → y 33 = x1 33 + (if ask = -1 then 0 else wnB (rkb B le m) (nwB B le ask) w * sV σ t) → y 34 = x1 34 + (if ask = -1 then 0 else wnB (rkb B le m) (nwB B le ask) w) → V l G μX10_count sw_E0 (sw_Zq G μX10_count (sw_q0 G Zq)) 2 [(0, .ref (sw_al G 70)), (1, sw_i s), (2, sw_i told), (3, sw_i (t + 1))] [] M2 0 0 := fun y w M2 hw g1 g2 g3 e28 e29 e30 e31 e32 e33 e34 => nxt y M2 g1 g2 g3 (fun j j0 j1 => by
        rw [← hw]
        have h : j = 28 ∨ j = 29 ∨ j = 30 ∨ j = 31 ∨ j = 32 ∨ j = 33 ∨ j = 34 := by omega
        rcases h with rfl | rfl | rfl | rfl | rfl | rfl | rfl
        · exact e28
        · exact e29
        · exact e30
        · exact e31
        · exact e32
        · exact e33
        · exact e34)
      obtain ⟨g21, g22, g23, g26, g27, gN⟩ := id hq1
      have gB : 0 ≤ ask → a 24 ask = nwB B le ask := fun h => gN ask h hask.2
      have hnb : -1 ≤ nwB B le ask ∧ (0 ≤ ask → nwB B le ask ≤ 60) := by
        unfold nwB
        have hh := hB ask
        have hl := hle
        refine ⟨?_, fun h => ?_⟩
        · split <;> omega
        · have := hh h hask.2; split <;> omega
      have tail : ∀ (w i : Int), w = cwt σ S kn told m t → V l G μX10_count sw_E0 (sw_Zq G μX10_count (sw_q0 G Zq)) 123 [(0, .ref (sw_al G 70)), (1, sw_i s), (2, sw_i told), (3, sw_i t), (4, sw_i (8 * s + t)), (5, sw_j w), (7, sw_i i)] [] M1 0 0 := by
        intro w i hw
        refine v_aload_n dX10_count_123 rfl ?_
        refine v_dup dX10_count_124 rfl ?_
        refine v_rgj 28 hM rfl fl_X10_231 rfl dX10_count_125 ?_
        refine v_ldc2 (z := 12) kl_X10_211 (by decide +kernel) dX10_count_128 ?_
        refine v_lload dX10_count_131 rfl ?_
        refine v_lmul dX10_count_133 ?_
        refine v_ladd dX10_count_134 ?_
        refine v_rp 28 hM hF (flS_28 G _ _) fp_X10_231 rfl rfl (Nat.le_of_ble_eq_true rfl) dX10_count_135 (fun M hM hF => ?_)
        refine v_aload_n dX10_count_138 rfl ?_
        refine v_dup dX10_count_139 rfl ?_
        refine v_rgj 29 hM ((upn_o (by decide)).trans rfl) fl_X10_234 rfl dX10_count_140 ?_
        refine v_lload dX10_count_143 rfl ?_
        refine v_aload_n dX10_count_145 rfl ?_
        refine v_callV (ci := 10) (K10_taken hM (hq1.up (k := 28) (by decide)) hm hle hB hwy) ⟨rfl, rfl⟩ (Nat.le_refl _) (Nat.le_refl _) hM.1 rfl ⟨ml_X10_261, mm_X10_taken⟩ ⟨(Nat.le_of_ble_eq_true rfl), (Nat.le_of_ble_eq_true rfl)⟩ mp_X10_taken rfl rfl (Nat.le_of_ble_eq_true rfl) dX10_count_146 (fun r M' h => ?_)
        obtain ⟨rfl, rfl⟩ := h
        refine v_lmul dX10_count_149 ?_
        refine v_ladd dX10_count_150 ?_
        refine v_rp 29 hM hF (flS_29 G _ _) fp_X10_234 rfl rfl (Nat.le_of_ble_eq_true rfl) dX10_count_151 (fun M hM hF => ?_)
        refine v_aload_n dX10_count_154 rfl ?_
        refine v_dup dX10_count_155 rfl ?_
        refine v_rgj 31 hM ((upn_o (by decide)).trans ((upn_o (by decide)).trans rfl)) fl_X10_240 rfl dX10_count_156 ?_
        refine v_aload_n dX10_count_159 rfl ?_
        refine v_rgi 26 hM ((upn_o (by decide)).trans ((upn_o (by decide)).trans g26)) fl_X10_202 rfl dX10_count_160 ?_
        refine v_iconst dX10_count_163 ?_
        refine v_icmp_ne (tgt := 176) dX10_count_164 (by decide) ⟨by omega, by omega⟩ ⟨by omega, by omega⟩ (fun h164 => ?_) (fun h164 => ?_)
        · skip
          refine v_lconst (z := 0) dX10_count_176 (by decide +kernel) ?_
          refine v_ladd dX10_count_177 ?_
          refine v_rp 31 hM hF (flS_31 G _ _) fp_X10_240 rfl rfl (Nat.le_of_ble_eq_true rfl) dX10_count_178 (fun M hM hF => ?_)
          refine v_aload_n dX10_count_181 rfl ?_
          refine v_dup dX10_count_182 rfl ?_
          refine v_rgj 30 hM ((upn_o (by decide)).trans ((upn_o (by decide)).trans ((upn_o (by decide)).trans rfl))) fl_X10_237 rfl dX10_count_183 ?_
          refine v_aload_n dX10_count_186 rfl ?_
          refine v_rgi 26 hM ((upn_o (by decide)).trans ((upn_o (by decide)).trans ((upn_o (by decide)).trans g26))) fl_X10_202 rfl dX10_count_187 ?_
          refine v_iconst dX10_count_190 ?_
          refine v_icmp_eq (tgt := 217) dX10_count_191 (by decide) ⟨by omega, by omega⟩ ⟨by omega, by omega⟩ (fun h191 => ?_) (fun h191 => ?_)
          · skip
            refine v_lconst (z := 0) dX10_count_217 (by decide +kernel) ?_
            refine v_ladd dX10_count_218 ?_
            refine v_rp 30 hM hF (flS_30 G _ _) fp_X10_237 rfl rfl (Nat.le_of_ble_eq_true rfl) dX10_count_219 (fun M hM hF => ?_)
            refine v_aload_n dX10_count_222 rfl ?_
            refine v_rgi 35 hM ((upn_o (by decide)).trans ((upn_o (by decide)).trans ((upn_o (by decide)).trans ((upn_o (by decide)).trans g35)))) fl_X10_216 rfl dX10_count_223 ?_
            refine v_iconst dX10_count_226 ?_
            refine v_icmp_eq (tgt := 335) dX10_count_227 (by decide) ⟨by omega, by omega⟩ ⟨by omega, by omega⟩ (fun h227 => ?_) (fun h227 => ?_)
            · skip
              refine v_iinc dX10_count_335 rfl (Nat.le_of_ble_eq_true rfl) ?_
              refine v_goto (tgt := 2) dX10_count_338 (by decide) ?_
              exact v_to (pst _ w _ hw hM hF ((((xfr.rf.up (k := 28) (by decide)).up (k := 29) (by decide)).up (k := 31) (by decide)).up (k := 30) (by decide)) rfl rfl (by first | exact ifp (by omega) | exact ifn (by omega)) (by first | exact ifp (by omega) | exact ifn (by omega)) (by first | exact if0 (by omega) | exact ifn (by omega)) (by first | exact if0 (by omega) | exact wn33p (by omega) (by omega) | exact wn33n (by omega) (by omega)) (by first | exact if0 (by omega) | exact wn34p (by omega) (by omega) | exact wn34n (by omega) (by omega))) rfl (sw_h1 rfl (sw_h1 rfl (sw_h1 rfl (sw_h1 rfl sw_h0))))
            · skip
              refine v_aload_n dX10_count_230 rfl ?_
              refine v_dup dX10_count_231 rfl ?_
              refine v_rgj 32 hM ((upn_o (by decide)).trans ((upn_o (by decide)).trans ((upn_o (by decide)).trans ((upn_o (by decide)).trans rfl)))) fl_X10_243 rfl dX10_count_232 ?_
              refine v_lload dX10_count_235 rfl ?_
              refine v_aload_n dX10_count_237 rfl ?_
              refine v_aload_n dX10_count_238 rfl ?_
              refine v_rgi 35 hM ((upn_o (by decide)).trans ((upn_o (by decide)).trans ((upn_o (by decide)).trans ((upn_o (by decide)).trans g35)))) fl_X10_216 rfl dX10_count_239 ?_
              refine v_aload_n dX10_count_242 rfl ?_
              refine v_getfH 7 hM.1 fl_X10_19 rfl dX10_count_243 ?_
              refine v_iload dX10_count_246 rfl ?_
              refine v_ria hM ar_7 (by omega) (by omega) v1 dX10_count_248 ?_
              refine v_callV (ci := 10) (K10_gains hM ((((hq1.up (k := 28) (by decide)).up (k := 29) (by decide)).up (k := 31) (by decide)).up (k := 30) (by decide)) hm hle hB hwy (i := ask) (v := sV σ t) ⟨by omega, by omega⟩ ⟨by omega, by omega⟩) ⟨rfl, rfl⟩ (Nat.le_refl _) (Nat.le_refl _) hM.1 rfl ⟨ml_X10_265, mm_X10_gains⟩ ⟨(Nat.le_of_ble_eq_true rfl), (Nat.le_of_ble_eq_true rfl)⟩ mp_X10_gains rfl rfl (Nat.le_of_ble_eq_true rfl) dX10_count_249 (fun r M' h => ?_)
              obtain ⟨rfl, rfl⟩ := h
              refine v_lmul dX10_count_252 ?_
              refine v_ladd dX10_count_253 ?_
              refine v_rp 32 hM hF (flS_32 G _ _) fp_X10_243 rfl rfl (Nat.le_of_ble_eq_true rfl) dX10_count_254 (fun M hM hF => ?_)
              refine v_aload_n dX10_count_257 rfl ?_
              refine v_getfH 24 hM.1 fl_X10_49 rfl dX10_count_258 ?_
              refine v_aload_n dX10_count_261 rfl ?_
              refine v_rgi 35 hM ((upn_o (by decide)).trans ((upn_o (by decide)).trans ((upn_o (by decide)).trans ((upn_o (by decide)).trans ((upn_o (by decide)).trans g35))))) fl_X10_216 rfl dX10_count_262 ?_
              refine v_ria hM ar_24 (by omega) (by omega) (gB (by omega)) dX10_count_265 ?_
              refine v_iconst dX10_count_266 ?_
              refine v_icmp_eq (tgt := 301) dX10_count_267 (by decide) ⟨by omega, by omega⟩ ⟨by omega, by omega⟩ (fun h267 => ?_) (fun h267 => ?_)
              · skip
                refine v_lconst (z := 0) dX10_count_301 (by decide +kernel) ?_
                refine v_lstore dX10_count_302 (Nat.le_of_ble_eq_true rfl) ?_
                refine v_aload_n dX10_count_304 rfl ?_
                refine v_dup dX10_count_305 rfl ?_
                refine v_rgj 33 hM ((upn_o (by decide)).trans ((upn_o (by decide)).trans ((upn_o (by decide)).trans ((upn_o (by decide)).trans ((upn_o (by decide)).trans rfl))))) fl_X10_246 rfl dX10_count_306 ?_
                refine v_lload dX10_count_309 rfl ?_
                refine v_aload_n dX10_count_311 rfl ?_
                refine v_getfH 7 hM.1 fl_X10_19 rfl dX10_count_312 ?_
                refine v_iload dX10_count_315 rfl ?_
                refine v_ria hM ar_7 (by omega) (by omega) v1 dX10_count_317 ?_
                refine v_i2l dX10_count_318 ⟨by omega, by omega⟩ ?_
                refine v_lmul dX10_count_319 ?_
                refine v_ladd dX10_count_320 ?_
                refine v_rp 33 hM hF (flS_33 G _ _) fp_X10_246 rfl rfl (Nat.le_of_ble_eq_true rfl) dX10_count_321 (fun M hM hF => ?_)
                refine v_aload_n dX10_count_324 rfl ?_
                refine v_dup dX10_count_325 rfl ?_
                refine v_rgj 34 hM ((upn_o (by decide)).trans ((upn_o (by decide)).trans ((upn_o (by decide)).trans ((upn_o (by decide)).trans ((upn_o (by decide)).trans ((upn_o (by decide)).trans rfl)))))) fl_X10_249 rfl dX10_count_326 ?_
                refine v_lload dX10_count_329 rfl ?_
                refine v_ladd dX10_count_331 ?_
                refine v_rp 34 hM hF (flS_34 G _ _) fp_X10_249 rfl rfl (Nat.le_of_ble_eq_true rfl) dX10_count_332 (fun M hM hF => ?_)
                refine v_iinc dX10_count_335 rfl (Nat.le_of_ble_eq_true rfl) ?_
                refine v_goto (tgt := 2) dX10_count_338 (by decide) ?_
                exact v_to (pst _ w _ hw hM hF (((((((xfr.rf.up (k := 28) (by decide)).up (k := 29) (by decide)).up (k := 31) (by decide)).up (k := 30) (by decide)).up (k := 32) (by decide)).up (k := 33) (by decide)).up (k := 34) (by decide)) rfl rfl (by first | exact ifp (by omega) | exact ifn (by omega)) (by first | exact ifp (by omega) | exact ifn (by omega)) (by first | exact if0 (by omega) | exact ifn (by omega)) (by first | exact if0 (by omega) | exact wn33p (by omega) (by omega) | exact wn33n (by omega) (by omega)) (by first | exact if0 (by omega) | exact wn34p (by omega) (by omega) | exact wn34n (by omega) (by omega))) rfl (sw_h1 rfl (sw_h1 rfl (sw_h1 rfl (sw_h1 rfl sw_h0))))
              · skip
                refine v_aload_n dX10_count_270 rfl ?_
                refine v_getfH 24 hM.1 fl_X10_49 rfl dX10_count_271 ?_
                refine v_aload_n dX10_count_274 rfl ?_
                refine v_rgi 35 hM ((upn_o (by decide)).trans ((upn_o (by decide)).trans ((upn_o (by decide)).trans ((upn_o (by decide)).trans ((upn_o (by decide)).trans g35))))) fl_X10_216 rfl dX10_count_275 ?_
                refine v_ria hM ar_24 (by omega) (by omega) (gB (by omega)) dX10_count_278 ?_
                refine v_aload_n dX10_count_279 rfl ?_
                refine v_rgi 26 hM ((upn_o (by decide)).trans ((upn_o (by decide)).trans ((upn_o (by decide)).trans ((upn_o (by decide)).trans ((upn_o (by decide)).trans g26))))) fl_X10_202 rfl dX10_count_280 ?_
                refine v_icmp_ne (tgt := 301) dX10_count_283 (by decide) ⟨by omega, by omega⟩ ⟨by omega, by omega⟩ (fun h283 => ?_) (fun h283 => ?_)
                · skip
                  refine v_lconst (z := 0) dX10_count_301 (by decide +kernel) ?_
                  refine v_lstore dX10_count_302 (Nat.le_of_ble_eq_true rfl) ?_
                  refine v_aload_n dX10_count_304 rfl ?_
                  refine v_dup dX10_count_305 rfl ?_
                  refine v_rgj 33 hM ((upn_o (by decide)).trans ((upn_o (by decide)).trans ((upn_o (by decide)).trans ((upn_o (by decide)).trans ((upn_o (by decide)).trans rfl))))) fl_X10_246 rfl dX10_count_306 ?_
                  refine v_lload dX10_count_309 rfl ?_
                  refine v_aload_n dX10_count_311 rfl ?_
                  refine v_getfH 7 hM.1 fl_X10_19 rfl dX10_count_312 ?_
                  refine v_iload dX10_count_315 rfl ?_
                  refine v_ria hM ar_7 (by omega) (by omega) v1 dX10_count_317 ?_
                  refine v_i2l dX10_count_318 ⟨by omega, by omega⟩ ?_
                  refine v_lmul dX10_count_319 ?_
                  refine v_ladd dX10_count_320 ?_
                  refine v_rp 33 hM hF (flS_33 G _ _) fp_X10_246 rfl rfl (Nat.le_of_ble_eq_true rfl) dX10_count_321 (fun M hM hF => ?_)
                  refine v_aload_n dX10_count_324 rfl ?_
                  refine v_dup dX10_count_325 rfl ?_
                  refine v_rgj 34 hM ((upn_o (by decide)).trans ((upn_o (by decide)).trans ((upn_o (by decide)).trans ((upn_o (by decide)).trans ((upn_o (by decide)).trans ((upn_o (by decide)).trans rfl)))))) fl_X10_249 rfl dX10_count_326 ?_
                  refine v_lload dX10_count_329 rfl ?_
                  refine v_ladd dX10_count_331 ?_
                  refine v_rp 34 hM hF (flS_34 G _ _) fp_X10_249 rfl rfl (Nat.le_of_ble_eq_true rfl) dX10_count_332 (fun M hM hF => ?_)
                  refine v_iinc dX10_count_335 rfl (Nat.le_of_ble_eq_true rfl) ?_
                  refine v_goto (tgt := 2) dX10_count_338 (by decide) ?_
                  exact v_to (pst _ w _ hw hM hF (((((((xfr.rf.up (k := 28) (by decide)).up (k := 29) (by decide)).up (k := 31) (by decide)).up (k := 30) (by decide)).up (k := 32) (by decide)).up (k := 33) (by decide)).up (k := 34) (by decide)) rfl rfl (by first | exact ifp (by omega) | exact ifn (by omega)) (by first | exact ifp (by omega) | exact ifn (by omega)) (by first | exact if0 (by omega) | exact ifn (by omega)) (by first | exact if0 (by omega) | exact wn33p (by omega) (by omega) | exact wn33n (by omega) (by omega)) (by first | exact if0 (by omega) | exact wn34p (by omega) (by omega) | exact wn34n (by omega) (by omega))) rfl (sw_h1 rfl (sw_h1 rfl (sw_h1 rfl (sw_h1 rfl sw_h0))))
                · skip
                  refine v_lload dX10_count_286 rfl ?_
                  refine v_ldc2 (z := 12) kl_X10_211 (by decide +kernel) dX10_count_288 ?_
                  refine v_aload_n dX10_count_291 rfl ?_
                  refine v_rgi 27 hM ((upn_o (by decide)).trans ((upn_o (by decide)).trans ((upn_o (by decide)).trans ((upn_o (by decide)).trans ((upn_o (by decide)).trans g27))))) fl_X10_205 rfl dX10_count_292 ?_
                  refine v_i2l dX10_count_295 ⟨by omega, by omega⟩ ?_
                  refine v_ldiv dX10_count_296 ⟨by omega, by omega⟩ ⟨by omega, by omega⟩ (by omega) ?_
                  rw [show (12 : Int).tdiv (rkb B le m).2.1 = 12 / (rkb B le m).2.1 from Int.tdiv_eq_ediv_of_nonneg (by omega)]
                  refine v_lmul dX10_count_297 ?_
                  refine v_goto (tgt := 302) dX10_count_298 (by decide) ?_
                  refine v_lstore dX10_count_302 (Nat.le_of_ble_eq_true rfl) ?_
                  refine v_aload_n dX10_count_304 rfl ?_
                  refine v_dup dX10_count_305 rfl ?_
                  refine v_rgj 33 hM ((upn_o (by decide)).trans ((upn_o (by decide)).trans ((upn_o (by decide)).trans ((upn_o (by decide)).trans ((upn_o (by decide)).trans rfl))))) fl_X10_246 rfl dX10_count_306 ?_
                  refine v_lload dX10_count_309 rfl ?_
                  refine v_aload_n dX10_count_311 rfl ?_
                  refine v_getfH 7 hM.1 fl_X10_19 rfl dX10_count_312 ?_
                  refine v_iload dX10_count_315 rfl ?_
                  refine v_ria hM ar_7 (by omega) (by omega) v1 dX10_count_317 ?_
                  refine v_i2l dX10_count_318 ⟨by omega, by omega⟩ ?_
                  refine v_lmul dX10_count_319 ?_
                  refine v_ladd dX10_count_320 ?_
                  refine v_rp 33 hM hF (flS_33 G _ _) fp_X10_246 rfl rfl (Nat.le_of_ble_eq_true rfl) dX10_count_321 (fun M hM hF => ?_)
                  refine v_aload_n dX10_count_324 rfl ?_
                  refine v_dup dX10_count_325 rfl ?_
                  refine v_rgj 34 hM ((upn_o (by decide)).trans ((upn_o (by decide)).trans ((upn_o (by decide)).trans ((upn_o (by decide)).trans ((upn_o (by decide)).trans ((upn_o (by decide)).trans rfl)))))) fl_X10_249 rfl dX10_count_326 ?_
                  refine v_lload dX10_count_329 rfl ?_
                  refine v_ladd dX10_count_331 ?_
                  refine v_rp 34 hM hF (flS_34 G _ _) fp_X10_249 rfl rfl (Nat.le_of_ble_eq_true rfl) dX10_count_332 (fun M hM hF => ?_)
                  refine v_iinc dX10_count_335 rfl (Nat.le_of_ble_eq_true rfl) ?_
                  refine v_goto (tgt := 2) dX10_count_338 (by decide) ?_
                  exact v_to (pst _ w _ hw hM hF (((((((xfr.rf.up (k := 28) (by decide)).up (k := 29) (by decide)).up (k := 31) (by decide)).up (k := 30) (by decide)).up (k := 32) (by decide)).up (k := 33) (by decide)).up (k := 34) (by decide)) rfl rfl (by first | exact ifp (by omega) | exact ifn (by omega)) (by first | exact ifp (by omega) | exact ifn (by omega)) (by first | exact if0 (by omega) | exact ifn (by omega)) (by first | exact if0 (by omega) | exact wn33p (by omega) (by omega) | exact wn33n (by omega) (by omega)) (by first | exact if0 (by omega) | exact wn34p (by omega) (by omega) | exact wn34n (by omega) (by omega))) rfl (sw_h1 rfl (sw_h1 rfl (sw_h1 rfl (sw_h1 rfl sw_h0))))
          · skip
            refine v_aload_n dX10_count_194 rfl ?_
            refine v_callV (ci := 10) (K10_pays hM (((hq1.up (k := 28) (by decide)).up (k := 29) (by decide)).up (k := 31) (by decide)) hm hle hB hwy (by omega)) ⟨rfl, rfl⟩ (Nat.le_refl _) (Nat.le_refl _) hM.1 rfl ⟨ml_X10_213, mm_X10_pays⟩ ⟨(Nat.le_of_ble_eq_true rfl), (Nat.le_of_ble_eq_true rfl)⟩ mp_X10_pays rfl rfl (Nat.le_of_ble_eq_true rfl) dX10_count_195 (fun r M' h => ?_)
            obtain ⟨rfl, rfl⟩ := h
            refine v_aload_n dX10_count_198 rfl ?_
            refine v_getfH 7 hM.1 fl_X10_19 rfl dX10_count_199 ?_
            refine v_iload dX10_count_202 rfl ?_
            refine v_ria hM ar_7 (by omega) (by omega) v1 dX10_count_204 ?_
            refine v_icmp_le (tgt := 217) dX10_count_205 (by decide) ⟨by omega, by omega⟩ ⟨by omega, by omega⟩ (fun h205 => ?_) (fun h205 => ?_)
            · skip
              refine v_lconst (z := 0) dX10_count_217 (by decide +kernel) ?_
              refine v_ladd dX10_count_218 ?_
              refine v_rp 30 hM hF (flS_30 G _ _) fp_X10_237 rfl rfl (Nat.le_of_ble_eq_true rfl) dX10_count_219 (fun M hM hF => ?_)
              refine v_aload_n dX10_count_222 rfl ?_
              refine v_rgi 35 hM ((upn_o (by decide)).trans ((upn_o (by decide)).trans ((upn_o (by decide)).trans ((upn_o (by decide)).trans g35)))) fl_X10_216 rfl dX10_count_223 ?_
              refine v_iconst dX10_count_226 ?_
              refine v_icmp_eq (tgt := 335) dX10_count_227 (by decide) ⟨by omega, by omega⟩ ⟨by omega, by omega⟩ (fun h227 => ?_) (fun h227 => ?_)
              · skip
                refine v_iinc dX10_count_335 rfl (Nat.le_of_ble_eq_true rfl) ?_
                refine v_goto (tgt := 2) dX10_count_338 (by decide) ?_
                exact v_to (pst _ w _ hw hM hF ((((xfr.rf.up (k := 28) (by decide)).up (k := 29) (by decide)).up (k := 31) (by decide)).up (k := 30) (by decide)) rfl rfl (by first | exact ifp (by omega) | exact ifn (by omega)) (by first | exact ifp (by omega) | exact ifn (by omega)) (by first | exact if0 (by omega) | exact ifn (by omega)) (by first | exact if0 (by omega) | exact wn33p (by omega) (by omega) | exact wn33n (by omega) (by omega)) (by first | exact if0 (by omega) | exact wn34p (by omega) (by omega) | exact wn34n (by omega) (by omega))) rfl (sw_h1 rfl (sw_h1 rfl (sw_h1 rfl (sw_h1 rfl sw_h0))))
              · skip
                refine v_aload_n dX10_count_230 rfl ?_
                refine v_dup dX10_count_231 rfl ?_
                refine v_rgj 32 hM ((upn_o (by decide)).trans ((upn_o (by decide)).trans ((upn_o (by decide)).trans ((upn_o (by decide)).trans rfl)))) fl_X10_243 rfl dX10_count_232 ?_
                refine v_lload dX10_count_235 rfl ?_
                refine v_aload_n dX10_count_237 rfl ?_
                refine v_aload_n dX10_count_238 rfl ?_
                refine v_rgi 35 hM ((upn_o (by decide)).trans ((upn_o (by decide)).trans ((upn_o (by decide)).trans ((upn_o (by decide)).trans g35)))) fl_X10_216 rfl dX10_count_239 ?_
                refine v_aload_n dX10_count_242 rfl ?_
                refine v_getfH 7 hM.1 fl_X10_19 rfl dX10_count_243 ?_
                refine v_iload dX10_count_246 rfl ?_
                refine v_ria hM ar_7 (by omega) (by omega) v1 dX10_count_248 ?_
                refine v_callV (ci := 10) (K10_gains hM ((((hq1.up (k := 28) (by decide)).up (k := 29) (by decide)).up (k := 31) (by decide)).up (k := 30) (by decide)) hm hle hB hwy (i := ask) (v := sV σ t) ⟨by omega, by omega⟩ ⟨by omega, by omega⟩) ⟨rfl, rfl⟩ (Nat.le_refl _) (Nat.le_refl _) hM.1 rfl ⟨ml_X10_265, mm_X10_gains⟩ ⟨(Nat.le_of_ble_eq_true rfl), (Nat.le_of_ble_eq_true rfl)⟩ mp_X10_gains rfl rfl (Nat.le_of_ble_eq_true rfl) dX10_count_249 (fun r M' h => ?_)
                obtain ⟨rfl, rfl⟩ := h
                refine v_lmul dX10_count_252 ?_
                refine v_ladd dX10_count_253 ?_
                refine v_rp 32 hM hF (flS_32 G _ _) fp_X10_243 rfl rfl (Nat.le_of_ble_eq_true rfl) dX10_count_254 (fun M hM hF => ?_)
                refine v_aload_n dX10_count_257 rfl ?_
                refine v_getfH 24 hM.1 fl_X10_49 rfl dX10_count_258 ?_
                refine v_aload_n dX10_count_261 rfl ?_
                refine v_rgi 35 hM ((upn_o (by decide)).trans ((upn_o (by decide)).trans ((upn_o (by decide)).trans ((upn_o (by decide)).trans ((upn_o (by decide)).trans g35))))) fl_X10_216 rfl dX10_count_262 ?_
                refine v_ria hM ar_24 (by omega) (by omega) (gB (by omega)) dX10_count_265 ?_
                refine v_iconst dX10_count_266 ?_
                refine v_icmp_eq (tgt := 301) dX10_count_267 (by decide) ⟨by omega, by omega⟩ ⟨by omega, by omega⟩ (fun h267 => ?_) (fun h267 => ?_)
                · skip
                  refine v_lconst (z := 0) dX10_count_301 (by decide +kernel) ?_
                  refine v_lstore dX10_count_302 (Nat.le_of_ble_eq_true rfl) ?_
                  refine v_aload_n dX10_count_304 rfl ?_
                  refine v_dup dX10_count_305 rfl ?_
                  refine v_rgj 33 hM ((upn_o (by decide)).trans ((upn_o (by decide)).trans ((upn_o (by decide)).trans ((upn_o (by decide)).trans ((upn_o (by decide)).trans rfl))))) fl_X10_246 rfl dX10_count_306 ?_
                  refine v_lload dX10_count_309 rfl ?_
                  refine v_aload_n dX10_count_311 rfl ?_
                  refine v_getfH 7 hM.1 fl_X10_19 rfl dX10_count_312 ?_
                  refine v_iload dX10_count_315 rfl ?_
                  refine v_ria hM ar_7 (by omega) (by omega) v1 dX10_count_317 ?_
                  refine v_i2l dX10_count_318 ⟨by omega, by omega⟩ ?_
                  refine v_lmul dX10_count_319 ?_
                  refine v_ladd dX10_count_320 ?_
                  refine v_rp 33 hM hF (flS_33 G _ _) fp_X10_246 rfl rfl (Nat.le_of_ble_eq_true rfl) dX10_count_321 (fun M hM hF => ?_)
                  refine v_aload_n dX10_count_324 rfl ?_
                  refine v_dup dX10_count_325 rfl ?_
                  refine v_rgj 34 hM ((upn_o (by decide)).trans ((upn_o (by decide)).trans ((upn_o (by decide)).trans ((upn_o (by decide)).trans ((upn_o (by decide)).trans ((upn_o (by decide)).trans rfl)))))) fl_X10_249 rfl dX10_count_326 ?_
                  refine v_lload dX10_count_329 rfl ?_
                  refine v_ladd dX10_count_331 ?_
                  refine v_rp 34 hM hF (flS_34 G _ _) fp_X10_249 rfl rfl (Nat.le_of_ble_eq_true rfl) dX10_count_332 (fun M hM hF => ?_)
                  refine v_iinc dX10_count_335 rfl (Nat.le_of_ble_eq_true rfl) ?_
                  refine v_goto (tgt := 2) dX10_count_338 (by decide) ?_
                  exact v_to (pst _ w _ hw hM hF (((((((xfr.rf.up (k := 28) (by decide)).up (k := 29) (by decide)).up (k := 31) (by decide)).up (k := 30) (by decide)).up (k := 32) (by decide)).up (k := 33) (by decide)).up (k := 34) (by decide)) rfl rfl (by first | exact ifp (by omega) | exact ifn (by omega)) (by first | exact ifp (by omega) | exact ifn (by omega)) (by first | exact if0 (by omega) | exact ifn (by omega)) (by first | exact if0 (by omega) | exact wn33p (by omega) (by omega) | exact wn33n (by omega) (by omega)) (by first | exact if0 (by omega) | exact wn34p (by omega) (by omega) | exact wn34n (by omega) (by omega))) rfl (sw_h1 rfl (sw_h1 rfl (sw_h1 rfl (sw_h1 rfl sw_h0))))
                · skip
                  refine v_aload_n dX10_count_270 rfl ?_
                  refine v_getfH 24 hM.1 fl_X10_49 rfl dX10_count_271 ?_
                  refine v_aload_n dX10_count_274 rfl ?_
                  refine v_rgi 35 hM ((upn_o (by decide)).trans ((upn_o (by decide)).trans ((upn_o (by decide)).trans ((upn_o (by decide)).trans ((upn_o (by decide)).trans g35))))) fl_X10_216 rfl dX10_count_275 ?_
                  refine v_ria hM ar_24 (by omega) (by omega) (gB (by omega)) dX10_count_278 ?_
                  refine v_aload_n dX10_count_279 rfl ?_
                  refine v_rgi 26 hM ((upn_o (by decide)).trans ((upn_o (by decide)).trans ((upn_o (by decide)).trans ((upn_o (by decide)).trans ((upn_o (by decide)).trans g26))))) fl_X10_202 rfl dX10_count_280 ?_
                  refine v_icmp_ne (tgt := 301) dX10_count_283 (by decide) ⟨by omega, by omega⟩ ⟨by omega, by omega⟩ (fun h283 => ?_) (fun h283 => ?_)
                  · skip
                    refine v_lconst (z := 0) dX10_count_301 (by decide +kernel) ?_
                    refine v_lstore dX10_count_302 (Nat.le_of_ble_eq_true rfl) ?_
                    refine v_aload_n dX10_count_304 rfl ?_
                    refine v_dup dX10_count_305 rfl ?_
                    refine v_rgj 33 hM ((upn_o (by decide)).trans ((upn_o (by decide)).trans ((upn_o (by decide)).trans ((upn_o (by decide)).trans ((upn_o (by decide)).trans rfl))))) fl_X10_246 rfl dX10_count_306 ?_
                    refine v_lload dX10_count_309 rfl ?_
                    refine v_aload_n dX10_count_311 rfl ?_
                    refine v_getfH 7 hM.1 fl_X10_19 rfl dX10_count_312 ?_
                    refine v_iload dX10_count_315 rfl ?_
                    refine v_ria hM ar_7 (by omega) (by omega) v1 dX10_count_317 ?_
                    refine v_i2l dX10_count_318 ⟨by omega, by omega⟩ ?_
                    refine v_lmul dX10_count_319 ?_
                    refine v_ladd dX10_count_320 ?_
                    refine v_rp 33 hM hF (flS_33 G _ _) fp_X10_246 rfl rfl (Nat.le_of_ble_eq_true rfl) dX10_count_321 (fun M hM hF => ?_)
                    refine v_aload_n dX10_count_324 rfl ?_
                    refine v_dup dX10_count_325 rfl ?_
                    refine v_rgj 34 hM ((upn_o (by decide)).trans ((upn_o (by decide)).trans ((upn_o (by decide)).trans ((upn_o (by decide)).trans ((upn_o (by decide)).trans ((upn_o (by decide)).trans rfl)))))) fl_X10_249 rfl dX10_count_326 ?_
                    refine v_lload dX10_count_329 rfl ?_
                    refine v_ladd dX10_count_331 ?_
                    refine v_rp 34 hM hF (flS_34 G _ _) fp_X10_249 rfl rfl (Nat.le_of_ble_eq_true rfl) dX10_count_332 (fun M hM hF => ?_)
                    refine v_iinc dX10_count_335 rfl (Nat.le_of_ble_eq_true rfl) ?_
                    refine v_goto (tgt := 2) dX10_count_338 (by decide) ?_
                    exact v_to (pst _ w _ hw hM hF (((((((xfr.rf.up (k := 28) (by decide)).up (k := 29) (by decide)).up (k := 31) (by decide)).up (k := 30) (by decide)).up (k := 32) (by decide)).up (k := 33) (by decide)).up (k := 34) (by decide)) rfl rfl (by first | exact ifp (by omega) | exact ifn (by omega)) (by first | exact ifp (by omega) | exact ifn (by omega)) (by first | exact if0 (by omega) | exact ifn (by omega)) (by first | exact if0 (by omega) | exact wn33p (by omega) (by omega) | exact wn33n (by omega) (by omega)) (by first | exact if0 (by omega) | exact wn34p (by omega) (by omega) | exact wn34n (by omega) (by omega))) rfl (sw_h1 rfl (sw_h1 rfl (sw_h1 rfl (sw_h1 rfl sw_h0))))
                  · skip
                    refine v_lload dX10_count_286 rfl ?_
                    refine v_ldc2 (z := 12) kl_X10_211 (by decide +kernel) dX10_count_288 ?_
                    refine v_aload_n dX10_count_291 rfl ?_
                    refine v_rgi 27 hM ((upn_o (by decide)).trans ((upn_o (by decide)).trans ((upn_o (by decide)).trans ((upn_o (by decide)).trans ((upn_o (by decide)).trans g27))))) fl_X10_205 rfl dX10_count_292 ?_
                    refine v_i2l dX10_count_295 ⟨by omega, by omega⟩ ?_
                    refine v_ldiv dX10_count_296 ⟨by omega, by omega⟩ ⟨by omega, by omega⟩ (by omega) ?_
                    rw [show (12 : Int).tdiv (rkb B le m).2.1 = 12 / (rkb B le m).2.1 from Int.tdiv_eq_ediv_of_nonneg (by omega)]
                    refine v_lmul dX10_count_297 ?_
                    refine v_goto (tgt := 302) dX10_count_298 (by decide) ?_
                    refine v_lstore dX10_count_302 (Nat.le_of_ble_eq_true rfl) ?_
                    refine v_aload_n dX10_count_304 rfl ?_
                    refine v_dup dX10_count_305 rfl ?_
                    refine v_rgj 33 hM ((upn_o (by decide)).trans ((upn_o (by decide)).trans ((upn_o (by decide)).trans ((upn_o (by decide)).trans ((upn_o (by decide)).trans rfl))))) fl_X10_246 rfl dX10_count_306 ?_
                    refine v_lload dX10_count_309 rfl ?_
                    refine v_aload_n dX10_count_311 rfl ?_
                    refine v_getfH 7 hM.1 fl_X10_19 rfl dX10_count_312 ?_
                    refine v_iload dX10_count_315 rfl ?_
                    refine v_ria hM ar_7 (by omega) (by omega) v1 dX10_count_317 ?_
                    refine v_i2l dX10_count_318 ⟨by omega, by omega⟩ ?_
                    refine v_lmul dX10_count_319 ?_
                    refine v_ladd dX10_count_320 ?_
                    refine v_rp 33 hM hF (flS_33 G _ _) fp_X10_246 rfl rfl (Nat.le_of_ble_eq_true rfl) dX10_count_321 (fun M hM hF => ?_)
                    refine v_aload_n dX10_count_324 rfl ?_
                    refine v_dup dX10_count_325 rfl ?_
                    refine v_rgj 34 hM ((upn_o (by decide)).trans ((upn_o (by decide)).trans ((upn_o (by decide)).trans ((upn_o (by decide)).trans ((upn_o (by decide)).trans ((upn_o (by decide)).trans rfl)))))) fl_X10_249 rfl dX10_count_326 ?_
                    refine v_lload dX10_count_329 rfl ?_
                    refine v_ladd dX10_count_331 ?_
                    refine v_rp 34 hM hF (flS_34 G _ _) fp_X10_249 rfl rfl (Nat.le_of_ble_eq_true rfl) dX10_count_332 (fun M hM hF => ?_)
                    refine v_iinc dX10_count_335 rfl (Nat.le_of_ble_eq_true rfl) ?_
                    refine v_goto (tgt := 2) dX10_count_338 (by decide) ?_
                    exact v_to (pst _ w _ hw hM hF (((((((xfr.rf.up (k := 28) (by decide)).up (k := 29) (by decide)).up (k := 31) (by decide)).up (k := 30) (by decide)).up (k := 32) (by decide)).up (k := 33) (by decide)).up (k := 34) (by decide)) rfl rfl (by first | exact ifp (by omega) | exact ifn (by omega)) (by first | exact ifp (by omega) | exact ifn (by omega)) (by first | exact if0 (by omega) | exact ifn (by omega)) (by first | exact if0 (by omega) | exact wn33p (by omega) (by omega) | exact wn33n (by omega) (by omega)) (by first | exact if0 (by omega) | exact wn34p (by omega) (by omega) | exact wn34n (by omega) (by omega))) rfl (sw_h1 rfl (sw_h1 rfl (sw_h1 rfl (sw_h1 rfl sw_h0))))
            · skip
              refine v_ldc2 (z := 12) kl_X10_211 (by decide +kernel) dX10_count_208 ?_
              refine v_lload dX10_count_211 rfl ?_
              refine v_lmul dX10_count_213 ?_
              refine v_goto (tgt := 218) dX10_count_214 (by decide) ?_
              refine v_ladd dX10_count_218 ?_
              refine v_rp 30 hM hF (flS_30 G _ _) fp_X10_237 rfl rfl (Nat.le_of_ble_eq_true rfl) dX10_count_219 (fun M hM hF => ?_)
              refine v_aload_n dX10_count_222 rfl ?_
              refine v_rgi 35 hM ((upn_o (by decide)).trans ((upn_o (by decide)).trans ((upn_o (by decide)).trans ((upn_o (by decide)).trans g35)))) fl_X10_216 rfl dX10_count_223 ?_
              refine v_iconst dX10_count_226 ?_
              refine v_icmp_eq (tgt := 335) dX10_count_227 (by decide) ⟨by omega, by omega⟩ ⟨by omega, by omega⟩ (fun h227 => ?_) (fun h227 => ?_)
              · skip
                refine v_iinc dX10_count_335 rfl (Nat.le_of_ble_eq_true rfl) ?_
                refine v_goto (tgt := 2) dX10_count_338 (by decide) ?_
                exact v_to (pst _ w _ hw hM hF ((((xfr.rf.up (k := 28) (by decide)).up (k := 29) (by decide)).up (k := 31) (by decide)).up (k := 30) (by decide)) rfl rfl (by first | exact ifp (by omega) | exact ifn (by omega)) (by first | exact ifp (by omega) | exact ifn (by omega)) (by first | exact if0 (by omega) | exact ifn (by omega)) (by first | exact if0 (by omega) | exact wn33p (by omega) (by omega) | exact wn33n (by omega) (by omega)) (by first | exact if0 (by omega) | exact wn34p (by omega) (by omega) | exact wn34n (by omega) (by omega))) rfl (sw_h1 rfl (sw_h1 rfl (sw_h1 rfl (sw_h1 rfl sw_h0))))
              · skip
                refine v_aload_n dX10_count_230 rfl ?_
                refine v_dup dX10_count_231 rfl ?_
                refine v_rgj 32 hM ((upn_o (by decide)).trans ((upn_o (by decide)).trans ((upn_o (by decide)).trans ((upn_o (by decide)).trans rfl)))) fl_X10_243 rfl dX10_count_232 ?_
                refine v_lload dX10_count_235 rfl ?_
                refine v_aload_n dX10_count_237 rfl ?_
                refine v_aload_n dX10_count_238 rfl ?_
                refine v_rgi 35 hM ((upn_o (by decide)).trans ((upn_o (by decide)).trans ((upn_o (by decide)).trans ((upn_o (by decide)).trans g35)))) fl_X10_216 rfl dX10_count_239 ?_
                refine v_aload_n dX10_count_242 rfl ?_
                refine v_getfH 7 hM.1 fl_X10_19 rfl dX10_count_243 ?_
                refine v_iload dX10_count_246 rfl ?_
                refine v_ria hM ar_7 (by omega) (by omega) v1 dX10_count_248 ?_
                refine v_callV (ci := 10) (K10_gains hM ((((hq1.up (k := 28) (by decide)).up (k := 29) (by decide)).up (k := 31) (by decide)).up (k := 30) (by decide)) hm hle hB hwy (i := ask) (v := sV σ t) ⟨by omega, by omega⟩ ⟨by omega, by omega⟩) ⟨rfl, rfl⟩ (Nat.le_refl _) (Nat.le_refl _) hM.1 rfl ⟨ml_X10_265, mm_X10_gains⟩ ⟨(Nat.le_of_ble_eq_true rfl), (Nat.le_of_ble_eq_true rfl)⟩ mp_X10_gains rfl rfl (Nat.le_of_ble_eq_true rfl) dX10_count_249 (fun r M' h => ?_)
                obtain ⟨rfl, rfl⟩ := h
                refine v_lmul dX10_count_252 ?_
                refine v_ladd dX10_count_253 ?_
                refine v_rp 32 hM hF (flS_32 G _ _) fp_X10_243 rfl rfl (Nat.le_of_ble_eq_true rfl) dX10_count_254 (fun M hM hF => ?_)
                refine v_aload_n dX10_count_257 rfl ?_
                refine v_getfH 24 hM.1 fl_X10_49 rfl dX10_count_258 ?_
                refine v_aload_n dX10_count_261 rfl ?_
                refine v_rgi 35 hM ((upn_o (by decide)).trans ((upn_o (by decide)).trans ((upn_o (by decide)).trans ((upn_o (by decide)).trans ((upn_o (by decide)).trans g35))))) fl_X10_216 rfl dX10_count_262 ?_
                refine v_ria hM ar_24 (by omega) (by omega) (gB (by omega)) dX10_count_265 ?_
                refine v_iconst dX10_count_266 ?_
                refine v_icmp_eq (tgt := 301) dX10_count_267 (by decide) ⟨by omega, by omega⟩ ⟨by omega, by omega⟩ (fun h267 => ?_) (fun h267 => ?_)
                · skip
                  refine v_lconst (z := 0) dX10_count_301 (by decide +kernel) ?_
                  refine v_lstore dX10_count_302 (Nat.le_of_ble_eq_true rfl) ?_
                  refine v_aload_n dX10_count_304 rfl ?_
                  refine v_dup dX10_count_305 rfl ?_
                  refine v_rgj 33 hM ((upn_o (by decide)).trans ((upn_o (by decide)).trans ((upn_o (by decide)).trans ((upn_o (by decide)).trans ((upn_o (by decide)).trans rfl))))) fl_X10_246 rfl dX10_count_306 ?_
                  refine v_lload dX10_count_309 rfl ?_
                  refine v_aload_n dX10_count_311 rfl ?_
                  refine v_getfH 7 hM.1 fl_X10_19 rfl dX10_count_312 ?_
                  refine v_iload dX10_count_315 rfl ?_
                  refine v_ria hM ar_7 (by omega) (by omega) v1 dX10_count_317 ?_
                  refine v_i2l dX10_count_318 ⟨by omega, by omega⟩ ?_
                  refine v_lmul dX10_count_319 ?_
                  refine v_ladd dX10_count_320 ?_
                  refine v_rp 33 hM hF (flS_33 G _ _) fp_X10_246 rfl rfl (Nat.le_of_ble_eq_true rfl) dX10_count_321 (fun M hM hF => ?_)
                  refine v_aload_n dX10_count_324 rfl ?_
                  refine v_dup dX10_count_325 rfl ?_
                  refine v_rgj 34 hM ((upn_o (by decide)).trans ((upn_o (by decide)).trans ((upn_o (by decide)).trans ((upn_o (by decide)).trans ((upn_o (by decide)).trans ((upn_o (by decide)).trans rfl)))))) fl_X10_249 rfl dX10_count_326 ?_
                  refine v_lload dX10_count_329 rfl ?_
                  refine v_ladd dX10_count_331 ?_
                  refine v_rp 34 hM hF (flS_34 G _ _) fp_X10_249 rfl rfl (Nat.le_of_ble_eq_true rfl) dX10_count_332 (fun M hM hF => ?_)
                  refine v_iinc dX10_count_335 rfl (Nat.le_of_ble_eq_true rfl) ?_
                  refine v_goto (tgt := 2) dX10_count_338 (by decide) ?_
                  exact v_to (pst _ w _ hw hM hF (((((((xfr.rf.up (k := 28) (by decide)).up (k := 29) (by decide)).up (k := 31) (by decide)).up (k := 30) (by decide)).up (k := 32) (by decide)).up (k := 33) (by decide)).up (k := 34) (by decide)) rfl rfl (by first | exact ifp (by omega) | exact ifn (by omega)) (by first | exact ifp (by omega) | exact ifn (by omega)) (by first | exact if0 (by omega) | exact ifn (by omega)) (by first | exact if0 (by omega) | exact wn33p (by omega) (by omega) | exact wn33n (by omega) (by omega)) (by first | exact if0 (by omega) | exact wn34p (by omega) (by omega) | exact wn34n (by omega) (by omega))) rfl (sw_h1 rfl (sw_h1 rfl (sw_h1 rfl (sw_h1 rfl sw_h0))))
                · skip
                  refine v_aload_n dX10_count_270 rfl ?_
                  refine v_getfH 24 hM.1 fl_X10_49 rfl dX10_count_271 ?_
                  refine v_aload_n dX10_count_274 rfl ?_
                  refine v_rgi 35 hM ((upn_o (by decide)).trans ((upn_o (by decide)).trans ((upn_o (by decide)).trans ((upn_o (by decide)).trans ((upn_o (by decide)).trans g35))))) fl_X10_216 rfl dX10_count_275 ?_
                  refine v_ria hM ar_24 (by omega) (by omega) (gB (by omega)) dX10_count_278 ?_
                  refine v_aload_n dX10_count_279 rfl ?_
                  refine v_rgi 26 hM ((upn_o (by decide)).trans ((upn_o (by decide)).trans ((upn_o (by decide)).trans ((upn_o (by decide)).trans ((upn_o (by decide)).trans g26))))) fl_X10_202 rfl dX10_count_280 ?_
                  refine v_icmp_ne (tgt := 301) dX10_count_283 (by decide) ⟨by omega, by omega⟩ ⟨by omega, by omega⟩ (fun h283 => ?_) (fun h283 => ?_)
                  · skip
                    refine v_lconst (z := 0) dX10_count_301 (by decide +kernel) ?_
                    refine v_lstore dX10_count_302 (Nat.le_of_ble_eq_true rfl) ?_
                    refine v_aload_n dX10_count_304 rfl ?_
                    refine v_dup dX10_count_305 rfl ?_
                    refine v_rgj 33 hM ((upn_o (by decide)).trans ((upn_o (by decide)).trans ((upn_o (by decide)).trans ((upn_o (by decide)).trans ((upn_o (by decide)).trans rfl))))) fl_X10_246 rfl dX10_count_306 ?_
                    refine v_lload dX10_count_309 rfl ?_
                    refine v_aload_n dX10_count_311 rfl ?_
                    refine v_getfH 7 hM.1 fl_X10_19 rfl dX10_count_312 ?_
                    refine v_iload dX10_count_315 rfl ?_
                    refine v_ria hM ar_7 (by omega) (by omega) v1 dX10_count_317 ?_
                    refine v_i2l dX10_count_318 ⟨by omega, by omega⟩ ?_
                    refine v_lmul dX10_count_319 ?_
                    refine v_ladd dX10_count_320 ?_
                    refine v_rp 33 hM hF (flS_33 G _ _) fp_X10_246 rfl rfl (Nat.le_of_ble_eq_true rfl) dX10_count_321 (fun M hM hF => ?_)
                    refine v_aload_n dX10_count_324 rfl ?_
                    refine v_dup dX10_count_325 rfl ?_
                    refine v_rgj 34 hM ((upn_o (by decide)).trans ((upn_o (by decide)).trans ((upn_o (by decide)).trans ((upn_o (by decide)).trans ((upn_o (by decide)).trans ((upn_o (by decide)).trans rfl)))))) fl_X10_249 rfl dX10_count_326 ?_
                    refine v_lload dX10_count_329 rfl ?_
                    refine v_ladd dX10_count_331 ?_
                    refine v_rp 34 hM hF (flS_34 G _ _) fp_X10_249 rfl rfl (Nat.le_of_ble_eq_true rfl) dX10_count_332 (fun M hM hF => ?_)
                    refine v_iinc dX10_count_335 rfl (Nat.le_of_ble_eq_true rfl) ?_
                    refine v_goto (tgt := 2) dX10_count_338 (by decide) ?_
                    exact v_to (pst _ w _ hw hM hF (((((((xfr.rf.up (k := 28) (by decide)).up (k := 29) (by decide)).up (k := 31) (by decide)).up (k := 30) (by decide)).up (k := 32) (by decide)).up (k := 33) (by decide)).up (k := 34) (by decide)) rfl rfl (by first | exact ifp (by omega) | exact ifn (by omega)) (by first | exact ifp (by omega) | exact ifn (by omega)) (by first | exact if0 (by omega) | exact ifn (by omega)) (by first | exact if0 (by omega) | exact wn33p (by omega) (by omega) | exact wn33n (by omega) (by omega)) (by first | exact if0 (by omega) | exact wn34p (by omega) (by omega) | exact wn34n (by omega) (by omega))) rfl (sw_h1 rfl (sw_h1 rfl (sw_h1 rfl (sw_h1 rfl sw_h0))))
                  · skip
                    refine v_lload dX10_count_286 rfl ?_
                    refine v_ldc2 (z := 12) kl_X10_211 (by decide +kernel) dX10_count_288 ?_
                    refine v_aload_n dX10_count_291 rfl ?_
                    refine v_rgi 27 hM ((upn_o (by decide)).trans ((upn_o (by decide)).trans ((upn_o (by decide)).trans ((upn_o (by decide)).trans ((upn_o (by decide)).trans g27))))) fl_X10_205 rfl dX10_count_292 ?_
                    refine v_i2l dX10_count_295 ⟨by omega, by omega⟩ ?_
                    refine v_ldiv dX10_count_296 ⟨by omega, by omega⟩ ⟨by omega, by omega⟩ (by omega) ?_
                    rw [show (12 : Int).tdiv (rkb B le m).2.1 = 12 / (rkb B le m).2.1 from Int.tdiv_eq_ediv_of_nonneg (by omega)]
                    refine v_lmul dX10_count_297 ?_
                    refine v_goto (tgt := 302) dX10_count_298 (by decide) ?_
                    refine v_lstore dX10_count_302 (Nat.le_of_ble_eq_true rfl) ?_
                    refine v_aload_n dX10_count_304 rfl ?_
                    refine v_dup dX10_count_305 rfl ?_
                    refine v_rgj 33 hM ((upn_o (by decide)).trans ((upn_o (by decide)).trans ((upn_o (by decide)).trans ((upn_o (by decide)).trans ((upn_o (by decide)).trans rfl))))) fl_X10_246 rfl dX10_count_306 ?_
                    refine v_lload dX10_count_309 rfl ?_
                    refine v_aload_n dX10_count_311 rfl ?_
                    refine v_getfH 7 hM.1 fl_X10_19 rfl dX10_count_312 ?_
                    refine v_iload dX10_count_315 rfl ?_
                    refine v_ria hM ar_7 (by omega) (by omega) v1 dX10_count_317 ?_
                    refine v_i2l dX10_count_318 ⟨by omega, by omega⟩ ?_
                    refine v_lmul dX10_count_319 ?_
                    refine v_ladd dX10_count_320 ?_
                    refine v_rp 33 hM hF (flS_33 G _ _) fp_X10_246 rfl rfl (Nat.le_of_ble_eq_true rfl) dX10_count_321 (fun M hM hF => ?_)
                    refine v_aload_n dX10_count_324 rfl ?_
                    refine v_dup dX10_count_325 rfl ?_
                    refine v_rgj 34 hM ((upn_o (by decide)).trans ((upn_o (by decide)).trans ((upn_o (by decide)).trans ((upn_o (by decide)).trans ((upn_o (by decide)).trans ((upn_o (by decide)).trans rfl)))))) fl_X10_249 rfl dX10_count_326 ?_
                    refine v_lload dX10_count_329 rfl ?_
                    refine v_ladd dX10_count_331 ?_
                    refine v_rp 34 hM hF (flS_34 G _ _) fp_X10_249 rfl rfl (Nat.le_of_ble_eq_true rfl) dX10_count_332 (fun M hM hF => ?_)
                    refine v_iinc dX10_count_335 rfl (Nat.le_of_ble_eq_true rfl) ?_
                    refine v_goto (tgt := 2) dX10_count_338 (by decide) ?_
                    exact v_to (pst _ w _ hw hM hF (((((((xfr.rf.up (k := 28) (by decide)).up (k := 29) (by decide)).up (k := 31) (by decide)).up (k := 30) (by decide)).up (k := 32) (by decide)).up (k := 33) (by decide)).up (k := 34) (by decide)) rfl rfl (by first | exact ifp (by omega) | exact ifn (by omega)) (by first | exact ifp (by omega) | exact ifn (by omega)) (by first | exact if0 (by omega) | exact ifn (by omega)) (by first | exact if0 (by omega) | exact wn33p (by omega) (by omega) | exact wn33n (by omega) (by omega)) (by first | exact if0 (by omega) | exact wn34p (by omega) (by omega) | exact wn34n (by omega) (by omega))) rfl (sw_h1 rfl (sw_h1 rfl (sw_h1 rfl (sw_h1 rfl sw_h0))))
        · skip
          refine v_ldc2 (z := 12) kl_X10_211 (by decide +kernel) dX10_count_167 ?_
          refine v_lload dX10_count_170 rfl ?_
          refine v_lmul dX10_count_172 ?_
          refine v_goto (tgt := 177) dX10_count_173 (by decide) ?_
          refine v_ladd dX10_count_177 ?_
          refine v_rp 31 hM hF (flS_31 G _ _) fp_X10_240 rfl rfl (Nat.le_of_ble_eq_true rfl) dX10_count_178 (fun M hM hF => ?_)
          refine v_aload_n dX10_count_181 rfl ?_
          refine v_dup dX10_count_182 rfl ?_
          refine v_rgj 30 hM ((upn_o (by decide)).trans ((upn_o (by decide)).trans ((upn_o (by decide)).trans rfl))) fl_X10_237 rfl dX10_count_183 ?_
          refine v_aload_n dX10_count_186 rfl ?_
          refine v_rgi 26 hM ((upn_o (by decide)).trans ((upn_o (by decide)).trans ((upn_o (by decide)).trans g26))) fl_X10_202 rfl dX10_count_187 ?_
          refine v_iconst dX10_count_190 ?_
          refine v_icmp_eq (tgt := 217) dX10_count_191 (by decide) ⟨by omega, by omega⟩ ⟨by omega, by omega⟩ (fun h191 => ?_) (fun h191 => ?_)
          · skip
            refine v_lconst (z := 0) dX10_count_217 (by decide +kernel) ?_
            refine v_ladd dX10_count_218 ?_
            refine v_rp 30 hM hF (flS_30 G _ _) fp_X10_237 rfl rfl (Nat.le_of_ble_eq_true rfl) dX10_count_219 (fun M hM hF => ?_)
            refine v_aload_n dX10_count_222 rfl ?_
            refine v_rgi 35 hM ((upn_o (by decide)).trans ((upn_o (by decide)).trans ((upn_o (by decide)).trans ((upn_o (by decide)).trans g35)))) fl_X10_216 rfl dX10_count_223 ?_
            refine v_iconst dX10_count_226 ?_
            refine v_icmp_eq (tgt := 335) dX10_count_227 (by decide) ⟨by omega, by omega⟩ ⟨by omega, by omega⟩ (fun h227 => ?_) (fun h227 => ?_)
            · skip
              refine v_iinc dX10_count_335 rfl (Nat.le_of_ble_eq_true rfl) ?_
              refine v_goto (tgt := 2) dX10_count_338 (by decide) ?_
              exact v_to (pst _ w _ hw hM hF ((((xfr.rf.up (k := 28) (by decide)).up (k := 29) (by decide)).up (k := 31) (by decide)).up (k := 30) (by decide)) rfl rfl (by first | exact ifp (by omega) | exact ifn (by omega)) (by first | exact ifp (by omega) | exact ifn (by omega)) (by first | exact if0 (by omega) | exact ifn (by omega)) (by first | exact if0 (by omega) | exact wn33p (by omega) (by omega) | exact wn33n (by omega) (by omega)) (by first | exact if0 (by omega) | exact wn34p (by omega) (by omega) | exact wn34n (by omega) (by omega))) rfl (sw_h1 rfl (sw_h1 rfl (sw_h1 rfl (sw_h1 rfl sw_h0))))
            · skip
              refine v_aload_n dX10_count_230 rfl ?_
              refine v_dup dX10_count_231 rfl ?_
              refine v_rgj 32 hM ((upn_o (by decide)).trans ((upn_o (by decide)).trans ((upn_o (by decide)).trans ((upn_o (by decide)).trans rfl)))) fl_X10_243 rfl dX10_count_232 ?_
              refine v_lload dX10_count_235 rfl ?_
              refine v_aload_n dX10_count_237 rfl ?_
              refine v_aload_n dX10_count_238 rfl ?_
              refine v_rgi 35 hM ((upn_o (by decide)).trans ((upn_o (by decide)).trans ((upn_o (by decide)).trans ((upn_o (by decide)).trans g35)))) fl_X10_216 rfl dX10_count_239 ?_
              refine v_aload_n dX10_count_242 rfl ?_
              refine v_getfH 7 hM.1 fl_X10_19 rfl dX10_count_243 ?_
              refine v_iload dX10_count_246 rfl ?_
              refine v_ria hM ar_7 (by omega) (by omega) v1 dX10_count_248 ?_
              refine v_callV (ci := 10) (K10_gains hM ((((hq1.up (k := 28) (by decide)).up (k := 29) (by decide)).up (k := 31) (by decide)).up (k := 30) (by decide)) hm hle hB hwy (i := ask) (v := sV σ t) ⟨by omega, by omega⟩ ⟨by omega, by omega⟩) ⟨rfl, rfl⟩ (Nat.le_refl _) (Nat.le_refl _) hM.1 rfl ⟨ml_X10_265, mm_X10_gains⟩ ⟨(Nat.le_of_ble_eq_true rfl), (Nat.le_of_ble_eq_true rfl)⟩ mp_X10_gains rfl rfl (Nat.le_of_ble_eq_true rfl) dX10_count_249 (fun r M' h => ?_)
              obtain ⟨rfl, rfl⟩ := h
              refine v_lmul dX10_count_252 ?_
              refine v_ladd dX10_count_253 ?_
              refine v_rp 32 hM hF (flS_32 G _ _) fp_X10_243 rfl rfl (Nat.le_of_ble_eq_true rfl) dX10_count_254 (fun M hM hF => ?_)
              refine v_aload_n dX10_count_257 rfl ?_
              refine v_getfH 24 hM.1 fl_X10_49 rfl dX10_count_258 ?_
              refine v_aload_n dX10_count_261 rfl ?_
              refine v_rgi 35 hM ((upn_o (by decide)).trans ((upn_o (by decide)).trans ((upn_o (by decide)).trans ((upn_o (by decide)).trans ((upn_o (by decide)).trans g35))))) fl_X10_216 rfl dX10_count_262 ?_
              refine v_ria hM ar_24 (by omega) (by omega) (gB (by omega)) dX10_count_265 ?_
              refine v_iconst dX10_count_266 ?_
              refine v_icmp_eq (tgt := 301) dX10_count_267 (by decide) ⟨by omega, by omega⟩ ⟨by omega, by omega⟩ (fun h267 => ?_) (fun h267 => ?_)
              · skip
                refine v_lconst (z := 0) dX10_count_301 (by decide +kernel) ?_
                refine v_lstore dX10_count_302 (Nat.le_of_ble_eq_true rfl) ?_
                refine v_aload_n dX10_count_304 rfl ?_
                refine v_dup dX10_count_305 rfl ?_
                refine v_rgj 33 hM ((upn_o (by decide)).trans ((upn_o (by decide)).trans ((upn_o (by decide)).trans ((upn_o (by decide)).trans ((upn_o (by decide)).trans rfl))))) fl_X10_246 rfl dX10_count_306 ?_
                refine v_lload dX10_count_309 rfl ?_
                refine v_aload_n dX10_count_311 rfl ?_
                refine v_getfH 7 hM.1 fl_X10_19 rfl dX10_count_312 ?_
                refine v_iload dX10_count_315 rfl ?_
                refine v_ria hM ar_7 (by omega) (by omega) v1 dX10_count_317 ?_
                refine v_i2l dX10_count_318 ⟨by omega, by omega⟩ ?_
                refine v_lmul dX10_count_319 ?_
                refine v_ladd dX10_count_320 ?_
                refine v_rp 33 hM hF (flS_33 G _ _) fp_X10_246 rfl rfl (Nat.le_of_ble_eq_true rfl) dX10_count_321 (fun M hM hF => ?_)
                refine v_aload_n dX10_count_324 rfl ?_
                refine v_dup dX10_count_325 rfl ?_
                refine v_rgj 34 hM ((upn_o (by decide)).trans ((upn_o (by decide)).trans ((upn_o (by decide)).trans ((upn_o (by decide)).trans ((upn_o (by decide)).trans ((upn_o (by decide)).trans rfl)))))) fl_X10_249 rfl dX10_count_326 ?_
                refine v_lload dX10_count_329 rfl ?_
                refine v_ladd dX10_count_331 ?_
                refine v_rp 34 hM hF (flS_34 G _ _) fp_X10_249 rfl rfl (Nat.le_of_ble_eq_true rfl) dX10_count_332 (fun M hM hF => ?_)
                refine v_iinc dX10_count_335 rfl (Nat.le_of_ble_eq_true rfl) ?_
                refine v_goto (tgt := 2) dX10_count_338 (by decide) ?_
                exact v_to (pst _ w _ hw hM hF (((((((xfr.rf.up (k := 28) (by decide)).up (k := 29) (by decide)).up (k := 31) (by decide)).up (k := 30) (by decide)).up (k := 32) (by decide)).up (k := 33) (by decide)).up (k := 34) (by decide)) rfl rfl (by first | exact ifp (by omega) | exact ifn (by omega)) (by first | exact ifp (by omega) | exact ifn (by omega)) (by first | exact if0 (by omega) | exact ifn (by omega)) (by first | exact if0 (by omega) | exact wn33p (by omega) (by omega) | exact wn33n (by omega) (by omega)) (by first | exact if0 (by omega) | exact wn34p (by omega) (by omega) | exact wn34n (by omega) (by omega))) rfl (sw_h1 rfl (sw_h1 rfl (sw_h1 rfl (sw_h1 rfl sw_h0))))
              · skip
                refine v_aload_n dX10_count_270 rfl ?_
                refine v_getfH 24 hM.1 fl_X10_49 rfl dX10_count_271 ?_
                refine v_aload_n dX10_count_274 rfl ?_
                refine v_rgi 35 hM ((upn_o (by decide)).trans ((upn_o (by decide)).trans ((upn_o (by decide)).trans ((upn_o (by decide)).trans ((upn_o (by decide)).trans g35))))) fl_X10_216 rfl dX10_count_275 ?_
                refine v_ria hM ar_24 (by omega) (by omega) (gB (by omega)) dX10_count_278 ?_
                refine v_aload_n dX10_count_279 rfl ?_
                refine v_rgi 26 hM ((upn_o (by decide)).trans ((upn_o (by decide)).trans ((upn_o (by decide)).trans ((upn_o (by decide)).trans ((upn_o (by decide)).trans g26))))) fl_X10_202 rfl dX10_count_280 ?_
                refine v_icmp_ne (tgt := 301) dX10_count_283 (by decide) ⟨by omega, by omega⟩ ⟨by omega, by omega⟩ (fun h283 => ?_) (fun h283 => ?_)
                · skip
                  refine v_lconst (z := 0) dX10_count_301 (by decide +kernel) ?_
                  refine v_lstore dX10_count_302 (Nat.le_of_ble_eq_true rfl) ?_
                  refine v_aload_n dX10_count_304 rfl ?_
                  refine v_dup dX10_count_305 rfl ?_
                  refine v_rgj 33 hM ((upn_o (by decide)).trans ((upn_o (by decide)).trans ((upn_o (by decide)).trans ((upn_o (by decide)).trans ((upn_o (by decide)).trans rfl))))) fl_X10_246 rfl dX10_count_306 ?_
                  refine v_lload dX10_count_309 rfl ?_
                  refine v_aload_n dX10_count_311 rfl ?_
                  refine v_getfH 7 hM.1 fl_X10_19 rfl dX10_count_312 ?_
                  refine v_iload dX10_count_315 rfl ?_
                  refine v_ria hM ar_7 (by omega) (by omega) v1 dX10_count_317 ?_
                  refine v_i2l dX10_count_318 ⟨by omega, by omega⟩ ?_
                  refine v_lmul dX10_count_319 ?_
                  refine v_ladd dX10_count_320 ?_
                  refine v_rp 33 hM hF (flS_33 G _ _) fp_X10_246 rfl rfl (Nat.le_of_ble_eq_true rfl) dX10_count_321 (fun M hM hF => ?_)
                  refine v_aload_n dX10_count_324 rfl ?_
                  refine v_dup dX10_count_325 rfl ?_
                  refine v_rgj 34 hM ((upn_o (by decide)).trans ((upn_o (by decide)).trans ((upn_o (by decide)).trans ((upn_o (by decide)).trans ((upn_o (by decide)).trans ((upn_o (by decide)).trans rfl)))))) fl_X10_249 rfl dX10_count_326 ?_
                  refine v_lload dX10_count_329 rfl ?_
                  refine v_ladd dX10_count_331 ?_
                  refine v_rp 34 hM hF (flS_34 G _ _) fp_X10_249 rfl rfl (Nat.le_of_ble_eq_true rfl) dX10_count_332 (fun M hM hF => ?_)
                  refine v_iinc dX10_count_335 rfl (Nat.le_of_ble_eq_true rfl) ?_
                  refine v_goto (tgt := 2) dX10_count_338 (by decide) ?_
                  exact v_to (pst _ w _ hw hM hF (((((((xfr.rf.up (k := 28) (by decide)).up (k := 29) (by decide)).up (k := 31) (by decide)).up (k := 30) (by decide)).up (k := 32) (by decide)).up (k := 33) (by decide)).up (k := 34) (by decide)) rfl rfl (by first | exact ifp (by omega) | exact ifn (by omega)) (by first | exact ifp (by omega) | exact ifn (by omega)) (by first | exact if0 (by omega) | exact ifn (by omega)) (by first | exact if0 (by omega) | exact wn33p (by omega) (by omega) | exact wn33n (by omega) (by omega)) (by first | exact if0 (by omega) | exact wn34p (by omega) (by omega) | exact wn34n (by omega) (by omega))) rfl (sw_h1 rfl (sw_h1 rfl (sw_h1 rfl (sw_h1 rfl sw_h0))))
                · skip
                  refine v_lload dX10_count_286 rfl ?_
                  refine v_ldc2 (z := 12) kl_X10_211 (by decide +kernel) dX10_count_288 ?_
                  refine v_aload_n dX10_count_291 rfl ?_
                  refine v_rgi 27 hM ((upn_o (by decide)).trans ((upn_o (by decide)).trans ((upn_o (by decide)).trans ((upn_o (by decide)).trans ((upn_o (by decide)).trans g27))))) fl_X10_205 rfl dX10_count_292 ?_
                  refine v_i2l dX10_count_295 ⟨by omega, by omega⟩ ?_
                  refine v_ldiv dX10_count_296 ⟨by omega, by omega⟩ ⟨by omega, by omega⟩ (by omega) ?_
                  rw [show (12 : Int).tdiv (rkb B le m).2.1 = 12 / (rkb B le m).2.1 from Int.tdiv_eq_ediv_of_nonneg (by omega)]
                  refine v_lmul dX10_count_297 ?_
                  refine v_goto (tgt := 302) dX10_count_298 (by decide) ?_
                  refine v_lstore dX10_count_302 (Nat.le_of_ble_eq_true rfl) ?_
                  refine v_aload_n dX10_count_304 rfl ?_
                  refine v_dup dX10_count_305 rfl ?_
                  refine v_rgj 33 hM ((upn_o (by decide)).trans ((upn_o (by decide)).trans ((upn_o (by decide)).trans ((upn_o (by decide)).trans ((upn_o (by decide)).trans rfl))))) fl_X10_246 rfl dX10_count_306 ?_
                  refine v_lload dX10_count_309 rfl ?_
                  refine v_aload_n dX10_count_311 rfl ?_
                  refine v_getfH 7 hM.1 fl_X10_19 rfl dX10_count_312 ?_
                  refine v_iload dX10_count_315 rfl ?_
                  refine v_ria hM ar_7 (by omega) (by omega) v1 dX10_count_317 ?_
                  refine v_i2l dX10_count_318 ⟨by omega, by omega⟩ ?_
                  refine v_lmul dX10_count_319 ?_
                  refine v_ladd dX10_count_320 ?_
                  refine v_rp 33 hM hF (flS_33 G _ _) fp_X10_246 rfl rfl (Nat.le_of_ble_eq_true rfl) dX10_count_321 (fun M hM hF => ?_)
                  refine v_aload_n dX10_count_324 rfl ?_
                  refine v_dup dX10_count_325 rfl ?_
                  refine v_rgj 34 hM ((upn_o (by decide)).trans ((upn_o (by decide)).trans ((upn_o (by decide)).trans ((upn_o (by decide)).trans ((upn_o (by decide)).trans ((upn_o (by decide)).trans rfl)))))) fl_X10_249 rfl dX10_count_326 ?_
                  refine v_lload dX10_count_329 rfl ?_
                  refine v_ladd dX10_count_331 ?_
                  refine v_rp 34 hM hF (flS_34 G _ _) fp_X10_249 rfl rfl (Nat.le_of_ble_eq_true rfl) dX10_count_332 (fun M hM hF => ?_)
                  refine v_iinc dX10_count_335 rfl (Nat.le_of_ble_eq_true rfl) ?_
                  refine v_goto (tgt := 2) dX10_count_338 (by decide) ?_
                  exact v_to (pst _ w _ hw hM hF (((((((xfr.rf.up (k := 28) (by decide)).up (k := 29) (by decide)).up (k := 31) (by decide)).up (k := 30) (by decide)).up (k := 32) (by decide)).up (k := 33) (by decide)).up (k := 34) (by decide)) rfl rfl (by first | exact ifp (by omega) | exact ifn (by omega)) (by first | exact ifp (by omega) | exact ifn (by omega)) (by first | exact if0 (by omega) | exact ifn (by omega)) (by first | exact if0 (by omega) | exact wn33p (by omega) (by omega) | exact wn33n (by omega) (by omega)) (by first | exact if0 (by omega) | exact wn34p (by omega) (by omega) | exact wn34n (by omega) (by omega))) rfl (sw_h1 rfl (sw_h1 rfl (sw_h1 rfl (sw_h1 rfl sw_h0))))
          · skip
            refine v_aload_n dX10_count_194 rfl ?_
            refine v_callV (ci := 10) (K10_pays hM (((hq1.up (k := 28) (by decide)).up (k := 29) (by decide)).up (k := 31) (by decide)) hm hle hB hwy (by omega)) ⟨rfl, rfl⟩ (Nat.le_refl _) (Nat.le_refl _) hM.1 rfl ⟨ml_X10_213, mm_X10_pays⟩ ⟨(Nat.le_of_ble_eq_true rfl), (Nat.le_of_ble_eq_true rfl)⟩ mp_X10_pays rfl rfl (Nat.le_of_ble_eq_true rfl) dX10_count_195 (fun r M' h => ?_)
            obtain ⟨rfl, rfl⟩ := h
            refine v_aload_n dX10_count_198 rfl ?_
            refine v_getfH 7 hM.1 fl_X10_19 rfl dX10_count_199 ?_
            refine v_iload dX10_count_202 rfl ?_
            refine v_ria hM ar_7 (by omega) (by omega) v1 dX10_count_204 ?_
            refine v_icmp_le (tgt := 217) dX10_count_205 (by decide) ⟨by omega, by omega⟩ ⟨by omega, by omega⟩ (fun h205 => ?_) (fun h205 => ?_)
            · skip
              refine v_lconst (z := 0) dX10_count_217 (by decide +kernel) ?_
              refine v_ladd dX10_count_218 ?_
              refine v_rp 30 hM hF (flS_30 G _ _) fp_X10_237 rfl rfl (Nat.le_of_ble_eq_true rfl) dX10_count_219 (fun M hM hF => ?_)
              refine v_aload_n dX10_count_222 rfl ?_
              refine v_rgi 35 hM ((upn_o (by decide)).trans ((upn_o (by decide)).trans ((upn_o (by decide)).trans ((upn_o (by decide)).trans g35)))) fl_X10_216 rfl dX10_count_223 ?_
              refine v_iconst dX10_count_226 ?_
              refine v_icmp_eq (tgt := 335) dX10_count_227 (by decide) ⟨by omega, by omega⟩ ⟨by omega, by omega⟩ (fun h227 => ?_) (fun h227 => ?_)
              · skip
                refine v_iinc dX10_count_335 rfl (Nat.le_of_ble_eq_true rfl) ?_
                refine v_goto (tgt := 2) dX10_count_338 (by decide) ?_
                exact v_to (pst _ w _ hw hM hF ((((xfr.rf.up (k := 28) (by decide)).up (k := 29) (by decide)).up (k := 31) (by decide)).up (k := 30) (by decide)) rfl rfl (by first | exact ifp (by omega) | exact ifn (by omega)) (by first | exact ifp (by omega) | exact ifn (by omega)) (by first | exact if0 (by omega) | exact ifn (by omega)) (by first | exact if0 (by omega) | exact wn33p (by omega) (by omega) | exact wn33n (by omega) (by omega)) (by first | exact if0 (by omega) | exact wn34p (by omega) (by omega) | exact wn34n (by omega) (by omega))) rfl (sw_h1 rfl (sw_h1 rfl (sw_h1 rfl (sw_h1 rfl sw_h0))))
              · skip
                refine v_aload_n dX10_count_230 rfl ?_
                refine v_dup dX10_count_231 rfl ?_
                refine v_rgj 32 hM ((upn_o (by decide)).trans ((upn_o (by decide)).trans ((upn_o (by decide)).trans ((upn_o (by decide)).trans rfl)))) fl_X10_243 rfl dX10_count_232 ?_
                refine v_lload dX10_count_235 rfl ?_
                refine v_aload_n dX10_count_237 rfl ?_
                refine v_aload_n dX10_count_238 rfl ?_
                refine v_rgi 35 hM ((upn_o (by decide)).trans ((upn_o (by decide)).trans ((upn_o (by decide)).trans ((upn_o (by decide)).trans g35)))) fl_X10_216 rfl dX10_count_239 ?_
                refine v_aload_n dX10_count_242 rfl ?_
                refine v_getfH 7 hM.1 fl_X10_19 rfl dX10_count_243 ?_
                refine v_iload dX10_count_246 rfl ?_
                refine v_ria hM ar_7 (by omega) (by omega) v1 dX10_count_248 ?_
                refine v_callV (ci := 10) (K10_gains hM ((((hq1.up (k := 28) (by decide)).up (k := 29) (by decide)).up (k := 31) (by decide)).up (k := 30) (by decide)) hm hle hB hwy (i := ask) (v := sV σ t) ⟨by omega, by omega⟩ ⟨by omega, by omega⟩) ⟨rfl, rfl⟩ (Nat.le_refl _) (Nat.le_refl _) hM.1 rfl ⟨ml_X10_265, mm_X10_gains⟩ ⟨(Nat.le_of_ble_eq_true rfl), (Nat.le_of_ble_eq_true rfl)⟩ mp_X10_gains rfl rfl (Nat.le_of_ble_eq_true rfl) dX10_count_249 (fun r M' h => ?_)
                obtain ⟨rfl, rfl⟩ := h
                refine v_lmul dX10_count_252 ?_
                refine v_ladd dX10_count_253 ?_
                refine v_rp 32 hM hF (flS_32 G _ _) fp_X10_243 rfl rfl (Nat.le_of_ble_eq_true rfl) dX10_count_254 (fun M hM hF => ?_)
                refine v_aload_n dX10_count_257 rfl ?_
                refine v_getfH 24 hM.1 fl_X10_49 rfl dX10_count_258 ?_
                refine v_aload_n dX10_count_261 rfl ?_
                refine v_rgi 35 hM ((upn_o (by decide)).trans ((upn_o (by decide)).trans ((upn_o (by decide)).trans ((upn_o (by decide)).trans ((upn_o (by decide)).trans g35))))) fl_X10_216 rfl dX10_count_262 ?_
                refine v_ria hM ar_24 (by omega) (by omega) (gB (by omega)) dX10_count_265 ?_
                refine v_iconst dX10_count_266 ?_
                refine v_icmp_eq (tgt := 301) dX10_count_267 (by decide) ⟨by omega, by omega⟩ ⟨by omega, by omega⟩ (fun h267 => ?_) (fun h267 => ?_)
                · skip
                  refine v_lconst (z := 0) dX10_count_301 (by decide +kernel) ?_
                  refine v_lstore dX10_count_302 (Nat.le_of_ble_eq_true rfl) ?_
                  refine v_aload_n dX10_count_304 rfl ?_
                  refine v_dup dX10_count_305 rfl ?_
                  refine v_rgj 33 hM ((upn_o (by decide)).trans ((upn_o (by decide)).trans ((upn_o (by decide)).trans ((upn_o (by decide)).trans ((upn_o (by decide)).trans rfl))))) fl_X10_246 rfl dX10_count_306 ?_
                  refine v_lload dX10_count_309 rfl ?_
                  refine v_aload_n dX10_count_311 rfl ?_
                  refine v_getfH 7 hM.1 fl_X10_19 rfl dX10_count_312 ?_
                  refine v_iload dX10_count_315 rfl ?_
                  refine v_ria hM ar_7 (by omega) (by omega) v1 dX10_count_317 ?_
                  refine v_i2l dX10_count_318 ⟨by omega, by omega⟩ ?_
                  refine v_lmul dX10_count_319 ?_
                  refine v_ladd dX10_count_320 ?_
                  refine v_rp 33 hM hF (flS_33 G _ _) fp_X10_246 rfl rfl (Nat.le_of_ble_eq_true rfl) dX10_count_321 (fun M hM hF => ?_)
                  refine v_aload_n dX10_count_324 rfl ?_
                  refine v_dup dX10_count_325 rfl ?_
                  refine v_rgj 34 hM ((upn_o (by decide)).trans ((upn_o (by decide)).trans ((upn_o (by decide)).trans ((upn_o (by decide)).trans ((upn_o (by decide)).trans ((upn_o (by decide)).trans rfl)))))) fl_X10_249 rfl dX10_count_326 ?_
                  refine v_lload dX10_count_329 rfl ?_
                  refine v_ladd dX10_count_331 ?_
                  refine v_rp 34 hM hF (flS_34 G _ _) fp_X10_249 rfl rfl (Nat.le_of_ble_eq_true rfl) dX10_count_332 (fun M hM hF => ?_)
                  refine v_iinc dX10_count_335 rfl (Nat.le_of_ble_eq_true rfl) ?_
                  refine v_goto (tgt := 2) dX10_count_338 (by decide) ?_
                  exact v_to (pst _ w _ hw hM hF (((((((xfr.rf.up (k := 28) (by decide)).up (k := 29) (by decide)).up (k := 31) (by decide)).up (k := 30) (by decide)).up (k := 32) (by decide)).up (k := 33) (by decide)).up (k := 34) (by decide)) rfl rfl (by first | exact ifp (by omega) | exact ifn (by omega)) (by first | exact ifp (by omega) | exact ifn (by omega)) (by first | exact if0 (by omega) | exact ifn (by omega)) (by first | exact if0 (by omega) | exact wn33p (by omega) (by omega) | exact wn33n (by omega) (by omega)) (by first | exact if0 (by omega) | exact wn34p (by omega) (by omega) | exact wn34n (by omega) (by omega))) rfl (sw_h1 rfl (sw_h1 rfl (sw_h1 rfl (sw_h1 rfl sw_h0))))
                · skip
                  refine v_aload_n dX10_count_270 rfl ?_
                  refine v_getfH 24 hM.1 fl_X10_49 rfl dX10_count_271 ?_
                  refine v_aload_n dX10_count_274 rfl ?_
                  refine v_rgi 35 hM ((upn_o (by decide)).trans ((upn_o (by decide)).trans ((upn_o (by decide)).trans ((upn_o (by decide)).trans ((upn_o (by decide)).trans g35))))) fl_X10_216 rfl dX10_count_275 ?_
                  refine v_ria hM ar_24 (by omega) (by omega) (gB (by omega)) dX10_count_278 ?_
                  refine v_aload_n dX10_count_279 rfl ?_
                  refine v_rgi 26 hM ((upn_o (by decide)).trans ((upn_o (by decide)).trans ((upn_o (by decide)).trans ((upn_o (by decide)).trans ((upn_o (by decide)).trans g26))))) fl_X10_202 rfl dX10_count_280 ?_
                  refine v_icmp_ne (tgt := 301) dX10_count_283 (by decide) ⟨by omega, by omega⟩ ⟨by omega, by omega⟩ (fun h283 => ?_) (fun h283 => ?_)
                  · skip
                    refine v_lconst (z := 0) dX10_count_301 (by decide +kernel) ?_
                    refine v_lstore dX10_count_302 (Nat.le_of_ble_eq_true rfl) ?_
                    refine v_aload_n dX10_count_304 rfl ?_
                    refine v_dup dX10_count_305 rfl ?_
                    refine v_rgj 33 hM ((upn_o (by decide)).trans ((upn_o (by decide)).trans ((upn_o (by decide)).trans ((upn_o (by decide)).trans ((upn_o (by decide)).trans rfl))))) fl_X10_246 rfl dX10_count_306 ?_
                    refine v_lload dX10_count_309 rfl ?_
                    refine v_aload_n dX10_count_311 rfl ?_
                    refine v_getfH 7 hM.1 fl_X10_19 rfl dX10_count_312 ?_
                    refine v_iload dX10_count_315 rfl ?_
                    refine v_ria hM ar_7 (by omega) (by omega) v1 dX10_count_317 ?_
                    refine v_i2l dX10_count_318 ⟨by omega, by omega⟩ ?_
                    refine v_lmul dX10_count_319 ?_
                    refine v_ladd dX10_count_320 ?_
                    refine v_rp 33 hM hF (flS_33 G _ _) fp_X10_246 rfl rfl (Nat.le_of_ble_eq_true rfl) dX10_count_321 (fun M hM hF => ?_)
                    refine v_aload_n dX10_count_324 rfl ?_
                    refine v_dup dX10_count_325 rfl ?_
                    refine v_rgj 34 hM ((upn_o (by decide)).trans ((upn_o (by decide)).trans ((upn_o (by decide)).trans ((upn_o (by decide)).trans ((upn_o (by decide)).trans ((upn_o (by decide)).trans rfl)))))) fl_X10_249 rfl dX10_count_326 ?_
                    refine v_lload dX10_count_329 rfl ?_
                    refine v_ladd dX10_count_331 ?_
                    refine v_rp 34 hM hF (flS_34 G _ _) fp_X10_249 rfl rfl (Nat.le_of_ble_eq_true rfl) dX10_count_332 (fun M hM hF => ?_)
                    refine v_iinc dX10_count_335 rfl (Nat.le_of_ble_eq_true rfl) ?_
                    refine v_goto (tgt := 2) dX10_count_338 (by decide) ?_
                    exact v_to (pst _ w _ hw hM hF (((((((xfr.rf.up (k := 28) (by decide)).up (k := 29) (by decide)).up (k := 31) (by decide)).up (k := 30) (by decide)).up (k := 32) (by decide)).up (k := 33) (by decide)).up (k := 34) (by decide)) rfl rfl (by first | exact ifp (by omega) | exact ifn (by omega)) (by first | exact ifp (by omega) | exact ifn (by omega)) (by first | exact if0 (by omega) | exact ifn (by omega)) (by first | exact if0 (by omega) | exact wn33p (by omega) (by omega) | exact wn33n (by omega) (by omega)) (by first | exact if0 (by omega) | exact wn34p (by omega) (by omega) | exact wn34n (by omega) (by omega))) rfl (sw_h1 rfl (sw_h1 rfl (sw_h1 rfl (sw_h1 rfl sw_h0))))
                  · skip
                    refine v_lload dX10_count_286 rfl ?_
                    refine v_ldc2 (z := 12) kl_X10_211 (by decide +kernel) dX10_count_288 ?_
                    refine v_aload_n dX10_count_291 rfl ?_
                    refine v_rgi 27 hM ((upn_o (by decide)).trans ((upn_o (by decide)).trans ((upn_o (by decide)).trans ((upn_o (by decide)).trans ((upn_o (by decide)).trans g27))))) fl_X10_205 rfl dX10_count_292 ?_
                    refine v_i2l dX10_count_295 ⟨by omega, by omega⟩ ?_
                    refine v_ldiv dX10_count_296 ⟨by omega, by omega⟩ ⟨by omega, by omega⟩ (by omega) ?_
                    rw [show (12 : Int).tdiv (rkb B le m).2.1 = 12 / (rkb B le m).2.1 from Int.tdiv_eq_ediv_of_nonneg (by omega)]
                    refine v_lmul dX10_count_297 ?_
                    refine v_goto (tgt := 302) dX10_count_298 (by decide) ?_
                    refine v_lstore dX10_count_302 (Nat.le_of_ble_eq_true rfl) ?_
                    refine v_aload_n dX10_count_304 rfl ?_
                    refine v_dup dX10_count_305 rfl ?_
                    refine v_rgj 33 hM ((upn_o (by decide)).trans ((upn_o (by decide)).trans ((upn_o (by decide)).trans ((upn_o (by decide)).trans ((upn_o (by decide)).trans rfl))))) fl_X10_246 rfl dX10_count_306 ?_
                    refine v_lload dX10_count_309 rfl ?_
                    refine v_aload_n dX10_count_311 rfl ?_
                    refine v_getfH 7 hM.1 fl_X10_19 rfl dX10_count_312 ?_
                    refine v_iload dX10_count_315 rfl ?_
                    refine v_ria hM ar_7 (by omega) (by omega) v1 dX10_count_317 ?_
                    refine v_i2l dX10_count_318 ⟨by omega, by omega⟩ ?_
                    refine v_lmul dX10_count_319 ?_
                    refine v_ladd dX10_count_320 ?_
                    refine v_rp 33 hM hF (flS_33 G _ _) fp_X10_246 rfl rfl (Nat.le_of_ble_eq_true rfl) dX10_count_321 (fun M hM hF => ?_)
                    refine v_aload_n dX10_count_324 rfl ?_
                    refine v_dup dX10_count_325 rfl ?_
                    refine v_rgj 34 hM ((upn_o (by decide)).trans ((upn_o (by decide)).trans ((upn_o (by decide)).trans ((upn_o (by decide)).trans ((upn_o (by decide)).trans ((upn_o (by decide)).trans rfl)))))) fl_X10_249 rfl dX10_count_326 ?_
                    refine v_lload dX10_count_329 rfl ?_
                    refine v_ladd dX10_count_331 ?_
                    refine v_rp 34 hM hF (flS_34 G _ _) fp_X10_249 rfl rfl (Nat.le_of_ble_eq_true rfl) dX10_count_332 (fun M hM hF => ?_)
                    refine v_iinc dX10_count_335 rfl (Nat.le_of_ble_eq_true rfl) ?_
                    refine v_goto (tgt := 2) dX10_count_338 (by decide) ?_
                    exact v_to (pst _ w _ hw hM hF (((((((xfr.rf.up (k := 28) (by decide)).up (k := 29) (by decide)).up (k := 31) (by decide)).up (k := 30) (by decide)).up (k := 32) (by decide)).up (k := 33) (by decide)).up (k := 34) (by decide)) rfl rfl (by first | exact ifp (by omega) | exact ifn (by omega)) (by first | exact ifp (by omega) | exact ifn (by omega)) (by first | exact if0 (by omega) | exact ifn (by omega)) (by first | exact if0 (by omega) | exact wn33p (by omega) (by omega) | exact wn33n (by omega) (by omega)) (by first | exact if0 (by omega) | exact wn34p (by omega) (by omega) | exact wn34n (by omega) (by omega))) rfl (sw_h1 rfl (sw_h1 rfl (sw_h1 rfl (sw_h1 rfl sw_h0))))
            · skip
              refine v_ldc2 (z := 12) kl_X10_211 (by decide +kernel) dX10_count_208 ?_
              refine v_lload dX10_count_211 rfl ?_
              refine v_lmul dX10_count_213 ?_
              refine v_goto (tgt := 218) dX10_count_214 (by decide) ?_
              refine v_ladd dX10_count_218 ?_
              refine v_rp 30 hM hF (flS_30 G _ _) fp_X10_237 rfl rfl (Nat.le_of_ble_eq_true rfl) dX10_count_219 (fun M hM hF => ?_)
              refine v_aload_n dX10_count_222 rfl ?_
              refine v_rgi 35 hM ((upn_o (by decide)).trans ((upn_o (by decide)).trans ((upn_o (by decide)).trans ((upn_o (by decide)).trans g35)))) fl_X10_216 rfl dX10_count_223 ?_
              refine v_iconst dX10_count_226 ?_
              refine v_icmp_eq (tgt := 335) dX10_count_227 (by decide) ⟨by omega, by omega⟩ ⟨by omega, by omega⟩ (fun h227 => ?_) (fun h227 => ?_)
              · skip
                refine v_iinc dX10_count_335 rfl (Nat.le_of_ble_eq_true rfl) ?_
                refine v_goto (tgt := 2) dX10_count_338 (by decide) ?_
                exact v_to (pst _ w _ hw hM hF ((((xfr.rf.up (k := 28) (by decide)).up (k := 29) (by decide)).up (k := 31) (by decide)).up (k := 30) (by decide)) rfl rfl (by first | exact ifp (by omega) | exact ifn (by omega)) (by first | exact ifp (by omega) | exact ifn (by omega)) (by first | exact if0 (by omega) | exact ifn (by omega)) (by first | exact if0 (by omega) | exact wn33p (by omega) (by omega) | exact wn33n (by omega) (by omega)) (by first | exact if0 (by omega) | exact wn34p (by omega) (by omega) | exact wn34n (by omega) (by omega))) rfl (sw_h1 rfl (sw_h1 rfl (sw_h1 rfl (sw_h1 rfl sw_h0))))
              · skip
                refine v_aload_n dX10_count_230 rfl ?_
                refine v_dup dX10_count_231 rfl ?_
                refine v_rgj 32 hM ((upn_o (by decide)).trans ((upn_o (by decide)).trans ((upn_o (by decide)).trans ((upn_o (by decide)).trans rfl)))) fl_X10_243 rfl dX10_count_232 ?_
                refine v_lload dX10_count_235 rfl ?_
                refine v_aload_n dX10_count_237 rfl ?_
                refine v_aload_n dX10_count_238 rfl ?_
                refine v_rgi 35 hM ((upn_o (by decide)).trans ((upn_o (by decide)).trans ((upn_o (by decide)).trans ((upn_o (by decide)).trans g35)))) fl_X10_216 rfl dX10_count_239 ?_
                refine v_aload_n dX10_count_242 rfl ?_
                refine v_getfH 7 hM.1 fl_X10_19 rfl dX10_count_243 ?_
                refine v_iload dX10_count_246 rfl ?_
                refine v_ria hM ar_7 (by omega) (by omega) v1 dX10_count_248 ?_
                refine v_callV (ci := 10) (K10_gains hM ((((hq1.up (k := 28) (by decide)).up (k := 29) (by decide)).up (k := 31) (by decide)).up (k := 30) (by decide)) hm hle hB hwy (i := ask) (v := sV σ t) ⟨by omega, by omega⟩ ⟨by omega, by omega⟩) ⟨rfl, rfl⟩ (Nat.le_refl _) (Nat.le_refl _) hM.1 rfl ⟨ml_X10_265, mm_X10_gains⟩ ⟨(Nat.le_of_ble_eq_true rfl), (Nat.le_of_ble_eq_true rfl)⟩ mp_X10_gains rfl rfl (Nat.le_of_ble_eq_true rfl) dX10_count_249 (fun r M' h => ?_)
                obtain ⟨rfl, rfl⟩ := h
                refine v_lmul dX10_count_252 ?_
                refine v_ladd dX10_count_253 ?_
                refine v_rp 32 hM hF (flS_32 G _ _) fp_X10_243 rfl rfl (Nat.le_of_ble_eq_true rfl) dX10_count_254 (fun M hM hF => ?_)
                refine v_aload_n dX10_count_257 rfl ?_
                refine v_getfH 24 hM.1 fl_X10_49 rfl dX10_count_258 ?_
                refine v_aload_n dX10_count_261 rfl ?_
                refine v_rgi 35 hM ((upn_o (by decide)).trans ((upn_o (by decide)).trans ((upn_o (by decide)).trans ((upn_o (by decide)).trans ((upn_o (by decide)).trans g35))))) fl_X10_216 rfl dX10_count_262 ?_
                refine v_ria hM ar_24 (by omega) (by omega) (gB (by omega)) dX10_count_265 ?_
                refine v_iconst dX10_count_266 ?_
                refine v_icmp_eq (tgt := 301) dX10_count_267 (by decide) ⟨by omega, by omega⟩ ⟨by omega, by omega⟩ (fun h267 => ?_) (fun h267 => ?_)
                · skip
                  refine v_lconst (z := 0) dX10_count_301 (by decide +kernel) ?_
                  refine v_lstore dX10_count_302 (Nat.le_of_ble_eq_true rfl) ?_
                  refine v_aload_n dX10_count_304 rfl ?_
                  refine v_dup dX10_count_305 rfl ?_
                  refine v_rgj 33 hM ((upn_o (by decide)).trans ((upn_o (by decide)).trans ((upn_o (by decide)).trans ((upn_o (by decide)).trans ((upn_o (by decide)).trans rfl))))) fl_X10_246 rfl dX10_count_306 ?_
                  refine v_lload dX10_count_309 rfl ?_
                  refine v_aload_n dX10_count_311 rfl ?_
                  refine v_getfH 7 hM.1 fl_X10_19 rfl dX10_count_312 ?_
                  refine v_iload dX10_count_315 rfl ?_
                  refine v_ria hM ar_7 (by omega) (by omega) v1 dX10_count_317 ?_
                  refine v_i2l dX10_count_318 ⟨by omega, by omega⟩ ?_
                  refine v_lmul dX10_count_319 ?_
                  refine v_ladd dX10_count_320 ?_
                  refine v_rp 33 hM hF (flS_33 G _ _) fp_X10_246 rfl rfl (Nat.le_of_ble_eq_true rfl) dX10_count_321 (fun M hM hF => ?_)
                  refine v_aload_n dX10_count_324 rfl ?_
                  refine v_dup dX10_count_325 rfl ?_
                  refine v_rgj 34 hM ((upn_o (by decide)).trans ((upn_o (by decide)).trans ((upn_o (by decide)).trans ((upn_o (by decide)).trans ((upn_o (by decide)).trans ((upn_o (by decide)).trans rfl)))))) fl_X10_249 rfl dX10_count_326 ?_
                  refine v_lload dX10_count_329 rfl ?_
                  refine v_ladd dX10_count_331 ?_
                  refine v_rp 34 hM hF (flS_34 G _ _) fp_X10_249 rfl rfl (Nat.le_of_ble_eq_true rfl) dX10_count_332 (fun M hM hF => ?_)
                  refine v_iinc dX10_count_335 rfl (Nat.le_of_ble_eq_true rfl) ?_
                  refine v_goto (tgt := 2) dX10_count_338 (by decide) ?_
                  exact v_to (pst _ w _ hw hM hF (((((((xfr.rf.up (k := 28) (by decide)).up (k := 29) (by decide)).up (k := 31) (by decide)).up (k := 30) (by decide)).up (k := 32) (by decide)).up (k := 33) (by decide)).up (k := 34) (by decide)) rfl rfl (by first | exact ifp (by omega) | exact ifn (by omega)) (by first | exact ifp (by omega) | exact ifn (by omega)) (by first | exact if0 (by omega) | exact ifn (by omega)) (by first | exact if0 (by omega) | exact wn33p (by omega) (by omega) | exact wn33n (by omega) (by omega)) (by first | exact if0 (by omega) | exact wn34p (by omega) (by omega) | exact wn34n (by omega) (by omega))) rfl (sw_h1 rfl (sw_h1 rfl (sw_h1 rfl (sw_h1 rfl sw_h0))))
                · skip
                  refine v_aload_n dX10_count_270 rfl ?_
                  refine v_getfH 24 hM.1 fl_X10_49 rfl dX10_count_271 ?_
                  refine v_aload_n dX10_count_274 rfl ?_
                  refine v_rgi 35 hM ((upn_o (by decide)).trans ((upn_o (by decide)).trans ((upn_o (by decide)).trans ((upn_o (by decide)).trans ((upn_o (by decide)).trans g35))))) fl_X10_216 rfl dX10_count_275 ?_
                  refine v_ria hM ar_24 (by omega) (by omega) (gB (by omega)) dX10_count_278 ?_
                  refine v_aload_n dX10_count_279 rfl ?_
                  refine v_rgi 26 hM ((upn_o (by decide)).trans ((upn_o (by decide)).trans ((upn_o (by decide)).trans ((upn_o (by decide)).trans ((upn_o (by decide)).trans g26))))) fl_X10_202 rfl dX10_count_280 ?_
                  refine v_icmp_ne (tgt := 301) dX10_count_283 (by decide) ⟨by omega, by omega⟩ ⟨by omega, by omega⟩ (fun h283 => ?_) (fun h283 => ?_)
                  · skip
                    refine v_lconst (z := 0) dX10_count_301 (by decide +kernel) ?_
                    refine v_lstore dX10_count_302 (Nat.le_of_ble_eq_true rfl) ?_
                    refine v_aload_n dX10_count_304 rfl ?_
                    refine v_dup dX10_count_305 rfl ?_
                    refine v_rgj 33 hM ((upn_o (by decide)).trans ((upn_o (by decide)).trans ((upn_o (by decide)).trans ((upn_o (by decide)).trans ((upn_o (by decide)).trans rfl))))) fl_X10_246 rfl dX10_count_306 ?_
                    refine v_lload dX10_count_309 rfl ?_
                    refine v_aload_n dX10_count_311 rfl ?_
                    refine v_getfH 7 hM.1 fl_X10_19 rfl dX10_count_312 ?_
                    refine v_iload dX10_count_315 rfl ?_
                    refine v_ria hM ar_7 (by omega) (by omega) v1 dX10_count_317 ?_
                    refine v_i2l dX10_count_318 ⟨by omega, by omega⟩ ?_
                    refine v_lmul dX10_count_319 ?_
                    refine v_ladd dX10_count_320 ?_
                    refine v_rp 33 hM hF (flS_33 G _ _) fp_X10_246 rfl rfl (Nat.le_of_ble_eq_true rfl) dX10_count_321 (fun M hM hF => ?_)
                    refine v_aload_n dX10_count_324 rfl ?_
                    refine v_dup dX10_count_325 rfl ?_
                    refine v_rgj 34 hM ((upn_o (by decide)).trans ((upn_o (by decide)).trans ((upn_o (by decide)).trans ((upn_o (by decide)).trans ((upn_o (by decide)).trans ((upn_o (by decide)).trans rfl)))))) fl_X10_249 rfl dX10_count_326 ?_
                    refine v_lload dX10_count_329 rfl ?_
                    refine v_ladd dX10_count_331 ?_
                    refine v_rp 34 hM hF (flS_34 G _ _) fp_X10_249 rfl rfl (Nat.le_of_ble_eq_true rfl) dX10_count_332 (fun M hM hF => ?_)
                    refine v_iinc dX10_count_335 rfl (Nat.le_of_ble_eq_true rfl) ?_
                    refine v_goto (tgt := 2) dX10_count_338 (by decide) ?_
                    exact v_to (pst _ w _ hw hM hF (((((((xfr.rf.up (k := 28) (by decide)).up (k := 29) (by decide)).up (k := 31) (by decide)).up (k := 30) (by decide)).up (k := 32) (by decide)).up (k := 33) (by decide)).up (k := 34) (by decide)) rfl rfl (by first | exact ifp (by omega) | exact ifn (by omega)) (by first | exact ifp (by omega) | exact ifn (by omega)) (by first | exact if0 (by omega) | exact ifn (by omega)) (by first | exact if0 (by omega) | exact wn33p (by omega) (by omega) | exact wn33n (by omega) (by omega)) (by first | exact if0 (by omega) | exact wn34p (by omega) (by omega) | exact wn34n (by omega) (by omega))) rfl (sw_h1 rfl (sw_h1 rfl (sw_h1 rfl (sw_h1 rfl sw_h0))))
                  · skip
                    refine v_lload dX10_count_286 rfl ?_
                    refine v_ldc2 (z := 12) kl_X10_211 (by decide +kernel) dX10_count_288 ?_
                    refine v_aload_n dX10_count_291 rfl ?_
                    refine v_rgi 27 hM ((upn_o (by decide)).trans ((upn_o (by decide)).trans ((upn_o (by decide)).trans ((upn_o (by decide)).trans ((upn_o (by decide)).trans g27))))) fl_X10_205 rfl dX10_count_292 ?_
                    refine v_i2l dX10_count_295 ⟨by omega, by omega⟩ ?_
                    refine v_ldiv dX10_count_296 ⟨by omega, by omega⟩ ⟨by omega, by omega⟩ (by omega) ?_
                    rw [show (12 : Int).tdiv (rkb B le m).2.1 = 12 / (rkb B le m).2.1 from Int.tdiv_eq_ediv_of_nonneg (by omega)]
                    refine v_lmul dX10_count_297 ?_
                    refine v_goto (tgt := 302) dX10_count_298 (by decide) ?_
                    refine v_lstore dX10_count_302 (Nat.le_of_ble_eq_true rfl) ?_
                    refine v_aload_n dX10_count_304 rfl ?_
                    refine v_dup dX10_count_305 rfl ?_
                    refine v_rgj 33 hM ((upn_o (by decide)).trans ((upn_o (by decide)).trans ((upn_o (by decide)).trans ((upn_o (by decide)).trans ((upn_o (by decide)).trans rfl))))) fl_X10_246 rfl dX10_count_306 ?_
                    refine v_lload dX10_count_309 rfl ?_
                    refine v_aload_n dX10_count_311 rfl ?_
                    refine v_getfH 7 hM.1 fl_X10_19 rfl dX10_count_312 ?_
                    refine v_iload dX10_count_315 rfl ?_
                    refine v_ria hM ar_7 (by omega) (by omega) v1 dX10_count_317 ?_
                    refine v_i2l dX10_count_318 ⟨by omega, by omega⟩ ?_
                    refine v_lmul dX10_count_319 ?_
                    refine v_ladd dX10_count_320 ?_
                    refine v_rp 33 hM hF (flS_33 G _ _) fp_X10_246 rfl rfl (Nat.le_of_ble_eq_true rfl) dX10_count_321 (fun M hM hF => ?_)
                    refine v_aload_n dX10_count_324 rfl ?_
                    refine v_dup dX10_count_325 rfl ?_
                    refine v_rgj 34 hM ((upn_o (by decide)).trans ((upn_o (by decide)).trans ((upn_o (by decide)).trans ((upn_o (by decide)).trans ((upn_o (by decide)).trans ((upn_o (by decide)).trans rfl)))))) fl_X10_249 rfl dX10_count_326 ?_
                    refine v_lload dX10_count_329 rfl ?_
                    refine v_ladd dX10_count_331 ?_
                    refine v_rp 34 hM hF (flS_34 G _ _) fp_X10_249 rfl rfl (Nat.le_of_ble_eq_true rfl) dX10_count_332 (fun M hM hF => ?_)
                    refine v_iinc dX10_count_335 rfl (Nat.le_of_ble_eq_true rfl) ?_
                    refine v_goto (tgt := 2) dX10_count_338 (by decide) ?_
                    exact v_to (pst _ w _ hw hM hF (((((((xfr.rf.up (k := 28) (by decide)).up (k := 29) (by decide)).up (k := 31) (by decide)).up (k := 30) (by decide)).up (k := 32) (by decide)).up (k := 33) (by decide)).up (k := 34) (by decide)) rfl rfl (by first | exact ifp (by omega) | exact ifn (by omega)) (by first | exact ifp (by omega) | exact ifn (by omega)) (by first | exact if0 (by omega) | exact ifn (by omega)) (by first | exact if0 (by omega) | exact wn33p (by omega) (by omega) | exact wn33n (by omega) (by omega)) (by first | exact if0 (by omega) | exact wn34p (by omega) (by omega) | exact wn34n (by omega) (by omega))) rfl (sw_h1 rfl (sw_h1 rfl (sw_h1 rfl (sw_h1 rfl sw_h0))))
      have loop : ∀ off : Int, (kn = -1 ∧ off = 0 ∨ kn = t ∧ kn ≠ -1 ∧ off = 1) → ∀ (n2 j : Nat) (w i : Int), i = (j : Int) + off → (j : Int) + off + n2 = m → w = pwt σ (fun z => S (z + off)) (pS σ told) j t → V l G μX10_count sw_E0 (sw_Zq G μX10_count (sw_q0 G Zq)) 85 [(0, .ref (sw_al G 70)), (1, sw_i s), (2, sw_i told), (3, sw_i t), (4, sw_i (8 * s + t)), (5, sw_j w), (7, sw_i i)] [] M1 0 0 := by
        intro off hoff n2
        induction n2 with
        | zero =>
          intro j w i hi hj2 hw
          have hw' : w = cwt σ S kn told m t := by
            rw [hw]
            unfold cwt
            rcases hoff with ⟨h1, h2⟩ | ⟨h1, h2, h3⟩
            · subst h2
              rw [if_pos h1, show j = m by omega]
              exact pwt_congr (fun z _ => by show S ((z : Int) + 0) = S z; rw [Int.add_zero]) t
            · subst h3
              rw [if_neg h2, if_pos h1, show j = m - 1 by omega]
          refine v_iload dX10_count_85 rfl ?_
          refine v_aload_n dX10_count_87 rfl ?_
          refine v_rgi 21 hM g21 fl_X10_176 rfl dX10_count_88 ?_
          refine v_icmp_ge (tgt := 123) dX10_count_91 (by decide) ⟨by omega, by omega⟩ ⟨by omega, by omega⟩ (fun h91 => ?_) (fun h91 => ?_)
          · skip
            exact v_to (tail w i hw') rfl (sw_h1 rfl (sw_h1 rfl (sw_h1 rfl (sw_h1 rfl (sw_h1 rfl (sw_h1 rfl (sw_h1 rfl sw_h0)))))))
          · skip
            exfalso; omega
        | succ n2 ih2 =>
          intro j w i hi hj2 hw
          have i0 : 0 ≤ i ∧ i < (m : Int) := by omega
          have hSi := hS i.toNat (by omega)
          rw [show ((i.toNat : Nat) : Int) = i by omega] at hSi
          have hob := hOb t (S i) t0 (by omega) hSi.1 hSi.2
          refine v_iload dX10_count_85 rfl ?_
          refine v_aload_n dX10_count_87 rfl ?_
          refine v_rgi 21 hM g21 fl_X10_176 rfl dX10_count_88 ?_
          refine v_icmp_ge (tgt := 123) dX10_count_91 (by decide) ⟨by omega, by omega⟩ ⟨by omega, by omega⟩ (fun h91 => ?_) (fun h91 => ?_)
          · skip
            exfalso; omega
          · skip
            refine v_lload dX10_count_94 rfl ?_
            refine v_aload_n dX10_count_96 rfl ?_
            refine v_getfH 9 hM.1 fl_X10_25 rfl dX10_count_97 ?_
            refine v_iconst dX10_count_100 ?_
            refine v_iload dX10_count_101 rfl ?_
            refine v_imul dX10_count_103 ?_
            refine v_aload_n dX10_count_104 rfl ?_
            refine v_getfH 25 hM.1 fl_X10_52 rfl dX10_count_105 ?_
            refine v_iload dX10_count_108 rfl ?_
            refine v_ria hM ar_25 (by omega) (by omega) (hSa i i0.1 i0.2) dX10_count_110 ?_
            refine v_iadd dX10_count_111 ?_
            refine v_ria hM ar_9 (by omega) (by omega) (v3 (S i) hSi.1 hSi.2) dX10_count_112 ?_
            refine v_i2l dX10_count_113 ⟨by omega, by omega⟩ ?_
            refine v_lmul dX10_count_114 ?_
            refine v_lstore dX10_count_115 (Nat.le_of_ble_eq_true rfl) ?_
            refine v_iinc dX10_count_117 rfl (Nat.le_of_ble_eq_true rfl) ?_
            refine v_goto (tgt := 85) dX10_count_120 (by decide) ?_
            refine v_to (ih2 (j + 1) _ _ (by omega) (by omega) ?_) rfl (sw_h1 rfl (sw_h1 rfl (sw_h1 rfl (sw_h1 rfl (sw_h1 rfl (sw_h1 rfl (sw_h1 rfl sw_h0)))))))
            rw [hw, hi]; rfl
      have hps : pS σ told t = sW σ t * see σ t told := rfl
      have hse := see_bd hwf t0 (show t < sTr σ by omega) told
      have hob2 : 0 ≤ told → told < sSg σ → 0 ≤ sO σ (t * 5 + told) ∧ sO σ (t * 5 + told) ≤ 10 := fun h0 h1 => by have := hOb t told t0 (by omega) h0 h1; omega
      have hse1 : told = -1 → see σ t told = 1 := fun h => if_neg (by omega)
      have hse2 : 0 ≤ told → told < sSg σ → see σ t told = sO σ (t * 5 + told) := fun h0 h1 => if_pos ⟨h0, h1⟩
      unfold soN at hto
      have inner : V l G μX10_count sw_E0 (sw_Zq G μX10_count (sw_q0 G Zq)) 2 [(0, .ref (sw_al G 70)), (1, sw_i s), (2, sw_i told), (3, sw_i t)] [] M1 0 0 := by
        refine v_iload_n dX10_count_2 rfl ?_
        refine v_aload_n dX10_count_3 rfl ?_
        refine v_getfH 6 hM.1 fl_X10_16 rfl dX10_count_4 ?_
        refine v_iload_n dX10_count_7 rfl ?_
        refine v_ria hM ar_6 (by omega) (by omega) q6 dX10_count_8 ?_
        refine v_icmp_ge (tgt := 341) dX10_count_9 (by decide) ⟨by omega, by omega⟩ ⟨by omega, by omega⟩ (fun h9 => ?_) (fun h9 => ?_)
        · skip
          exfalso; omega
        · skip
          refine v_bipush dX10_count_12 (by decide +kernel) ?_
          refine v_iload_n dX10_count_14 rfl ?_
          refine v_imul dX10_count_15 ?_
          refine v_iload_n dX10_count_16 rfl ?_
          refine v_iadd dX10_count_17 ?_
          refine v_istore dX10_count_18 (Nat.le_of_ble_eq_true rfl) ?_
          refine v_aload_n dX10_count_20 rfl ?_
          refine v_rgi 38 hM g38 fl_X10_225 rfl dX10_count_21 ?_
          refine v_iconst dX10_count_24 ?_
          refine v_icmp_eq (tgt := 39) dX10_count_25 (by decide) ⟨by omega, by omega⟩ ⟨by omega, by omega⟩ (fun h25 => ?_) (fun h25 => ?_)
          · skip
            refine v_aload_n dX10_count_39 rfl ?_
            refine v_getfH 8 hM.1 fl_X10_22 rfl dX10_count_40 ?_
            refine v_iload dX10_count_43 rfl ?_
            refine v_ria hM ar_8 (by omega) (by omega) v2 dX10_count_45 ?_
            refine v_iload_n dX10_count_46 rfl ?_
            refine v_iconst dX10_count_47 ?_
            refine v_icmp_ne (tgt := 55) dX10_count_48 (by decide) ⟨by omega, by omega⟩ ⟨by omega, by omega⟩ (fun h48 => ?_) (fun h48 => ?_)
            · skip
              have hob3 := hob2 (by omega) (by omega)
              have hbm := mul_bd (A := 9) (B := 10) (show 0 ≤ sW σ t ∧ sW σ t ≤ 9 by omega) hob3
              refine v_aload_n dX10_count_55 rfl ?_
              refine v_getfH 9 hM.1 fl_X10_25 rfl dX10_count_56 ?_
              refine v_iconst dX10_count_59 ?_
              refine v_iload dX10_count_60 rfl ?_
              refine v_imul dX10_count_62 ?_
              refine v_iload_n dX10_count_63 rfl ?_
              refine v_iadd dX10_count_64 ?_
              refine v_ria hM ar_9 (by omega) (by omega) (v3 told (by omega) (by omega)) dX10_count_65 ?_
              refine v_imul dX10_count_66 ?_
              refine v_i2l dX10_count_67 ⟨by omega, by omega⟩ ?_
              refine v_lstore dX10_count_68 (Nat.le_of_ble_eq_true rfl) ?_
              refine v_aload_n dX10_count_70 rfl ?_
              refine v_rgi 38 hM g38 fl_X10_225 rfl dX10_count_71 ?_
              refine v_iconst dX10_count_74 ?_
              refine v_icmp_ne (tgt := 82) dX10_count_75 (by decide) ⟨by omega, by omega⟩ ⟨by omega, by omega⟩ (fun h75 => ?_) (fun h75 => ?_)
              · skip
                refine v_iconst dX10_count_82 ?_
                refine v_istore dX10_count_83 (Nat.le_of_ble_eq_true rfl) ?_
                refine v_to (loop (if kn = -1 then 0 else 1) (by split <;> omega) (if kn = -1 then m else m - 1) 0 _ _ ?_ (by split <;> omega) ?_) rfl (sw_h1 rfl (sw_h1 rfl (sw_h1 rfl (sw_h1 rfl (sw_h1 rfl (sw_h1 rfl (sw_h1 rfl sw_h0)))))))
                · first | rw [if_pos (by omega)]; rfl | rw [if_neg (by omega)]; rfl
                · show _ = pS σ told t
                  rw [hps, hse2 (by omega) (by omega)]
              · skip
                refine v_iconst dX10_count_78 ?_
                refine v_goto (tgt := 83) dX10_count_79 (by decide) ?_
                refine v_istore dX10_count_83 (Nat.le_of_ble_eq_true rfl) ?_
                refine v_to (loop (if kn = -1 then 0 else 1) (by split <;> omega) (if kn = -1 then m else m - 1) 0 _ _ ?_ (by split <;> omega) ?_) rfl (sw_h1 rfl (sw_h1 rfl (sw_h1 rfl (sw_h1 rfl (sw_h1 rfl (sw_h1 rfl (sw_h1 rfl sw_h0)))))))
                · first | rw [if_pos (by omega)]; rfl | rw [if_neg (by omega)]; rfl
                · show _ = pS σ told t
                  rw [hps, hse2 (by omega) (by omega)]
            · skip
              refine v_iconst dX10_count_51 ?_
              refine v_goto (tgt := 66) dX10_count_52 (by decide) ?_
              refine v_imul dX10_count_66 ?_
              refine v_i2l dX10_count_67 ⟨by omega, by omega⟩ ?_
              refine v_lstore dX10_count_68 (Nat.le_of_ble_eq_true rfl) ?_
              refine v_aload_n dX10_count_70 rfl ?_
              refine v_rgi 38 hM g38 fl_X10_225 rfl dX10_count_71 ?_
              refine v_iconst dX10_count_74 ?_
              refine v_icmp_ne (tgt := 82) dX10_count_75 (by decide) ⟨by omega, by omega⟩ ⟨by omega, by omega⟩ (fun h75 => ?_) (fun h75 => ?_)
              · skip
                refine v_iconst dX10_count_82 ?_
                refine v_istore dX10_count_83 (Nat.le_of_ble_eq_true rfl) ?_
                refine v_to (loop (if kn = -1 then 0 else 1) (by split <;> omega) (if kn = -1 then m else m - 1) 0 _ _ ?_ (by split <;> omega) ?_) rfl (sw_h1 rfl (sw_h1 rfl (sw_h1 rfl (sw_h1 rfl (sw_h1 rfl (sw_h1 rfl (sw_h1 rfl sw_h0)))))))
                · first | rw [if_pos (by omega)]; rfl | rw [if_neg (by omega)]; rfl
                · show _ = pS σ told t
                  rw [hps, hse1 (by omega)]
              · skip
                refine v_iconst dX10_count_78 ?_
                refine v_goto (tgt := 83) dX10_count_79 (by decide) ?_
                refine v_istore dX10_count_83 (Nat.le_of_ble_eq_true rfl) ?_
                refine v_to (loop (if kn = -1 then 0 else 1) (by split <;> omega) (if kn = -1 then m else m - 1) 0 _ _ ?_ (by split <;> omega) ?_) rfl (sw_h1 rfl (sw_h1 rfl (sw_h1 rfl (sw_h1 rfl (sw_h1 rfl (sw_h1 rfl (sw_h1 rfl sw_h0)))))))
                · first | rw [if_pos (by omega)]; rfl | rw [if_neg (by omega)]; rfl
                · show _ = pS σ told t
                  rw [hps, hse1 (by omega)]
          · skip
            refine v_aload_n dX10_count_28 rfl ?_
            refine v_rgi 38 hM g38 fl_X10_225 rfl dX10_count_29 ?_
            refine v_iload_n dX10_count_32 rfl ?_
            refine v_icmp_eq (tgt := 39) dX10_count_33 (by decide) ⟨by omega, by omega⟩ ⟨by omega, by omega⟩ (fun h33 => ?_) (fun h33 => ?_)
            · skip
              refine v_aload_n dX10_count_39 rfl ?_
              refine v_getfH 8 hM.1 fl_X10_22 rfl dX10_count_40 ?_
              refine v_iload dX10_count_43 rfl ?_
              refine v_ria hM ar_8 (by omega) (by omega) v2 dX10_count_45 ?_
              refine v_iload_n dX10_count_46 rfl ?_
              refine v_iconst dX10_count_47 ?_
              refine v_icmp_ne (tgt := 55) dX10_count_48 (by decide) ⟨by omega, by omega⟩ ⟨by omega, by omega⟩ (fun h48 => ?_) (fun h48 => ?_)
              · skip
                have hob3 := hob2 (by omega) (by omega)
                have hbm := mul_bd (A := 9) (B := 10) (show 0 ≤ sW σ t ∧ sW σ t ≤ 9 by omega) hob3
                refine v_aload_n dX10_count_55 rfl ?_
                refine v_getfH 9 hM.1 fl_X10_25 rfl dX10_count_56 ?_
                refine v_iconst dX10_count_59 ?_
                refine v_iload dX10_count_60 rfl ?_
                refine v_imul dX10_count_62 ?_
                refine v_iload_n dX10_count_63 rfl ?_
                refine v_iadd dX10_count_64 ?_
                refine v_ria hM ar_9 (by omega) (by omega) (v3 told (by omega) (by omega)) dX10_count_65 ?_
                refine v_imul dX10_count_66 ?_
                refine v_i2l dX10_count_67 ⟨by omega, by omega⟩ ?_
                refine v_lstore dX10_count_68 (Nat.le_of_ble_eq_true rfl) ?_
                refine v_aload_n dX10_count_70 rfl ?_
                refine v_rgi 38 hM g38 fl_X10_225 rfl dX10_count_71 ?_
                refine v_iconst dX10_count_74 ?_
                refine v_icmp_ne (tgt := 82) dX10_count_75 (by decide) ⟨by omega, by omega⟩ ⟨by omega, by omega⟩ (fun h75 => ?_) (fun h75 => ?_)
                · skip
                  refine v_iconst dX10_count_82 ?_
                  refine v_istore dX10_count_83 (Nat.le_of_ble_eq_true rfl) ?_
                  refine v_to (loop (if kn = -1 then 0 else 1) (by split <;> omega) (if kn = -1 then m else m - 1) 0 _ _ ?_ (by split <;> omega) ?_) rfl (sw_h1 rfl (sw_h1 rfl (sw_h1 rfl (sw_h1 rfl (sw_h1 rfl (sw_h1 rfl (sw_h1 rfl sw_h0)))))))
                  · first | rw [if_pos (by omega)]; rfl | rw [if_neg (by omega)]; rfl
                  · show _ = pS σ told t
                    rw [hps, hse2 (by omega) (by omega)]
                · skip
                  refine v_iconst dX10_count_78 ?_
                  refine v_goto (tgt := 83) dX10_count_79 (by decide) ?_
                  refine v_istore dX10_count_83 (Nat.le_of_ble_eq_true rfl) ?_
                  refine v_to (loop (if kn = -1 then 0 else 1) (by split <;> omega) (if kn = -1 then m else m - 1) 0 _ _ ?_ (by split <;> omega) ?_) rfl (sw_h1 rfl (sw_h1 rfl (sw_h1 rfl (sw_h1 rfl (sw_h1 rfl (sw_h1 rfl (sw_h1 rfl sw_h0)))))))
                  · first | rw [if_pos (by omega)]; rfl | rw [if_neg (by omega)]; rfl
                  · show _ = pS σ told t
                    rw [hps, hse2 (by omega) (by omega)]
              · skip
                refine v_iconst dX10_count_51 ?_
                refine v_goto (tgt := 66) dX10_count_52 (by decide) ?_
                refine v_imul dX10_count_66 ?_
                refine v_i2l dX10_count_67 ⟨by omega, by omega⟩ ?_
                refine v_lstore dX10_count_68 (Nat.le_of_ble_eq_true rfl) ?_
                refine v_aload_n dX10_count_70 rfl ?_
                refine v_rgi 38 hM g38 fl_X10_225 rfl dX10_count_71 ?_
                refine v_iconst dX10_count_74 ?_
                refine v_icmp_ne (tgt := 82) dX10_count_75 (by decide) ⟨by omega, by omega⟩ ⟨by omega, by omega⟩ (fun h75 => ?_) (fun h75 => ?_)
                · skip
                  refine v_iconst dX10_count_82 ?_
                  refine v_istore dX10_count_83 (Nat.le_of_ble_eq_true rfl) ?_
                  refine v_to (loop (if kn = -1 then 0 else 1) (by split <;> omega) (if kn = -1 then m else m - 1) 0 _ _ ?_ (by split <;> omega) ?_) rfl (sw_h1 rfl (sw_h1 rfl (sw_h1 rfl (sw_h1 rfl (sw_h1 rfl (sw_h1 rfl (sw_h1 rfl sw_h0)))))))
                  · first | rw [if_pos (by omega)]; rfl | rw [if_neg (by omega)]; rfl
                  · show _ = pS σ told t
                    rw [hps, hse1 (by omega)]
                · skip
                  refine v_iconst dX10_count_78 ?_
                  refine v_goto (tgt := 83) dX10_count_79 (by decide) ?_
                  refine v_istore dX10_count_83 (Nat.le_of_ble_eq_true rfl) ?_
                  refine v_to (loop (if kn = -1 then 0 else 1) (by split <;> omega) (if kn = -1 then m else m - 1) 0 _ _ ?_ (by split <;> omega) ?_) rfl (sw_h1 rfl (sw_h1 rfl (sw_h1 rfl (sw_h1 rfl (sw_h1 rfl (sw_h1 rfl (sw_h1 rfl sw_h0)))))))
                  · first | rw [if_pos (by omega)]; rfl | rw [if_neg (by omega)]; rfl
                  · show _ = pS σ told t
                    rw [hps, hse1 (by omega)]
            · skip
              refine v_goto (tgt := 335) dX10_count_36 (by decide) ?_
              refine v_iinc dX10_count_335 rfl (Nat.le_of_ble_eq_true rfl) ?_
              refine v_goto (tgt := 2) dX10_count_338 (by decide) ?_
              exact v_to (nxt x1 _ hM hF xfr.rf (fun j j0 j1 => by rw [show cwt σ S kn told m t = 0 from by unfold cwt; rw [if_neg (by omega), if_neg (by omega)], cnD_0]; omega)) rfl (sw_h1 rfl (sw_h1 rfl (sw_h1 rfl (sw_h1 rfl sw_h0))))
      exact inner
  refine v_iconst dX10_count_0 ?_
  refine v_istore_n dX10_count_1 (Nat.le_of_ble_eq_true rfl) ?_
  exact v_to (outer (sTr σ).toNat 0 x M [] (by omega) (by omega) hM hF xfr.rf (fun j _ _ => by show _ = x j + 0; omega)) rfl (sw_h1 rfl (sw_h1 rfl (sw_h1 rfl (sw_h1 rfl sw_h0))))
end

