/-! the law: its loop -/
section
variable {l : Launch} {b L : Nat} {xs : Nat → Int32}
theorem law_loop (hlf : l.stackTraces = false) (hL : L ≤ 3584) : ∀ (n : Nat) (i : Int) (G : sw_G) (M : sw_M) (s : CSt) (uc us : Nat), 0 ≤ i → i ≤ 3600 → (L : Int) ≤ i + 7 * n → 7 * (uc : Int) ≤ 700 + 6 * i → 7 * (us : Int) ≤ 28000 + 80 * i → LI G M s → V l G μL (sw_EL b L xs) ZL 23 (LV G b i) [] M uc us := by
  intro n
  induction n with
  | zero =>
    intro i G M s uc us i0 i1 hn h1 h2 hLI
    refine v_iload dL_law_23 rfl ?_
    refine v_aload_n dL_law_25 rfl ?_
    refine v_slen (fun _ _ h => h) dL_law_26 ?_
    refine v_bipush dL_law_27 (by decide +kernel) ?_
    refine v_isub dL_law_29 ?_
    refine v_icmp_gt (tgt := 1594) dL_law_30 (by decide) ⟨by omega, by omega⟩ ⟨by omega, by omega⟩ (fun h30 => ?_) (fun h30 => ?_)
    · refine v_iconst dL_law_1594 ?_
      exact v_lawret (by omega) (by omega) dL_law_1595
    · exfalso; omega
  | succ n ih =>
    intro i G M s uc us i0 i1 hn h1 h2 hLI
    refine v_iload dL_law_23 rfl ?_
    refine v_aload_n dL_law_25 rfl ?_
    refine v_slen (fun _ _ h => h) dL_law_26 ?_
    refine v_bipush dL_law_27 (by decide +kernel) ?_
    refine v_isub dL_law_29 ?_
    refine v_icmp_gt (tgt := 1594) dL_law_30 (by decide) ⟨by omega, by omega⟩ ⟨by omega, by omega⟩ (fun h30 => ?_) (fun h30 => ?_)
    · refine v_iconst dL_law_1594 ?_
      exact v_lawret (by omega) (by omega) dL_law_1595
    · have hi1 : i + 7 ≤ (L : Int) := by omega
      have hu : uc + 6 ≤ 601024 := by omega
      have hv : us + 80 ≤ 7293034 := by omega
      have K : KK l b L xs i uc us := fun G' M' s' uc' us' hu' hv' hLI' => by
        refine v_iinc dL_law_1588 rfl (Nat.le_of_ble_eq_true rfl) ?_
        refine v_goto (tgt := 23) dL_law_1591 (by decide) ?_
        exact v_sub (sw_h1 rfl (sw_h1 rfl (sw_h1 rfl (sw_h1 rfl (sw_h1 rfl sw_h0))))) (ih (i + 7) G' M' s' uc' us' (by omega) (by omega) (by omega) (by omega) (by omega) hLI')
      refine v_aload_n dL_law_33 rfl ?_
      refine v_iload dL_law_34 rfl ?_
      refine v_sld (fun _ _ h => h) hL (by omega) (by omega) dL_law_36 ?_
      refine v_bipush dL_law_37 (by decide +kernel) ?_
      obtain ⟨z, hz, z0, z31⟩ := and31 (iN (xq xs i))
      refine v_iand dL_law_39 hz ?_
      clear hz ih
      have hc : z = 0 ∨ z = 1 ∨ z = 2 ∨ z = 3 ∨ z = 4 ∨ z = 5 ∨ z = 6 ∨ z = 7 ∨ z = 8 ∨ z = 9 ∨ z = 10 ∨ z = 11 ∨ z = 12 ∨ z = 13 ∨ z = 14 ∨ z = 15 ∨ z = 16 ∨ z = 17 ∨ z = 18 ∨ z = 19 ∨ z = 20 ∨ z = 21 ∨ z = 22 ∨ z = 23 ∨ z = 24 ∨ z = 25 ∨ z = 26 ∨ z = 27 ∨ z = 28 ∨ z = 29 ∨ z = 30 ∨ z = 31 := by omega
      rcases hc with rfl | rfl | rfl | rfl | rfl | rfl | rfl | rfl | rfl | rfl | rfl | rfl | rfl | rfl | rfl | rfl | rfl | rfl | rfl | rfl | rfl | rfl | rfl | rfl | rfl | rfl | rfl | rfl | rfl | rfl | rfl | rfl
      · exact v_tabIn (tgt := 184) dL_law_40 ⟨by omega, by omega⟩ (by omega) (by omega) rfl (by decide) (law_feed hLI i0 hi1 hL hu hv K)
      · exact v_tabIn (tgt := 257) dL_law_40 ⟨by omega, by omega⟩ (by omega) (by omega) rfl (by decide) (law_end hLI i0 hi1 hL hu hv K)
      · exact v_tabIn (tgt := 282) dL_law_40 ⟨by omega, by omega⟩ (by omega) (by omega) rfl (by decide) (law_fault hLI i0 hi1 hL hu hv K)
      · exact v_tabIn (tgt := 295) dL_law_40 ⟨by omega, by omega⟩ (by omega) (by omega) rfl (by decide) (law_sale hLI i0 hi1 hL hu hv K)
      · exact v_tabIn (tgt := 308) dL_law_40 ⟨by omega, by omega⟩ (by omega) (by omega) rfl (by decide) (law_told hLI i0 hi1 hL hu hv K)
      · exact v_tabIn (tgt := 345) dL_law_40 ⟨by omega, by omega⟩ (by omega) (by omega) rfl (by decide) (law_truth hlf hLI i0 hi1 hL hu hv K)
      · exact v_tabIn (tgt := 425) dL_law_40 ⟨by omega, by omega⟩ (by omega) (by omega) rfl (by decide) (law_change hLI i0 hi1 hL hu hv K)
      · exact v_tabIn (tgt := 474) dL_law_40 ⟨by omega, by omega⟩ (by omega) (by omega) rfl (by decide) (law_worth hLI i0 hi1 hL hu hv K)
      · exact v_tabIn (tgt := 561) dL_law_40 ⟨by omega, by omega⟩ (by omega) (by omega) rfl (by decide) (law_table hLI i0 hi1 hL hu hv K)
      · exact v_tabIn (tgt := 574) dL_law_40 ⟨by omega, by omega⟩ (by omega) (by omega) rfl (by decide) (law_bid hLI i0 hi1 hL hu hv K)
      · exact v_tabIn (tgt := 623) dL_law_40 ⟨by omega, by omega⟩ (by omega) (by omega) rfl (by decide) (law_seat hLI i0 hi1 hL hu hv K)
      · exact v_tabIn (tgt := 672) dL_law_40 ⟨by omega, by omega⟩ (by omega) (by omega) rfl (by decide) (law_bids hLI i0 hi1 hL hu hv K)
      · exact v_tabIn (tgt := 721) dL_law_40 ⟨by omega, by omega⟩ (by omega) (by omega) rfl (by decide) (law_cases hLI i0 hi1 hL hu hv K)
      · exact v_tabIn (tgt := 759) dL_law_40 ⟨by omega, by omega⟩ (by omega) (by omega) rfl (by decide) (law_gain hLI i0 hi1 hL hu hv K)
      · exact v_tabIn (tgt := 797) dL_law_40 ⟨by omega, by omega⟩ (by omega) (by omega) rfl (by decide) (law_won hLI i0 hi1 hL hu hv K)
      · exact v_tabIn (tgt := 859) dL_law_40 ⟨by omega, by omega⟩ (by omega) (by omega) rfl (by decide) (law_less hLI i0 hi1 hL hu hv K)
      · exact v_tabIn (tgt := 921) dL_law_40 ⟨by omega, by omega⟩ (by omega) (by omega) rfl (by decide) (law_best hLI i0 hi1 hL hu hv K)
      · exact v_tabIn (tgt := 970) dL_law_40 ⟨by omega, by omega⟩ (by omega) (by omega) rfl (by decide) (law_judge hLI i0 hi1 hL hu hv K)
      · exact v_tabIn (tgt := 995) dL_law_40 ⟨by omega, by omega⟩ (by omega) (by omega) rfl (by decide) (law_find hLI i0 hi1 hL hu hv K)
      · exact v_tabIn (tgt := 1032) dL_law_40 ⟨by omega, by omega⟩ (by omega) (by omega) rfl (by decide) (law_by hLI i0 hi1 hL hu hv K)
      · exact v_tabIn (tgt := 1110) dL_law_40 ⟨by omega, by omega⟩ (by omega) (by omega) rfl (by decide) (law_bar hLI i0 hi1 hL hu hv K)
      · exact v_tabIn (tgt := 1163) dL_law_40 ⟨by omega, by omega⟩ (by omega) (by omega) rfl (by decide) (law_telling hLI i0 hi1 hL hu hv K)
      · exact v_tabIn (tgt := 1189) dL_law_40 ⟨by omega, by omega⟩ (by omega) (by omega) rfl (by decide) (law_near hLI i0 hi1 hL hu hv K)
      · exact v_tabIn (tgt := 1226) dL_law_40 ⟨by omega, by omega⟩ (by omega) (by omega) rfl (by decide) (law_nearGain hLI i0 hi1 hL hu hv K)
      · exact v_tabIn (tgt := 1252) dL_law_40 ⟨by omega, by omega⟩ (by omega) (by omega) rfl (by decide) (law_asOne hLI i0 hi1 hL hu hv K)
      · exact v_tabIn (tgt := 1278) dL_law_40 ⟨by omega, by omega⟩ (by omega) (by omega) rfl (by decide) (law_lay hLI i0 hi1 hL hu hv K)
      · exact v_tabIn (tgt := 1315) dL_law_40 ⟨by omega, by omega⟩ (by omega) (by omega) rfl (by decide) (law_open hLI i0 hi1 hL hu hv K)
      · exact v_tabIn (tgt := 1352) dL_law_40 ⟨by omega, by omega⟩ (by omega) (by omega) rfl (by decide) (law_leaves hLI i0 hi1 hL hu hv K)
      · exact v_tabIn (tgt := 1401) dL_law_40 ⟨by omega, by omega⟩ (by omega) (by omega) rfl (by decide) (law_learn hLI i0 hi1 hL hu hv K)
      · exact v_tabIn (tgt := 1482) dL_law_40 ⟨by omega, by omega⟩ (by omega) (by omega) rfl (by decide) (law_learned hlf hLI i0 hi1 hL hu hv K)
      · exact v_tabIn (tgt := 1550) dL_law_40 ⟨by omega, by omega⟩ (by omega) (by omega) rfl (by decide) (law_got hLI i0 hi1 hL hu hv K)
      · exact v_tabIn (tgt := 1563) dL_law_40 ⟨by omega, by omega⟩ (by omega) (by omega) rfl (by decide) (law_count hLI i0 hi1 hL hu hv K)
end

