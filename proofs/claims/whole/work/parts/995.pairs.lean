/-! one call of the class and one of the reference: the same answer, the same state behind it -/
def PR (l : Launch) (G : sw_G) (μ9 μ10 : sw_Mt) (A : List Value) (cv : Int → Value) (M : sw_M) (s : CSt) : Prop := Kt l G μ9 (.ref (sw_al G 0) :: A) M (fun r M' => ∃ (z : Int) (s' : CSt), stOK s' ∧ r = some (cv z) ∧ InvC G M' s' ∧ frC M M' ∧ ∀ M2 : sw_M, InvR G M2 s → Kt l G μ10 (.ref (sw_al G 70) :: A) M2 (fun r M2' => r = some (cv z) ∧ InvR G M2' s' ∧ frR M2 M2'))
section
variable {l : Launch} {G : sw_G} {μ9 μ10 : sw_Mt} {A : List Value} {cv : Int → Value} {M : sw_M} {s s' : CSt} {z : Int}
theorem PR.mk (hs' : stOK s') (h9 : Kt l G μ9 (.ref (sw_al G 0) :: A) M (fun r M' => r = some (cv z) ∧ InvC G M' s' ∧ frC M M')) (h10 : ∀ M2 : sw_M, InvR G M2 s → Kt l G μ10 (.ref (sw_al G 70) :: A) M2 (fun r M2' => r = some (cv z) ∧ InvR G M2' s' ∧ frR M2 M2')) : PR l G μ9 μ10 A cv M s := h9.mono (fun _ _ h => ⟨z, s', hs', h.1, h.2.1, h.2.2, h10⟩)
end
section
variable {l : Launch} {G : sw_G} {M : sw_M} {s : CSt} {k : Int}
theorem pr_feed {a b c d e : Int} (hI : InvC G M s) (hs : stOK s) (g0 : sw_rg a) (g1 : sw_rg b) (g2 : sw_rg c) (g3 : sw_rg d) (g4 : sw_rg e) : PR l G μX9_feed μX10_feed [sw_i a, sw_i b, sw_i c, sw_i d, sw_i e] sw_i M s := by
  refine PR.mk ?_ (F9_feed hI hs) (fun M2 h2 => R9_feed h2 hs)
  by_cases h : 240 < qL s + (cnt4 a 4 + cnt4 b 4 + cnt4 c 4 + cnt4 d 4 + cnt4 e 4)
  · rw [if_pos h]; exact hs
  · rw [if_neg h]; exact stOK.sF hs (fd5_wf hs h)
theorem pr_end {n : Int} (hI : InvC G M s) (hs : stOK s) (g0 : sw_rg n) : PR l G μX9_end μX10_end [sw_i n] sw_i M s := by
  by_cases hn : 0 ≤ n ∧ n ≤ qL s
  · exact PR.mk (stOK.sF hs ⟨hn.1, Int.le_trans hn.2 hs.1.2.1, fun i i0 i1 => hs.1.2.2 i i0 (Int.lt_of_lt_of_le i1 hn.2)⟩) (F9_end hI hs hn) (fun M2 h2 => R9_end h2 hs hn)
  · exact PR.mk hs (F9_endX hI hs hn g0) (fun M2 h2 => R9_endX h2 hs hn g0)
theorem pr_fault (hI : InvC G M s) (hs : stOK s)  : PR l G μX9_fault μX10_fault [] sw_i M s := by
  refine (F9_fault hI hs).mono (fun r M' h => ?_)
  obtain ⟨Va, Wa, Oa, St, rfl, h1, h2⟩ := h
  exact ⟨_, s, hs, rfl, h1, h2, fun M2 h3 => R9_fault Va Wa Oa St h3 hs⟩
theorem pr_told {w : Int} (hI : InvC G M s) (hs : stOK s) (g0 : sw_rg k) (g1 : sw_rg w) : PR l G μX9_told μX10_told [sw_i k, sw_i w] sw_i M s := by
  by_cases hk : isS s k
  · exact PR.mk hs (F9_told hI hs hk g1) (fun M2 h2 => R9_told h2 hs hk g1)
  · exact PR.mk hs (F9_toldN hI hs hk g0) (fun M2 h2 => R9_toldN h2 hs hk g0)
theorem pr_change {what v : Int} (hI : InvC G M s) (hs : stOK s) (g0 : sw_rg k) (g1 : sw_rg what) (g2 : sw_rg v) : PR l G μX9_change μX10_change [sw_i k, sw_i what, sw_i v] sw_i M s := by
  by_cases hk : isS s k
  · by_cases hc : chOK what v
    · exact PR.mk (ok_change hs hk hc) (F9_change hI hs hk g1 g2 hc) (fun M2 h2 => R9_change h2 hs hk g1 g2 hc)
    · exact PR.mk hs (F9_changeX hI hs hk g1 g2 hc) (fun M2 h2 => R9_changeX h2 hs hk g1 g2 hc)
  · exact PR.mk hs (F9_changeN hI hs hk g0) (fun M2 h2 => R9_changeN h2 hs hk g0)
theorem pr_worth {a b c d what : Int} (hI : InvC G M s) (hs : stOK s) (g0 : sw_rg k) (g1 : sw_rg a) (g2 : sw_rg b) (g3 : sw_rg c) (g4 : sw_rg d) (g5 : sw_rg what) : PR l G μX9_worth μX10_worth [sw_i k, sw_i a, sw_i b, sw_i c, sw_i d, sw_i what] sw_i M s := by
  by_cases hk : isS s k
  · by_cases hc : woP (sl s k) a b c d what
    · exact PR.mk hs (F9_worth hI hs hk g1 g2 g3 g4 g5 hc) (fun M2 h2 => R9_worth h2 hs hk g1 g2 g3 g4 g5 hc)
    · exact PR.mk hs (F9_worthX hI hs hk g1 g2 g3 g4 g5 hc) (fun M2 h2 => R9_worthX h2 hs hk g1 g2 g3 g4 g5 hc)
  · exact PR.mk hs (F9_worthN hI hs hk g0) (fun M2 h2 => R9_worthN h2 hs hk g0)
theorem pr_table (hI : InvC G M s) (hs : stOK s)  : PR l G μX9_table μX10_table [] sw_i M s := by
  refine PR.mk ?_ (F9_table hI hs) (fun M2 h2 => R9_table h2 hs)
  by_cases h : qT s < 10
  · rw [if_pos h]; exact stOK.sQ hs (by omega) (by omega)
  · rw [if_neg h]; exact hs
theorem pr_bid {table sign v : Int} (hI : InvC G M s) (hs : stOK s) (g0 : sw_rg table) (g1 : sw_rg sign) (g2 : sw_rg v) : PR l G μX9_bid μX10_bid [sw_i table, sw_i sign, sw_i v] sw_i M s := by
  by_cases hc : ((0 ≤ table ∧ table < qT s) ∧ (0 ≤ sign ∧ sign < 5) ∧ 0 ≤ v ∧ v ≤ 60)
  · exact PR.mk (ok_bid hs hc.2.2) (F9_bid hI hs hc) (fun M2 h2 => R9_bid h2 hs hc)
  · exact PR.mk hs (F9_bidX hI hs hc g0 g1 g2) (fun M2 h2 => R9_bidX h2 hs hc g0 g1 g2)
theorem pr_seat {seat table : Int} (hI : InvC G M s) (hs : stOK s) (g0 : sw_rg k) (g1 : sw_rg seat) (g2 : sw_rg table) : PR l G μX9_seat μX10_seat [sw_i k, sw_i seat, sw_i table] sw_i M s := by
  by_cases hk : isS s k
  · by_cases hc : ((0 ≤ seat ∧ seat < 4) ∧ -2 ≤ table ∧ table < qT s)
    · exact PR.mk (ok_seat hs hk hc) (F9_seat hI hs hk hc) (fun M2 h2 => R9_seat h2 hs hk hc)
    · exact PR.mk hs (F9_seatX hI hs hk hc g1 g2) (fun M2 h2 => R9_seatX h2 hs hk hc g1 g2)
  · exact PR.mk hs (F9_seatN hI hs hk g0) (fun M2 h2 => R9_seatN h2 hs hk g0)
theorem pr_bids {seat sign : Int} (hI : InvC G M s) (hs : stOK s) (g0 : sw_rg k) (g1 : sw_rg seat) (g2 : sw_rg sign) : PR l G μX9_bids μX10_bids [sw_i k, sw_i seat, sw_i sign] sw_i M s := by
  by_cases hk : isS s k
  · exact PR.mk hs (F9_bids hI hs hk g1 g2) (fun M2 h2 => R9_bids h2 hs hk g1 g2)
  · exact PR.mk hs (F9_bidsN hI hs hk g0) (fun M2 h2 => R9_bidsN h2 hs hk g0 g1)
theorem pr_cases {w : Int} (hI : InvC G M s) (hs : stOK s) (g0 : sw_rg k) (g1 : sw_rg w) : PR l G μX9_cases μX10_cases [sw_i k, sw_i w] sw_j M s := by
  by_cases hk : isS s k
  · exact PR.mk hs (F9_cases hI hs hk g1) (fun M2 h2 => R9_cases h2 hs hk g1)
  · exact PR.mk hs (F9_casesN hI hs hk g0) (fun M2 h2 => R9_casesN h2 hs hk g0)
theorem pr_gain {seat : Int} (hI : InvC G M s) (hs : stOK s) (g0 : sw_rg k) (g1 : sw_rg seat) : PR l G μX9_gain μX10_gain [sw_i k, sw_i seat] sw_j M s := by
  by_cases hk : isS s k
  · exact PR.mk hs (F9_gain hI hs hk g1) (fun M2 h2 => R9_gain h2 hs hk g1)
  · exact PR.mk hs (F9_gainN hI hs hk g0) (fun M2 h2 => R9_gainN h2 hs hk g0 g1)
theorem pr_won {seat sign what : Int} (hI : InvC G M s) (hs : stOK s) (g0 : sw_rg k) (g1 : sw_rg seat) (g2 : sw_rg sign) (g3 : sw_rg what) : PR l G μX9_won μX10_won [sw_i k, sw_i seat, sw_i sign, sw_i what] sw_j M s := by
  by_cases hk : isS s k
  · by_cases hp : winP (sl s k) (qT s) (qB s) seat sign what
    · exact PR.mk hs (F9_won hI hs hk hp) (fun M2 h2 => R9_won h2 hs hk hp)
    · exact PR.mk hs (F9_wonX hI hs hk hp g1 g2 g3) (fun M2 h2 => R9_wonX h2 hs g0 (fun q => hp q.2) g1 g2 g3)
  · exact PR.mk hs (F9_wonN hI hs hk g0) (fun M2 h2 => R9_wonX h2 hs g0 (fun q => hk q.1) g1 g2 g3)
theorem pr_less {seat sign what : Int} (hI : InvC G M s) (hs : stOK s) (g0 : sw_rg k) (g1 : sw_rg seat) (g2 : sw_rg sign) (g3 : sw_rg what) : PR l G μX9_less μX10_less [sw_i k, sw_i seat, sw_i sign, sw_i what] sw_j M s := by
  by_cases hk : isS s k
  · by_cases hp : winP (sl s k) (qT s) (qB s) seat sign what
    · exact PR.mk hs (F9_less hI hs hk hp) (fun M2 h2 => R9_less h2 hs hk hp)
    · exact PR.mk hs (F9_lessX hI hs hk hp g1 g2 g3) (fun M2 h2 => R9_lessX h2 hs g0 (fun q => hp q.2) g1 g2 g3)
  · exact PR.mk hs (F9_lessN hI hs hk g0) (fun M2 h2 => R9_lessX h2 hs g0 (fun q => hk q.1) g1 g2 g3)
theorem pr_best {seat sign : Int} (hI : InvC G M s) (hs : stOK s) (g0 : sw_rg k) (g1 : sw_rg seat) (g2 : sw_rg sign) : PR l G μX9_best μX10_best [sw_i k, sw_i seat, sw_i sign] sw_i M s := by
  by_cases hk : isS s k
  · by_cases hp : (0 ≤ seat ∧ seat < sNb (sl s k)) ∧ 0 ≤ sign ∧ sign < sSg (sl s k)
    · exact PR.mk hs (F9_best hI hs hk hp) (fun M2 h2 => R9_best h2 hs hk hp)
    · exact PR.mk hs (F9_bestX hI hs hk hp g1 g2) (fun M2 h2 => R9_bestX h2 hs g0 g1 g2 (fun q => hp q.2))
  · exact PR.mk hs (F9_bestN hI hs hk g0) (fun M2 h2 => R9_bestX h2 hs g0 g1 g2 (fun q => hk q.1))
theorem pr_judge (hI : InvC G M s) (hs : stOK s) (g0 : sw_rg k) : PR l G μX9_judge μX10_judge [sw_i k] sw_i M s := by
  by_cases hk : isS s k
  · exact PR.mk hs (F9_judge hI hs hk ) (fun M2 h2 => R9_judge h2 hs hk )
  · exact PR.mk hs (F9_judgeN hI hs hk g0) (fun M2 h2 => R9_judgeN h2 hs hk g0)
theorem pr_find {table : Int} (hI : InvC G M s) (hs : stOK s) (g0 : sw_rg k) (g1 : sw_rg table) : PR l G μX9_find μX10_find [sw_i k, sw_i table] sw_i M s := by
  by_cases hk : isS s k
  · by_cases ht : 0 ≤ table ∧ table < qT s
    · exact PR.mk (ok_find hs hk) (F9_find hI hs hk ht) (fun M2 h2 => R9_find h2 hs hk ht)
    · exact PR.mk hs (F9_findX hI hs hk ht g1) (fun M2 h2 => R9_findX h2 hs hk ht g1)
  · exact PR.mk hs (F9_findN hI hs hk g0) (fun M2 h2 => R9_findN h2 hs hk g0)
theorem pr_by {many what : Int} {wise : Prop} [Decidable wise] (hI : InvC G M s) (hs : stOK s) (g0 : sw_rg k) (g1 : sw_rg many) (g2 : sw_rg what) : PR l G μX9_by μX10_by [sw_i k, sw_i many, sw_i (bI wise), sw_i what] sw_j M s := by
  by_cases hk : isS s k
  · exact PR.mk hs (F9_by (wise := wise) hI hs hk g1 g2) (fun M2 h2 => R9_by (wise := wise) h2 hs hk g1 g2)
  · exact PR.mk hs (F9_byN (wise := wise) hI hs hk g0) (fun M2 h2 => R9_byN (wise := wise) h2 hs hk g0)
theorem pr_bar {wise : Prop} [Decidable wise] (hI : InvC G M s) (hs : stOK s) (g0 : sw_rg k) : PR l G μX9_bar μX10_bar [sw_i k, sw_i (bI wise)] sw_i M s := by
  by_cases hk : isS s k
  · exact PR.mk hs (F9_bar (wise := wise) hI hs hk ) (fun M2 h2 => R9_bar (wise := wise) h2 hs hk )
  · exact PR.mk hs (F9_barN (wise := wise) hI hs hk g0) (fun M2 h2 => R9_barN (wise := wise) h2 hs hk g0)
theorem pr_telling (hI : InvC G M s) (hs : stOK s) (g0 : sw_rg k) : PR l G μX9_telling μX10_telling [sw_i k] sw_j M s := by
  by_cases hk : isS s k
  · exact PR.mk hs (F9_telling hI hs hk ) (fun M2 h2 => R9_telling h2 hs hk )
  · exact PR.mk hs (F9_tellingN hI hs hk g0) (fun M2 h2 => R9_tellingN h2 hs hk g0)
theorem pr_near {truth : Int} (hI : InvC G M s) (hs : stOK s) (g0 : sw_rg k) (g1 : sw_rg truth) : PR l G μX9_near μX10_near [sw_i k, sw_i truth] sw_i M s := by
  by_cases hk : isS s k
  · exact PR.mk hs (F9_near hI hs hk g1) (fun M2 h2 => R9_near h2 hs hk g1)
  · exact PR.mk hs (F9_nearN hI hs hk g0) (fun M2 h2 => R9_nearN h2 hs hk g0)
theorem pr_nearGain (hI : InvC G M s) (hs : stOK s) (g0 : sw_rg k) : PR l G μX9_nearGain μX10_nearGain [sw_i k] sw_j M s := by
  by_cases hk : isS s k
  · exact PR.mk hs (F9_nearGain hI hs hk ) (fun M2 h2 => R9_nearGain h2 hs hk )
  · exact PR.mk hs (F9_nearGainN hI hs hk g0) (fun M2 h2 => R9_nearGainN h2 hs hk g0)
theorem pr_asOne (hI : InvC G M s) (hs : stOK s) (g0 : sw_rg k) : PR l G μX9_asOne μX10_asOne [sw_i k] sw_j M s := by
  by_cases hk : isS s k
  · exact PR.mk hs (F9_asOne hI hs hk ) (fun M2 h2 => R9_asOne h2 hs hk )
  · exact PR.mk hs (F9_asOneN hI hs hk g0) (fun M2 h2 => R9_asOneN h2 hs hk g0)
theorem pr_lay {seat sign : Int} (hI : InvC G M s) (hs : stOK s) (g0 : sw_rg seat) (g1 : sw_rg sign) : PR l G μX9_lay μX10_lay_ [sw_i seat, sw_i sign] sw_i M s := by
  by_cases hc : (0 ≤ seat ∧ seat < 4) ∧ 0 ≤ sign ∧ sign < 5
  · exact PR.mk (ok_lay hs ⟨hc.2.1, Int.le_of_lt_add_one hc.2.2⟩) (F9_lay hI hc) (fun M2 h2 => R9_lay h2 hc)
  · exact PR.mk hs (F9_layX hI hc g0 g1) (fun M2 h2 => R9_layX h2 hc g0 g1)
theorem pr_open {what : Int} (hI : InvC G M s) (hs : stOK s) (g0 : sw_rg k) (g1 : sw_rg what) : PR l G μX9_open μX10_open [sw_i k, sw_i what] sw_i M s := by
  by_cases hk : isS s k
  · exact PR.mk hs (F9_open hI hs hk g1) (fun M2 h2 => R9_open h2 hs hk g1)
  · exact PR.mk hs (F9_openN hI hs hk g0) (fun M2 h2 => R9_openN h2 hs hk g0 g1)
theorem pr_leaves {i what : Int} (hI : InvC G M s) (hs : stOK s) (g0 : sw_rg k) (g1 : sw_rg i) (g2 : sw_rg what) : PR l G μX9_leaves μX10_leaves [sw_i k, sw_i i, sw_i what] sw_i M s := by
  by_cases hk : isS s k
  · exact PR.mk hs (F9_leaves hI hs hk g1 g2) (fun M2 h2 => R9_leaves h2 hs hk g1 g2)
  · exact PR.mk hs (F9_leavesN hI hs hk g0) (fun M2 h2 => R9_leavesN h2 hs hk g0 g2)
theorem pr_learn {seed rounds : Int} (hI : InvC G M s) (hs : stOK s) (g0 : sw_rg k) (g1 : sw_rg rounds) : PR l G μX9_learn μX10_learn [sw_i k, sw_j seed, sw_i rounds] sw_i M s := by
  by_cases hk : isS s k
  · by_cases hr : 1 ≤ rounds ∧ rounds ≤ 400
    · refine (F9_learn hI hs hk hr).mono (fun r M' h => ?_)
      obtain ⟨R0, Gd0, Sg0, hR0, hG0, rfl, h1, h2⟩ := h
      have hw := hs.sale hk
      have hnb := hw.2.2.1
      exact ⟨_, _, stOK.sL hs ⟨by omega, by omega⟩ (rndN_in (sl s k) (sNb (sl s k)).toNat (q := (seed, 0, 0, R0, Gd0, Sg0)) (lrR_in hw hs.c hR0) rounds.toNat), rfl, h1, h2, fun M2 h3 => R9_learn h3 hs hk hr hR0 hG0⟩
    · exact PR.mk hs (F9_learnX hI hs hk hr g1) (fun M2 h2 => R9_learnX h2 hs hk hr g1)
  · exact PR.mk hs (F9_learnN hI hs hk g0) (fun M2 h2 => R9_learnN h2 hs hk g0)
theorem pr_got (hI : InvC G M s) (hs : stOK s)  : PR l G μX9_got μX10_got [] sw_i M s := by
  exact PR.mk hs (F9_got hI) (fun M2 h2 => R9_got h2)
theorem pr_count {w : Int} (hI : InvC G M s) (hs : stOK s) (g0 : sw_rg w) : PR l G μX9_count μX10_count_ [sw_i w] sw_i M s := by
  exact PR.mk hs (F9_count hI g0) (fun M2 h2 => R9_count h2 g0)
end

