set_option maxRecDepth 100000 in
set_option maxHeartbeats 4000000 in
theorem wq_md_reads_B92 (n : Nat) (hn : 4294967297 < n) (x1 : Int32) (x2 : Int32) (σ : wt_St) (r0 : wt_RI σ) (p0 : 0 ≤ x1.toInt) (p1 : x1.toInt ≤ 5) (p2 : (wt_gf σ 108 5).toInt ≠ 0 ∨ (1 ≤ x2.toInt ∧ x2.toInt ≤ 9 ∧ (wt_gf σ 108 27).toInt < 60 ∧ x1.toInt ≠ 5 ∧ (wt_gf σ 108 4).toInt + x2.toInt ≤ (wt_gf σ 108 2).toInt)) (p3 : (wt_gf σ 108 5).toInt = 0 → ∀ x : Int32, (wt_gf σ 108 4).toInt ≤ x.toInt → x.toInt < (wt_gf σ 108 4).toInt + x2.toInt → 97 ≤ (wt_ga σ 109 (Int32.toNatClampNeg x)).toInt ∧ (wt_ga σ 109 (Int32.toNatClampNeg x)).toInt ≤ 122) : wt_T (wp_md_reads_B92 n x1 x2 σ) (fun q => wt_fr (fun i k => (i = 108 ∧ k = 4) ∨ (i = 108 ∧ k = 5) ∨ (i = 108 ∧ k = 6) ∨ (i = 108 ∧ k = 29) ∨ (i = 108 ∧ k = 27)) (fun i => i = 125 ∨ i = 127 ∨ i = 129 ∨ (132 ≤ i ∧ i < 192)) σ q ∧ wt_RI q ∧ ((x1.toInt = 5 → (wt_gf q 108 5).toInt ≠ 0) ∧ (wt_gf σ 108 27).toInt ≤ (wt_gf q 108 27).toInt ∧ ((wt_gf q 108 5).toInt ≠ 0 ∨ (wt_gf q 108 27).toInt = (wt_gf σ 108 27).toInt + 1))) := by
  have bb1 := wt_bd x1
  have bb2 := wt_bd x2
  have g4 : 0 ≤ (wt_gf σ 108 5).toInt ∧ (wt_gf σ 108 5).toInt ≤ 3 := wt_Rf3 r0
  have g6 : 0 ≤ (wt_gf σ 108 27).toInt ∧ (wt_gf σ 108 27).toInt ≤ 60 := wt_Rf5 r0
  have g8 : 0 ≤ (wt_gf σ 108 4).toInt ∧ (wt_gf σ 108 4).toInt ≤ 500 := wt_Rf2 r0
  have g10 : 0 ≤ (wt_gf σ 108 2).toInt ∧ (wt_gf σ 108 2).toInt ≤ 500 := wt_Rf1 r0
  unfold wp_md_reads_B92
  have k11 : (0 : Int32).toInt = 0 := by decide
  refine wt_T_if (fun h12 => ?_) (fun h12 => ?_)
  · skip
    have c13 := wt_ceq h12
    refine wt_T_gd (wt_ix (by first | with_reducible assumption | omega) (by first | with_reducible assumption | omega)) ?_
    obtain ⟨σ14, eσ14⟩ : ∃ z : wt_St, z = wt_sa σ 125 (Int32.toNatClampNeg (wt_gf σ 108 27)) x2 := ⟨_, rfl⟩
    rw [← eσ14]
    have fσ14 := wt_fr_sa eσ14
    have vσ14 := wt_ceq (wt_v_sa eσ14)
    have bb15 := wt_tn (wt_gf σ 108 27)
    have rσ14 := wt_Rn5 r0 eσ14 (by decide) (by decide) (show 0 ≤ (x2).toInt by omega) (show (x2).toInt ≤ 9 by omega)
    refine wt_T_it (fun s : Int32 × wt_St => wt_fr (fun i k => False) (fun i => (132 ≤ i ∧ i < 192)) σ14 s.2 ∧ 0 ≤ (s.1).toInt ∧ wt_RI s.2) (fun s : Int32 × wt_St => (x2.toInt - s.1.toInt + 0).toNat) (fun KK16 z17 I18 hKK16 => ?_) _ _ ?_ ?_
    · skip
      obtain ⟨l19, l20, l21⟩ := I18
      unfold wp_md_reads_B113
      have bb22 := wt_bd z17.1
      refine wt_T_if (fun h23 => ?_) (fun h23 => ?_)
      · skip
        have c24 := wt_cle h23
        obtain ⟨σ25, eσ25⟩ : ∃ z : wt_St, z = wt_sf z17.2 108 4 ((wt_gf z17.2 108 4) + x2) := ⟨_, rfl⟩
        rw [← eσ25]
        have fσ25 := wt_fr_sf eσ25
        have vσ25 := wt_ceq (wt_v_sf eσ25)
        have g27 : 0 ≤ (wt_gf z17.2 108 4).toInt ∧ (wt_gf z17.2 108 4).toInt ≤ 500 := wt_Rf2 l21
        have tt28 : (wt_gf z17.2 108 4).toInt = (wt_gf σ14 108 4).toInt := congrArg Int32.toInt (l19.1 108 4 (fun z => z))
        have tt31 : (wt_gf σ14 108 4).toInt = (wt_gf σ 108 4).toInt := congrArg Int32.toInt (fσ14.1 108 4 (fun z => z))
        obtain ⟨j32, j32a, j32b⟩ := wt_addI (wt_gf z17.2 108 4) x2
        have rσ25 := wt_Rm2 l21 eσ25 (show 0 ≤ ((wt_gf z17.2 108 4) + x2).toInt by omega) (show ((wt_gf z17.2 108 4) + x2).toInt ≤ 500 by omega)
        have g34 : 0 ≤ (wt_gf σ25 108 27).toInt ∧ (wt_gf σ25 108 27).toInt ≤ 60 := wt_Rf5 rσ25
        have tt35 : (wt_gf σ25 108 27).toInt = (wt_gf z17.2 108 27).toInt := congrArg Int32.toInt (fσ25.1 108 27 (by (try dsimp only); omega))
        have tt38 : (wt_gf z17.2 108 27).toInt = (wt_gf σ14 108 27).toInt := congrArg Int32.toInt (l19.1 108 27 (fun z => z))
        have tt41 : (wt_gf σ14 108 27).toInt = (wt_gf σ 108 27).toInt := congrArg Int32.toInt (fσ14.1 108 27 (fun z => z))
        refine wt_T_gd (wt_ix (by first | with_reducible assumption | omega) (by first | with_reducible assumption | omega)) ?_
        obtain ⟨σ42, eσ42⟩ : ∃ z : wt_St, z = wt_sa σ25 127 (Int32.toNatClampNeg (wt_gf σ25 108 27)) (0 : Int32) := ⟨_, rfl⟩
        rw [← eσ42]
        have fσ42 := wt_fr_sa eσ42
        have vσ42 := wt_ceq (wt_v_sa eσ42)
        have bb43 := wt_tn (wt_gf σ25 108 27)
        have rσ42 := wt_Rn6 rσ25 eσ42 (by decide) (by decide) (show 0 ≤ ((0 : Int32)).toInt by omega) (show ((0 : Int32)).toInt ≤ 3 by omega)
        refine wt_T_bi (wq_md_blanks n hn σ42 rσ42) (fun r44 h45 => ?_)
        obtain ⟨f46, ri47, pp48⟩ := h45
        have g50 : 0 ≤ (wt_gf σ42 108 4).toInt ∧ (wt_gf σ42 108 4).toInt ≤ 500 := wt_Rf2 rσ42
        have tt51 : (wt_gf σ42 108 4).toInt = (wt_gf σ25 108 4).toInt := congrArg Int32.toInt (fσ42.1 108 4 (fun z => z))
        have g55 : 0 ≤ (wt_gf r44 108 4).toInt ∧ (wt_gf r44 108 4).toInt ≤ 500 := wt_Rf2 ri47
        refine wt_T_bi (wq_md_byteAt n hn (wt_gf r44 108 4) r44 ri47 (by first | with_reducible assumption | omega)) (fun r56 h57 => ?_)
        obtain ⟨e58, pp59⟩ := h57
        have bb60 := wt_bd r56.1
        rw [e58]
        have g62 : 0 ≤ (wt_gf r44 108 2).toInt ∧ (wt_gf r44 108 2).toInt ≤ 500 := wt_Rf1 ri47
        have tt63 : (wt_gf r44 108 2).toInt = (wt_gf σ42 108 2).toInt := congrArg Int32.toInt (f46.1 108 2 (by (try dsimp only); omega))
        have tt66 : (wt_gf σ42 108 2).toInt = (wt_gf σ25 108 2).toInt := congrArg Int32.toInt (fσ42.1 108 2 (fun z => z))
        have tt69 : (wt_gf σ25 108 2).toInt = (wt_gf z17.2 108 2).toInt := congrArg Int32.toInt (fσ25.1 108 2 (by (try dsimp only); omega))
        have tt72 : (wt_gf z17.2 108 2).toInt = (wt_gf σ14 108 2).toInt := congrArg Int32.toInt (l19.1 108 2 (fun z => z))
        have tt75 : (wt_gf σ14 108 2).toInt = (wt_gf σ 108 2).toInt := congrArg Int32.toInt (fσ14.1 108 2 (fun z => z))
        have bb76 := wt_tn (wt_gf r44 108 4)
        have bb77 := wt_bd (wt_ga r44 109 (Int32.toNatClampNeg (wt_gf r44 108 4)))
        have tt78 : (wt_ga r44 109 (Int32.toNatClampNeg (wt_gf r44 108 4))).toInt = (wt_ga σ42 109 (Int32.toNatClampNeg (wt_gf r44 108 4))).toInt := congrArg Int32.toInt (f46.2 109 (fun z => z) (Int32.toNatClampNeg (wt_gf r44 108 4)))
        have bb79 := wt_bd (wt_ga σ42 109 (Int32.toNatClampNeg (wt_gf r44 108 4)))
        have tt80 : (wt_ga σ42 109 (Int32.toNatClampNeg (wt_gf r44 108 4))).toInt = (wt_ga σ25 109 (Int32.toNatClampNeg (wt_gf r44 108 4))).toInt := congrArg Int32.toInt (fσ42.2 109 (by (try dsimp only); omega) (Int32.toNatClampNeg (wt_gf r44 108 4)))
        have bb81 := wt_bd (wt_ga σ25 109 (Int32.toNatClampNeg (wt_gf r44 108 4)))
        have tt82 : (wt_ga σ25 109 (Int32.toNatClampNeg (wt_gf r44 108 4))).toInt = (wt_ga z17.2 109 (Int32.toNatClampNeg (wt_gf r44 108 4))).toInt := congrArg Int32.toInt (fσ25.2 109 (fun z => z) (Int32.toNatClampNeg (wt_gf r44 108 4)))
        have bb83 := wt_bd (wt_ga z17.2 109 (Int32.toNatClampNeg (wt_gf r44 108 4)))
        have tt84 : (wt_ga z17.2 109 (Int32.toNatClampNeg (wt_gf r44 108 4))).toInt = (wt_ga σ14 109 (Int32.toNatClampNeg (wt_gf r44 108 4))).toInt := congrArg Int32.toInt (l19.2 109 (by (try dsimp only); omega) (Int32.toNatClampNeg (wt_gf r44 108 4)))
        have bb85 := wt_bd (wt_ga σ14 109 (Int32.toNatClampNeg (wt_gf r44 108 4)))
        have tt86 : (wt_ga σ14 109 (Int32.toNatClampNeg (wt_gf r44 108 4))).toInt = (wt_ga σ 109 (Int32.toNatClampNeg (wt_gf r44 108 4))).toInt := congrArg Int32.toInt (fσ14.2 109 (by (try dsimp only); omega) (Int32.toNatClampNeg (wt_gf r44 108 4)))
        have bb87 := wt_bd (wt_ga σ 109 (Int32.toNatClampNeg (wt_gf r44 108 4)))
        have lh88 : (wt_gf σ 108 5).toInt = 0 → (wt_gf σ 108 4).toInt ≤ (wt_gf r44 108 4).toInt → (wt_gf r44 108 4).toInt < (wt_gf σ 108 4).toInt + x2.toInt → 97 ≤ (wt_ga σ 109 (Int32.toNatClampNeg (wt_gf r44 108 4))).toInt ∧ (wt_ga σ 109 (Int32.toNatClampNeg (wt_gf r44 108 4))).toInt ≤ 122 := fun h => p3 h (wt_gf r44 108 4)
        have k89 : (47 : Int32).toInt = 47 := by decide
        refine wt_T_if (fun h90 => ?_) (fun h90 => ?_)
        · skip
          have c91 := wt_ceq h90
          obtain ⟨σ92, eσ92⟩ : ∃ z : wt_St, z = wt_sf r44 108 4 ((wt_gf r44 108 4) + (1 : Int32)) := ⟨_, rfl⟩
          rw [← eσ92]
          have fσ92 := wt_fr_sf eσ92
          have vσ92 := wt_ceq (wt_v_sf eσ92)
          have k93 : (1 : Int32).toInt = 1 := by decide
          obtain ⟨j94, j94a, j94b⟩ := wt_addI (wt_gf r44 108 4) (1 : Int32)
          have rσ92 := wt_Rm2 ri47 eσ92 (show 0 ≤ ((wt_gf r44 108 4) + (1 : Int32)).toInt by omega) (show ((wt_gf r44 108 4) + (1 : Int32)).toInt ≤ 500 by omega)
          have k95 : (3 : Int32).toInt = 3 := by decide
          refine wt_T_bi (wq_md_number n hn (0 : Int32) (3 : Int32) σ92 rσ92 (by first | with_reducible assumption | omega)) (fun r96 h97 => ?_)
          obtain ⟨f98, ri99, pp100⟩ := h97
          have bb101 := wt_bd r96.1
          have g103 : 0 ≤ (wt_gf r96.2 108 5).toInt ∧ (wt_gf r96.2 108 5).toInt ≤ 3 := wt_Rf3 ri99
          have g105 : 0 ≤ (wt_gf σ92 108 27).toInt ∧ (wt_gf σ92 108 27).toInt ≤ 60 := wt_Rf5 rσ92
          have tt106 : (wt_gf σ92 108 27).toInt = (wt_gf r44 108 27).toInt := congrArg Int32.toInt (fσ92.1 108 27 (by (try dsimp only); omega))
          have tt109 : (wt_gf r44 108 27).toInt = (wt_gf σ42 108 27).toInt := congrArg Int32.toInt (f46.1 108 27 (by (try dsimp only); omega))
          have tt112 : (wt_gf σ42 108 27).toInt = (wt_gf σ25 108 27).toInt := congrArg Int32.toInt (fσ42.1 108 27 (fun z => z))
          refine wt_T_gd (wt_ix (by first | with_reducible assumption | omega) (by first | with_reducible assumption | omega)) ?_
          obtain ⟨σ113, eσ113⟩ : ∃ z : wt_St, z = wt_sa r96.2 127 (Int32.toNatClampNeg (wt_gf σ92 108 27)) r96.1 := ⟨_, rfl⟩
          rw [← eσ113]
          have fσ113 := wt_fr_sa eσ113
          have vσ113 := wt_ceq (wt_v_sa eσ113)
          have bb114 := wt_tn (wt_gf σ92 108 27)
          have rσ113 := wt_Rn6 ri99 eσ113 (by decide) (by decide) (show 0 ≤ (r96.1).toInt by omega) (show (r96.1).toInt ≤ 3 by omega)
          unfold wp_md_reads_B213
          refine wt_T_if (fun h115 => ?_) (fun h115 => ?_)
          · skip
            have c116 := wt_ceq h115
            obtain ⟨σ117, eσ117⟩ : ∃ z : wt_St, z = wt_sf σ113 108 29 ((wt_gf σ113 108 29) + (1 : Int32)) := ⟨_, rfl⟩
            rw [← eσ117]
            have fσ117 := wt_fr_sf eσ117
            have vσ117 := wt_ceq (wt_v_sf eσ117)
            have bb118 := wt_bd (wt_gf σ113 108 29)
            have tt119 : (wt_gf σ113 108 29).toInt = (wt_gf r96.2 108 29).toInt := congrArg Int32.toInt (fσ113.1 108 29 (fun z => z))
            have bb120 := wt_bd (wt_gf r96.2 108 29)
            have tt121 : (wt_gf r96.2 108 29).toInt = (wt_gf σ92 108 29).toInt := congrArg Int32.toInt (f98.1 108 29 (by (try dsimp only); omega))
            have bb122 := wt_bd (wt_gf σ92 108 29)
            have tt123 : (wt_gf σ92 108 29).toInt = (wt_gf r44 108 29).toInt := congrArg Int32.toInt (fσ92.1 108 29 (by (try dsimp only); omega))
            have bb124 := wt_bd (wt_gf r44 108 29)
            have tt125 : (wt_gf r44 108 29).toInt = (wt_gf σ42 108 29).toInt := congrArg Int32.toInt (f46.1 108 29 (by (try dsimp only); omega))
            have bb126 := wt_bd (wt_gf σ42 108 29)
            have tt127 : (wt_gf σ42 108 29).toInt = (wt_gf σ25 108 29).toInt := congrArg Int32.toInt (fσ42.1 108 29 (fun z => z))
            have bb128 := wt_bd (wt_gf σ25 108 29)
            have tt129 : (wt_gf σ25 108 29).toInt = (wt_gf z17.2 108 29).toInt := congrArg Int32.toInt (fσ25.1 108 29 (by (try dsimp only); omega))
            have bb130 := wt_bd (wt_gf z17.2 108 29)
            have tt131 : (wt_gf z17.2 108 29).toInt = (wt_gf σ14 108 29).toInt := congrArg Int32.toInt (l19.1 108 29 (fun z => z))
            have bb132 := wt_bd (wt_gf σ14 108 29)
            have tt133 : (wt_gf σ14 108 29).toInt = (wt_gf σ 108 29).toInt := congrArg Int32.toInt (fσ14.1 108 29 (fun z => z))
            have bb134 := wt_bd (wt_gf σ 108 29)
            obtain ⟨j135, j135a, j135b⟩ := wt_addI (wt_gf σ113 108 29) (1 : Int32)
            have rσ117 := wt_RI_fno rσ113 eσ117 (Or.inr (by decide +kernel))
            unfold wp_md_reads_B227
            have g137 : 0 ≤ (wt_gf σ117 108 27).toInt ∧ (wt_gf σ117 108 27).toInt ≤ 60 := wt_Rf5 rσ117
            have tt138 : (wt_gf σ117 108 27).toInt = (wt_gf σ113 108 27).toInt := congrArg Int32.toInt (fσ117.1 108 27 (by (try dsimp only); omega))
            have tt141 : (wt_gf σ113 108 27).toInt = (wt_gf r96.2 108 27).toInt := congrArg Int32.toInt (fσ113.1 108 27 (fun z => z))
            have tt144 : (wt_gf r96.2 108 27).toInt = (wt_gf σ92 108 27).toInt := congrArg Int32.toInt (f98.1 108 27 (by (try dsimp only); omega))
            refine wt_T_gd (wt_ix (by first | with_reducible assumption | omega) (by first | with_reducible assumption | omega)) ?_
            obtain ⟨σ145, eσ145⟩ : ∃ z : wt_St, z = wt_sa σ117 129 (Int32.toNatClampNeg (wt_gf σ117 108 27)) ((wt_gf σ117 108 29) - (1 : Int32)) := ⟨_, rfl⟩
            rw [← eσ145]
            have fσ145 := wt_fr_sa eσ145
            have vσ145 := wt_ceq (wt_v_sa eσ145)
            have bb146 := wt_tn (wt_gf σ117 108 27)
            have bb147 := wt_bd (wt_gf σ117 108 29)
            obtain ⟨j148, j148a, j148b⟩ := wt_subI (wt_gf σ117 108 29) (1 : Int32)
            have rσ145 := wt_RI_no rσ117 eσ145 129 130 (by decide +kernel) (by decide) (by decide)
            obtain ⟨σ149, eσ149⟩ : ∃ z : wt_St, z = wt_sf σ145 108 27 ((wt_gf σ145 108 27) + (1 : Int32)) := ⟨_, rfl⟩
            rw [← eσ149]
            have fσ149 := wt_fr_sf eσ149
            have vσ149 := wt_ceq (wt_v_sf eσ149)
            have g151 : 0 ≤ (wt_gf σ145 108 27).toInt ∧ (wt_gf σ145 108 27).toInt ≤ 60 := wt_Rf5 rσ145
            have tt152 : (wt_gf σ145 108 27).toInt = (wt_gf σ117 108 27).toInt := congrArg Int32.toInt (fσ145.1 108 27 (fun z => z))
            obtain ⟨j153, j153a, j153b⟩ := wt_addI (wt_gf σ145 108 27) (1 : Int32)
            have rσ149 := wt_Rm5 rσ145 eσ149 (show 0 ≤ ((wt_gf σ145 108 27) + (1 : Int32)).toInt by omega) (show ((wt_gf σ145 108 27) + (1 : Int32)).toInt ≤ 60 by omega)
            refine wt_T_some ?_
            have g155 : 0 ≤ (wt_gf σ149 108 5).toInt ∧ (wt_gf σ149 108 5).toInt ≤ 3 := wt_Rf3 rσ149
            have tt156 : (wt_gf σ149 108 5).toInt = (wt_gf σ145 108 5).toInt := congrArg Int32.toInt (fσ149.1 108 5 (by (try dsimp only); omega))
            have tt159 : (wt_gf σ145 108 5).toInt = (wt_gf σ117 108 5).toInt := congrArg Int32.toInt (fσ145.1 108 5 (fun z => z))
            have tt162 : (wt_gf σ117 108 5).toInt = (wt_gf σ113 108 5).toInt := congrArg Int32.toInt (fσ117.1 108 5 (by (try dsimp only); omega))
            have tt165 : (wt_gf σ113 108 5).toInt = (wt_gf r96.2 108 5).toInt := congrArg Int32.toInt (fσ113.1 108 5 (fun z => z))
            have g167 : 0 ≤ (wt_gf σ149 108 27).toInt ∧ (wt_gf σ149 108 27).toInt ≤ 60 := wt_Rf5 rσ149
            exact ⟨(wt_fr.tr (wt_fr.tr (wt_fr.tr (wt_fr.tr (wt_fr.tr (wt_fr.tr (wt_fr.tr (wt_fr.tr (wt_fr.tr (wt_fr.tr (wt_fr.tr wt_fr.rf fσ14 (fun i k h => h.elim) (fun i h => by (try dsimp only at h); exact Or.inl (by first | exact h | omega))) l19 (fun i k h => h.elim) (fun i h => by (try dsimp only at h); exact Or.inr (Or.inr (Or.inr (by first | exact h | omega))))) fσ25 (fun i k h => by (try dsimp only at h); exact Or.inl (by first | exact h | omega)) (fun i h => h.elim)) fσ42 (fun i k h => h.elim) (fun i h => by (try dsimp only at h); exact Or.inr (Or.inl (by first | exact h | omega)))) f46 (fun i k h => by (try dsimp only at h); exact Or.inl (by first | exact h | omega)) (fun i h => h.elim)) fσ92 (fun i k h => by (try dsimp only at h); exact Or.inl (by first | exact h | omega)) (fun i h => h.elim)) f98 (fun i k h => by (try dsimp only at h); rcases h with h | h | h; exact Or.inl (by first | exact h | omega); exact Or.inr (Or.inl (by first | exact h | omega)); exact Or.inr (Or.inr (Or.inl (by first | exact h | omega)))) (fun i h => h.elim)) fσ113 (fun i k h => h.elim) (fun i h => by (try dsimp only at h); exact Or.inr (Or.inl (by first | exact h | omega)))) fσ117 (fun i k h => by (try dsimp only at h); exact Or.inr (Or.inr (Or.inr (Or.inl (by first | exact h | omega))))) (fun i h => h.elim)) fσ145 (fun i k h => h.elim) (fun i h => by (try dsimp only at h); exact Or.inr (Or.inr (Or.inl (by first | exact h | omega))))) fσ149 (fun i k h => by (try dsimp only at h); exact Or.inr (Or.inr (Or.inr (Or.inr (by first | exact h | omega))))) (fun i h => h.elim)), rσ149, (show ((x1.toInt = 5 → (wt_gf σ149 108 5).toInt ≠ 0) ∧ (wt_gf σ 108 27).toInt ≤ (wt_gf σ149 108 27).toInt ∧ ((wt_gf σ149 108 5).toInt ≠ 0 ∨ (wt_gf σ149 108 27).toInt = (wt_gf σ 108 27).toInt + 1)) from by omega)⟩
          · skip
            have c168 := wt_nceq h115
            unfold wp_md_reads_B227
            have g170 : 0 ≤ (wt_gf σ113 108 27).toInt ∧ (wt_gf σ113 108 27).toInt ≤ 60 := wt_Rf5 rσ113
            have tt171 : (wt_gf σ113 108 27).toInt = (wt_gf r96.2 108 27).toInt := congrArg Int32.toInt (fσ113.1 108 27 (fun z => z))
            have tt174 : (wt_gf r96.2 108 27).toInt = (wt_gf σ92 108 27).toInt := congrArg Int32.toInt (f98.1 108 27 (by (try dsimp only); omega))
            refine wt_T_gd (wt_ix (by first | with_reducible assumption | omega) (by first | with_reducible assumption | omega)) ?_
            obtain ⟨σ175, eσ175⟩ : ∃ z : wt_St, z = wt_sa σ113 129 (Int32.toNatClampNeg (wt_gf σ113 108 27)) ((wt_gf σ113 108 29) - (1 : Int32)) := ⟨_, rfl⟩
            rw [← eσ175]
            have fσ175 := wt_fr_sa eσ175
            have vσ175 := wt_ceq (wt_v_sa eσ175)
            have bb176 := wt_tn (wt_gf σ113 108 27)
            have bb177 := wt_bd (wt_gf σ113 108 29)
            have tt178 : (wt_gf σ113 108 29).toInt = (wt_gf r96.2 108 29).toInt := congrArg Int32.toInt (fσ113.1 108 29 (fun z => z))
            have bb179 := wt_bd (wt_gf r96.2 108 29)
            have tt180 : (wt_gf r96.2 108 29).toInt = (wt_gf σ92 108 29).toInt := congrArg Int32.toInt (f98.1 108 29 (by (try dsimp only); omega))
            have bb181 := wt_bd (wt_gf σ92 108 29)
            have tt182 : (wt_gf σ92 108 29).toInt = (wt_gf r44 108 29).toInt := congrArg Int32.toInt (fσ92.1 108 29 (by (try dsimp only); omega))
            have bb183 := wt_bd (wt_gf r44 108 29)
            have tt184 : (wt_gf r44 108 29).toInt = (wt_gf σ42 108 29).toInt := congrArg Int32.toInt (f46.1 108 29 (by (try dsimp only); omega))
            have bb185 := wt_bd (wt_gf σ42 108 29)
            have tt186 : (wt_gf σ42 108 29).toInt = (wt_gf σ25 108 29).toInt := congrArg Int32.toInt (fσ42.1 108 29 (fun z => z))
            have bb187 := wt_bd (wt_gf σ25 108 29)
            have tt188 : (wt_gf σ25 108 29).toInt = (wt_gf z17.2 108 29).toInt := congrArg Int32.toInt (fσ25.1 108 29 (by (try dsimp only); omega))
            have bb189 := wt_bd (wt_gf z17.2 108 29)
            have tt190 : (wt_gf z17.2 108 29).toInt = (wt_gf σ14 108 29).toInt := congrArg Int32.toInt (l19.1 108 29 (fun z => z))
            have bb191 := wt_bd (wt_gf σ14 108 29)
            have tt192 : (wt_gf σ14 108 29).toInt = (wt_gf σ 108 29).toInt := congrArg Int32.toInt (fσ14.1 108 29 (fun z => z))
            have bb193 := wt_bd (wt_gf σ 108 29)
            obtain ⟨j194, j194a, j194b⟩ := wt_subI (wt_gf σ113 108 29) (1 : Int32)
            have rσ175 := wt_RI_no rσ113 eσ175 129 130 (by decide +kernel) (by decide) (by decide)
            obtain ⟨σ195, eσ195⟩ : ∃ z : wt_St, z = wt_sf σ175 108 27 ((wt_gf σ175 108 27) + (1 : Int32)) := ⟨_, rfl⟩
            rw [← eσ195]
            have fσ195 := wt_fr_sf eσ195
            have vσ195 := wt_ceq (wt_v_sf eσ195)
            have g197 : 0 ≤ (wt_gf σ175 108 27).toInt ∧ (wt_gf σ175 108 27).toInt ≤ 60 := wt_Rf5 rσ175
            have tt198 : (wt_gf σ175 108 27).toInt = (wt_gf σ113 108 27).toInt := congrArg Int32.toInt (fσ175.1 108 27 (fun z => z))
            obtain ⟨j199, j199a, j199b⟩ := wt_addI (wt_gf σ175 108 27) (1 : Int32)
            have rσ195 := wt_Rm5 rσ175 eσ195 (show 0 ≤ ((wt_gf σ175 108 27) + (1 : Int32)).toInt by omega) (show ((wt_gf σ175 108 27) + (1 : Int32)).toInt ≤ 60 by omega)
            refine wt_T_some ?_
            have g201 : 0 ≤ (wt_gf σ195 108 5).toInt ∧ (wt_gf σ195 108 5).toInt ≤ 3 := wt_Rf3 rσ195
            have tt202 : (wt_gf σ195 108 5).toInt = (wt_gf σ175 108 5).toInt := congrArg Int32.toInt (fσ195.1 108 5 (by (try dsimp only); omega))
            have tt205 : (wt_gf σ175 108 5).toInt = (wt_gf σ113 108 5).toInt := congrArg Int32.toInt (fσ175.1 108 5 (fun z => z))
            have tt208 : (wt_gf σ113 108 5).toInt = (wt_gf r96.2 108 5).toInt := congrArg Int32.toInt (fσ113.1 108 5 (fun z => z))
            have g210 : 0 ≤ (wt_gf σ195 108 27).toInt ∧ (wt_gf σ195 108 27).toInt ≤ 60 := wt_Rf5 rσ195
            exact ⟨(wt_fr.tr (wt_fr.tr (wt_fr.tr (wt_fr.tr (wt_fr.tr (wt_fr.tr (wt_fr.tr (wt_fr.tr (wt_fr.tr (wt_fr.tr wt_fr.rf fσ14 (fun i k h => h.elim) (fun i h => by (try dsimp only at h); exact Or.inl (by first | exact h | omega))) l19 (fun i k h => h.elim) (fun i h => by (try dsimp only at h); exact Or.inr (Or.inr (Or.inr (by first | exact h | omega))))) fσ25 (fun i k h => by (try dsimp only at h); exact Or.inl (by first | exact h | omega)) (fun i h => h.elim)) fσ42 (fun i k h => h.elim) (fun i h => by (try dsimp only at h); exact Or.inr (Or.inl (by first | exact h | omega)))) f46 (fun i k h => by (try dsimp only at h); exact Or.inl (by first | exact h | omega)) (fun i h => h.elim)) fσ92 (fun i k h => by (try dsimp only at h); exact Or.inl (by first | exact h | omega)) (fun i h => h.elim)) f98 (fun i k h => by (try dsimp only at h); rcases h with h | h | h; exact Or.inl (by first | exact h | omega); exact Or.inr (Or.inl (by first | exact h | omega)); exact Or.inr (Or.inr (Or.inl (by first | exact h | omega)))) (fun i h => h.elim)) fσ113 (fun i k h => h.elim) (fun i h => by (try dsimp only at h); exact Or.inr (Or.inl (by first | exact h | omega)))) fσ175 (fun i k h => h.elim) (fun i h => by (try dsimp only at h); exact Or.inr (Or.inr (Or.inl (by first | exact h | omega))))) fσ195 (fun i k h => by (try dsimp only at h); exact Or.inr (Or.inr (Or.inr (Or.inr (by first | exact h | omega))))) (fun i h => h.elim)), rσ195, (show ((x1.toInt = 5 → (wt_gf σ195 108 5).toInt ≠ 0) ∧ (wt_gf σ 108 27).toInt ≤ (wt_gf σ195 108 27).toInt ∧ ((wt_gf σ195 108 5).toInt ≠ 0 ∨ (wt_gf σ195 108 27).toInt = (wt_gf σ 108 27).toInt + 1)) from by omega)⟩
        · skip
          have c211 := wt_nceq h90
          unfold wp_md_reads_B213
          refine wt_T_if (fun h212 => ?_) (fun h212 => ?_)
          · skip
            have c213 := wt_ceq h212
            obtain ⟨σ214, eσ214⟩ : ∃ z : wt_St, z = wt_sf r44 108 29 ((wt_gf r44 108 29) + (1 : Int32)) := ⟨_, rfl⟩
            rw [← eσ214]
            have fσ214 := wt_fr_sf eσ214
            have vσ214 := wt_ceq (wt_v_sf eσ214)
            have bb215 := wt_bd (wt_gf r44 108 29)
            have tt216 : (wt_gf r44 108 29).toInt = (wt_gf σ42 108 29).toInt := congrArg Int32.toInt (f46.1 108 29 (by (try dsimp only); omega))
            have bb217 := wt_bd (wt_gf σ42 108 29)
            have tt218 : (wt_gf σ42 108 29).toInt = (wt_gf σ25 108 29).toInt := congrArg Int32.toInt (fσ42.1 108 29 (fun z => z))
            have bb219 := wt_bd (wt_gf σ25 108 29)
            have tt220 : (wt_gf σ25 108 29).toInt = (wt_gf z17.2 108 29).toInt := congrArg Int32.toInt (fσ25.1 108 29 (by (try dsimp only); omega))
            have bb221 := wt_bd (wt_gf z17.2 108 29)
            have tt222 : (wt_gf z17.2 108 29).toInt = (wt_gf σ14 108 29).toInt := congrArg Int32.toInt (l19.1 108 29 (fun z => z))
            have bb223 := wt_bd (wt_gf σ14 108 29)
            have tt224 : (wt_gf σ14 108 29).toInt = (wt_gf σ 108 29).toInt := congrArg Int32.toInt (fσ14.1 108 29 (fun z => z))
            have bb225 := wt_bd (wt_gf σ 108 29)
            have k226 : (1 : Int32).toInt = 1 := by decide
            obtain ⟨j227, j227a, j227b⟩ := wt_addI (wt_gf r44 108 29) (1 : Int32)
            have rσ214 := wt_RI_fno ri47 eσ214 (Or.inr (by decide +kernel))
            unfold wp_md_reads_B227
            have g229 : 0 ≤ (wt_gf σ214 108 27).toInt ∧ (wt_gf σ214 108 27).toInt ≤ 60 := wt_Rf5 rσ214
            have tt230 : (wt_gf σ214 108 27).toInt = (wt_gf r44 108 27).toInt := congrArg Int32.toInt (fσ214.1 108 27 (by (try dsimp only); omega))
            have tt233 : (wt_gf r44 108 27).toInt = (wt_gf σ42 108 27).toInt := congrArg Int32.toInt (f46.1 108 27 (by (try dsimp only); omega))
            have tt236 : (wt_gf σ42 108 27).toInt = (wt_gf σ25 108 27).toInt := congrArg Int32.toInt (fσ42.1 108 27 (fun z => z))
            refine wt_T_gd (wt_ix (by first | with_reducible assumption | omega) (by first | with_reducible assumption | omega)) ?_
            obtain ⟨σ237, eσ237⟩ : ∃ z : wt_St, z = wt_sa σ214 129 (Int32.toNatClampNeg (wt_gf σ214 108 27)) ((wt_gf σ214 108 29) - (1 : Int32)) := ⟨_, rfl⟩
            rw [← eσ237]
            have fσ237 := wt_fr_sa eσ237
            have vσ237 := wt_ceq (wt_v_sa eσ237)
            have bb238 := wt_tn (wt_gf σ214 108 27)
            have bb239 := wt_bd (wt_gf σ214 108 29)
            obtain ⟨j240, j240a, j240b⟩ := wt_subI (wt_gf σ214 108 29) (1 : Int32)
            have rσ237 := wt_RI_no rσ214 eσ237 129 130 (by decide +kernel) (by decide) (by decide)
            obtain ⟨σ241, eσ241⟩ : ∃ z : wt_St, z = wt_sf σ237 108 27 ((wt_gf σ237 108 27) + (1 : Int32)) := ⟨_, rfl⟩
            rw [← eσ241]
            have fσ241 := wt_fr_sf eσ241
            have vσ241 := wt_ceq (wt_v_sf eσ241)
            have g243 : 0 ≤ (wt_gf σ237 108 27).toInt ∧ (wt_gf σ237 108 27).toInt ≤ 60 := wt_Rf5 rσ237
            have tt244 : (wt_gf σ237 108 27).toInt = (wt_gf σ214 108 27).toInt := congrArg Int32.toInt (fσ237.1 108 27 (fun z => z))
            obtain ⟨j245, j245a, j245b⟩ := wt_addI (wt_gf σ237 108 27) (1 : Int32)
            have rσ241 := wt_Rm5 rσ237 eσ241 (show 0 ≤ ((wt_gf σ237 108 27) + (1 : Int32)).toInt by omega) (show ((wt_gf σ237 108 27) + (1 : Int32)).toInt ≤ 60 by omega)
            refine wt_T_some ?_
            have g247 : 0 ≤ (wt_gf σ241 108 5).toInt ∧ (wt_gf σ241 108 5).toInt ≤ 3 := wt_Rf3 rσ241
            have tt248 : (wt_gf σ241 108 5).toInt = (wt_gf σ237 108 5).toInt := congrArg Int32.toInt (fσ241.1 108 5 (by (try dsimp only); omega))
            have tt251 : (wt_gf σ237 108 5).toInt = (wt_gf σ214 108 5).toInt := congrArg Int32.toInt (fσ237.1 108 5 (fun z => z))
            have tt254 : (wt_gf σ214 108 5).toInt = (wt_gf r44 108 5).toInt := congrArg Int32.toInt (fσ214.1 108 5 (by (try dsimp only); omega))
            have tt257 : (wt_gf r44 108 5).toInt = (wt_gf σ42 108 5).toInt := congrArg Int32.toInt (f46.1 108 5 (by (try dsimp only); omega))
            have tt260 : (wt_gf σ42 108 5).toInt = (wt_gf σ25 108 5).toInt := congrArg Int32.toInt (fσ42.1 108 5 (fun z => z))
            have tt263 : (wt_gf σ25 108 5).toInt = (wt_gf z17.2 108 5).toInt := congrArg Int32.toInt (fσ25.1 108 5 (by (try dsimp only); omega))
            have tt266 : (wt_gf z17.2 108 5).toInt = (wt_gf σ14 108 5).toInt := congrArg Int32.toInt (l19.1 108 5 (fun z => z))
            have tt269 : (wt_gf σ14 108 5).toInt = (wt_gf σ 108 5).toInt := congrArg Int32.toInt (fσ14.1 108 5 (fun z => z))
            have g271 : 0 ≤ (wt_gf σ241 108 27).toInt ∧ (wt_gf σ241 108 27).toInt ≤ 60 := wt_Rf5 rσ241
            exact ⟨(wt_fr.tr (wt_fr.tr (wt_fr.tr (wt_fr.tr (wt_fr.tr (wt_fr.tr (wt_fr.tr (wt_fr.tr wt_fr.rf fσ14 (fun i k h => h.elim) (fun i h => by (try dsimp only at h); exact Or.inl (by first | exact h | omega))) l19 (fun i k h => h.elim) (fun i h => by (try dsimp only at h); exact Or.inr (Or.inr (Or.inr (by first | exact h | omega))))) fσ25 (fun i k h => by (try dsimp only at h); exact Or.inl (by first | exact h | omega)) (fun i h => h.elim)) fσ42 (fun i k h => h.elim) (fun i h => by (try dsimp only at h); exact Or.inr (Or.inl (by first | exact h | omega)))) f46 (fun i k h => by (try dsimp only at h); exact Or.inl (by first | exact h | omega)) (fun i h => h.elim)) fσ214 (fun i k h => by (try dsimp only at h); exact Or.inr (Or.inr (Or.inr (Or.inl (by first | exact h | omega))))) (fun i h => h.elim)) fσ237 (fun i k h => h.elim) (fun i h => by (try dsimp only at h); exact Or.inr (Or.inr (Or.inl (by first | exact h | omega))))) fσ241 (fun i k h => by (try dsimp only at h); exact Or.inr (Or.inr (Or.inr (Or.inr (by first | exact h | omega))))) (fun i h => h.elim)), rσ241, (show ((x1.toInt = 5 → (wt_gf σ241 108 5).toInt ≠ 0) ∧ (wt_gf σ 108 27).toInt ≤ (wt_gf σ241 108 27).toInt ∧ ((wt_gf σ241 108 5).toInt ≠ 0 ∨ (wt_gf σ241 108 27).toInt = (wt_gf σ 108 27).toInt + 1)) from by omega)⟩
          · skip
            have c272 := wt_nceq h212
            unfold wp_md_reads_B227
            have g274 : 0 ≤ (wt_gf r44 108 27).toInt ∧ (wt_gf r44 108 27).toInt ≤ 60 := wt_Rf5 ri47
            have tt275 : (wt_gf r44 108 27).toInt = (wt_gf σ42 108 27).toInt := congrArg Int32.toInt (f46.1 108 27 (by (try dsimp only); omega))
            have tt278 : (wt_gf σ42 108 27).toInt = (wt_gf σ25 108 27).toInt := congrArg Int32.toInt (fσ42.1 108 27 (fun z => z))
            refine wt_T_gd (wt_ix (by first | with_reducible assumption | omega) (by first | with_reducible assumption | omega)) ?_
            obtain ⟨σ279, eσ279⟩ : ∃ z : wt_St, z = wt_sa r44 129 (Int32.toNatClampNeg (wt_gf r44 108 27)) ((wt_gf r44 108 29) - (1 : Int32)) := ⟨_, rfl⟩
            rw [← eσ279]
            have fσ279 := wt_fr_sa eσ279
            have vσ279 := wt_ceq (wt_v_sa eσ279)
            have bb280 := wt_tn (wt_gf r44 108 27)
            have bb281 := wt_bd (wt_gf r44 108 29)
            have tt282 : (wt_gf r44 108 29).toInt = (wt_gf σ42 108 29).toInt := congrArg Int32.toInt (f46.1 108 29 (by (try dsimp only); omega))
            have bb283 := wt_bd (wt_gf σ42 108 29)
            have tt284 : (wt_gf σ42 108 29).toInt = (wt_gf σ25 108 29).toInt := congrArg Int32.toInt (fσ42.1 108 29 (fun z => z))
            have bb285 := wt_bd (wt_gf σ25 108 29)
            have tt286 : (wt_gf σ25 108 29).toInt = (wt_gf z17.2 108 29).toInt := congrArg Int32.toInt (fσ25.1 108 29 (by (try dsimp only); omega))
            have bb287 := wt_bd (wt_gf z17.2 108 29)
            have tt288 : (wt_gf z17.2 108 29).toInt = (wt_gf σ14 108 29).toInt := congrArg Int32.toInt (l19.1 108 29 (fun z => z))
            have bb289 := wt_bd (wt_gf σ14 108 29)
            have tt290 : (wt_gf σ14 108 29).toInt = (wt_gf σ 108 29).toInt := congrArg Int32.toInt (fσ14.1 108 29 (fun z => z))
            have bb291 := wt_bd (wt_gf σ 108 29)
            have k292 : (1 : Int32).toInt = 1 := by decide
            obtain ⟨j293, j293a, j293b⟩ := wt_subI (wt_gf r44 108 29) (1 : Int32)
            have rσ279 := wt_RI_no ri47 eσ279 129 130 (by decide +kernel) (by decide) (by decide)
            obtain ⟨σ294, eσ294⟩ : ∃ z : wt_St, z = wt_sf σ279 108 27 ((wt_gf σ279 108 27) + (1 : Int32)) := ⟨_, rfl⟩
            rw [← eσ294]
            have fσ294 := wt_fr_sf eσ294
            have vσ294 := wt_ceq (wt_v_sf eσ294)
            have g296 : 0 ≤ (wt_gf σ279 108 27).toInt ∧ (wt_gf σ279 108 27).toInt ≤ 60 := wt_Rf5 rσ279
            have tt297 : (wt_gf σ279 108 27).toInt = (wt_gf r44 108 27).toInt := congrArg Int32.toInt (fσ279.1 108 27 (fun z => z))
            obtain ⟨j298, j298a, j298b⟩ := wt_addI (wt_gf σ279 108 27) (1 : Int32)
            have rσ294 := wt_Rm5 rσ279 eσ294 (show 0 ≤ ((wt_gf σ279 108 27) + (1 : Int32)).toInt by omega) (show ((wt_gf σ279 108 27) + (1 : Int32)).toInt ≤ 60 by omega)
            refine wt_T_some ?_
            have g300 : 0 ≤ (wt_gf σ294 108 5).toInt ∧ (wt_gf σ294 108 5).toInt ≤ 3 := wt_Rf3 rσ294
            have tt301 : (wt_gf σ294 108 5).toInt = (wt_gf σ279 108 5).toInt := congrArg Int32.toInt (fσ294.1 108 5 (by (try dsimp only); omega))
            have tt304 : (wt_gf σ279 108 5).toInt = (wt_gf r44 108 5).toInt := congrArg Int32.toInt (fσ279.1 108 5 (fun z => z))
            have tt307 : (wt_gf r44 108 5).toInt = (wt_gf σ42 108 5).toInt := congrArg Int32.toInt (f46.1 108 5 (by (try dsimp only); omega))
            have tt310 : (wt_gf σ42 108 5).toInt = (wt_gf σ25 108 5).toInt := congrArg Int32.toInt (fσ42.1 108 5 (fun z => z))
            have tt313 : (wt_gf σ25 108 5).toInt = (wt_gf z17.2 108 5).toInt := congrArg Int32.toInt (fσ25.1 108 5 (by (try dsimp only); omega))
            have tt316 : (wt_gf z17.2 108 5).toInt = (wt_gf σ14 108 5).toInt := congrArg Int32.toInt (l19.1 108 5 (fun z => z))
            have tt319 : (wt_gf σ14 108 5).toInt = (wt_gf σ 108 5).toInt := congrArg Int32.toInt (fσ14.1 108 5 (fun z => z))
            have g321 : 0 ≤ (wt_gf σ294 108 27).toInt ∧ (wt_gf σ294 108 27).toInt ≤ 60 := wt_Rf5 rσ294
            exact ⟨(wt_fr.tr (wt_fr.tr (wt_fr.tr (wt_fr.tr (wt_fr.tr (wt_fr.tr (wt_fr.tr wt_fr.rf fσ14 (fun i k h => h.elim) (fun i h => by (try dsimp only at h); exact Or.inl (by first | exact h | omega))) l19 (fun i k h => h.elim) (fun i h => by (try dsimp only at h); exact Or.inr (Or.inr (Or.inr (by first | exact h | omega))))) fσ25 (fun i k h => by (try dsimp only at h); exact Or.inl (by first | exact h | omega)) (fun i h => h.elim)) fσ42 (fun i k h => h.elim) (fun i h => by (try dsimp only at h); exact Or.inr (Or.inl (by first | exact h | omega)))) f46 (fun i k h => by (try dsimp only at h); exact Or.inl (by first | exact h | omega)) (fun i h => h.elim)) fσ279 (fun i k h => h.elim) (fun i h => by (try dsimp only at h); exact Or.inr (Or.inr (Or.inl (by first | exact h | omega))))) fσ294 (fun i k h => by (try dsimp only at h); exact Or.inr (Or.inr (Or.inr (Or.inr (by first | exact h | omega))))) (fun i h => h.elim)), rσ294, (show ((x1.toInt = 5 → (wt_gf σ294 108 5).toInt ≠ 0) ∧ (wt_gf σ 108 27).toInt ≤ (wt_gf σ294 108 27).toInt ∧ ((wt_gf σ294 108 5).toInt ≠ 0 ∨ (wt_gf σ294 108 27).toInt = (wt_gf σ 108 27).toInt + 1)) from by omega)⟩
      · skip
        have c322 := wt_ncle h23
        have g324 : 0 ≤ (wt_gf z17.2 108 27).toInt ∧ (wt_gf z17.2 108 27).toInt ≤ 60 := wt_Rf5 l21
        have tt325 : (wt_gf z17.2 108 27).toInt = (wt_gf σ14 108 27).toInt := congrArg Int32.toInt (l19.1 108 27 (fun z => z))
        have tt328 : (wt_gf σ14 108 27).toInt = (wt_gf σ 108 27).toInt := congrArg Int32.toInt (fσ14.1 108 27 (fun z => z))
        refine wt_T_gd (wt_ix (by first | with_reducible assumption | omega) (by first | with_reducible assumption | omega)) ?_
        have g330 : 0 ≤ (wt_gf z17.2 108 4).toInt ∧ (wt_gf z17.2 108 4).toInt ≤ 500 := wt_Rf2 l21
        have tt331 : (wt_gf z17.2 108 4).toInt = (wt_gf σ14 108 4).toInt := congrArg Int32.toInt (l19.1 108 4 (fun z => z))
        have tt334 : (wt_gf σ14 108 4).toInt = (wt_gf σ 108 4).toInt := congrArg Int32.toInt (fσ14.1 108 4 (fun z => z))
        obtain ⟨j335, j335a, j335b⟩ := wt_addI (wt_gf z17.2 108 4) z17.1
        refine wt_T_bi (wq_md_byteAt n hn ((wt_gf z17.2 108 4) + z17.1) z17.2 l21 (by first | with_reducible assumption | omega)) (fun r336 h337 => ?_)
        obtain ⟨e338, pp339⟩ := h337
        have bb340 := wt_bd r336.1
        rw [e338]
        have g342 : 0 ≤ (wt_gf z17.2 108 2).toInt ∧ (wt_gf z17.2 108 2).toInt ≤ 500 := wt_Rf1 l21
        have tt343 : (wt_gf z17.2 108 2).toInt = (wt_gf σ14 108 2).toInt := congrArg Int32.toInt (l19.1 108 2 (fun z => z))
        have tt346 : (wt_gf σ14 108 2).toInt = (wt_gf σ 108 2).toInt := congrArg Int32.toInt (fσ14.1 108 2 (fun z => z))
        have bb347 := wt_tn ((wt_gf z17.2 108 4) + z17.1)
        have bb348 := wt_bd (wt_ga z17.2 109 (Int32.toNatClampNeg ((wt_gf z17.2 108 4) + z17.1)))
        have tt349 : (wt_ga z17.2 109 (Int32.toNatClampNeg ((wt_gf z17.2 108 4) + z17.1))).toInt = (wt_ga σ14 109 (Int32.toNatClampNeg ((wt_gf z17.2 108 4) + z17.1))).toInt := congrArg Int32.toInt (l19.2 109 (by (try dsimp only); omega) (Int32.toNatClampNeg ((wt_gf z17.2 108 4) + z17.1)))
        have bb350 := wt_bd (wt_ga σ14 109 (Int32.toNatClampNeg ((wt_gf z17.2 108 4) + z17.1)))
        have tt351 : (wt_ga σ14 109 (Int32.toNatClampNeg ((wt_gf z17.2 108 4) + z17.1))).toInt = (wt_ga σ 109 (Int32.toNatClampNeg ((wt_gf z17.2 108 4) + z17.1))).toInt := congrArg Int32.toInt (fσ14.2 109 (by (try dsimp only); omega) (Int32.toNatClampNeg ((wt_gf z17.2 108 4) + z17.1)))
        have bb352 := wt_bd (wt_ga σ 109 (Int32.toNatClampNeg ((wt_gf z17.2 108 4) + z17.1)))
        have lh353 : (wt_gf σ 108 5).toInt = 0 → (wt_gf σ 108 4).toInt ≤ ((wt_gf z17.2 108 4) + z17.1).toInt → ((wt_gf z17.2 108 4) + z17.1).toInt < (wt_gf σ 108 4).toInt + x2.toInt → 97 ≤ (wt_ga σ 109 (Int32.toNatClampNeg ((wt_gf z17.2 108 4) + z17.1))).toInt ∧ (wt_ga σ 109 (Int32.toNatClampNeg ((wt_gf z17.2 108 4) + z17.1))).toInt ≤ 122 := fun h => p3 h ((wt_gf z17.2 108 4) + z17.1)
        refine wt_T_gd (wt_ix (by first | with_reducible assumption | omega) (by first | with_reducible assumption | omega)) ?_
        obtain ⟨σ354, eσ354⟩ : ∃ z : wt_St, z = wt_sa z17.2 (132 + (Int32.toNatClampNeg (wt_gf z17.2 108 27))) (Int32.toNatClampNeg z17.1) (r336.1 - (97 : Int32)) := ⟨_, rfl⟩
        rw [← eσ354]
        have fσ354 := wt_fr_sa eσ354
        have vσ354 := wt_ceq (wt_v_sa eσ354)
        have bb355 := wt_tn z17.1
        have k356 : (97 : Int32).toInt = 97 := by decide
        obtain ⟨j357, j357a, j357b⟩ := wt_subI r336.1 (97 : Int32)
        have bb358 := wt_tn (wt_gf z17.2 108 27)
        have rσ354 := wt_Rn7 l21 eσ354 (show 132 ≤ 132 + (Int32.toNatClampNeg (wt_gf z17.2 108 27)) by omega) (show 132 + (Int32.toNatClampNeg (wt_gf z17.2 108 27)) < 192 by omega) (show 0 ≤ (r336.1 - (97 : Int32)).toInt by omega) (show (r336.1 - (97 : Int32)).toInt ≤ 25 by omega)
        refine hKK16 _ ⟨(wt_fr.tr (wt_fr.tr wt_fr.rf l19 (fun i k h => h.elim) (fun i h => by (try dsimp only at h); exact (by first | exact h | omega))) fσ354 (fun i k h => h.elim) (fun i h => by (try dsimp only at h); exact (by first | exact h | omega))), (wt_nn (B := x2) (by first | with_reducible assumption | omega) (by first | with_reducible assumption | omega)), rσ354⟩ ?_
        show (x2.toInt - (z17.1 + (1 : Int32)).toInt + 0).toNat < (x2.toInt - z17.1.toInt + 0).toNat
        exact wt_mu (by first | with_reducible assumption | omega) (by first | with_reducible assumption | omega)
    · skip
      exact ⟨wt_fr.rf, (show 0 ≤ ((0 : Int32)).toInt by omega), rσ14⟩
    · skip
      show (x2.toInt - (0 : Int32).toInt + 0).toNat < n
      omega
  · skip
    have c359 := wt_nceq h12
    refine wt_T_some ?_
    exact ⟨wt_fr.rf, r0, (show ((x1.toInt = 5 → (wt_gf σ 108 5).toInt ≠ 0) ∧ (wt_gf σ 108 27).toInt ≤ (wt_gf σ 108 27).toInt ∧ ((wt_gf σ 108 5).toInt ≠ 0 ∨ (wt_gf σ 108 27).toInt = (wt_gf σ 108 27).toInt + 1)) from by omega)⟩
set_option maxRecDepth 100000 in
set_option maxHeartbeats 4000000 in
theorem wq_md_reads (n : Nat) (hn : 4294967297 < n) (x1 : Int32) (σ : wt_St) (r0 : wt_RI σ) (p0 : 0 ≤ x1.toInt) (p1 : x1.toInt ≤ 5) : wt_T (wp_md_reads n x1 σ) (fun q => wt_fr (fun i k => (i = 108 ∧ k = 4) ∨ (i = 108 ∧ k = 5) ∨ (i = 108 ∧ k = 6) ∨ (i = 108 ∧ k = 29) ∨ (i = 108 ∧ k = 27)) (fun i => i = 125 ∨ i = 127 ∨ i = 129 ∨ (132 ≤ i ∧ i < 192)) σ q ∧ wt_RI q ∧ ((x1.toInt = 5 → (wt_gf q 108 5).toInt ≠ 0) ∧ (wt_gf σ 108 27).toInt ≤ (wt_gf q 108 27).toInt ∧ ((wt_gf q 108 5).toInt ≠ 0 ∨ (wt_gf q 108 27).toInt = (wt_gf σ 108 27).toInt + 1))) := by
  have bb1 := wt_bd x1
  unfold wp_md_reads
  refine wt_T_bi (wq_md_lettersHere n hn σ r0) (fun r2 h3 => ?_)
  obtain ⟨f4, ri5, pp6⟩ := h3
  have bb7 := wt_bd r2.1
  have g9 : 0 ≤ (wt_gf σ 108 4).toInt ∧ (wt_gf σ 108 4).toInt ≤ 500 := wt_Rf2 r0
  have g11 : 0 ≤ (wt_gf r2.2 108 4).toInt ∧ (wt_gf r2.2 108 4).toInt ≤ 500 := wt_Rf2 ri5
  have g13 : 0 ≤ (wt_gf r2.2 108 2).toInt ∧ (wt_gf r2.2 108 2).toInt ≤ 500 := wt_Rf1 ri5
  have tt14 : (wt_gf r2.2 108 2).toInt = (wt_gf σ 108 2).toInt := congrArg Int32.toInt (f4.1 108 2 (by (try dsimp only); omega))
  have k17 : (0 : Int32).toInt = 0 := by decide
  refine wt_T_if (fun h18 => ?_) (fun h18 => ?_)
  · skip
    have c19 := wt_ceq h18
    have k20 : (1 : Int32).toInt = 1 := by decide
    refine wt_T_bi (wq_md_wrong n hn (1 : Int32) (wt_gf r2.2 108 4) r2.2 ri5 (by first | with_reducible assumption | omega) (by first | with_reducible assumption | omega)) (fun r21 h22 => ?_)
    obtain ⟨f23, ri24, pp25⟩ := h22
    have g27 : 0 ≤ (wt_gf r21 108 5).toInt ∧ (wt_gf r21 108 5).toInt ≤ 3 := wt_Rf3 ri24
    have g29 : 0 ≤ (wt_gf r21 108 27).toInt ∧ (wt_gf r21 108 27).toInt ≤ 60 := wt_Rf5 ri24
    have tt30 : (wt_gf r21 108 27).toInt = (wt_gf r2.2 108 27).toInt := congrArg Int32.toInt (f23.1 108 27 (by (try dsimp only); omega))
    have tt33 : (wt_gf r2.2 108 27).toInt = (wt_gf σ 108 27).toInt := congrArg Int32.toInt (f4.1 108 27 (by (try dsimp only); omega))
    have g37 : 0 ≤ (wt_gf r21 108 4).toInt ∧ (wt_gf r21 108 4).toInt ≤ 500 := wt_Rf2 ri24
    have tt38 : (wt_gf r21 108 4).toInt = (wt_gf r2.2 108 4).toInt := congrArg Int32.toInt (f23.1 108 4 (by (try dsimp only); omega))
    have g40 : 0 ≤ (wt_gf r21 108 2).toInt ∧ (wt_gf r21 108 2).toInt ≤ 500 := wt_Rf1 ri24
    have tt41 : (wt_gf r21 108 2).toInt = (wt_gf r2.2 108 2).toInt := congrArg Int32.toInt (f23.1 108 2 (by (try dsimp only); omega))
    refine wt_T.imp (wq_md_reads_B92 n hn x1 r2.1 r21 ri24 (by first | with_reducible assumption | omega) (by first | with_reducible assumption | omega) (by first | with_reducible assumption | omega) (fun h => absurd h (by first | with_reducible assumption | omega))) (fun r42 h43 => ?_)
    obtain ⟨f44, ri45, pp46⟩ := h43
    have g48 : 0 ≤ (wt_gf r42 108 5).toInt ∧ (wt_gf r42 108 5).toInt ≤ 3 := wt_Rf3 ri45
    have g50 : 0 ≤ (wt_gf r42 108 27).toInt ∧ (wt_gf r42 108 27).toInt ≤ 60 := wt_Rf5 ri45
    exact ⟨(wt_fr.tr (wt_fr.tr (wt_fr.tr wt_fr.rf f4 (fun i k h => by (try dsimp only at h); exact Or.inl (by first | exact h | omega)) (fun i h => h.elim)) f23 (fun i k h => by (try dsimp only at h); rcases h with h | h; exact Or.inr (Or.inl (by first | exact h | omega)); exact Or.inr (Or.inr (Or.inl (by first | exact h | omega)))) (fun i h => h.elim)) f44 (fun i k h => by (try dsimp only at h); rcases h with h | h | h | h | h; exact Or.inl (by first | exact h | omega); exact Or.inr (Or.inl (by first | exact h | omega)); exact Or.inr (Or.inr (Or.inl (by first | exact h | omega))); exact Or.inr (Or.inr (Or.inr (Or.inl (by first | exact h | omega)))); exact Or.inr (Or.inr (Or.inr (Or.inr (by first | exact h | omega))))) (fun i h => by (try dsimp only at h); rcases h with h | h | h | h; exact Or.inl (by first | exact h | omega); exact Or.inr (Or.inl (by first | exact h | omega)); exact Or.inr (Or.inr (Or.inl (by first | exact h | omega))); exact Or.inr (Or.inr (Or.inr (by first | exact h | omega))))), ri45, (show ((x1.toInt = 5 → (wt_gf r42 108 5).toInt ≠ 0) ∧ (wt_gf σ 108 27).toInt ≤ (wt_gf r42 108 27).toInt ∧ ((wt_gf r42 108 5).toInt ≠ 0 ∨ (wt_gf r42 108 27).toInt = (wt_gf σ 108 27).toInt + 1)) from by omega)⟩
  · skip
    have c51 := wt_nceq h18
    have k52 : (9 : Int32).toInt = 9 := by decide
    refine wt_T_if (fun h53 => ?_) (fun h53 => ?_)
    · skip
      have c54 := wt_clt h53
      unfold wp_md_reads_B50
      have k55 : (2 : Int32).toInt = 2 := by decide
      refine wt_T_bi (wq_md_wrong n hn (2 : Int32) (wt_gf r2.2 108 4) r2.2 ri5 (by first | with_reducible assumption | omega) (by first | with_reducible assumption | omega)) (fun r56 h57 => ?_)
      obtain ⟨f58, ri59, pp60⟩ := h57
      have g62 : 0 ≤ (wt_gf r56 108 5).toInt ∧ (wt_gf r56 108 5).toInt ≤ 3 := wt_Rf3 ri59
      have g64 : 0 ≤ (wt_gf r56 108 27).toInt ∧ (wt_gf r56 108 27).toInt ≤ 60 := wt_Rf5 ri59
      have tt65 : (wt_gf r56 108 27).toInt = (wt_gf r2.2 108 27).toInt := congrArg Int32.toInt (f58.1 108 27 (by (try dsimp only); omega))
      have tt68 : (wt_gf r2.2 108 27).toInt = (wt_gf σ 108 27).toInt := congrArg Int32.toInt (f4.1 108 27 (by (try dsimp only); omega))
      have g72 : 0 ≤ (wt_gf r56 108 4).toInt ∧ (wt_gf r56 108 4).toInt ≤ 500 := wt_Rf2 ri59
      have tt73 : (wt_gf r56 108 4).toInt = (wt_gf r2.2 108 4).toInt := congrArg Int32.toInt (f58.1 108 4 (by (try dsimp only); omega))
      have g75 : 0 ≤ (wt_gf r56 108 2).toInt ∧ (wt_gf r56 108 2).toInt ≤ 500 := wt_Rf1 ri59
      have tt76 : (wt_gf r56 108 2).toInt = (wt_gf r2.2 108 2).toInt := congrArg Int32.toInt (f58.1 108 2 (by (try dsimp only); omega))
      refine wt_T.imp (wq_md_reads_B92 n hn x1 r2.1 r56 ri59 (by first | with_reducible assumption | omega) (by first | with_reducible assumption | omega) (by first | with_reducible assumption | omega) (fun h => absurd h (by first | with_reducible assumption | omega))) (fun r77 h78 => ?_)
      obtain ⟨f79, ri80, pp81⟩ := h78
      have g83 : 0 ≤ (wt_gf r77 108 5).toInt ∧ (wt_gf r77 108 5).toInt ≤ 3 := wt_Rf3 ri80
      have g85 : 0 ≤ (wt_gf r77 108 27).toInt ∧ (wt_gf r77 108 27).toInt ≤ 60 := wt_Rf5 ri80
      exact ⟨(wt_fr.tr (wt_fr.tr (wt_fr.tr wt_fr.rf f4 (fun i k h => by (try dsimp only at h); exact Or.inl (by first | exact h | omega)) (fun i h => h.elim)) f58 (fun i k h => by (try dsimp only at h); rcases h with h | h; exact Or.inr (Or.inl (by first | exact h | omega)); exact Or.inr (Or.inr (Or.inl (by first | exact h | omega)))) (fun i h => h.elim)) f79 (fun i k h => by (try dsimp only at h); rcases h with h | h | h | h | h; exact Or.inl (by first | exact h | omega); exact Or.inr (Or.inl (by first | exact h | omega)); exact Or.inr (Or.inr (Or.inl (by first | exact h | omega))); exact Or.inr (Or.inr (Or.inr (Or.inl (by first | exact h | omega)))); exact Or.inr (Or.inr (Or.inr (Or.inr (by first | exact h | omega))))) (fun i h => by (try dsimp only at h); rcases h with h | h | h | h; exact Or.inl (by first | exact h | omega); exact Or.inr (Or.inl (by first | exact h | omega)); exact Or.inr (Or.inr (Or.inl (by first | exact h | omega))); exact Or.inr (Or.inr (Or.inr (by first | exact h | omega))))), ri80, (show ((x1.toInt = 5 → (wt_gf r77 108 5).toInt ≠ 0) ∧ (wt_gf σ 108 27).toInt ≤ (wt_gf r77 108 27).toInt ∧ ((wt_gf r77 108 5).toInt ≠ 0 ∨ (wt_gf r77 108 27).toInt = (wt_gf σ 108 27).toInt + 1)) from by omega)⟩
    · skip
      have c86 := wt_ncl h53
      have g88 : 0 ≤ (wt_gf r2.2 108 27).toInt ∧ (wt_gf r2.2 108 27).toInt ≤ 60 := wt_Rf5 ri5
      have tt89 : (wt_gf r2.2 108 27).toInt = (wt_gf σ 108 27).toInt := congrArg Int32.toInt (f4.1 108 27 (by (try dsimp only); omega))
      refine wt_T_bi (wq_md_wordOf_131_125 n hn r2.1 (wt_gf r2.2 108 27) r2.2 ri5 (by first | with_reducible assumption | omega)) (fun r92 h93 => ?_)
      obtain ⟨e94, pp95⟩ := h93
      have bb96 := wt_bd r92.1
      rw [e94]
      refine wt_T_if (fun h97 => ?_) (fun h97 => ?_)
      · skip
        have c98 := wt_ceq h97
        rw [wt_lm1] at c98
        have k99 : (5 : Int32).toInt = 5 := by decide
        refine wt_T_if (fun h100 => ?_) (fun h100 => ?_)
        · skip
          have c101 := wt_ceq h100
          unfold wp_md_reads_B86
          have k102 : (3 : Int32).toInt = 3 := by decide
          refine wt_T_bi (wq_md_wrong n hn (3 : Int32) (wt_gf r2.2 108 4) r2.2 ri5 (by first | with_reducible assumption | omega) (by first | with_reducible assumption | omega)) (fun r103 h104 => ?_)
          obtain ⟨f105, ri106, pp107⟩ := h104
          have g109 : 0 ≤ (wt_gf r103 108 5).toInt ∧ (wt_gf r103 108 5).toInt ≤ 3 := wt_Rf3 ri106
          have g111 : 0 ≤ (wt_gf r103 108 27).toInt ∧ (wt_gf r103 108 27).toInt ≤ 60 := wt_Rf5 ri106
          have tt112 : (wt_gf r103 108 27).toInt = (wt_gf r2.2 108 27).toInt := congrArg Int32.toInt (f105.1 108 27 (by (try dsimp only); omega))
          have g114 : 0 ≤ (wt_gf r103 108 4).toInt ∧ (wt_gf r103 108 4).toInt ≤ 500 := wt_Rf2 ri106
          have tt115 : (wt_gf r103 108 4).toInt = (wt_gf r2.2 108 4).toInt := congrArg Int32.toInt (f105.1 108 4 (by (try dsimp only); omega))
          have g117 : 0 ≤ (wt_gf r103 108 2).toInt ∧ (wt_gf r103 108 2).toInt ≤ 500 := wt_Rf1 ri106
          have tt118 : (wt_gf r103 108 2).toInt = (wt_gf r2.2 108 2).toInt := congrArg Int32.toInt (f105.1 108 2 (by (try dsimp only); omega))
          refine wt_T.imp (wq_md_reads_B92 n hn x1 r2.1 r103 ri106 (by first | with_reducible assumption | omega) (by first | with_reducible assumption | omega) (by first | with_reducible assumption | omega) (fun h => absurd h (by first | with_reducible assumption | omega))) (fun r119 h120 => ?_)
          obtain ⟨f121, ri122, pp123⟩ := h120
          have g125 : 0 ≤ (wt_gf r119 108 5).toInt ∧ (wt_gf r119 108 5).toInt ≤ 3 := wt_Rf3 ri122
          have g127 : 0 ≤ (wt_gf r119 108 27).toInt ∧ (wt_gf r119 108 27).toInt ≤ 60 := wt_Rf5 ri122
          exact ⟨(wt_fr.tr (wt_fr.tr (wt_fr.tr wt_fr.rf f4 (fun i k h => by (try dsimp only at h); exact Or.inl (by first | exact h | omega)) (fun i h => h.elim)) f105 (fun i k h => by (try dsimp only at h); rcases h with h | h; exact Or.inr (Or.inl (by first | exact h | omega)); exact Or.inr (Or.inr (Or.inl (by first | exact h | omega)))) (fun i h => h.elim)) f121 (fun i k h => by (try dsimp only at h); rcases h with h | h | h | h | h; exact Or.inl (by first | exact h | omega); exact Or.inr (Or.inl (by first | exact h | omega)); exact Or.inr (Or.inr (Or.inl (by first | exact h | omega))); exact Or.inr (Or.inr (Or.inr (Or.inl (by first | exact h | omega)))); exact Or.inr (Or.inr (Or.inr (Or.inr (by first | exact h | omega))))) (fun i h => by (try dsimp only at h); rcases h with h | h | h | h; exact Or.inl (by first | exact h | omega); exact Or.inr (Or.inl (by first | exact h | omega)); exact Or.inr (Or.inr (Or.inl (by first | exact h | omega))); exact Or.inr (Or.inr (Or.inr (by first | exact h | omega))))), ri122, (show ((x1.toInt = 5 → (wt_gf r119 108 5).toInt ≠ 0) ∧ (wt_gf σ 108 27).toInt ≤ (wt_gf r119 108 27).toInt ∧ ((wt_gf r119 108 5).toInt ≠ 0 ∨ (wt_gf r119 108 27).toInt = (wt_gf σ 108 27).toInt + 1)) from by omega)⟩
        · skip
          have c128 := wt_nceq h100
          have k129 : (60 : Int32).toInt = 60 := by decide
          refine wt_T_if (fun h130 => ?_) (fun h130 => ?_)
          · skip
            have c131 := wt_ceq h130
            unfold wp_md_reads_B86
            have k132 : (3 : Int32).toInt = 3 := by decide
            refine wt_T_bi (wq_md_wrong n hn (3 : Int32) (wt_gf r2.2 108 4) r2.2 ri5 (by first | with_reducible assumption | omega) (by first | with_reducible assumption | omega)) (fun r133 h134 => ?_)
            obtain ⟨f135, ri136, pp137⟩ := h134
            have g139 : 0 ≤ (wt_gf r133 108 5).toInt ∧ (wt_gf r133 108 5).toInt ≤ 3 := wt_Rf3 ri136
            have g141 : 0 ≤ (wt_gf r133 108 27).toInt ∧ (wt_gf r133 108 27).toInt ≤ 60 := wt_Rf5 ri136
            have tt142 : (wt_gf r133 108 27).toInt = (wt_gf r2.2 108 27).toInt := congrArg Int32.toInt (f135.1 108 27 (by (try dsimp only); omega))
            have g144 : 0 ≤ (wt_gf r133 108 4).toInt ∧ (wt_gf r133 108 4).toInt ≤ 500 := wt_Rf2 ri136
            have tt145 : (wt_gf r133 108 4).toInt = (wt_gf r2.2 108 4).toInt := congrArg Int32.toInt (f135.1 108 4 (by (try dsimp only); omega))
            have g147 : 0 ≤ (wt_gf r133 108 2).toInt ∧ (wt_gf r133 108 2).toInt ≤ 500 := wt_Rf1 ri136
            have tt148 : (wt_gf r133 108 2).toInt = (wt_gf r2.2 108 2).toInt := congrArg Int32.toInt (f135.1 108 2 (by (try dsimp only); omega))
            refine wt_T.imp (wq_md_reads_B92 n hn x1 r2.1 r133 ri136 (by first | with_reducible assumption | omega) (by first | with_reducible assumption | omega) (by first | with_reducible assumption | omega) (fun h => absurd h (by first | with_reducible assumption | omega))) (fun r149 h150 => ?_)
            obtain ⟨f151, ri152, pp153⟩ := h150
            have g155 : 0 ≤ (wt_gf r149 108 5).toInt ∧ (wt_gf r149 108 5).toInt ≤ 3 := wt_Rf3 ri152
            have g157 : 0 ≤ (wt_gf r149 108 27).toInt ∧ (wt_gf r149 108 27).toInt ≤ 60 := wt_Rf5 ri152
            exact ⟨(wt_fr.tr (wt_fr.tr (wt_fr.tr wt_fr.rf f4 (fun i k h => by (try dsimp only at h); exact Or.inl (by first | exact h | omega)) (fun i h => h.elim)) f135 (fun i k h => by (try dsimp only at h); rcases h with h | h; exact Or.inr (Or.inl (by first | exact h | omega)); exact Or.inr (Or.inr (Or.inl (by first | exact h | omega)))) (fun i h => h.elim)) f151 (fun i k h => by (try dsimp only at h); rcases h with h | h | h | h | h; exact Or.inl (by first | exact h | omega); exact Or.inr (Or.inl (by first | exact h | omega)); exact Or.inr (Or.inr (Or.inl (by first | exact h | omega))); exact Or.inr (Or.inr (Or.inr (Or.inl (by first | exact h | omega)))); exact Or.inr (Or.inr (Or.inr (Or.inr (by first | exact h | omega))))) (fun i h => by (try dsimp only at h); rcases h with h | h | h | h; exact Or.inl (by first | exact h | omega); exact Or.inr (Or.inl (by first | exact h | omega)); exact Or.inr (Or.inr (Or.inl (by first | exact h | omega))); exact Or.inr (Or.inr (Or.inr (by first | exact h | omega))))), ri152, (show ((x1.toInt = 5 → (wt_gf r149 108 5).toInt ≠ 0) ∧ (wt_gf σ 108 27).toInt ≤ (wt_gf r149 108 27).toInt ∧ ((wt_gf r149 108 5).toInt ≠ 0 ∨ (wt_gf r149 108 27).toInt = (wt_gf σ 108 27).toInt + 1)) from by omega)⟩
          · skip
            have c158 := wt_nceq h130
            refine wt_T_if (fun h159 => ?_) (fun h159 => ?_)
            · skip
              have c160 := wt_ceq h159
              have bb161 := wt_bd (wt_gf r2.2 108 29)
              have tt162 : (wt_gf r2.2 108 29).toInt = (wt_gf σ 108 29).toInt := congrArg Int32.toInt (f4.1 108 29 (by (try dsimp only); omega))
              have bb163 := wt_bd (wt_gf σ 108 29)
              have k164 : (20 : Int32).toInt = 20 := by decide
              refine wt_T_if (fun h165 => ?_) (fun h165 => ?_)
              · skip
                have c166 := wt_ceq h165
                unfold wp_md_reads_B86
                have k167 : (3 : Int32).toInt = 3 := by decide
                refine wt_T_bi (wq_md_wrong n hn (3 : Int32) (wt_gf r2.2 108 4) r2.2 ri5 (by first | with_reducible assumption | omega) (by first | with_reducible assumption | omega)) (fun r168 h169 => ?_)
                obtain ⟨f170, ri171, pp172⟩ := h169
                have g174 : 0 ≤ (wt_gf r168 108 5).toInt ∧ (wt_gf r168 108 5).toInt ≤ 3 := wt_Rf3 ri171
                have g176 : 0 ≤ (wt_gf r168 108 27).toInt ∧ (wt_gf r168 108 27).toInt ≤ 60 := wt_Rf5 ri171
                have tt177 : (wt_gf r168 108 27).toInt = (wt_gf r2.2 108 27).toInt := congrArg Int32.toInt (f170.1 108 27 (by (try dsimp only); omega))
                have g179 : 0 ≤ (wt_gf r168 108 4).toInt ∧ (wt_gf r168 108 4).toInt ≤ 500 := wt_Rf2 ri171
                have tt180 : (wt_gf r168 108 4).toInt = (wt_gf r2.2 108 4).toInt := congrArg Int32.toInt (f170.1 108 4 (by (try dsimp only); omega))
                have g182 : 0 ≤ (wt_gf r168 108 2).toInt ∧ (wt_gf r168 108 2).toInt ≤ 500 := wt_Rf1 ri171
                have tt183 : (wt_gf r168 108 2).toInt = (wt_gf r2.2 108 2).toInt := congrArg Int32.toInt (f170.1 108 2 (by (try dsimp only); omega))
                refine wt_T.imp (wq_md_reads_B92 n hn x1 r2.1 r168 ri171 (by first | with_reducible assumption | omega) (by first | with_reducible assumption | omega) (by first | with_reducible assumption | omega) (fun h => absurd h (by first | with_reducible assumption | omega))) (fun r184 h185 => ?_)
                obtain ⟨f186, ri187, pp188⟩ := h185
                have g190 : 0 ≤ (wt_gf r184 108 5).toInt ∧ (wt_gf r184 108 5).toInt ≤ 3 := wt_Rf3 ri187
                have g192 : 0 ≤ (wt_gf r184 108 27).toInt ∧ (wt_gf r184 108 27).toInt ≤ 60 := wt_Rf5 ri187
                exact ⟨(wt_fr.tr (wt_fr.tr (wt_fr.tr wt_fr.rf f4 (fun i k h => by (try dsimp only at h); exact Or.inl (by first | exact h | omega)) (fun i h => h.elim)) f170 (fun i k h => by (try dsimp only at h); rcases h with h | h; exact Or.inr (Or.inl (by first | exact h | omega)); exact Or.inr (Or.inr (Or.inl (by first | exact h | omega)))) (fun i h => h.elim)) f186 (fun i k h => by (try dsimp only at h); rcases h with h | h | h | h | h; exact Or.inl (by first | exact h | omega); exact Or.inr (Or.inl (by first | exact h | omega)); exact Or.inr (Or.inr (Or.inl (by first | exact h | omega))); exact Or.inr (Or.inr (Or.inr (Or.inl (by first | exact h | omega)))); exact Or.inr (Or.inr (Or.inr (Or.inr (by first | exact h | omega))))) (fun i h => by (try dsimp only at h); rcases h with h | h | h | h; exact Or.inl (by first | exact h | omega); exact Or.inr (Or.inl (by first | exact h | omega)); exact Or.inr (Or.inr (Or.inl (by first | exact h | omega))); exact Or.inr (Or.inr (Or.inr (by first | exact h | omega))))), ri187, (show ((x1.toInt = 5 → (wt_gf r184 108 5).toInt ≠ 0) ∧ (wt_gf σ 108 27).toInt ≤ (wt_gf r184 108 27).toInt ∧ ((wt_gf r184 108 5).toInt ≠ 0 ∨ (wt_gf r184 108 27).toInt = (wt_gf σ 108 27).toInt + 1)) from by omega)⟩
              · skip
                have c193 := wt_nceq h165
                have g195 : 0 ≤ (wt_gf r2.2 108 5).toInt ∧ (wt_gf r2.2 108 5).toInt ≤ 3 := wt_Rf3 ri5
                have tt196 : (wt_gf r2.2 108 5).toInt = (wt_gf σ 108 5).toInt := congrArg Int32.toInt (f4.1 108 5 (by (try dsimp only); omega))
                refine wt_T.imp (wq_md_reads_B92 n hn x1 r2.1 r2.2 ri5 (by first | with_reducible assumption | omega) (by first | with_reducible assumption | omega) (by first | with_reducible assumption | omega) (fun _ => pp6.2.2)) (fun r199 h200 => ?_)
                obtain ⟨f201, ri202, pp203⟩ := h200
                have g205 : 0 ≤ (wt_gf r199 108 5).toInt ∧ (wt_gf r199 108 5).toInt ≤ 3 := wt_Rf3 ri202
                have g207 : 0 ≤ (wt_gf r199 108 27).toInt ∧ (wt_gf r199 108 27).toInt ≤ 60 := wt_Rf5 ri202
                exact ⟨(wt_fr.tr (wt_fr.tr wt_fr.rf f4 (fun i k h => by (try dsimp only at h); exact Or.inl (by first | exact h | omega)) (fun i h => h.elim)) f201 (fun i k h => by (try dsimp only at h); rcases h with h | h | h | h | h; exact Or.inl (by first | exact h | omega); exact Or.inr (Or.inl (by first | exact h | omega)); exact Or.inr (Or.inr (Or.inl (by first | exact h | omega))); exact Or.inr (Or.inr (Or.inr (Or.inl (by first | exact h | omega)))); exact Or.inr (Or.inr (Or.inr (Or.inr (by first | exact h | omega))))) (fun i h => by (try dsimp only at h); rcases h with h | h | h | h; exact Or.inl (by first | exact h | omega); exact Or.inr (Or.inl (by first | exact h | omega)); exact Or.inr (Or.inr (Or.inl (by first | exact h | omega))); exact Or.inr (Or.inr (Or.inr (by first | exact h | omega))))), ri202, (show ((x1.toInt = 5 → (wt_gf r199 108 5).toInt ≠ 0) ∧ (wt_gf σ 108 27).toInt ≤ (wt_gf r199 108 27).toInt ∧ ((wt_gf r199 108 5).toInt ≠ 0 ∨ (wt_gf r199 108 27).toInt = (wt_gf σ 108 27).toInt + 1)) from by omega)⟩
            · skip
              have c208 := wt_nceq h159
              have g210 : 0 ≤ (wt_gf r2.2 108 5).toInt ∧ (wt_gf r2.2 108 5).toInt ≤ 3 := wt_Rf3 ri5
              have tt211 : (wt_gf r2.2 108 5).toInt = (wt_gf σ 108 5).toInt := congrArg Int32.toInt (f4.1 108 5 (by (try dsimp only); omega))
              refine wt_T.imp (wq_md_reads_B92 n hn x1 r2.1 r2.2 ri5 (by first | with_reducible assumption | omega) (by first | with_reducible assumption | omega) (by first | with_reducible assumption | omega) (fun _ => pp6.2.2)) (fun r214 h215 => ?_)
              obtain ⟨f216, ri217, pp218⟩ := h215
              have g220 : 0 ≤ (wt_gf r214 108 5).toInt ∧ (wt_gf r214 108 5).toInt ≤ 3 := wt_Rf3 ri217
              have g222 : 0 ≤ (wt_gf r214 108 27).toInt ∧ (wt_gf r214 108 27).toInt ≤ 60 := wt_Rf5 ri217
              exact ⟨(wt_fr.tr (wt_fr.tr wt_fr.rf f4 (fun i k h => by (try dsimp only at h); exact Or.inl (by first | exact h | omega)) (fun i h => h.elim)) f216 (fun i k h => by (try dsimp only at h); rcases h with h | h | h | h | h; exact Or.inl (by first | exact h | omega); exact Or.inr (Or.inl (by first | exact h | omega)); exact Or.inr (Or.inr (Or.inl (by first | exact h | omega))); exact Or.inr (Or.inr (Or.inr (Or.inl (by first | exact h | omega)))); exact Or.inr (Or.inr (Or.inr (Or.inr (by first | exact h | omega))))) (fun i h => by (try dsimp only at h); rcases h with h | h | h | h; exact Or.inl (by first | exact h | omega); exact Or.inr (Or.inl (by first | exact h | omega)); exact Or.inr (Or.inr (Or.inl (by first | exact h | omega))); exact Or.inr (Or.inr (Or.inr (by first | exact h | omega))))), ri217, (show ((x1.toInt = 5 → (wt_gf r214 108 5).toInt ≠ 0) ∧ (wt_gf σ 108 27).toInt ≤ (wt_gf r214 108 27).toInt ∧ ((wt_gf r214 108 5).toInt ≠ 0 ∨ (wt_gf r214 108 27).toInt = (wt_gf σ 108 27).toInt + 1)) from by omega)⟩
      · skip
        have c223 := wt_nceq h97
        rw [wt_lm1] at c223
        unfold wp_md_reads_B50
        have k224 : (2 : Int32).toInt = 2 := by decide
        refine wt_T_bi (wq_md_wrong n hn (2 : Int32) (wt_gf r2.2 108 4) r2.2 ri5 (by first | with_reducible assumption | omega) (by first | with_reducible assumption | omega)) (fun r225 h226 => ?_)
        obtain ⟨f227, ri228, pp229⟩ := h226
        have g231 : 0 ≤ (wt_gf r225 108 5).toInt ∧ (wt_gf r225 108 5).toInt ≤ 3 := wt_Rf3 ri228
        have g233 : 0 ≤ (wt_gf r225 108 27).toInt ∧ (wt_gf r225 108 27).toInt ≤ 60 := wt_Rf5 ri228
        have tt234 : (wt_gf r225 108 27).toInt = (wt_gf r2.2 108 27).toInt := congrArg Int32.toInt (f227.1 108 27 (by (try dsimp only); omega))
        have g236 : 0 ≤ (wt_gf r225 108 4).toInt ∧ (wt_gf r225 108 4).toInt ≤ 500 := wt_Rf2 ri228
        have tt237 : (wt_gf r225 108 4).toInt = (wt_gf r2.2 108 4).toInt := congrArg Int32.toInt (f227.1 108 4 (by (try dsimp only); omega))
        have g239 : 0 ≤ (wt_gf r225 108 2).toInt ∧ (wt_gf r225 108 2).toInt ≤ 500 := wt_Rf1 ri228
        have tt240 : (wt_gf r225 108 2).toInt = (wt_gf r2.2 108 2).toInt := congrArg Int32.toInt (f227.1 108 2 (by (try dsimp only); omega))
        refine wt_T.imp (wq_md_reads_B92 n hn x1 r2.1 r225 ri228 (by first | with_reducible assumption | omega) (by first | with_reducible assumption | omega) (by first | with_reducible assumption | omega) (fun h => absurd h (by first | with_reducible assumption | omega))) (fun r241 h242 => ?_)
        obtain ⟨f243, ri244, pp245⟩ := h242
        have g247 : 0 ≤ (wt_gf r241 108 5).toInt ∧ (wt_gf r241 108 5).toInt ≤ 3 := wt_Rf3 ri244
        have g249 : 0 ≤ (wt_gf r241 108 27).toInt ∧ (wt_gf r241 108 27).toInt ≤ 60 := wt_Rf5 ri244
        exact ⟨(wt_fr.tr (wt_fr.tr (wt_fr.tr wt_fr.rf f4 (fun i k h => by (try dsimp only at h); exact Or.inl (by first | exact h | omega)) (fun i h => h.elim)) f227 (fun i k h => by (try dsimp only at h); rcases h with h | h; exact Or.inr (Or.inl (by first | exact h | omega)); exact Or.inr (Or.inr (Or.inl (by first | exact h | omega)))) (fun i h => h.elim)) f243 (fun i k h => by (try dsimp only at h); rcases h with h | h | h | h | h; exact Or.inl (by first | exact h | omega); exact Or.inr (Or.inl (by first | exact h | omega)); exact Or.inr (Or.inr (Or.inl (by first | exact h | omega))); exact Or.inr (Or.inr (Or.inr (Or.inl (by first | exact h | omega)))); exact Or.inr (Or.inr (Or.inr (Or.inr (by first | exact h | omega))))) (fun i h => by (try dsimp only at h); rcases h with h | h | h | h; exact Or.inl (by first | exact h | omega); exact Or.inr (Or.inl (by first | exact h | omega)); exact Or.inr (Or.inr (Or.inl (by first | exact h | omega))); exact Or.inr (Or.inr (Or.inr (by first | exact h | omega))))), ri244, (show ((x1.toInt = 5 → (wt_gf r241 108 5).toInt ≠ 0) ∧ (wt_gf σ 108 27).toInt ≤ (wt_gf r241 108 27).toInt ∧ ((wt_gf r241 108 5).toInt ≠ 0 ∨ (wt_gf r241 108 27).toInt = (wt_gf σ 108 27).toInt + 1)) from by omega)⟩
set_option maxRecDepth 100000 in
set_option maxHeartbeats 4000000 in
theorem wq_md_said (n : Nat) (hn : 4294967297 < n) (x1 : Int32) (x2 : Int32) (σ : wt_St) (r0 : wt_RI σ) : wt_T (wp_md_said n x1 x2 σ) (fun q => wt_fr (fun i k => (i = 108 ∧ k = 0) ∨ (i = 108 ∧ k = 54)) (fun i => i = 286 ∨ i = 287 ∨ i = 124 ∨ i = 288 ∨ i = 121) σ q.2 ∧ wt_RI q.2) := by
  have bb1 := wt_bd x1
  have bb2 := wt_bd x2
  unfold wp_md_said
  obtain ⟨σ3, eσ3⟩ : ∃ z : wt_St, z = wt_sf σ 108 0 (0 : Int32) := ⟨_, rfl⟩
  rw [← eσ3]
  have fσ3 := wt_fr_sf eσ3
  have vσ3 := wt_ceq (wt_v_sf eσ3)
  have k4 : (0 : Int32).toInt = 0 := by decide
  have rσ3 := wt_RI_fno r0 eσ3 (Or.inr (by decide +kernel))
  refine wt_T_bi (wq_md_isWordNumber n hn x1 σ3 rσ3) (fun r5 h6 => ?_)
  obtain ⟨e7, pp8⟩ := h6
  have bb9 := wt_bd r5.1
  rw [e7]
  have g11 : 0 ≤ (wt_gf σ3 108 28).toInt ∧ (wt_gf σ3 108 28).toInt ≤ 60 := wt_Rf6 rσ3
  have tt12 : (wt_gf σ3 108 28).toInt = (wt_gf σ 108 28).toInt := congrArg Int32.toInt (fσ3.1 108 28 (by (try dsimp only); omega))
  refine wt_T_if (fun h15 => ?_) (fun h15 => ?_)
  · skip
    have c16 := wt_ceq h15
    unfold wp_md_said_B19
    have k17 : (1 : Int32).toInt = 1 := by decide
    refine wt_T_bi (wq_md_bad n hn (1 : Int32) (1 : Int32) σ3 rσ3 (by first | with_reducible assumption | omega)) (fun r18 h19 => ?_)
    obtain ⟨f20, ri21, pp22⟩ := h19
    have bb23 := wt_bd r18.1
    have bb24 := wt_bd (wt_gf r18.2 108 0)
    have bb25 := wt_bd (wt_gf σ3 108 0)
    refine wt_T_if (fun h26 => ?_) (fun h26 => ?_)
    · skip
      have c27 := wt_ceq h26
      refine wt_T_bi (wq_md_isWeek n hn x2 r18.2 ri21) (fun r28 h29 => ?_)
      obtain ⟨e30, pp31⟩ := h29
      have bb32 := wt_bd r28.1
      rw [e30]
      refine wt_T_if (fun h33 => ?_) (fun h33 => ?_)
      · skip
        have c34 := wt_ceq h33
        unfold wp_md_said_B39
        have k35 : (2 : Int32).toInt = 2 := by decide
        refine wt_T_bi (wq_md_bad n hn (1 : Int32) (2 : Int32) r18.2 ri21 (by first | with_reducible assumption | omega)) (fun r36 h37 => ?_)
        obtain ⟨f38, ri39, pp40⟩ := h37
        have bb41 := wt_bd r36.1
        have bb42 := wt_bd (wt_gf r36.2 108 0)
        refine wt_T_if (fun h43 => ?_) (fun h43 => ?_)
        · skip
          have c44 := wt_ceq h43
          refine wt_T_bi (wq_md_greedyAhead n hn x2 r36.2 ri39) (fun r45 h46 => ?_)
          obtain ⟨f47, ri48⟩ := h46
          refine wt_T_bi (wq_md_canWord n hn x1 r45.2 ri48 (by first | with_reducible assumption | omega) (by first | with_reducible assumption | omega)) (fun r49 h50 => ?_)
          obtain ⟨f51, ri52, pp53⟩ := h50
          have bb54 := wt_bd r49.1
          refine wt_T_bi (wq_md_putsBack n hn r49.2 ri52) (fun r55 h56 => ?_)
          obtain ⟨f57, ri58⟩ := h56
          refine wt_T_some ?_
          exact ⟨(wt_fr.tr (wt_fr.tr (wt_fr.tr (wt_fr.tr (wt_fr.tr (wt_fr.tr wt_fr.rf fσ3 (fun i k h => by (try dsimp only at h); exact Or.inl (by first | exact h | omega)) (fun i h => h.elim)) f20 (fun i k h => by (try dsimp only at h); exact Or.inl (by first | exact h | omega)) (fun i h => h.elim)) f38 (fun i k h => by (try dsimp only at h); exact Or.inl (by first | exact h | omega)) (fun i h => h.elim)) f47 (fun i k h => by (try dsimp only at h); exact Or.inr (by first | exact h | omega)) (fun i h => by (try dsimp only at h); rcases h with h | h | h | h | h; exact Or.inl (by first | exact h | omega); exact Or.inr (Or.inl (by first | exact h | omega)); exact Or.inr (Or.inr (Or.inl (by first | exact h | omega))); exact Or.inr (Or.inr (Or.inr (Or.inl (by first | exact h | omega)))); exact Or.inr (Or.inr (Or.inr (Or.inr (by first | exact h | omega)))))) f51 (fun i k h => h.elim) (fun i h => by (try dsimp only at h); exact Or.inr (Or.inl (by first | exact h | omega)))) f57 (fun i k h => h.elim) (fun i h => by (try dsimp only at h); exact Or.inr (Or.inr (Or.inr (Or.inr (by first | exact h | omega)))))), ri58⟩
        · skip
          have c59 := wt_nceq h43
          refine wt_T_some ?_
          exact ⟨(wt_fr.tr (wt_fr.tr (wt_fr.tr wt_fr.rf fσ3 (fun i k h => by (try dsimp only at h); exact Or.inl (by first | exact h | omega)) (fun i h => h.elim)) f20 (fun i k h => by (try dsimp only at h); exact Or.inl (by first | exact h | omega)) (fun i h => h.elim)) f38 (fun i k h => by (try dsimp only at h); exact Or.inl (by first | exact h | omega)) (fun i h => h.elim)), ri39⟩
      · skip
        have c60 := wt_nceq h33
        unfold wp_md_said_B39
        have k61 : (2 : Int32).toInt = 2 := by decide
        refine wt_T_bi (wq_md_bad n hn (0 : Int32) (2 : Int32) r18.2 ri21 (by first | with_reducible assumption | omega)) (fun r62 h63 => ?_)
        obtain ⟨f64, ri65, pp66⟩ := h63
        have bb67 := wt_bd r62.1
        have bb68 := wt_bd (wt_gf r62.2 108 0)
        refine wt_T_if (fun h69 => ?_) (fun h69 => ?_)
        · skip
          have c70 := wt_ceq h69
          refine wt_T_bi (wq_md_greedyAhead n hn x2 r62.2 ri65) (fun r71 h72 => ?_)
          obtain ⟨f73, ri74⟩ := h72
          refine wt_T_bi (wq_md_canWord n hn x1 r71.2 ri74 (by first | with_reducible assumption | omega) (by first | with_reducible assumption | omega)) (fun r75 h76 => ?_)
          obtain ⟨f77, ri78, pp79⟩ := h76
          have bb80 := wt_bd r75.1
          refine wt_T_bi (wq_md_putsBack n hn r75.2 ri78) (fun r81 h82 => ?_)
          obtain ⟨f83, ri84⟩ := h82
          refine wt_T_some ?_
          exact ⟨(wt_fr.tr (wt_fr.tr (wt_fr.tr (wt_fr.tr (wt_fr.tr (wt_fr.tr wt_fr.rf fσ3 (fun i k h => by (try dsimp only at h); exact Or.inl (by first | exact h | omega)) (fun i h => h.elim)) f20 (fun i k h => by (try dsimp only at h); exact Or.inl (by first | exact h | omega)) (fun i h => h.elim)) f64 (fun i k h => by (try dsimp only at h); exact Or.inl (by first | exact h | omega)) (fun i h => h.elim)) f73 (fun i k h => by (try dsimp only at h); exact Or.inr (by first | exact h | omega)) (fun i h => by (try dsimp only at h); rcases h with h | h | h | h | h; exact Or.inl (by first | exact h | omega); exact Or.inr (Or.inl (by first | exact h | omega)); exact Or.inr (Or.inr (Or.inl (by first | exact h | omega))); exact Or.inr (Or.inr (Or.inr (Or.inl (by first | exact h | omega)))); exact Or.inr (Or.inr (Or.inr (Or.inr (by first | exact h | omega)))))) f77 (fun i k h => h.elim) (fun i h => by (try dsimp only at h); exact Or.inr (Or.inl (by first | exact h | omega)))) f83 (fun i k h => h.elim) (fun i h => by (try dsimp only at h); exact Or.inr (Or.inr (Or.inr (Or.inr (by first | exact h | omega)))))), ri84⟩
        · skip
          have c85 := wt_nceq h69
          refine wt_T_some ?_
          exact ⟨(wt_fr.tr (wt_fr.tr (wt_fr.tr wt_fr.rf fσ3 (fun i k h => by (try dsimp only at h); exact Or.inl (by first | exact h | omega)) (fun i h => h.elim)) f20 (fun i k h => by (try dsimp only at h); exact Or.inl (by first | exact h | omega)) (fun i h => h.elim)) f64 (fun i k h => by (try dsimp only at h); exact Or.inl (by first | exact h | omega)) (fun i h => h.elim)), ri65⟩
    · skip
      have c86 := wt_nceq h26
      refine wt_T_some ?_
      exact ⟨(wt_fr.tr (wt_fr.tr wt_fr.rf fσ3 (fun i k h => by (try dsimp only at h); exact Or.inl (by first | exact h | omega)) (fun i h => h.elim)) f20 (fun i k h => by (try dsimp only at h); exact Or.inl (by first | exact h | omega)) (fun i h => h.elim)), ri21⟩
  · skip
    have c87 := wt_nceq h15
    unfold wp_md_said_B19
    have k88 : (1 : Int32).toInt = 1 := by decide
    refine wt_T_bi (wq_md_bad n hn (0 : Int32) (1 : Int32) σ3 rσ3 (by first | with_reducible assumption | omega)) (fun r89 h90 => ?_)
    obtain ⟨f91, ri92, pp93⟩ := h90
    have bb94 := wt_bd r89.1
    have bb95 := wt_bd (wt_gf r89.2 108 0)
    have bb96 := wt_bd (wt_gf σ3 108 0)
    refine wt_T_if (fun h97 => ?_) (fun h97 => ?_)
    · skip
      have c98 := wt_ceq h97
      refine wt_T_bi (wq_md_isWeek n hn x2 r89.2 ri92) (fun r99 h100 => ?_)
      obtain ⟨e101, pp102⟩ := h100
      have bb103 := wt_bd r99.1
      rw [e101]
      refine wt_T_if (fun h104 => ?_) (fun h104 => ?_)
      · skip
        have c105 := wt_ceq h104
        unfold wp_md_said_B39
        have k106 : (2 : Int32).toInt = 2 := by decide
        refine wt_T_bi (wq_md_bad n hn (1 : Int32) (2 : Int32) r89.2 ri92 (by first | with_reducible assumption | omega)) (fun r107 h108 => ?_)
        obtain ⟨f109, ri110, pp111⟩ := h108
        have bb112 := wt_bd r107.1
        have bb113 := wt_bd (wt_gf r107.2 108 0)
        refine wt_T_if (fun h114 => ?_) (fun h114 => ?_)
        · skip
          have c115 := wt_ceq h114
          refine wt_T_bi (wq_md_greedyAhead n hn x2 r107.2 ri110) (fun r116 h117 => ?_)
          obtain ⟨f118, ri119⟩ := h117
          refine wt_T_bi (wq_md_canWord n hn x1 r116.2 ri119 (by first | with_reducible assumption | omega) (by first | with_reducible assumption | omega)) (fun r120 h121 => ?_)
          obtain ⟨f122, ri123, pp124⟩ := h121
          have bb125 := wt_bd r120.1
          refine wt_T_bi (wq_md_putsBack n hn r120.2 ri123) (fun r126 h127 => ?_)
          obtain ⟨f128, ri129⟩ := h127
          refine wt_T_some ?_
          exact ⟨(wt_fr.tr (wt_fr.tr (wt_fr.tr (wt_fr.tr (wt_fr.tr (wt_fr.tr wt_fr.rf fσ3 (fun i k h => by (try dsimp only at h); exact Or.inl (by first | exact h | omega)) (fun i h => h.elim)) f91 (fun i k h => by (try dsimp only at h); exact Or.inl (by first | exact h | omega)) (fun i h => h.elim)) f109 (fun i k h => by (try dsimp only at h); exact Or.inl (by first | exact h | omega)) (fun i h => h.elim)) f118 (fun i k h => by (try dsimp only at h); exact Or.inr (by first | exact h | omega)) (fun i h => by (try dsimp only at h); rcases h with h | h | h | h | h; exact Or.inl (by first | exact h | omega); exact Or.inr (Or.inl (by first | exact h | omega)); exact Or.inr (Or.inr (Or.inl (by first | exact h | omega))); exact Or.inr (Or.inr (Or.inr (Or.inl (by first | exact h | omega)))); exact Or.inr (Or.inr (Or.inr (Or.inr (by first | exact h | omega)))))) f122 (fun i k h => h.elim) (fun i h => by (try dsimp only at h); exact Or.inr (Or.inl (by first | exact h | omega)))) f128 (fun i k h => h.elim) (fun i h => by (try dsimp only at h); exact Or.inr (Or.inr (Or.inr (Or.inr (by first | exact h | omega)))))), ri129⟩
        · skip
          have c130 := wt_nceq h114
          refine wt_T_some ?_
          exact ⟨(wt_fr.tr (wt_fr.tr (wt_fr.tr wt_fr.rf fσ3 (fun i k h => by (try dsimp only at h); exact Or.inl (by first | exact h | omega)) (fun i h => h.elim)) f91 (fun i k h => by (try dsimp only at h); exact Or.inl (by first | exact h | omega)) (fun i h => h.elim)) f109 (fun i k h => by (try dsimp only at h); exact Or.inl (by first | exact h | omega)) (fun i h => h.elim)), ri110⟩
      · skip
        have c131 := wt_nceq h104
        unfold wp_md_said_B39
        have k132 : (2 : Int32).toInt = 2 := by decide
        refine wt_T_bi (wq_md_bad n hn (0 : Int32) (2 : Int32) r89.2 ri92 (by first | with_reducible assumption | omega)) (fun r133 h134 => ?_)
        obtain ⟨f135, ri136, pp137⟩ := h134
        have bb138 := wt_bd r133.1
        have bb139 := wt_bd (wt_gf r133.2 108 0)
        refine wt_T_if (fun h140 => ?_) (fun h140 => ?_)
        · skip
          have c141 := wt_ceq h140
          refine wt_T_bi (wq_md_greedyAhead n hn x2 r133.2 ri136) (fun r142 h143 => ?_)
          obtain ⟨f144, ri145⟩ := h143
          refine wt_T_bi (wq_md_canWord n hn x1 r142.2 ri145 (by first | with_reducible assumption | omega) (by first | with_reducible assumption | omega)) (fun r146 h147 => ?_)
          obtain ⟨f148, ri149, pp150⟩ := h147
          have bb151 := wt_bd r146.1
          refine wt_T_bi (wq_md_putsBack n hn r146.2 ri149) (fun r152 h153 => ?_)
          obtain ⟨f154, ri155⟩ := h153
          refine wt_T_some ?_
          exact ⟨(wt_fr.tr (wt_fr.tr (wt_fr.tr (wt_fr.tr (wt_fr.tr (wt_fr.tr wt_fr.rf fσ3 (fun i k h => by (try dsimp only at h); exact Or.inl (by first | exact h | omega)) (fun i h => h.elim)) f91 (fun i k h => by (try dsimp only at h); exact Or.inl (by first | exact h | omega)) (fun i h => h.elim)) f135 (fun i k h => by (try dsimp only at h); exact Or.inl (by first | exact h | omega)) (fun i h => h.elim)) f144 (fun i k h => by (try dsimp only at h); exact Or.inr (by first | exact h | omega)) (fun i h => by (try dsimp only at h); rcases h with h | h | h | h | h; exact Or.inl (by first | exact h | omega); exact Or.inr (Or.inl (by first | exact h | omega)); exact Or.inr (Or.inr (Or.inl (by first | exact h | omega))); exact Or.inr (Or.inr (Or.inr (Or.inl (by first | exact h | omega)))); exact Or.inr (Or.inr (Or.inr (Or.inr (by first | exact h | omega)))))) f148 (fun i k h => h.elim) (fun i h => by (try dsimp only at h); exact Or.inr (Or.inl (by first | exact h | omega)))) f154 (fun i k h => h.elim) (fun i h => by (try dsimp only at h); exact Or.inr (Or.inr (Or.inr (Or.inr (by first | exact h | omega)))))), ri155⟩
        · skip
          have c156 := wt_nceq h140
          refine wt_T_some ?_
          exact ⟨(wt_fr.tr (wt_fr.tr (wt_fr.tr wt_fr.rf fσ3 (fun i k h => by (try dsimp only at h); exact Or.inl (by first | exact h | omega)) (fun i h => h.elim)) f91 (fun i k h => by (try dsimp only at h); exact Or.inl (by first | exact h | omega)) (fun i h => h.elim)) f135 (fun i k h => by (try dsimp only at h); exact Or.inl (by first | exact h | omega)) (fun i h => h.elim)), ri136⟩
    · skip
      have c157 := wt_nceq h97
      refine wt_T_some ?_
      exact ⟨(wt_fr.tr (wt_fr.tr wt_fr.rf fσ3 (fun i k h => by (try dsimp only at h); exact Or.inl (by first | exact h | omega)) (fun i h => h.elim)) f91 (fun i k h => by (try dsimp only at h); exact Or.inl (by first | exact h | omega)) (fun i h => h.elim)), ri92⟩
set_option maxRecDepth 100000 in
set_option maxHeartbeats 4000000 in
theorem wq_md_set_B39 (n : Nat) (hn : 4294967297 < n) (x1 : Int32) (x2 : Int32) (y1 : Int32) (σ : wt_St) (r0 : wt_RI σ) (p0 : y1.toInt ≠ 0 ∨ (0 ≤ x1.toInt ∧ x1.toInt < (wt_gf σ 108 39).toInt ∧ 1 ≤ x2.toInt ∧ x2.toInt ≤ 400)) : wt_T (wp_md_set_B39 n x1 x2 y1 σ) (fun q => wt_fr (fun i k => (i = 108 ∧ k = 0) ∨ (i = 108 ∧ k = 54)) (fun i => i = 287 ∨ i = 124 ∨ i = 288 ∨ i = 275 ∨ i = 276 ∨ (278 ≤ i ∧ i < 282)) σ q.2 ∧ wt_RI q.2) := by
  have bb1 := wt_bd x1
  have bb2 := wt_bd x2
  have bb3 := wt_bd y1
  have g5 : 0 ≤ (wt_gf σ 108 39).toInt ∧ (wt_gf σ 108 39).toInt ≤ 8 := wt_Rf7 r0
  unfold wp_md_set_B39
  have k6 : (2 : Int32).toInt = 2 := by decide
  refine wt_T_bi (wq_md_bad n hn y1 (2 : Int32) σ r0 (by first | with_reducible assumption | omega)) (fun r7 h8 => ?_)
  obtain ⟨f9, ri10, pp11⟩ := h8
  have bb12 := wt_bd r7.1
  have bb13 := wt_bd (wt_gf r7.2 108 0)
  have bb14 := wt_bd (wt_gf σ 108 0)
  have k15 : (0 : Int32).toInt = 0 := by decide
  refine wt_T_if (fun h16 => ?_) (fun h16 => ?_)
  · skip
    have c17 := wt_ceq h16
    refine wt_T_bi (wq_md_needsText n hn x1 r7.2 ri10 (by first | with_reducible assumption | omega) (by first | with_reducible assumption | omega)) (fun r18 h19 => ?_)
    obtain ⟨f20, ri21, pp22⟩ := h19
    refine wt_T_bi (wq_md_lacking n hn x2 r18 ri21) (fun r23 h24 => ?_)
    obtain ⟨e25, pp26⟩ := h24
    have bb27 := wt_bd r23.1
    rw [e25]
    refine wt_T_if (fun h28 => ?_) (fun h28 => ?_)
    · skip
      have c29 := wt_ceq h28
      rw [wt_lm1] at c29
      refine wt_T_it (fun s : Int32 × wt_St => s.2 = r18 ∧ 0 ≤ (s.1).toInt ∧ s.1.toInt ≤ 4) (fun s : Int32 × wt_St => ((4 : Int32).toInt - s.1.toInt + 0).toNat) (fun KK30 z31 I32 hKK30 => ?_) _ _ ?_ ?_
      · skip
        obtain ⟨l33, l34, l35⟩ := I32
        unfold wp_md_set_B66
        rw [l33]
        have k36 : (4 : Int32).toInt = 4 := by decide
        have bb37 := wt_bd z31.1
        refine wt_T_if (fun h38 => ?_) (fun h38 => ?_)
        · skip
          have c39 := wt_cle h38
          unfold wp_md_set_B87
          refine wt_T_if (fun h40 => ?_) (fun h40 => ?_)
          · skip
            have c41 := wt_ceq h40
            refine wt_T_some ?_
            exact ⟨(wt_fr.tr (wt_fr.tr wt_fr.rf f9 (fun i k h => by (try dsimp only at h); exact Or.inl (by first | exact h | omega)) (fun i h => h.elim)) f20 (fun i k h => h.elim) (fun i h => by (try dsimp only at h); exact Or.inl (by first | exact h | omega))), ri21⟩
          · skip
            have c42 := wt_nceq h40
            refine wt_T_bi (wq_md_takes n hn x2 z31.1 r18 ri21 (by first | with_reducible assumption | omega) (by first | with_reducible assumption | omega) pp22.1) (fun r43 h44 => ?_)
            obtain ⟨f45, ri46, pp47⟩ := h44
            refine wt_T_gd (wt_ix (by first | with_reducible assumption | omega) (by first | with_reducible assumption | omega)) ?_
            refine wt_T_gd (wt_ix (by first | with_reducible assumption | omega) (by first | with_reducible assumption | omega)) ?_
            obtain ⟨σ48, eσ48⟩ : ∃ z : wt_St, z = wt_sa r43.2 275 (Int32.toNatClampNeg z31.1) x1 := ⟨_, rfl⟩
            rw [← eσ48]
            have fσ48 := wt_fr_sa eσ48
            have vσ48 := wt_ceq (wt_v_sa eσ48)
            have bb49 := wt_tn z31.1
            have rσ48 := wt_Rn12 ri46 eσ48 (by decide) (by decide) (show -1 ≤ (x1).toInt by omega) (show (x1).toInt ≤ 7 by omega)
            obtain ⟨σ50, eσ50⟩ : ∃ z : wt_St, z = wt_sa σ48 276 (Int32.toNatClampNeg z31.1) (wt_gf σ48 108 54) := ⟨_, rfl⟩
            rw [← eσ50]
            have fσ50 := wt_fr_sa eσ50
            have vσ50 := wt_ceq (wt_v_sa eσ50)
            have g52 : 0 ≤ (wt_gf σ48 108 54).toInt ∧ (wt_gf σ48 108 54).toInt ≤ 108 := wt_Rf10 rσ48
            have tt53 : (wt_gf σ48 108 54).toInt = (wt_gf r43.2 108 54).toInt := congrArg Int32.toInt (fσ48.1 108 54 (fun z => z))
            have rσ50 := wt_Rn13 rσ48 eσ50 (by decide) (by decide) (show 0 ≤ (wt_gf σ48 108 54).toInt by omega) (show (wt_gf σ48 108 54).toInt ≤ 108 by omega)
            refine wt_T_it (fun s : Int32 × wt_St => wt_fr (fun i k => False) (fun i => (278 ≤ i ∧ i < 282)) σ50 s.2 ∧ 0 ≤ (s.1).toInt ∧ wt_RI s.2) (fun s : Int32 × wt_St => ((wt_gf s.2 108 54).toInt - s.1.toInt + 0).toNat) (fun KK56 z57 I58 hKK56 => ?_) _ _ ?_ ?_
            · skip
              obtain ⟨l59, l60, l61⟩ := I58
              unfold wp_md_set_B122
              have g63 : 0 ≤ (wt_gf z57.2 108 54).toInt ∧ (wt_gf z57.2 108 54).toInt ≤ 108 := wt_Rf10 l61
              have tt64 : (wt_gf z57.2 108 54).toInt = (wt_gf σ50 108 54).toInt := congrArg Int32.toInt (l59.1 108 54 (fun z => z))
              have tt67 : (wt_gf σ50 108 54).toInt = (wt_gf σ48 108 54).toInt := congrArg Int32.toInt (fσ50.1 108 54 (fun z => z))
              have bb68 := wt_bd z57.1
              refine wt_T_if (fun h69 => ?_) (fun h69 => ?_)
              · skip
                have c70 := wt_cle h69
                refine wt_T_some ?_
                exact ⟨(wt_fr.tr (wt_fr.tr (wt_fr.tr (wt_fr.tr (wt_fr.tr (wt_fr.tr wt_fr.rf f9 (fun i k h => by (try dsimp only at h); exact Or.inl (by first | exact h | omega)) (fun i h => h.elim)) f20 (fun i k h => h.elim) (fun i h => by (try dsimp only at h); exact Or.inl (by first | exact h | omega))) f45 (fun i k h => by (try dsimp only at h); exact Or.inr (by first | exact h | omega)) (fun i h => by (try dsimp only at h); rcases h with h | h; exact Or.inr (Or.inl (by first | exact h | omega)); exact Or.inr (Or.inr (Or.inl (by first | exact h | omega))))) fσ48 (fun i k h => h.elim) (fun i h => by (try dsimp only at h); exact Or.inr (Or.inr (Or.inr (Or.inl (by first | exact h | omega)))))) fσ50 (fun i k h => h.elim) (fun i h => by (try dsimp only at h); exact Or.inr (Or.inr (Or.inr (Or.inr (Or.inl (by first | exact h | omega))))))) l59 (fun i k h => h.elim) (fun i h => by (try dsimp only at h); exact Or.inr (Or.inr (Or.inr (Or.inr (Or.inr (by first | exact h | omega))))))), l61⟩
              · skip
                have c71 := wt_ncle h69
                refine wt_T_gd (wt_ix (by first | with_reducible assumption | omega) (by first | with_reducible assumption | omega)) ?_
                refine wt_T_gd (wt_ix (by first | with_reducible assumption | omega) (by first | with_reducible assumption | omega)) ?_
                refine wt_T_gd (wt_ix (by first | with_reducible assumption | omega) (by first | with_reducible assumption | omega)) ?_
                obtain ⟨σ72, eσ72⟩ : ∃ z : wt_St, z = wt_sa z57.2 (278 + (Int32.toNatClampNeg z31.1)) (Int32.toNatClampNeg z57.1) (wt_ga z57.2 288 (Int32.toNatClampNeg z57.1)) := ⟨_, rfl⟩
                rw [← eσ72]
                have fσ72 := wt_fr_sa eσ72
                have vσ72 := wt_ceq (wt_v_sa eσ72)
                have bb73 := wt_tn z57.1
                have g75 : 0 ≤ (wt_ga z57.2 288 (Int32.toNatClampNeg z57.1)).toInt ∧ (wt_ga z57.2 288 (Int32.toNatClampNeg z57.1)).toInt ≤ 337 := wt_Ra15 l61 288 (by decide) (by decide) (Int32.toNatClampNeg z57.1)
                have tt76 : (wt_ga z57.2 288 (Int32.toNatClampNeg z57.1)).toInt = (wt_ga σ50 288 (Int32.toNatClampNeg z57.1)).toInt := congrArg Int32.toInt (l59.2 288 (by (try dsimp only); omega) (Int32.toNatClampNeg z57.1))
                have tt79 : (wt_ga σ50 288 (Int32.toNatClampNeg z57.1)).toInt = (wt_ga σ48 288 (Int32.toNatClampNeg z57.1)).toInt := congrArg Int32.toInt (fσ50.2 288 (by (try dsimp only); omega) (Int32.toNatClampNeg z57.1))
                have tt82 : (wt_ga σ48 288 (Int32.toNatClampNeg z57.1)).toInt = (wt_ga r43.2 288 (Int32.toNatClampNeg z57.1)).toInt := congrArg Int32.toInt (fσ48.2 288 (by (try dsimp only); omega) (Int32.toNatClampNeg z57.1))
                have rσ72 := wt_Rn14 l61 eσ72 (show 278 ≤ 278 + (Int32.toNatClampNeg z31.1) by omega) (show 278 + (Int32.toNatClampNeg z31.1) < 282 by omega) (show 0 ≤ (wt_ga z57.2 288 (Int32.toNatClampNeg z57.1)).toInt by omega) (show (wt_ga z57.2 288 (Int32.toNatClampNeg z57.1)).toInt ≤ 337 by omega)
                have g86 : 0 ≤ (wt_gf σ72 108 54).toInt ∧ (wt_gf σ72 108 54).toInt ≤ 108 := wt_Rf10 rσ72
                have tt87 : (wt_gf σ72 108 54).toInt = (wt_gf z57.2 108 54).toInt := congrArg Int32.toInt (fσ72.1 108 54 (fun z => z))
                refine hKK56 _ ⟨(wt_fr.tr (wt_fr.tr wt_fr.rf l59 (fun i k h => h.elim) (fun i h => by (try dsimp only at h); exact (by first | exact h | omega))) fσ72 (fun i k h => h.elim) (fun i h => by (try dsimp only at h); exact (by first | exact h | omega))), (wt_nn (B := wt_gf z57.2 108 54) (by first | with_reducible assumption | omega) (by first | with_reducible assumption | omega)), rσ72⟩ ?_
                show ((wt_gf σ72 108 54).toInt - (z57.1 + (1 : Int32)).toInt + 0).toNat < ((wt_gf z57.2 108 54).toInt - z57.1.toInt + 0).toNat
                exact wt_mu (by first | with_reducible assumption | omega) (by first | with_reducible assumption | omega)
            · skip
              have g89 : 0 ≤ (wt_gf σ50 108 54).toInt ∧ (wt_gf σ50 108 54).toInt ≤ 108 := wt_Rf10 rσ50
              have tt90 : (wt_gf σ50 108 54).toInt = (wt_gf σ48 108 54).toInt := congrArg Int32.toInt (fσ50.1 108 54 (fun z => z))
              exact ⟨wt_fr.rf, (show 0 ≤ ((0 : Int32)).toInt by omega), rσ50⟩
            · skip
              have g92 : 0 ≤ (wt_gf σ50 108 54).toInt ∧ (wt_gf σ50 108 54).toInt ≤ 108 := wt_Rf10 rσ50
              have tt93 : (wt_gf σ50 108 54).toInt = (wt_gf σ48 108 54).toInt := congrArg Int32.toInt (fσ50.1 108 54 (fun z => z))
              show ((wt_gf σ50 108 54).toInt - (0 : Int32).toInt + 0).toNat < n
              omega
        · skip
          have c94 := wt_ncle h38
          refine wt_T_gd (wt_ix (by first | with_reducible assumption | omega) (by first | with_reducible assumption | omega)) ?_
          have bb95 := wt_tn z31.1
          have g97 : -1 ≤ (wt_ga r18 275 (Int32.toNatClampNeg z31.1)).toInt ∧ (wt_ga r18 275 (Int32.toNatClampNeg z31.1)).toInt ≤ 7 := wt_Ra12 ri21 275 (by decide) (by decide) (Int32.toNatClampNeg z31.1)
          have tt98 : (wt_ga r18 275 (Int32.toNatClampNeg z31.1)).toInt = (wt_ga r7.2 275 (Int32.toNatClampNeg z31.1)).toInt := congrArg Int32.toInt (f20.2 275 (by (try dsimp only); omega) (Int32.toNatClampNeg z31.1))
          have tt101 : (wt_ga r7.2 275 (Int32.toNatClampNeg z31.1)).toInt = (wt_ga σ 275 (Int32.toNatClampNeg z31.1)).toInt := congrArg Int32.toInt (f9.2 275 (fun z => z) (Int32.toNatClampNeg z31.1))
          refine wt_T_if (fun h104 => ?_) (fun h104 => ?_)
          · skip
            have c105 := wt_ceq h104
            rw [wt_lm1] at c105
            unfold wp_md_set_B87
            refine wt_T_if (fun h106 => ?_) (fun h106 => ?_)
            · skip
              have c107 := wt_ceq h106
              refine wt_T_some ?_
              exact ⟨(wt_fr.tr (wt_fr.tr wt_fr.rf f9 (fun i k h => by (try dsimp only at h); exact Or.inl (by first | exact h | omega)) (fun i h => h.elim)) f20 (fun i k h => h.elim) (fun i h => by (try dsimp only at h); exact Or.inl (by first | exact h | omega))), ri21⟩
            · skip
              have c108 := wt_nceq h106
              refine wt_T_bi (wq_md_takes n hn x2 z31.1 r18 ri21 (by first | with_reducible assumption | omega) (by first | with_reducible assumption | omega) pp22.1) (fun r109 h110 => ?_)
              obtain ⟨f111, ri112, pp113⟩ := h110
              refine wt_T_gd (wt_ix (by first | with_reducible assumption | omega) (by first | with_reducible assumption | omega)) ?_
              refine wt_T_gd (wt_ix (by first | with_reducible assumption | omega) (by first | with_reducible assumption | omega)) ?_
              obtain ⟨σ114, eσ114⟩ : ∃ z : wt_St, z = wt_sa r109.2 275 (Int32.toNatClampNeg z31.1) x1 := ⟨_, rfl⟩
              rw [← eσ114]
              have fσ114 := wt_fr_sa eσ114
              have vσ114 := wt_ceq (wt_v_sa eσ114)
              have rσ114 := wt_Rn12 ri112 eσ114 (by decide) (by decide) (show -1 ≤ (x1).toInt by omega) (show (x1).toInt ≤ 7 by omega)
              obtain ⟨σ115, eσ115⟩ : ∃ z : wt_St, z = wt_sa σ114 276 (Int32.toNatClampNeg z31.1) (wt_gf σ114 108 54) := ⟨_, rfl⟩
              rw [← eσ115]
              have fσ115 := wt_fr_sa eσ115
              have vσ115 := wt_ceq (wt_v_sa eσ115)
              have g117 : 0 ≤ (wt_gf σ114 108 54).toInt ∧ (wt_gf σ114 108 54).toInt ≤ 108 := wt_Rf10 rσ114
              have tt118 : (wt_gf σ114 108 54).toInt = (wt_gf r109.2 108 54).toInt := congrArg Int32.toInt (fσ114.1 108 54 (fun z => z))
              have rσ115 := wt_Rn13 rσ114 eσ115 (by decide) (by decide) (show 0 ≤ (wt_gf σ114 108 54).toInt by omega) (show (wt_gf σ114 108 54).toInt ≤ 108 by omega)
              refine wt_T_it (fun s : Int32 × wt_St => wt_fr (fun i k => False) (fun i => (278 ≤ i ∧ i < 282)) σ115 s.2 ∧ 0 ≤ (s.1).toInt ∧ wt_RI s.2) (fun s : Int32 × wt_St => ((wt_gf s.2 108 54).toInt - s.1.toInt + 0).toNat) (fun KK121 z122 I123 hKK121 => ?_) _ _ ?_ ?_
              · skip
                obtain ⟨l124, l125, l126⟩ := I123
                unfold wp_md_set_B122
                have g128 : 0 ≤ (wt_gf z122.2 108 54).toInt ∧ (wt_gf z122.2 108 54).toInt ≤ 108 := wt_Rf10 l126
                have tt129 : (wt_gf z122.2 108 54).toInt = (wt_gf σ115 108 54).toInt := congrArg Int32.toInt (l124.1 108 54 (fun z => z))
                have tt132 : (wt_gf σ115 108 54).toInt = (wt_gf σ114 108 54).toInt := congrArg Int32.toInt (fσ115.1 108 54 (fun z => z))
                have bb133 := wt_bd z122.1
                refine wt_T_if (fun h134 => ?_) (fun h134 => ?_)
                · skip
                  have c135 := wt_cle h134
                  refine wt_T_some ?_
                  exact ⟨(wt_fr.tr (wt_fr.tr (wt_fr.tr (wt_fr.tr (wt_fr.tr (wt_fr.tr wt_fr.rf f9 (fun i k h => by (try dsimp only at h); exact Or.inl (by first | exact h | omega)) (fun i h => h.elim)) f20 (fun i k h => h.elim) (fun i h => by (try dsimp only at h); exact Or.inl (by first | exact h | omega))) f111 (fun i k h => by (try dsimp only at h); exact Or.inr (by first | exact h | omega)) (fun i h => by (try dsimp only at h); rcases h with h | h; exact Or.inr (Or.inl (by first | exact h | omega)); exact Or.inr (Or.inr (Or.inl (by first | exact h | omega))))) fσ114 (fun i k h => h.elim) (fun i h => by (try dsimp only at h); exact Or.inr (Or.inr (Or.inr (Or.inl (by first | exact h | omega)))))) fσ115 (fun i k h => h.elim) (fun i h => by (try dsimp only at h); exact Or.inr (Or.inr (Or.inr (Or.inr (Or.inl (by first | exact h | omega))))))) l124 (fun i k h => h.elim) (fun i h => by (try dsimp only at h); exact Or.inr (Or.inr (Or.inr (Or.inr (Or.inr (by first | exact h | omega))))))), l126⟩
                · skip
                  have c136 := wt_ncle h134
                  refine wt_T_gd (wt_ix (by first | with_reducible assumption | omega) (by first | with_reducible assumption | omega)) ?_
                  refine wt_T_gd (wt_ix (by first | with_reducible assumption | omega) (by first | with_reducible assumption | omega)) ?_
                  refine wt_T_gd (wt_ix (by first | with_reducible assumption | omega) (by first | with_reducible assumption | omega)) ?_
                  obtain ⟨σ137, eσ137⟩ : ∃ z : wt_St, z = wt_sa z122.2 (278 + (Int32.toNatClampNeg z31.1)) (Int32.toNatClampNeg z122.1) (wt_ga z122.2 288 (Int32.toNatClampNeg z122.1)) := ⟨_, rfl⟩
                  rw [← eσ137]
                  have fσ137 := wt_fr_sa eσ137
                  have vσ137 := wt_ceq (wt_v_sa eσ137)
                  have bb138 := wt_tn z122.1
                  have g140 : 0 ≤ (wt_ga z122.2 288 (Int32.toNatClampNeg z122.1)).toInt ∧ (wt_ga z122.2 288 (Int32.toNatClampNeg z122.1)).toInt ≤ 337 := wt_Ra15 l126 288 (by decide) (by decide) (Int32.toNatClampNeg z122.1)
                  have tt141 : (wt_ga z122.2 288 (Int32.toNatClampNeg z122.1)).toInt = (wt_ga σ115 288 (Int32.toNatClampNeg z122.1)).toInt := congrArg Int32.toInt (l124.2 288 (by (try dsimp only); omega) (Int32.toNatClampNeg z122.1))
                  have tt144 : (wt_ga σ115 288 (Int32.toNatClampNeg z122.1)).toInt = (wt_ga σ114 288 (Int32.toNatClampNeg z122.1)).toInt := congrArg Int32.toInt (fσ115.2 288 (by (try dsimp only); omega) (Int32.toNatClampNeg z122.1))
                  have tt147 : (wt_ga σ114 288 (Int32.toNatClampNeg z122.1)).toInt = (wt_ga r109.2 288 (Int32.toNatClampNeg z122.1)).toInt := congrArg Int32.toInt (fσ114.2 288 (by (try dsimp only); omega) (Int32.toNatClampNeg z122.1))
                  have rσ137 := wt_Rn14 l126 eσ137 (show 278 ≤ 278 + (Int32.toNatClampNeg z31.1) by omega) (show 278 + (Int32.toNatClampNeg z31.1) < 282 by omega) (show 0 ≤ (wt_ga z122.2 288 (Int32.toNatClampNeg z122.1)).toInt by omega) (show (wt_ga z122.2 288 (Int32.toNatClampNeg z122.1)).toInt ≤ 337 by omega)
                  have g151 : 0 ≤ (wt_gf σ137 108 54).toInt ∧ (wt_gf σ137 108 54).toInt ≤ 108 := wt_Rf10 rσ137
                  have tt152 : (wt_gf σ137 108 54).toInt = (wt_gf z122.2 108 54).toInt := congrArg Int32.toInt (fσ137.1 108 54 (fun z => z))
                  refine hKK121 _ ⟨(wt_fr.tr (wt_fr.tr wt_fr.rf l124 (fun i k h => h.elim) (fun i h => by (try dsimp only at h); exact (by first | exact h | omega))) fσ137 (fun i k h => h.elim) (fun i h => by (try dsimp only at h); exact (by first | exact h | omega))), (wt_nn (B := wt_gf z122.2 108 54) (by first | with_reducible assumption | omega) (by first | with_reducible assumption | omega)), rσ137⟩ ?_
                  show ((wt_gf σ137 108 54).toInt - (z122.1 + (1 : Int32)).toInt + 0).toNat < ((wt_gf z122.2 108 54).toInt - z122.1.toInt + 0).toNat
                  exact wt_mu (by first | with_reducible assumption | omega) (by first | with_reducible assumption | omega)
              · skip
                have g154 : 0 ≤ (wt_gf σ115 108 54).toInt ∧ (wt_gf σ115 108 54).toInt ≤ 108 := wt_Rf10 rσ115
                have tt155 : (wt_gf σ115 108 54).toInt = (wt_gf σ114 108 54).toInt := congrArg Int32.toInt (fσ115.1 108 54 (fun z => z))
                exact ⟨wt_fr.rf, (show 0 ≤ ((0 : Int32)).toInt by omega), rσ115⟩
              · skip
                have g157 : 0 ≤ (wt_gf σ115 108 54).toInt ∧ (wt_gf σ115 108 54).toInt ≤ 108 := wt_Rf10 rσ115
                have tt158 : (wt_gf σ115 108 54).toInt = (wt_gf σ114 108 54).toInt := congrArg Int32.toInt (fσ115.1 108 54 (fun z => z))
                show ((wt_gf σ115 108 54).toInt - (0 : Int32).toInt + 0).toNat < n
                omega
          · skip
            have c159 := wt_nceq h104
            rw [wt_lm1] at c159
            have k160 : (1 : Int32).toInt = 1 := by decide
            obtain ⟨j161, j161a, j161b⟩ := wt_addI z31.1 (1 : Int32)
            refine hKK30 _ ⟨rfl, (wt_nn (B := (4 : Int32)) (by first | with_reducible assumption | omega) (by first | (rw [l33]; omega) | (rw [l33]; done) | omega)), (show (z31.1 + (1 : Int32)).toInt ≤ 4 by omega)⟩ ?_
            show ((4 : Int32).toInt - (z31.1 + (1 : Int32)).toInt + 0).toNat < ((4 : Int32).toInt - z31.1.toInt + 0).toNat
            exact wt_mu (by first | (rw [l33]; omega) | (rw [l33]; done) | omega) (by first | (rw [l33]; omega) | (rw [l33]; done) | omega)
      · skip
        have k162 : (4 : Int32).toInt = 4 := by decide
        exact ⟨rfl, (show 0 ≤ ((0 : Int32)).toInt by omega), (show (0 : Int32).toInt ≤ 4 by omega)⟩
      · skip
        have k163 : (4 : Int32).toInt = 4 := by decide
        show ((4 : Int32).toInt - (0 : Int32).toInt + 0).toNat < n
        omega
    · skip
      have c164 := wt_nceq h28
      rw [wt_lm1] at c164
      refine wt_T_some ?_
      exact ⟨(wt_fr.tr (wt_fr.tr wt_fr.rf f9 (fun i k h => by (try dsimp only at h); exact Or.inl (by first | exact h | omega)) (fun i h => h.elim)) f20 (fun i k h => h.elim) (fun i h => by (try dsimp only at h); exact Or.inl (by first | exact h | omega))), ri21⟩
  · skip
    have c165 := wt_nceq h16
    refine wt_T_some ?_
    exact ⟨(wt_fr.tr wt_fr.rf f9 (fun i k h => by (try dsimp only at h); exact Or.inl (by first | exact h | omega)) (fun i h => h.elim)), ri10⟩
set_option maxRecDepth 100000 in
set_option maxHeartbeats 4000000 in
theorem wq_md_set (n : Nat) (hn : 4294967297 < n) (x1 : Int32) (x2 : Int32) (σ : wt_St) (r0 : wt_RI σ) : wt_T (wp_md_set n x1 x2 σ) (fun q => wt_fr (fun i k => (i = 108 ∧ k = 0) ∨ (i = 108 ∧ k = 54)) (fun i => i = 287 ∨ i = 124 ∨ i = 288 ∨ i = 275 ∨ i = 276 ∨ (278 ≤ i ∧ i < 282)) σ q.2 ∧ wt_RI q.2) := by
  have bb1 := wt_bd x1
  have bb2 := wt_bd x2
  unfold wp_md_set
  obtain ⟨σ3, eσ3⟩ : ∃ z : wt_St, z = wt_sf σ 108 0 (0 : Int32) := ⟨_, rfl⟩
  rw [← eσ3]
  have fσ3 := wt_fr_sf eσ3
  have vσ3 := wt_ceq (wt_v_sf eσ3)
  have k4 : (0 : Int32).toInt = 0 := by decide
  have rσ3 := wt_RI_fno r0 eσ3 (Or.inr (by decide +kernel))
  refine wt_T_bi (wq_md_isText n hn x1 σ3 rσ3) (fun r5 h6 => ?_)
  obtain ⟨e7, pp8⟩ := h6
  have bb9 := wt_bd r5.1
  rw [e7]
  have g11 : 0 ≤ (wt_gf σ3 108 39).toInt ∧ (wt_gf σ3 108 39).toInt ≤ 8 := wt_Rf7 rσ3
  have tt12 : (wt_gf σ3 108 39).toInt = (wt_gf σ 108 39).toInt := congrArg Int32.toInt (fσ3.1 108 39 (by (try dsimp only); omega))
  refine wt_T_if (fun h15 => ?_) (fun h15 => ?_)
  · skip
    have c16 := wt_ceq h15
    unfold wp_md_set_B19
    have k17 : (1 : Int32).toInt = 1 := by decide
    refine wt_T_bi (wq_md_bad n hn (1 : Int32) (1 : Int32) σ3 rσ3 (by first | with_reducible assumption | omega)) (fun r18 h19 => ?_)
    obtain ⟨f20, ri21, pp22⟩ := h19
    have bb23 := wt_bd r18.1
    have bb24 := wt_bd (wt_gf r18.2 108 0)
    have bb25 := wt_bd (wt_gf σ3 108 0)
    refine wt_T_if (fun h26 => ?_) (fun h26 => ?_)
    · skip
      have c27 := wt_ceq h26
      refine wt_T_bi (wq_md_isCopies n hn x2 r18.2 ri21) (fun r28 h29 => ?_)
      obtain ⟨e30, pp31⟩ := h29
      have bb32 := wt_bd r28.1
      rw [e30]
      refine wt_T_if (fun h33 => ?_) (fun h33 => ?_)
      · skip
        have c34 := wt_ceq h33
        have g36 : 0 ≤ (wt_gf r18.2 108 39).toInt ∧ (wt_gf r18.2 108 39).toInt ≤ 8 := wt_Rf7 ri21
        have tt37 : (wt_gf r18.2 108 39).toInt = (wt_gf σ3 108 39).toInt := congrArg Int32.toInt (f20.1 108 39 (by (try dsimp only); omega))
        refine wt_T.imp (wq_md_set_B39 n hn x1 x2 (1 : Int32) r18.2 ri21 (by first | with_reducible assumption | omega)) (fun r38 h39 => ?_)
        have bb40 := wt_bd r38.1
        obtain ⟨f41, ri42⟩ := h39
        exact ⟨(wt_fr.tr (wt_fr.tr (wt_fr.tr wt_fr.rf fσ3 (fun i k h => by (try dsimp only at h); exact Or.inl (by first | exact h | omega)) (fun i h => h.elim)) f20 (fun i k h => by (try dsimp only at h); exact Or.inl (by first | exact h | omega)) (fun i h => h.elim)) f41 (fun i k h => by (try dsimp only at h); rcases h with h | h; exact Or.inl (by first | exact h | omega); exact Or.inr (by first | exact h | omega)) (fun i h => by (try dsimp only at h); rcases h with h | h | h | h | h | h; exact Or.inl (by first | exact h | omega); exact Or.inr (Or.inl (by first | exact h | omega)); exact Or.inr (Or.inr (Or.inl (by first | exact h | omega))); exact Or.inr (Or.inr (Or.inr (Or.inl (by first | exact h | omega)))); exact Or.inr (Or.inr (Or.inr (Or.inr (Or.inl (by first | exact h | omega))))); exact Or.inr (Or.inr (Or.inr (Or.inr (Or.inr (by first | exact h | omega))))))), ri42⟩
      · skip
        have c43 := wt_nceq h33
        have g45 : 0 ≤ (wt_gf r18.2 108 39).toInt ∧ (wt_gf r18.2 108 39).toInt ≤ 8 := wt_Rf7 ri21
        have tt46 : (wt_gf r18.2 108 39).toInt = (wt_gf σ3 108 39).toInt := congrArg Int32.toInt (f20.1 108 39 (by (try dsimp only); omega))
        refine wt_T.imp (wq_md_set_B39 n hn x1 x2 (0 : Int32) r18.2 ri21 (by first | with_reducible assumption | omega)) (fun r47 h48 => ?_)
        have bb49 := wt_bd r47.1
        obtain ⟨f50, ri51⟩ := h48
        exact ⟨(wt_fr.tr (wt_fr.tr (wt_fr.tr wt_fr.rf fσ3 (fun i k h => by (try dsimp only at h); exact Or.inl (by first | exact h | omega)) (fun i h => h.elim)) f20 (fun i k h => by (try dsimp only at h); exact Or.inl (by first | exact h | omega)) (fun i h => h.elim)) f50 (fun i k h => by (try dsimp only at h); rcases h with h | h; exact Or.inl (by first | exact h | omega); exact Or.inr (by first | exact h | omega)) (fun i h => by (try dsimp only at h); rcases h with h | h | h | h | h | h; exact Or.inl (by first | exact h | omega); exact Or.inr (Or.inl (by first | exact h | omega)); exact Or.inr (Or.inr (Or.inl (by first | exact h | omega))); exact Or.inr (Or.inr (Or.inr (Or.inl (by first | exact h | omega)))); exact Or.inr (Or.inr (Or.inr (Or.inr (Or.inl (by first | exact h | omega))))); exact Or.inr (Or.inr (Or.inr (Or.inr (Or.inr (by first | exact h | omega))))))), ri51⟩
    · skip
      have c52 := wt_nceq h26
      refine wt_T_some ?_
      exact ⟨(wt_fr.tr (wt_fr.tr wt_fr.rf fσ3 (fun i k h => by (try dsimp only at h); exact Or.inl (by first | exact h | omega)) (fun i h => h.elim)) f20 (fun i k h => by (try dsimp only at h); exact Or.inl (by first | exact h | omega)) (fun i h => h.elim)), ri21⟩
  · skip
    have c53 := wt_nceq h15
    unfold wp_md_set_B19
    have k54 : (1 : Int32).toInt = 1 := by decide
    refine wt_T_bi (wq_md_bad n hn (0 : Int32) (1 : Int32) σ3 rσ3 (by first | with_reducible assumption | omega)) (fun r55 h56 => ?_)
    obtain ⟨f57, ri58, pp59⟩ := h56
    have bb60 := wt_bd r55.1
    have bb61 := wt_bd (wt_gf r55.2 108 0)
    have bb62 := wt_bd (wt_gf σ3 108 0)
    refine wt_T_if (fun h63 => ?_) (fun h63 => ?_)
    · skip
      have c64 := wt_ceq h63
      refine wt_T_bi (wq_md_isCopies n hn x2 r55.2 ri58) (fun r65 h66 => ?_)
      obtain ⟨e67, pp68⟩ := h66
      have bb69 := wt_bd r65.1
      rw [e67]
      refine wt_T_if (fun h70 => ?_) (fun h70 => ?_)
      · skip
        have c71 := wt_ceq h70
        have g73 : 0 ≤ (wt_gf r55.2 108 39).toInt ∧ (wt_gf r55.2 108 39).toInt ≤ 8 := wt_Rf7 ri58
        have tt74 : (wt_gf r55.2 108 39).toInt = (wt_gf σ3 108 39).toInt := congrArg Int32.toInt (f57.1 108 39 (by (try dsimp only); omega))
        refine wt_T.imp (wq_md_set_B39 n hn x1 x2 (1 : Int32) r55.2 ri58 (by first | with_reducible assumption | omega)) (fun r75 h76 => ?_)
        have bb77 := wt_bd r75.1
        obtain ⟨f78, ri79⟩ := h76
        exact ⟨(wt_fr.tr (wt_fr.tr (wt_fr.tr wt_fr.rf fσ3 (fun i k h => by (try dsimp only at h); exact Or.inl (by first | exact h | omega)) (fun i h => h.elim)) f57 (fun i k h => by (try dsimp only at h); exact Or.inl (by first | exact h | omega)) (fun i h => h.elim)) f78 (fun i k h => by (try dsimp only at h); rcases h with h | h; exact Or.inl (by first | exact h | omega); exact Or.inr (by first | exact h | omega)) (fun i h => by (try dsimp only at h); rcases h with h | h | h | h | h | h; exact Or.inl (by first | exact h | omega); exact Or.inr (Or.inl (by first | exact h | omega)); exact Or.inr (Or.inr (Or.inl (by first | exact h | omega))); exact Or.inr (Or.inr (Or.inr (Or.inl (by first | exact h | omega)))); exact Or.inr (Or.inr (Or.inr (Or.inr (Or.inl (by first | exact h | omega))))); exact Or.inr (Or.inr (Or.inr (Or.inr (Or.inr (by first | exact h | omega))))))), ri79⟩
      · skip
        have c80 := wt_nceq h70
        have g82 : 0 ≤ (wt_gf r55.2 108 39).toInt ∧ (wt_gf r55.2 108 39).toInt ≤ 8 := wt_Rf7 ri58
        have tt83 : (wt_gf r55.2 108 39).toInt = (wt_gf σ3 108 39).toInt := congrArg Int32.toInt (f57.1 108 39 (by (try dsimp only); omega))
        refine wt_T.imp (wq_md_set_B39 n hn x1 x2 (0 : Int32) r55.2 ri58 (by first | with_reducible assumption | omega)) (fun r84 h85 => ?_)
        have bb86 := wt_bd r84.1
        obtain ⟨f87, ri88⟩ := h85
        exact ⟨(wt_fr.tr (wt_fr.tr (wt_fr.tr wt_fr.rf fσ3 (fun i k h => by (try dsimp only at h); exact Or.inl (by first | exact h | omega)) (fun i h => h.elim)) f57 (fun i k h => by (try dsimp only at h); exact Or.inl (by first | exact h | omega)) (fun i h => h.elim)) f87 (fun i k h => by (try dsimp only at h); rcases h with h | h; exact Or.inl (by first | exact h | omega); exact Or.inr (by first | exact h | omega)) (fun i h => by (try dsimp only at h); rcases h with h | h | h | h | h | h; exact Or.inl (by first | exact h | omega); exact Or.inr (Or.inl (by first | exact h | omega)); exact Or.inr (Or.inr (Or.inl (by first | exact h | omega))); exact Or.inr (Or.inr (Or.inr (Or.inl (by first | exact h | omega)))); exact Or.inr (Or.inr (Or.inr (Or.inr (Or.inl (by first | exact h | omega))))); exact Or.inr (Or.inr (Or.inr (Or.inr (Or.inr (by first | exact h | omega))))))), ri88⟩
    · skip
      have c89 := wt_nceq h63
      refine wt_T_some ?_
      exact ⟨(wt_fr.tr (wt_fr.tr wt_fr.rf fσ3 (fun i k h => by (try dsimp only at h); exact Or.inl (by first | exact h | omega)) (fun i h => h.elim)) f57 (fun i k h => by (try dsimp only at h); exact Or.inl (by first | exact h | omega)) (fun i h => h.elim)), ri58⟩
set_option maxRecDepth 100000 in
set_option maxHeartbeats 4000000 in
theorem wq_md_standing (n : Nat) (hn : 4294967297 < n) (σ : wt_St) (r0 : wt_RI σ) : wt_T (wp_md_standing n σ) (fun q => q.2 = σ) := by
  unfold wp_md_standing
  have k6 : (0 : Int32).toInt = 0 := by decide
  refine wt_T_it (fun s : Int32 × Int32 × wt_St => s.2.2 = σ ∧ 0 ≤ (s.2.1).toInt) (fun s : Int32 × Int32 × wt_St => ((4 : Int32).toInt - s.2.1.toInt + 0).toNat) (fun KK1 z2 I3 hKK1 => ?_) _ _ ?_ ?_
  · skip
    obtain ⟨l4, l5⟩ := I3
    unfold wp_md_standing_B4
    rw [l4]
    have k7 : (4 : Int32).toInt = 4 := by decide
    have bb8 := wt_bd z2.2.1
    refine wt_T_if (fun h9 => ?_) (fun h9 => ?_)
    · skip
      have c10 := wt_cle h9
      refine wt_T_some ?_
      exact rfl
    · skip
      have c11 := wt_ncle h9
      refine wt_T_gd (wt_ix (by first | with_reducible assumption | omega) (by first | with_reducible assumption | omega)) ?_
      have bb12 := wt_tn z2.2.1
      have g14 : -1 ≤ (wt_ga σ 275 (Int32.toNatClampNeg z2.2.1)).toInt ∧ (wt_ga σ 275 (Int32.toNatClampNeg z2.2.1)).toInt ≤ 7 := wt_Ra12 r0 275 (by decide) (by decide) (Int32.toNatClampNeg z2.2.1)
      refine wt_T_if (fun h15 => ?_) (fun h15 => ?_)
      · skip
        have c16 := wt_ceq h15
        rw [wt_lm1] at c16
        unfold wp_md_standing_B25
        have bb17 := wt_bd z2.1
        obtain ⟨j18, j18a, j18b⟩ := wt_addI z2.1 (0 : Int32)
        refine hKK1 _ ⟨rfl, (wt_nn (B := (4 : Int32)) (by first | with_reducible assumption | omega) (by first | (rw [l4]; omega) | (rw [l4]; done) | omega))⟩ ?_
        show ((4 : Int32).toInt - (z2.2.1 + (1 : Int32)).toInt + 0).toNat < ((4 : Int32).toInt - z2.2.1.toInt + 0).toNat
        exact wt_mu (by first | (rw [l4]; omega) | (rw [l4]; done) | omega) (by first | (rw [l4]; omega) | (rw [l4]; done) | omega)
      · skip
        have c19 := wt_nceq h15
        rw [wt_lm1] at c19
        unfold wp_md_standing_B25
        have bb20 := wt_bd z2.1
        have k21 : (1 : Int32).toInt = 1 := by decide
        obtain ⟨j22, j22a, j22b⟩ := wt_addI z2.1 (1 : Int32)
        refine hKK1 _ ⟨rfl, (wt_nn (B := (4 : Int32)) (by first | with_reducible assumption | omega) (by first | (rw [l4]; omega) | (rw [l4]; done) | omega))⟩ ?_
        show ((4 : Int32).toInt - (z2.2.1 + (1 : Int32)).toInt + 0).toNat < ((4 : Int32).toInt - z2.2.1.toInt + 0).toNat
        exact wt_mu (by first | (rw [l4]; omega) | (rw [l4]; done) | omega) (by first | (rw [l4]; omega) | (rw [l4]; done) | omega)
  · skip
    have k23 : (4 : Int32).toInt = 4 := by decide
    exact ⟨rfl, (show 0 ≤ ((0 : Int32)).toInt by omega)⟩
  · skip
    have k24 : (4 : Int32).toInt = 4 := by decide
    show ((4 : Int32).toInt - (0 : Int32).toInt + 0).toNat < n
    omega
set_option maxRecDepth 100000 in
set_option maxHeartbeats 4000000 in
theorem wq_md_text_B195 (n : Nat) (hn : 4294967297 < n) (x2 : Int32) (σ : wt_St) (r0 : wt_RI σ) (p0 : 0 ≤ x2.toInt) (p1 : x2.toInt ≤ 12) (p2 : (wt_gf σ 108 39).toInt < 8) : wt_T (wp_md_text_B195 n x2 σ) (fun q => wt_fr (fun i k => (i = 108 ∧ k = 3) ∨ (i = 108 ∧ k = 39)) (fun i => i = 253 ∨ (255 ≤ i ∧ i < 263)) σ q.2 ∧ wt_RI q.2) := by
  have bb1 := wt_bd x2
  have g3 : 0 ≤ (wt_gf σ 108 39).toInt ∧ (wt_gf σ 108 39).toInt ≤ 8 := wt_Rf7 r0
  unfold wp_md_text_B195
  obtain ⟨σ4, eσ4⟩ : ∃ z : wt_St, z = wt_sf σ 108 3 (wt_gf σ 108 6) := ⟨_, rfl⟩
  rw [← eσ4]
  have fσ4 := wt_fr_sf eσ4
  have vσ4 := wt_ceq (wt_v_sf eσ4)
  have bb5 := wt_bd (wt_gf σ 108 6)
  have rσ4 := wt_RI_fno r0 eσ4 (Or.inr (by decide +kernel))
  have g7 : 0 ≤ (wt_gf σ4 108 5).toInt ∧ (wt_gf σ4 108 5).toInt ≤ 3 := wt_Rf3 rσ4
  have tt8 : (wt_gf σ4 108 5).toInt = (wt_gf σ 108 5).toInt := congrArg Int32.toInt (fσ4.1 108 5 (by (try dsimp only); omega))
  have k11 : (0 : Int32).toInt = 0 := by decide
  refine wt_T_if (fun h12 => ?_) (fun h12 => ?_)
  · skip
    have c13 := wt_ceq h12
    have g15 : 0 ≤ (wt_gf σ4 108 39).toInt ∧ (wt_gf σ4 108 39).toInt ≤ 8 := wt_Rf7 rσ4
    have tt16 : (wt_gf σ4 108 39).toInt = (wt_gf σ 108 39).toInt := congrArg Int32.toInt (fσ4.1 108 39 (by (try dsimp only); omega))
    refine wt_T_gd (wt_ix (by first | with_reducible assumption | omega) (by first | with_reducible assumption | omega)) ?_
    obtain ⟨σ17, eσ17⟩ : ∃ z : wt_St, z = wt_sa σ4 253 (Int32.toNatClampNeg (wt_gf σ4 108 39)) x2 := ⟨_, rfl⟩
    rw [← eσ17]
    have fσ17 := wt_fr_sa eσ17
    have vσ17 := wt_ceq (wt_v_sa eσ17)
    have bb18 := wt_tn (wt_gf σ4 108 39)
    have rσ17 := wt_Rn9 rσ4 eσ17 (by decide) (by decide) (show 0 ≤ (x2).toInt by omega) (show (x2).toInt ≤ 12 by omega)
    refine wt_T_it (fun s : Int32 × wt_St => wt_fr (fun i k => False) (fun i => (255 ≤ i ∧ i < 263)) σ17 s.2 ∧ 0 ≤ (s.1).toInt ∧ wt_RI s.2) (fun s : Int32 × wt_St => (x2.toInt - s.1.toInt + 0).toNat) (fun KK19 z20 I21 hKK19 => ?_) _ _ ?_ ?_
    · skip
      obtain ⟨l22, l23, l24⟩ := I21
      unfold wp_md_text_B230
      have bb25 := wt_bd z20.1
      refine wt_T_if (fun h26 => ?_) (fun h26 => ?_)
      · skip
        have c27 := wt_cle h26
        obtain ⟨σ28, eσ28⟩ : ∃ z : wt_St, z = wt_sf z20.2 108 39 ((wt_gf z20.2 108 39) + (1 : Int32)) := ⟨_, rfl⟩
        rw [← eσ28]
        have fσ28 := wt_fr_sf eσ28
        have vσ28 := wt_ceq (wt_v_sf eσ28)
        have g30 : 0 ≤ (wt_gf z20.2 108 39).toInt ∧ (wt_gf z20.2 108 39).toInt ≤ 8 := wt_Rf7 l24
        have tt31 : (wt_gf z20.2 108 39).toInt = (wt_gf σ17 108 39).toInt := congrArg Int32.toInt (l22.1 108 39 (fun z => z))
        have tt34 : (wt_gf σ17 108 39).toInt = (wt_gf σ4 108 39).toInt := congrArg Int32.toInt (fσ17.1 108 39 (fun z => z))
        have k35 : (1 : Int32).toInt = 1 := by decide
        obtain ⟨j36, j36a, j36b⟩ := wt_addI (wt_gf z20.2 108 39) (1 : Int32)
        have rσ28 := wt_Rm7 l24 eσ28 (show 0 ≤ ((wt_gf z20.2 108 39) + (1 : Int32)).toInt by omega) (show ((wt_gf z20.2 108 39) + (1 : Int32)).toInt ≤ 8 by omega)
        refine wt_T_some ?_
        exact ⟨(wt_fr.tr (wt_fr.tr (wt_fr.tr (wt_fr.tr wt_fr.rf fσ4 (fun i k h => by (try dsimp only at h); exact Or.inl (by first | exact h | omega)) (fun i h => h.elim)) fσ17 (fun i k h => h.elim) (fun i h => by (try dsimp only at h); exact Or.inl (by first | exact h | omega))) l22 (fun i k h => h.elim) (fun i h => by (try dsimp only at h); exact Or.inr (by first | exact h | omega))) fσ28 (fun i k h => by (try dsimp only at h); exact Or.inr (by first | exact h | omega)) (fun i h => h.elim)), rσ28⟩
      · skip
        have c37 := wt_ncle h26
        have g39 : 0 ≤ (wt_gf z20.2 108 39).toInt ∧ (wt_gf z20.2 108 39).toInt ≤ 8 := wt_Rf7 l24
        have tt40 : (wt_gf z20.2 108 39).toInt = (wt_gf σ17 108 39).toInt := congrArg Int32.toInt (l22.1 108 39 (fun z => z))
        have tt43 : (wt_gf σ17 108 39).toInt = (wt_gf σ4 108 39).toInt := congrArg Int32.toInt (fσ17.1 108 39 (fun z => z))
        refine wt_T_gd (wt_ix (by first | with_reducible assumption | omega) (by first | with_reducible assumption | omega)) ?_
        refine wt_T_gd (wt_ix (by first | with_reducible assumption | omega) (by first | with_reducible assumption | omega)) ?_
        refine wt_T_gd (wt_ix (by first | with_reducible assumption | omega) (by first | with_reducible assumption | omega)) ?_
        obtain ⟨σ44, eσ44⟩ : ∃ z : wt_St, z = wt_sa z20.2 (255 + (Int32.toNatClampNeg (wt_gf z20.2 108 39))) (Int32.toNatClampNeg z20.1) (wt_ga z20.2 274 (Int32.toNatClampNeg z20.1)) := ⟨_, rfl⟩
        rw [← eσ44]
        have fσ44 := wt_fr_sa eσ44
        have vσ44 := wt_ceq (wt_v_sa eσ44)
        have bb45 := wt_tn z20.1
        have g47 : 0 ≤ (wt_ga z20.2 274 (Int32.toNatClampNeg z20.1)).toInt ∧ (wt_ga z20.2 274 (Int32.toNatClampNeg z20.1)).toInt ≤ 59 := wt_Ra11 l24 274 (by decide) (by decide) (Int32.toNatClampNeg z20.1)
        have tt48 : (wt_ga z20.2 274 (Int32.toNatClampNeg z20.1)).toInt = (wt_ga σ17 274 (Int32.toNatClampNeg z20.1)).toInt := congrArg Int32.toInt (l22.2 274 (by (try dsimp only); omega) (Int32.toNatClampNeg z20.1))
        have tt51 : (wt_ga σ17 274 (Int32.toNatClampNeg z20.1)).toInt = (wt_ga σ4 274 (Int32.toNatClampNeg z20.1)).toInt := congrArg Int32.toInt (fσ17.2 274 (by (try dsimp only); omega) (Int32.toNatClampNeg z20.1))
        have tt54 : (wt_ga σ4 274 (Int32.toNatClampNeg z20.1)).toInt = (wt_ga σ 274 (Int32.toNatClampNeg z20.1)).toInt := congrArg Int32.toInt (fσ4.2 274 (fun z => z) (Int32.toNatClampNeg z20.1))
        have bb57 := wt_tn (wt_gf z20.2 108 39)
        have rσ44 := wt_Rn10 l24 eσ44 (show 255 ≤ 255 + (Int32.toNatClampNeg (wt_gf z20.2 108 39)) by omega) (show 255 + (Int32.toNatClampNeg (wt_gf z20.2 108 39)) < 263 by omega) (show 0 ≤ (wt_ga z20.2 274 (Int32.toNatClampNeg z20.1)).toInt by omega) (show (wt_ga z20.2 274 (Int32.toNatClampNeg z20.1)).toInt ≤ 59 by omega)
        refine hKK19 _ ⟨(wt_fr.tr (wt_fr.tr wt_fr.rf l22 (fun i k h => h.elim) (fun i h => by (try dsimp only at h); exact (by first | exact h | omega))) fσ44 (fun i k h => h.elim) (fun i h => by (try dsimp only at h); exact (by first | exact h | omega))), (wt_nn (B := x2) (by first | with_reducible assumption | omega) (by first | with_reducible assumption | omega)), rσ44⟩ ?_
        show (x2.toInt - (z20.1 + (1 : Int32)).toInt + 0).toNat < (x2.toInt - z20.1.toInt + 0).toNat
        exact wt_mu (by first | with_reducible assumption | omega) (by first | with_reducible assumption | omega)
    · skip
      exact ⟨wt_fr.rf, (show 0 ≤ ((0 : Int32)).toInt by omega), rσ17⟩
    · skip
      show (x2.toInt - (0 : Int32).toInt + 0).toNat < n
      omega
  · skip
    have c58 := wt_nceq h12
    refine wt_T_some ?_
    exact ⟨(wt_fr.tr wt_fr.rf fσ4 (fun i k h => by (try dsimp only at h); exact Or.inl (by first | exact h | omega)) (fun i h => h.elim)), rσ4⟩
set_option maxRecDepth 100000 in
set_option maxHeartbeats 4000000 in
theorem wq_md_text_B30 (n : Nat) (hn : 4294967297 < n) (x1 : Int32) (y1 : Int32) (σ : wt_St) (r0 : wt_RI σ) (p0 : y1.toInt ≠ 0 ∨ (0 ≤ x1.toInt ∧ x1.toInt ≤ 500)) : wt_T (wp_md_text_B30 n x1 y1 σ) (fun q => wt_fr (fun i k => (i = 108 ∧ k = 0) ∨ (i = 108 ∧ k = 1) ∨ (i = 108 ∧ k = 2) ∨ (i = 108 ∧ k = 4) ∨ (i = 108 ∧ k = 5) ∨ (i = 108 ∧ k = 6) ∨ (i = 108 ∧ k = 7) ∨ (i = 108 ∧ k = 3) ∨ (i = 108 ∧ k = 39)) (fun i => i = 274 ∨ i = 253 ∨ (255 ≤ i ∧ i < 263)) σ q.2 ∧ wt_RI q.2 ∧ ((y1.toInt ≠ 0 → (wt_gf q.2 108 1).toInt = (wt_gf σ 108 1).toInt) ∧ (y1.toInt = 0 ∧ (wt_gf σ 108 0).toInt = 0 → (wt_gf q.2 108 1).toInt = 0))) := by
  have bb1 := wt_bd x1
  have bb2 := wt_bd y1
  unfold wp_md_text_B30
  have k3 : (1 : Int32).toInt = 1 := by decide
  refine wt_T_bi (wq_md_bad n hn y1 (1 : Int32) σ r0 (by first | with_reducible assumption | omega)) (fun r4 h5 => ?_)
  obtain ⟨f6, ri7, pp8⟩ := h5
  have bb9 := wt_bd r4.1
  have bb10 := wt_bd (wt_gf r4.2 108 0)
  have bb11 := wt_bd (wt_gf σ 108 0)
  have k12 : (0 : Int32).toInt = 0 := by decide
  refine wt_T_if (fun h13 => ?_) (fun h13 => ?_)
  · skip
    have c14 := wt_ceq h13
    refine wt_T_bi (wq_md_starts n hn x1 r4.2 ri7 (by first | with_reducible assumption | omega) (by first | with_reducible assumption | omega)) (fun r15 h16 => ?_)
    obtain ⟨f17, ri18, pp19⟩ := h16
    have g21 : 0 ≤ (wt_gf r15 108 1).toInt ∧ (wt_gf r15 108 1).toInt ≤ 500 := wt_Rf0 ri18
    have g23 : 0 ≤ (wt_gf r15 108 5).toInt ∧ (wt_gf r15 108 5).toInt ≤ 3 := wt_Rf3 ri18
    have g25 : 0 ≤ (wt_gf r15 108 7).toInt ∧ (wt_gf r15 108 7).toInt ≤ 60 := wt_Rf4 ri18
    obtain ⟨σ26, eσ26⟩ : ∃ z : wt_St, z = wt_sf r15 108 3 (-1 : Int32) := ⟨_, rfl⟩
    rw [← eσ26]
    have fσ26 := wt_fr_sf eσ26
    have vσ26 := wt_ceq (wt_v_sf eσ26)
    have rσ26 := wt_RI_fno ri18 eσ26 (Or.inr (by decide +kernel))
    have g28 : 0 ≤ (wt_gf σ26 108 39).toInt ∧ (wt_gf σ26 108 39).toInt ≤ 8 := wt_Rf7 rσ26
    have tt29 : (wt_gf σ26 108 39).toInt = (wt_gf r15 108 39).toInt := congrArg Int32.toInt (fσ26.1 108 39 (by (try dsimp only); omega))
    have tt32 : (wt_gf r15 108 39).toInt = (wt_gf r4.2 108 39).toInt := congrArg Int32.toInt (f17.1 108 39 (by (try dsimp only); omega))
    have tt35 : (wt_gf r4.2 108 39).toInt = (wt_gf σ 108 39).toInt := congrArg Int32.toInt (f6.1 108 39 (by (try dsimp only); omega))
    have k38 : (8 : Int32).toInt = 8 := by decide
    refine wt_T_if (fun h39 => ?_) (fun h39 => ?_)
    · skip
      have c40 := wt_ceq h39
      refine wt_T_some ?_
      have k41 := wt_lm1
      have g43 : 0 ≤ (wt_gf σ26 108 1).toInt ∧ (wt_gf σ26 108 1).toInt ≤ 500 := wt_Rf0 rσ26
      have tt44 : (wt_gf σ26 108 1).toInt = (wt_gf r15 108 1).toInt := congrArg Int32.toInt (fσ26.1 108 1 (by (try dsimp only); omega))
      have g46 : 0 ≤ (wt_gf σ 108 1).toInt ∧ (wt_gf σ 108 1).toInt ≤ 500 := wt_Rf0 r0
      exact ⟨(wt_fr.tr (wt_fr.tr (wt_fr.tr wt_fr.rf f6 (fun i k h => by (try dsimp only at h); exact Or.inl (by first | exact h | omega)) (fun i h => h.elim)) f17 (fun i k h => by (try dsimp only at h); rcases h with h | h | h | h | h | h; exact Or.inr (Or.inl (by first | exact h | omega)); exact Or.inr (Or.inr (Or.inl (by first | exact h | omega))); exact Or.inr (Or.inr (Or.inr (Or.inl (by first | exact h | omega)))); exact Or.inr (Or.inr (Or.inr (Or.inr (Or.inl (by first | exact h | omega))))); exact Or.inr (Or.inr (Or.inr (Or.inr (Or.inr (Or.inl (by first | exact h | omega)))))); exact Or.inr (Or.inr (Or.inr (Or.inr (Or.inr (Or.inr (Or.inl (by first | exact h | omega)))))))) (fun i h => h.elim)) fσ26 (fun i k h => by (try dsimp only at h); exact Or.inr (Or.inr (Or.inr (Or.inr (Or.inr (Or.inr (Or.inr (Or.inl (by first | exact h | omega))))))))) (fun i h => h.elim)), rσ26, (show ((y1.toInt ≠ 0 → (wt_gf σ26 108 1).toInt = (wt_gf σ 108 1).toInt) ∧ (y1.toInt = 0 ∧ (wt_gf σ 108 0).toInt = 0 → (wt_gf σ26 108 1).toInt = 0)) from by omega)⟩
    · skip
      have c47 := wt_nceq h39
      refine wt_T_it (fun s : Int32 × wt_St => wt_fr (fun i k => (i = 108 ∧ k = 4) ∨ (i = 108 ∧ k = 5) ∨ (i = 108 ∧ k = 6)) (fun i => i = 274) σ26 s.2 ∧ 0 ≤ (s.1).toInt ∧ s.1.toInt ≤ 12 ∧ wt_RI s.2) (fun s : Int32 × wt_St => (13 - s.1.toInt).toNat) (fun KK48 z49 I50 hKK48 => ?_) _ _ ?_ ?_
      · skip
        obtain ⟨l51, l52, l53, l54⟩ := I50
        unfold wp_md_text_B62
        have bb55 := wt_bd z49.1
        have g57 : 0 ≤ (wt_gf z49.2 108 5).toInt ∧ (wt_gf z49.2 108 5).toInt ≤ 3 := wt_Rf3 l54
        refine wt_T_if (fun h58 => ?_) (fun h58 => ?_)
        · skip
          have c59 := wt_ceq h58
          have g61 : 0 ≤ (wt_gf z49.2 108 4).toInt ∧ (wt_gf z49.2 108 4).toInt ≤ 500 := wt_Rf2 l54
          have g63 : 0 ≤ (wt_gf z49.2 108 2).toInt ∧ (wt_gf z49.2 108 2).toInt ≤ 500 := wt_Rf1 l54
          have tt64 : (wt_gf z49.2 108 2).toInt = (wt_gf σ26 108 2).toInt := congrArg Int32.toInt (l51.1 108 2 (by (try dsimp only); omega))
          have tt67 : (wt_gf σ26 108 2).toInt = (wt_gf r15 108 2).toInt := congrArg Int32.toInt (fσ26.1 108 2 (by (try dsimp only); omega))
          refine wt_T_if (fun h70 => ?_) (fun h70 => ?_)
          · skip
            have c71 := wt_clt h70
            unfold wp_md_text_B84
            refine wt_T_bi (wq_md_lettersHere n hn z49.2 l54) (fun r72 h73 => ?_)
            obtain ⟨f74, ri75, pp76⟩ := h73
            have bb77 := wt_bd r72.1
            have g79 : 0 ≤ (wt_gf r72.2 108 4).toInt ∧ (wt_gf r72.2 108 4).toInt ≤ 500 := wt_Rf2 ri75
            have g81 : 0 ≤ (wt_gf r72.2 108 2).toInt ∧ (wt_gf r72.2 108 2).toInt ≤ 500 := wt_Rf1 ri75
            have tt82 : (wt_gf r72.2 108 2).toInt = (wt_gf z49.2 108 2).toInt := congrArg Int32.toInt (f74.1 108 2 (by (try dsimp only); omega))
            have g84 : 0 ≤ (wt_gf r72.2 108 28).toInt ∧ (wt_gf r72.2 108 28).toInt ≤ 60 := wt_Rf6 ri75
            have tt85 : (wt_gf r72.2 108 28).toInt = (wt_gf z49.2 108 28).toInt := congrArg Int32.toInt (f74.1 108 28 (by (try dsimp only); omega))
            have tt88 : (wt_gf z49.2 108 28).toInt = (wt_gf σ26 108 28).toInt := congrArg Int32.toInt (l51.1 108 28 (by (try dsimp only); omega))
            have tt91 : (wt_gf σ26 108 28).toInt = (wt_gf r15 108 28).toInt := congrArg Int32.toInt (fσ26.1 108 28 (by (try dsimp only); omega))
            have tt94 : (wt_gf r15 108 28).toInt = (wt_gf r4.2 108 28).toInt := congrArg Int32.toInt (f17.1 108 28 (by (try dsimp only); omega))
            have tt97 : (wt_gf r4.2 108 28).toInt = (wt_gf σ 108 28).toInt := congrArg Int32.toInt (f6.1 108 28 (by (try dsimp only); omega))
            refine wt_T_bi (wq_md_wordOf_192_126 n hn r72.1 (wt_gf r72.2 108 28) r72.2 ri75 (by first | with_reducible assumption | omega)) (fun r100 h101 => ?_)
            obtain ⟨e102, pp103⟩ := h101
            have bb104 := wt_bd r100.1
            rw [e102]
            refine wt_T_if (fun h105 => ?_) (fun h105 => ?_)
            · skip
              have c106 := wt_ceq h105
              refine wt_T_bi (wq_md_wrong n hn (1 : Int32) (wt_gf r72.2 108 4) r72.2 ri75 (by first | with_reducible assumption | omega) (by first | with_reducible assumption | omega)) (fun r107 h108 => ?_)
              obtain ⟨f109, ri110, pp111⟩ := h108
              have g113 : 0 ≤ (wt_gf r107 108 5).toInt ∧ (wt_gf r107 108 5).toInt ≤ 3 := wt_Rf3 ri110
              unfold wp_md_text_B157
              refine wt_T_if (fun h114 => ?_) (fun h114 => ?_)
              · skip
                have c115 := wt_ceq h114
                refine wt_T_gd (wt_ix (by first | with_reducible assumption | omega) (by first | with_reducible assumption | omega)) ?_
                obtain ⟨σ116, eσ116⟩ : ∃ z : wt_St, z = wt_sa r107 274 (Int32.toNatClampNeg z49.1) r100.1 := ⟨_, rfl⟩
                rw [← eσ116]
                have fσ116 := wt_fr_sa eσ116
                have vσ116 := wt_ceq (wt_v_sa eσ116)
                have bb117 := wt_tn z49.1
                have rσ116 := wt_Rn11 ri110 eσ116 (by decide) (by decide) (show 0 ≤ (r100.1).toInt by omega) (show (r100.1).toInt ≤ 59 by omega)
                obtain ⟨σ118, eσ118⟩ : ∃ z : wt_St, z = wt_sf σ116 108 4 ((wt_gf σ116 108 4) + r72.1) := ⟨_, rfl⟩
                rw [← eσ118]
                have fσ118 := wt_fr_sf eσ118
                have vσ118 := wt_ceq (wt_v_sf eσ118)
                have g120 : 0 ≤ (wt_gf σ116 108 4).toInt ∧ (wt_gf σ116 108 4).toInt ≤ 500 := wt_Rf2 rσ116
                have tt121 : (wt_gf σ116 108 4).toInt = (wt_gf r107 108 4).toInt := congrArg Int32.toInt (fσ116.1 108 4 (fun z => z))
                have tt124 : (wt_gf r107 108 4).toInt = (wt_gf r72.2 108 4).toInt := congrArg Int32.toInt (f109.1 108 4 (by (try dsimp only); omega))
                obtain ⟨j125, j125a, j125b⟩ := wt_addI (wt_gf σ116 108 4) r72.1
                have rσ118 := wt_Rm2 rσ116 eσ118 (show 0 ≤ ((wt_gf σ116 108 4) + r72.1).toInt by omega) (show ((wt_gf σ116 108 4) + r72.1).toInt ≤ 500 by omega)
                refine wt_T_bi (wq_md_blanks n hn σ118 rσ118) (fun r126 h127 => ?_)
                obtain ⟨f128, ri129, pp130⟩ := h127
                have g132 : 0 ≤ (wt_gf σ118 108 4).toInt ∧ (wt_gf σ118 108 4).toInt ≤ 500 := wt_Rf2 rσ118
                have g134 : 0 ≤ (wt_gf r126 108 4).toInt ∧ (wt_gf r126 108 4).toInt ≤ 500 := wt_Rf2 ri129
                obtain ⟨j135, j135a, j135b⟩ := wt_addI z49.1 (1 : Int32)
                refine hKK48 _ ⟨(wt_fr.tr (wt_fr.tr (wt_fr.tr (wt_fr.tr (wt_fr.tr (wt_fr.tr wt_fr.rf l51 (fun i k h => by (try dsimp only at h); rcases h with h | h | h; exact Or.inl (by first | exact h | omega); exact Or.inr (Or.inl (by first | exact h | omega)); exact Or.inr (Or.inr (by first | exact h | omega))) (fun i h => by (try dsimp only at h); exact (by first | exact h | omega))) f74 (fun i k h => by (try dsimp only at h); exact Or.inl (by first | exact h | omega)) (fun i h => h.elim)) f109 (fun i k h => by (try dsimp only at h); rcases h with h | h; exact Or.inr (Or.inl (by first | exact h | omega)); exact Or.inr (Or.inr (by first | exact h | omega))) (fun i h => h.elim)) fσ116 (fun i k h => h.elim) (fun i h => by (try dsimp only at h); exact (by first | exact h | omega))) fσ118 (fun i k h => by (try dsimp only at h); exact Or.inl (by first | exact h | omega)) (fun i h => h.elim)) f128 (fun i k h => by (try dsimp only at h); exact Or.inl (by first | exact h | omega)) (fun i h => h.elim)), (show 0 ≤ ((z49.1 + (1 : Int32))).toInt by omega), (show (z49.1 + (1 : Int32)).toInt ≤ 12 by omega), ri129⟩ ?_
                show (13 - (z49.1 + (1 : Int32)).toInt).toNat < (13 - z49.1.toInt).toNat
                omega
              · skip
                have c136 := wt_nceq h114
                have g138 : 0 ≤ (wt_gf r107 108 39).toInt ∧ (wt_gf r107 108 39).toInt ≤ 8 := wt_Rf7 ri110
                have tt139 : (wt_gf r107 108 39).toInt = (wt_gf r72.2 108 39).toInt := congrArg Int32.toInt (f109.1 108 39 (by (try dsimp only); omega))
                have tt142 : (wt_gf r72.2 108 39).toInt = (wt_gf z49.2 108 39).toInt := congrArg Int32.toInt (f74.1 108 39 (by (try dsimp only); omega))
                have tt145 : (wt_gf z49.2 108 39).toInt = (wt_gf σ26 108 39).toInt := congrArg Int32.toInt (l51.1 108 39 (by (try dsimp only); omega))
                refine wt_T.imp (wq_md_text_B195 n hn z49.1 r107 ri110 (by first | with_reducible assumption | omega) (by first | with_reducible assumption | omega) (by first | with_reducible assumption | omega)) (fun r146 h147 => ?_)
                have bb148 := wt_bd r146.1
                obtain ⟨f149, ri150⟩ := h147
                have g152 : 0 ≤ (wt_gf r146.2 108 1).toInt ∧ (wt_gf r146.2 108 1).toInt ≤ 500 := wt_Rf0 ri150
                have tt153 : (wt_gf r146.2 108 1).toInt = (wt_gf r107 108 1).toInt := congrArg Int32.toInt (f149.1 108 1 (by (try dsimp only); omega))
                have tt156 : (wt_gf r107 108 1).toInt = (wt_gf r72.2 108 1).toInt := congrArg Int32.toInt (f109.1 108 1 (by (try dsimp only); omega))
                have tt159 : (wt_gf r72.2 108 1).toInt = (wt_gf z49.2 108 1).toInt := congrArg Int32.toInt (f74.1 108 1 (by (try dsimp only); omega))
                have tt162 : (wt_gf z49.2 108 1).toInt = (wt_gf σ26 108 1).toInt := congrArg Int32.toInt (l51.1 108 1 (by (try dsimp only); omega))
                have tt165 : (wt_gf σ26 108 1).toInt = (wt_gf r15 108 1).toInt := congrArg Int32.toInt (fσ26.1 108 1 (by (try dsimp only); omega))
                have g167 : 0 ≤ (wt_gf σ 108 1).toInt ∧ (wt_gf σ 108 1).toInt ≤ 500 := wt_Rf0 r0
                exact ⟨(wt_fr.tr (wt_fr.tr (wt_fr.tr (wt_fr.tr (wt_fr.tr (wt_fr.tr (wt_fr.tr wt_fr.rf f6 (fun i k h => by (try dsimp only at h); exact Or.inl (by first | exact h | omega)) (fun i h => h.elim)) f17 (fun i k h => by (try dsimp only at h); rcases h with h | h | h | h | h | h; exact Or.inr (Or.inl (by first | exact h | omega)); exact Or.inr (Or.inr (Or.inl (by first | exact h | omega))); exact Or.inr (Or.inr (Or.inr (Or.inl (by first | exact h | omega)))); exact Or.inr (Or.inr (Or.inr (Or.inr (Or.inl (by first | exact h | omega))))); exact Or.inr (Or.inr (Or.inr (Or.inr (Or.inr (Or.inl (by first | exact h | omega)))))); exact Or.inr (Or.inr (Or.inr (Or.inr (Or.inr (Or.inr (Or.inl (by first | exact h | omega)))))))) (fun i h => h.elim)) fσ26 (fun i k h => by (try dsimp only at h); exact Or.inr (Or.inr (Or.inr (Or.inr (Or.inr (Or.inr (Or.inr (Or.inl (by first | exact h | omega))))))))) (fun i h => h.elim)) l51 (fun i k h => by (try dsimp only at h); rcases h with h | h | h; exact Or.inr (Or.inr (Or.inr (Or.inl (by first | exact h | omega)))); exact Or.inr (Or.inr (Or.inr (Or.inr (Or.inl (by first | exact h | omega))))); exact Or.inr (Or.inr (Or.inr (Or.inr (Or.inr (Or.inl (by first | exact h | omega))))))) (fun i h => by (try dsimp only at h); exact Or.inl (by first | exact h | omega))) f74 (fun i k h => by (try dsimp only at h); exact Or.inr (Or.inr (Or.inr (Or.inl (by first | exact h | omega))))) (fun i h => h.elim)) f109 (fun i k h => by (try dsimp only at h); rcases h with h | h; exact Or.inr (Or.inr (Or.inr (Or.inr (Or.inl (by first | exact h | omega))))); exact Or.inr (Or.inr (Or.inr (Or.inr (Or.inr (Or.inl (by first | exact h | omega))))))) (fun i h => h.elim)) f149 (fun i k h => by (try dsimp only at h); rcases h with h | h; exact Or.inr (Or.inr (Or.inr (Or.inr (Or.inr (Or.inr (Or.inr (Or.inl (by first | exact h | omega)))))))); exact Or.inr (Or.inr (Or.inr (Or.inr (Or.inr (Or.inr (Or.inr (Or.inr (by first | exact h | omega))))))))) (fun i h => by (try dsimp only at h); rcases h with h | h; exact Or.inr (Or.inl (by first | exact h | omega)); exact Or.inr (Or.inr (by first | exact h | omega)))), ri150, (show ((y1.toInt ≠ 0 → (wt_gf r146.2 108 1).toInt = (wt_gf σ 108 1).toInt) ∧ (y1.toInt = 0 ∧ (wt_gf σ 108 0).toInt = 0 → (wt_gf r146.2 108 1).toInt = 0)) from by omega)⟩
            · skip
              have c168 := wt_nceq h105
              refine wt_T_if (fun h169 => ?_) (fun h169 => ?_)
              · skip
                have c170 := wt_ceq h169
                rw [wt_lm1] at c170
                have k171 : (2 : Int32).toInt = 2 := by decide
                refine wt_T_bi (wq_md_wrong n hn (2 : Int32) (wt_gf r72.2 108 4) r72.2 ri75 (by first | with_reducible assumption | omega) (by first | with_reducible assumption | omega)) (fun r172 h173 => ?_)
                obtain ⟨f174, ri175, pp176⟩ := h173
                have g178 : 0 ≤ (wt_gf r172 108 5).toInt ∧ (wt_gf r172 108 5).toInt ≤ 3 := wt_Rf3 ri175
                unfold wp_md_text_B157
                refine wt_T_if (fun h179 => ?_) (fun h179 => ?_)
                · skip
                  have c180 := wt_ceq h179
                  refine wt_T_gd (wt_ix (by first | with_reducible assumption | omega) (by first | with_reducible assumption | omega)) ?_
                  obtain ⟨σ181, eσ181⟩ : ∃ z : wt_St, z = wt_sa r172 274 (Int32.toNatClampNeg z49.1) r100.1 := ⟨_, rfl⟩
                  rw [← eσ181]
                  have fσ181 := wt_fr_sa eσ181
                  have vσ181 := wt_ceq (wt_v_sa eσ181)
                  have bb182 := wt_tn z49.1
                  have rσ181 := wt_Rn11 ri175 eσ181 (by decide) (by decide) (show 0 ≤ (r100.1).toInt by omega) (show (r100.1).toInt ≤ 59 by omega)
                  obtain ⟨σ183, eσ183⟩ : ∃ z : wt_St, z = wt_sf σ181 108 4 ((wt_gf σ181 108 4) + r72.1) := ⟨_, rfl⟩
                  rw [← eσ183]
                  have fσ183 := wt_fr_sf eσ183
                  have vσ183 := wt_ceq (wt_v_sf eσ183)
                  have g185 : 0 ≤ (wt_gf σ181 108 4).toInt ∧ (wt_gf σ181 108 4).toInt ≤ 500 := wt_Rf2 rσ181
                  have tt186 : (wt_gf σ181 108 4).toInt = (wt_gf r172 108 4).toInt := congrArg Int32.toInt (fσ181.1 108 4 (fun z => z))
                  have tt189 : (wt_gf r172 108 4).toInt = (wt_gf r72.2 108 4).toInt := congrArg Int32.toInt (f174.1 108 4 (by (try dsimp only); omega))
                  obtain ⟨j190, j190a, j190b⟩ := wt_addI (wt_gf σ181 108 4) r72.1
                  have rσ183 := wt_Rm2 rσ181 eσ183 (show 0 ≤ ((wt_gf σ181 108 4) + r72.1).toInt by omega) (show ((wt_gf σ181 108 4) + r72.1).toInt ≤ 500 by omega)
                  refine wt_T_bi (wq_md_blanks n hn σ183 rσ183) (fun r191 h192 => ?_)
                  obtain ⟨f193, ri194, pp195⟩ := h192
                  have g197 : 0 ≤ (wt_gf σ183 108 4).toInt ∧ (wt_gf σ183 108 4).toInt ≤ 500 := wt_Rf2 rσ183
                  have g199 : 0 ≤ (wt_gf r191 108 4).toInt ∧ (wt_gf r191 108 4).toInt ≤ 500 := wt_Rf2 ri194
                  obtain ⟨j200, j200a, j200b⟩ := wt_addI z49.1 (1 : Int32)
                  refine hKK48 _ ⟨(wt_fr.tr (wt_fr.tr (wt_fr.tr (wt_fr.tr (wt_fr.tr (wt_fr.tr wt_fr.rf l51 (fun i k h => by (try dsimp only at h); rcases h with h | h | h; exact Or.inl (by first | exact h | omega); exact Or.inr (Or.inl (by first | exact h | omega)); exact Or.inr (Or.inr (by first | exact h | omega))) (fun i h => by (try dsimp only at h); exact (by first | exact h | omega))) f74 (fun i k h => by (try dsimp only at h); exact Or.inl (by first | exact h | omega)) (fun i h => h.elim)) f174 (fun i k h => by (try dsimp only at h); rcases h with h | h; exact Or.inr (Or.inl (by first | exact h | omega)); exact Or.inr (Or.inr (by first | exact h | omega))) (fun i h => h.elim)) fσ181 (fun i k h => h.elim) (fun i h => by (try dsimp only at h); exact (by first | exact h | omega))) fσ183 (fun i k h => by (try dsimp only at h); exact Or.inl (by first | exact h | omega)) (fun i h => h.elim)) f193 (fun i k h => by (try dsimp only at h); exact Or.inl (by first | exact h | omega)) (fun i h => h.elim)), (show 0 ≤ ((z49.1 + (1 : Int32))).toInt by omega), (show (z49.1 + (1 : Int32)).toInt ≤ 12 by omega), ri194⟩ ?_
                  show (13 - (z49.1 + (1 : Int32)).toInt).toNat < (13 - z49.1.toInt).toNat
                  omega
                · skip
                  have c201 := wt_nceq h179
                  have g203 : 0 ≤ (wt_gf r172 108 39).toInt ∧ (wt_gf r172 108 39).toInt ≤ 8 := wt_Rf7 ri175
                  have tt204 : (wt_gf r172 108 39).toInt = (wt_gf r72.2 108 39).toInt := congrArg Int32.toInt (f174.1 108 39 (by (try dsimp only); omega))
                  have tt207 : (wt_gf r72.2 108 39).toInt = (wt_gf z49.2 108 39).toInt := congrArg Int32.toInt (f74.1 108 39 (by (try dsimp only); omega))
                  have tt210 : (wt_gf z49.2 108 39).toInt = (wt_gf σ26 108 39).toInt := congrArg Int32.toInt (l51.1 108 39 (by (try dsimp only); omega))
                  refine wt_T.imp (wq_md_text_B195 n hn z49.1 r172 ri175 (by first | with_reducible assumption | omega) (by first | with_reducible assumption | omega) (by first | with_reducible assumption | omega)) (fun r211 h212 => ?_)
                  have bb213 := wt_bd r211.1
                  obtain ⟨f214, ri215⟩ := h212
                  have g217 : 0 ≤ (wt_gf r211.2 108 1).toInt ∧ (wt_gf r211.2 108 1).toInt ≤ 500 := wt_Rf0 ri215
                  have tt218 : (wt_gf r211.2 108 1).toInt = (wt_gf r172 108 1).toInt := congrArg Int32.toInt (f214.1 108 1 (by (try dsimp only); omega))
                  have tt221 : (wt_gf r172 108 1).toInt = (wt_gf r72.2 108 1).toInt := congrArg Int32.toInt (f174.1 108 1 (by (try dsimp only); omega))
                  have tt224 : (wt_gf r72.2 108 1).toInt = (wt_gf z49.2 108 1).toInt := congrArg Int32.toInt (f74.1 108 1 (by (try dsimp only); omega))
                  have tt227 : (wt_gf z49.2 108 1).toInt = (wt_gf σ26 108 1).toInt := congrArg Int32.toInt (l51.1 108 1 (by (try dsimp only); omega))
                  have tt230 : (wt_gf σ26 108 1).toInt = (wt_gf r15 108 1).toInt := congrArg Int32.toInt (fσ26.1 108 1 (by (try dsimp only); omega))
                  have g232 : 0 ≤ (wt_gf σ 108 1).toInt ∧ (wt_gf σ 108 1).toInt ≤ 500 := wt_Rf0 r0
                  exact ⟨(wt_fr.tr (wt_fr.tr (wt_fr.tr (wt_fr.tr (wt_fr.tr (wt_fr.tr (wt_fr.tr wt_fr.rf f6 (fun i k h => by (try dsimp only at h); exact Or.inl (by first | exact h | omega)) (fun i h => h.elim)) f17 (fun i k h => by (try dsimp only at h); rcases h with h | h | h | h | h | h; exact Or.inr (Or.inl (by first | exact h | omega)); exact Or.inr (Or.inr (Or.inl (by first | exact h | omega))); exact Or.inr (Or.inr (Or.inr (Or.inl (by first | exact h | omega)))); exact Or.inr (Or.inr (Or.inr (Or.inr (Or.inl (by first | exact h | omega))))); exact Or.inr (Or.inr (Or.inr (Or.inr (Or.inr (Or.inl (by first | exact h | omega)))))); exact Or.inr (Or.inr (Or.inr (Or.inr (Or.inr (Or.inr (Or.inl (by first | exact h | omega)))))))) (fun i h => h.elim)) fσ26 (fun i k h => by (try dsimp only at h); exact Or.inr (Or.inr (Or.inr (Or.inr (Or.inr (Or.inr (Or.inr (Or.inl (by first | exact h | omega))))))))) (fun i h => h.elim)) l51 (fun i k h => by (try dsimp only at h); rcases h with h | h | h; exact Or.inr (Or.inr (Or.inr (Or.inl (by first | exact h | omega)))); exact Or.inr (Or.inr (Or.inr (Or.inr (Or.inl (by first | exact h | omega))))); exact Or.inr (Or.inr (Or.inr (Or.inr (Or.inr (Or.inl (by first | exact h | omega))))))) (fun i h => by (try dsimp only at h); exact Or.inl (by first | exact h | omega))) f74 (fun i k h => by (try dsimp only at h); exact Or.inr (Or.inr (Or.inr (Or.inl (by first | exact h | omega))))) (fun i h => h.elim)) f174 (fun i k h => by (try dsimp only at h); rcases h with h | h; exact Or.inr (Or.inr (Or.inr (Or.inr (Or.inl (by first | exact h | omega))))); exact Or.inr (Or.inr (Or.inr (Or.inr (Or.inr (Or.inl (by first | exact h | omega))))))) (fun i h => h.elim)) f214 (fun i k h => by (try dsimp only at h); rcases h with h | h; exact Or.inr (Or.inr (Or.inr (Or.inr (Or.inr (Or.inr (Or.inr (Or.inl (by first | exact h | omega)))))))); exact Or.inr (Or.inr (Or.inr (Or.inr (Or.inr (Or.inr (Or.inr (Or.inr (by first | exact h | omega))))))))) (fun i h => by (try dsimp only at h); rcases h with h | h; exact Or.inr (Or.inl (by first | exact h | omega)); exact Or.inr (Or.inr (by first | exact h | omega)))), ri215, (show ((y1.toInt ≠ 0 → (wt_gf r211.2 108 1).toInt = (wt_gf σ 108 1).toInt) ∧ (y1.toInt = 0 ∧ (wt_gf σ 108 0).toInt = 0 → (wt_gf r211.2 108 1).toInt = 0)) from by omega)⟩
              · skip
                have c233 := wt_nceq h169
                rw [wt_lm1] at c233
                have k234 : (12 : Int32).toInt = 12 := by decide
                refine wt_T_if (fun h235 => ?_) (fun h235 => ?_)
                · skip
                  have c236 := wt_ceq h235
                  have k237 : (3 : Int32).toInt = 3 := by decide
                  refine wt_T_bi (wq_md_wrong n hn (3 : Int32) (wt_gf r72.2 108 4) r72.2 ri75 (by first | with_reducible assumption | omega) (by first | with_reducible assumption | omega)) (fun r238 h239 => ?_)
                  obtain ⟨f240, ri241, pp242⟩ := h239
                  have g244 : 0 ≤ (wt_gf r238 108 5).toInt ∧ (wt_gf r238 108 5).toInt ≤ 3 := wt_Rf3 ri241
                  unfold wp_md_text_B157
                  refine wt_T_if (fun h245 => ?_) (fun h245 => ?_)
                  · skip
                    have c246 := wt_ceq h245
                    refine wt_T_gd (wt_ix (by first | with_reducible assumption | omega) (by first | with_reducible assumption | omega)) ?_
                    obtain ⟨σ247, eσ247⟩ : ∃ z : wt_St, z = wt_sa r238 274 (Int32.toNatClampNeg z49.1) r100.1 := ⟨_, rfl⟩
                    rw [← eσ247]
                    have fσ247 := wt_fr_sa eσ247
                    have vσ247 := wt_ceq (wt_v_sa eσ247)
                    have bb248 := wt_tn z49.1
                    have rσ247 := wt_Rn11 ri241 eσ247 (by decide) (by decide) (show 0 ≤ (r100.1).toInt by omega) (show (r100.1).toInt ≤ 59 by omega)
                    obtain ⟨σ249, eσ249⟩ : ∃ z : wt_St, z = wt_sf σ247 108 4 ((wt_gf σ247 108 4) + r72.1) := ⟨_, rfl⟩
                    rw [← eσ249]
                    have fσ249 := wt_fr_sf eσ249
                    have vσ249 := wt_ceq (wt_v_sf eσ249)
                    have g251 : 0 ≤ (wt_gf σ247 108 4).toInt ∧ (wt_gf σ247 108 4).toInt ≤ 500 := wt_Rf2 rσ247
                    have tt252 : (wt_gf σ247 108 4).toInt = (wt_gf r238 108 4).toInt := congrArg Int32.toInt (fσ247.1 108 4 (fun z => z))
                    have tt255 : (wt_gf r238 108 4).toInt = (wt_gf r72.2 108 4).toInt := congrArg Int32.toInt (f240.1 108 4 (by (try dsimp only); omega))
                    obtain ⟨j256, j256a, j256b⟩ := wt_addI (wt_gf σ247 108 4) r72.1
                    have rσ249 := wt_Rm2 rσ247 eσ249 (show 0 ≤ ((wt_gf σ247 108 4) + r72.1).toInt by omega) (show ((wt_gf σ247 108 4) + r72.1).toInt ≤ 500 by omega)
                    refine wt_T_bi (wq_md_blanks n hn σ249 rσ249) (fun r257 h258 => ?_)
                    obtain ⟨f259, ri260, pp261⟩ := h258
                    have g263 : 0 ≤ (wt_gf σ249 108 4).toInt ∧ (wt_gf σ249 108 4).toInt ≤ 500 := wt_Rf2 rσ249
                    have g265 : 0 ≤ (wt_gf r257 108 4).toInt ∧ (wt_gf r257 108 4).toInt ≤ 500 := wt_Rf2 ri260
                    obtain ⟨j266, j266a, j266b⟩ := wt_addI z49.1 (1 : Int32)
                    refine hKK48 _ ⟨(wt_fr.tr (wt_fr.tr (wt_fr.tr (wt_fr.tr (wt_fr.tr (wt_fr.tr wt_fr.rf l51 (fun i k h => by (try dsimp only at h); rcases h with h | h | h; exact Or.inl (by first | exact h | omega); exact Or.inr (Or.inl (by first | exact h | omega)); exact Or.inr (Or.inr (by first | exact h | omega))) (fun i h => by (try dsimp only at h); exact (by first | exact h | omega))) f74 (fun i k h => by (try dsimp only at h); exact Or.inl (by first | exact h | omega)) (fun i h => h.elim)) f240 (fun i k h => by (try dsimp only at h); rcases h with h | h; exact Or.inr (Or.inl (by first | exact h | omega)); exact Or.inr (Or.inr (by first | exact h | omega))) (fun i h => h.elim)) fσ247 (fun i k h => h.elim) (fun i h => by (try dsimp only at h); exact (by first | exact h | omega))) fσ249 (fun i k h => by (try dsimp only at h); exact Or.inl (by first | exact h | omega)) (fun i h => h.elim)) f259 (fun i k h => by (try dsimp only at h); exact Or.inl (by first | exact h | omega)) (fun i h => h.elim)), (show 0 ≤ ((z49.1 + (1 : Int32))).toInt by omega), (show (z49.1 + (1 : Int32)).toInt ≤ 12 by omega), ri260⟩ ?_
                    show (13 - (z49.1 + (1 : Int32)).toInt).toNat < (13 - z49.1.toInt).toNat
                    omega
                  · skip
                    have c267 := wt_nceq h245
                    have g269 : 0 ≤ (wt_gf r238 108 39).toInt ∧ (wt_gf r238 108 39).toInt ≤ 8 := wt_Rf7 ri241
                    have tt270 : (wt_gf r238 108 39).toInt = (wt_gf r72.2 108 39).toInt := congrArg Int32.toInt (f240.1 108 39 (by (try dsimp only); omega))
                    have tt273 : (wt_gf r72.2 108 39).toInt = (wt_gf z49.2 108 39).toInt := congrArg Int32.toInt (f74.1 108 39 (by (try dsimp only); omega))
                    have tt276 : (wt_gf z49.2 108 39).toInt = (wt_gf σ26 108 39).toInt := congrArg Int32.toInt (l51.1 108 39 (by (try dsimp only); omega))
                    refine wt_T.imp (wq_md_text_B195 n hn z49.1 r238 ri241 (by first | with_reducible assumption | omega) (by first | with_reducible assumption | omega) (by first | with_reducible assumption | omega)) (fun r277 h278 => ?_)
                    have bb279 := wt_bd r277.1
                    obtain ⟨f280, ri281⟩ := h278
                    have g283 : 0 ≤ (wt_gf r277.2 108 1).toInt ∧ (wt_gf r277.2 108 1).toInt ≤ 500 := wt_Rf0 ri281
                    have tt284 : (wt_gf r277.2 108 1).toInt = (wt_gf r238 108 1).toInt := congrArg Int32.toInt (f280.1 108 1 (by (try dsimp only); omega))
                    have tt287 : (wt_gf r238 108 1).toInt = (wt_gf r72.2 108 1).toInt := congrArg Int32.toInt (f240.1 108 1 (by (try dsimp only); omega))
                    have tt290 : (wt_gf r72.2 108 1).toInt = (wt_gf z49.2 108 1).toInt := congrArg Int32.toInt (f74.1 108 1 (by (try dsimp only); omega))
                    have tt293 : (wt_gf z49.2 108 1).toInt = (wt_gf σ26 108 1).toInt := congrArg Int32.toInt (l51.1 108 1 (by (try dsimp only); omega))
                    have tt296 : (wt_gf σ26 108 1).toInt = (wt_gf r15 108 1).toInt := congrArg Int32.toInt (fσ26.1 108 1 (by (try dsimp only); omega))
                    have g298 : 0 ≤ (wt_gf σ 108 1).toInt ∧ (wt_gf σ 108 1).toInt ≤ 500 := wt_Rf0 r0
                    exact ⟨(wt_fr.tr (wt_fr.tr (wt_fr.tr (wt_fr.tr (wt_fr.tr (wt_fr.tr (wt_fr.tr wt_fr.rf f6 (fun i k h => by (try dsimp only at h); exact Or.inl (by first | exact h | omega)) (fun i h => h.elim)) f17 (fun i k h => by (try dsimp only at h); rcases h with h | h | h | h | h | h; exact Or.inr (Or.inl (by first | exact h | omega)); exact Or.inr (Or.inr (Or.inl (by first | exact h | omega))); exact Or.inr (Or.inr (Or.inr (Or.inl (by first | exact h | omega)))); exact Or.inr (Or.inr (Or.inr (Or.inr (Or.inl (by first | exact h | omega))))); exact Or.inr (Or.inr (Or.inr (Or.inr (Or.inr (Or.inl (by first | exact h | omega)))))); exact Or.inr (Or.inr (Or.inr (Or.inr (Or.inr (Or.inr (Or.inl (by first | exact h | omega)))))))) (fun i h => h.elim)) fσ26 (fun i k h => by (try dsimp only at h); exact Or.inr (Or.inr (Or.inr (Or.inr (Or.inr (Or.inr (Or.inr (Or.inl (by first | exact h | omega))))))))) (fun i h => h.elim)) l51 (fun i k h => by (try dsimp only at h); rcases h with h | h | h; exact Or.inr (Or.inr (Or.inr (Or.inl (by first | exact h | omega)))); exact Or.inr (Or.inr (Or.inr (Or.inr (Or.inl (by first | exact h | omega))))); exact Or.inr (Or.inr (Or.inr (Or.inr (Or.inr (Or.inl (by first | exact h | omega))))))) (fun i h => by (try dsimp only at h); exact Or.inl (by first | exact h | omega))) f74 (fun i k h => by (try dsimp only at h); exact Or.inr (Or.inr (Or.inr (Or.inl (by first | exact h | omega))))) (fun i h => h.elim)) f240 (fun i k h => by (try dsimp only at h); rcases h with h | h; exact Or.inr (Or.inr (Or.inr (Or.inr (Or.inl (by first | exact h | omega))))); exact Or.inr (Or.inr (Or.inr (Or.inr (Or.inr (Or.inl (by first | exact h | omega))))))) (fun i h => h.elim)) f280 (fun i k h => by (try dsimp only at h); rcases h with h | h; exact Or.inr (Or.inr (Or.inr (Or.inr (Or.inr (Or.inr (Or.inr (Or.inl (by first | exact h | omega)))))))); exact Or.inr (Or.inr (Or.inr (Or.inr (Or.inr (Or.inr (Or.inr (Or.inr (by first | exact h | omega))))))))) (fun i h => by (try dsimp only at h); rcases h with h | h; exact Or.inr (Or.inl (by first | exact h | omega)); exact Or.inr (Or.inr (by first | exact h | omega)))), ri281, (show ((y1.toInt ≠ 0 → (wt_gf r277.2 108 1).toInt = (wt_gf σ 108 1).toInt) ∧ (y1.toInt = 0 ∧ (wt_gf σ 108 0).toInt = 0 → (wt_gf r277.2 108 1).toInt = 0)) from by omega)⟩
                · skip
                  have c299 := wt_nceq h235
                  unfold wp_md_text_B157
                  have g301 : 0 ≤ (wt_gf r72.2 108 5).toInt ∧ (wt_gf r72.2 108 5).toInt ≤ 3 := wt_Rf3 ri75
                  have tt302 : (wt_gf r72.2 108 5).toInt = (wt_gf z49.2 108 5).toInt := congrArg Int32.toInt (f74.1 108 5 (by (try dsimp only); omega))
                  refine wt_T_if (fun h303 => ?_) (fun h303 => ?_)
                  · skip
                    have c304 := wt_ceq h303
                    refine wt_T_gd (wt_ix (by first | with_reducible assumption | omega) (by first | with_reducible assumption | omega)) ?_
                    obtain ⟨σ305, eσ305⟩ : ∃ z : wt_St, z = wt_sa r72.2 274 (Int32.toNatClampNeg z49.1) r100.1 := ⟨_, rfl⟩
                    rw [← eσ305]
                    have fσ305 := wt_fr_sa eσ305
                    have vσ305 := wt_ceq (wt_v_sa eσ305)
                    have bb306 := wt_tn z49.1
                    have rσ305 := wt_Rn11 ri75 eσ305 (by decide) (by decide) (show 0 ≤ (r100.1).toInt by omega) (show (r100.1).toInt ≤ 59 by omega)
                    obtain ⟨σ307, eσ307⟩ : ∃ z : wt_St, z = wt_sf σ305 108 4 ((wt_gf σ305 108 4) + r72.1) := ⟨_, rfl⟩
                    rw [← eσ307]
                    have fσ307 := wt_fr_sf eσ307
                    have vσ307 := wt_ceq (wt_v_sf eσ307)
                    have g309 : 0 ≤ (wt_gf σ305 108 4).toInt ∧ (wt_gf σ305 108 4).toInt ≤ 500 := wt_Rf2 rσ305
                    have tt310 : (wt_gf σ305 108 4).toInt = (wt_gf r72.2 108 4).toInt := congrArg Int32.toInt (fσ305.1 108 4 (fun z => z))
                    obtain ⟨j311, j311a, j311b⟩ := wt_addI (wt_gf σ305 108 4) r72.1
                    have rσ307 := wt_Rm2 rσ305 eσ307 (show 0 ≤ ((wt_gf σ305 108 4) + r72.1).toInt by omega) (show ((wt_gf σ305 108 4) + r72.1).toInt ≤ 500 by omega)
                    refine wt_T_bi (wq_md_blanks n hn σ307 rσ307) (fun r312 h313 => ?_)
                    obtain ⟨f314, ri315, pp316⟩ := h313
                    have g318 : 0 ≤ (wt_gf σ307 108 4).toInt ∧ (wt_gf σ307 108 4).toInt ≤ 500 := wt_Rf2 rσ307
                    have g320 : 0 ≤ (wt_gf r312 108 4).toInt ∧ (wt_gf r312 108 4).toInt ≤ 500 := wt_Rf2 ri315
                    obtain ⟨j321, j321a, j321b⟩ := wt_addI z49.1 (1 : Int32)
                    refine hKK48 _ ⟨(wt_fr.tr (wt_fr.tr (wt_fr.tr (wt_fr.tr (wt_fr.tr wt_fr.rf l51 (fun i k h => by (try dsimp only at h); rcases h with h | h | h; exact Or.inl (by first | exact h | omega); exact Or.inr (Or.inl (by first | exact h | omega)); exact Or.inr (Or.inr (by first | exact h | omega))) (fun i h => by (try dsimp only at h); exact (by first | exact h | omega))) f74 (fun i k h => by (try dsimp only at h); exact Or.inl (by first | exact h | omega)) (fun i h => h.elim)) fσ305 (fun i k h => h.elim) (fun i h => by (try dsimp only at h); exact (by first | exact h | omega))) fσ307 (fun i k h => by (try dsimp only at h); exact Or.inl (by first | exact h | omega)) (fun i h => h.elim)) f314 (fun i k h => by (try dsimp only at h); exact Or.inl (by first | exact h | omega)) (fun i h => h.elim)), (show 0 ≤ ((z49.1 + (1 : Int32))).toInt by omega), (show (z49.1 + (1 : Int32)).toInt ≤ 12 by omega), ri315⟩ ?_
                    show (13 - (z49.1 + (1 : Int32)).toInt).toNat < (13 - z49.1.toInt).toNat
                    omega
                  · skip
                    have c322 := wt_nceq h303
                    have g324 : 0 ≤ (wt_gf r72.2 108 39).toInt ∧ (wt_gf r72.2 108 39).toInt ≤ 8 := wt_Rf7 ri75
                    have tt325 : (wt_gf r72.2 108 39).toInt = (wt_gf z49.2 108 39).toInt := congrArg Int32.toInt (f74.1 108 39 (by (try dsimp only); omega))
                    have tt328 : (wt_gf z49.2 108 39).toInt = (wt_gf σ26 108 39).toInt := congrArg Int32.toInt (l51.1 108 39 (by (try dsimp only); omega))
                    refine wt_T.imp (wq_md_text_B195 n hn z49.1 r72.2 ri75 (by first | with_reducible assumption | omega) (by first | with_reducible assumption | omega) (by first | with_reducible assumption | omega)) (fun r329 h330 => ?_)
                    have bb331 := wt_bd r329.1
                    obtain ⟨f332, ri333⟩ := h330
                    have g335 : 0 ≤ (wt_gf r329.2 108 1).toInt ∧ (wt_gf r329.2 108 1).toInt ≤ 500 := wt_Rf0 ri333
                    have tt336 : (wt_gf r329.2 108 1).toInt = (wt_gf r72.2 108 1).toInt := congrArg Int32.toInt (f332.1 108 1 (by (try dsimp only); omega))
                    have tt339 : (wt_gf r72.2 108 1).toInt = (wt_gf z49.2 108 1).toInt := congrArg Int32.toInt (f74.1 108 1 (by (try dsimp only); omega))
                    have tt342 : (wt_gf z49.2 108 1).toInt = (wt_gf σ26 108 1).toInt := congrArg Int32.toInt (l51.1 108 1 (by (try dsimp only); omega))
                    have tt345 : (wt_gf σ26 108 1).toInt = (wt_gf r15 108 1).toInt := congrArg Int32.toInt (fσ26.1 108 1 (by (try dsimp only); omega))
                    have g347 : 0 ≤ (wt_gf σ 108 1).toInt ∧ (wt_gf σ 108 1).toInt ≤ 500 := wt_Rf0 r0
                    exact ⟨(wt_fr.tr (wt_fr.tr (wt_fr.tr (wt_fr.tr (wt_fr.tr (wt_fr.tr wt_fr.rf f6 (fun i k h => by (try dsimp only at h); exact Or.inl (by first | exact h | omega)) (fun i h => h.elim)) f17 (fun i k h => by (try dsimp only at h); rcases h with h | h | h | h | h | h; exact Or.inr (Or.inl (by first | exact h | omega)); exact Or.inr (Or.inr (Or.inl (by first | exact h | omega))); exact Or.inr (Or.inr (Or.inr (Or.inl (by first | exact h | omega)))); exact Or.inr (Or.inr (Or.inr (Or.inr (Or.inl (by first | exact h | omega))))); exact Or.inr (Or.inr (Or.inr (Or.inr (Or.inr (Or.inl (by first | exact h | omega)))))); exact Or.inr (Or.inr (Or.inr (Or.inr (Or.inr (Or.inr (Or.inl (by first | exact h | omega)))))))) (fun i h => h.elim)) fσ26 (fun i k h => by (try dsimp only at h); exact Or.inr (Or.inr (Or.inr (Or.inr (Or.inr (Or.inr (Or.inr (Or.inl (by first | exact h | omega))))))))) (fun i h => h.elim)) l51 (fun i k h => by (try dsimp only at h); rcases h with h | h | h; exact Or.inr (Or.inr (Or.inr (Or.inl (by first | exact h | omega)))); exact Or.inr (Or.inr (Or.inr (Or.inr (Or.inl (by first | exact h | omega))))); exact Or.inr (Or.inr (Or.inr (Or.inr (Or.inr (Or.inl (by first | exact h | omega))))))) (fun i h => by (try dsimp only at h); exact Or.inl (by first | exact h | omega))) f74 (fun i k h => by (try dsimp only at h); exact Or.inr (Or.inr (Or.inr (Or.inl (by first | exact h | omega))))) (fun i h => h.elim)) f332 (fun i k h => by (try dsimp only at h); rcases h with h | h; exact Or.inr (Or.inr (Or.inr (Or.inr (Or.inr (Or.inr (Or.inr (Or.inl (by first | exact h | omega)))))))); exact Or.inr (Or.inr (Or.inr (Or.inr (Or.inr (Or.inr (Or.inr (Or.inr (by first | exact h | omega))))))))) (fun i h => by (try dsimp only at h); rcases h with h | h; exact Or.inr (Or.inl (by first | exact h | omega)); exact Or.inr (Or.inr (by first | exact h | omega)))), ri333, (show ((y1.toInt ≠ 0 → (wt_gf r329.2 108 1).toInt = (wt_gf σ 108 1).toInt) ∧ (y1.toInt = 0 ∧ (wt_gf σ 108 0).toInt = 0 → (wt_gf r329.2 108 1).toInt = 0)) from by omega)⟩
          · skip
            have c348 := wt_ncl h70
            refine wt_T_if (fun h349 => ?_) (fun h349 => ?_)
            · skip
              have c350 := wt_ceq h349
              unfold wp_md_text_B84
              refine wt_T_bi (wq_md_lettersHere n hn z49.2 l54) (fun r351 h352 => ?_)
              obtain ⟨f353, ri354, pp355⟩ := h352
              have bb356 := wt_bd r351.1
              have g358 : 0 ≤ (wt_gf r351.2 108 4).toInt ∧ (wt_gf r351.2 108 4).toInt ≤ 500 := wt_Rf2 ri354
              have g360 : 0 ≤ (wt_gf r351.2 108 2).toInt ∧ (wt_gf r351.2 108 2).toInt ≤ 500 := wt_Rf1 ri354
              have tt361 : (wt_gf r351.2 108 2).toInt = (wt_gf z49.2 108 2).toInt := congrArg Int32.toInt (f353.1 108 2 (by (try dsimp only); omega))
              have g363 : 0 ≤ (wt_gf r351.2 108 28).toInt ∧ (wt_gf r351.2 108 28).toInt ≤ 60 := wt_Rf6 ri354
              have tt364 : (wt_gf r351.2 108 28).toInt = (wt_gf z49.2 108 28).toInt := congrArg Int32.toInt (f353.1 108 28 (by (try dsimp only); omega))
              have tt367 : (wt_gf z49.2 108 28).toInt = (wt_gf σ26 108 28).toInt := congrArg Int32.toInt (l51.1 108 28 (by (try dsimp only); omega))
              have tt370 : (wt_gf σ26 108 28).toInt = (wt_gf r15 108 28).toInt := congrArg Int32.toInt (fσ26.1 108 28 (by (try dsimp only); omega))
              have tt373 : (wt_gf r15 108 28).toInt = (wt_gf r4.2 108 28).toInt := congrArg Int32.toInt (f17.1 108 28 (by (try dsimp only); omega))
              have tt376 : (wt_gf r4.2 108 28).toInt = (wt_gf σ 108 28).toInt := congrArg Int32.toInt (f6.1 108 28 (by (try dsimp only); omega))
              refine wt_T_bi (wq_md_wordOf_192_126 n hn r351.1 (wt_gf r351.2 108 28) r351.2 ri354 (by first | with_reducible assumption | omega)) (fun r379 h380 => ?_)
              obtain ⟨e381, pp382⟩ := h380
              have bb383 := wt_bd r379.1
              rw [e381]
              refine wt_T_if (fun h384 => ?_) (fun h384 => ?_)
              · skip
                have c385 := wt_ceq h384
                refine wt_T_bi (wq_md_wrong n hn (1 : Int32) (wt_gf r351.2 108 4) r351.2 ri354 (by first | with_reducible assumption | omega) (by first | with_reducible assumption | omega)) (fun r386 h387 => ?_)
                obtain ⟨f388, ri389, pp390⟩ := h387
                have g392 : 0 ≤ (wt_gf r386 108 5).toInt ∧ (wt_gf r386 108 5).toInt ≤ 3 := wt_Rf3 ri389
                unfold wp_md_text_B157
                refine wt_T_if (fun h393 => ?_) (fun h393 => ?_)
                · skip
                  have c394 := wt_ceq h393
                  refine wt_T_gd (wt_ix (by first | with_reducible assumption | omega) (by first | with_reducible assumption | omega)) ?_
                  obtain ⟨σ395, eσ395⟩ : ∃ z : wt_St, z = wt_sa r386 274 (Int32.toNatClampNeg z49.1) r379.1 := ⟨_, rfl⟩
                  rw [← eσ395]
                  have fσ395 := wt_fr_sa eσ395
                  have vσ395 := wt_ceq (wt_v_sa eσ395)
                  have bb396 := wt_tn z49.1
                  have rσ395 := wt_Rn11 ri389 eσ395 (by decide) (by decide) (show 0 ≤ (r379.1).toInt by omega) (show (r379.1).toInt ≤ 59 by omega)
                  obtain ⟨σ397, eσ397⟩ : ∃ z : wt_St, z = wt_sf σ395 108 4 ((wt_gf σ395 108 4) + r351.1) := ⟨_, rfl⟩
                  rw [← eσ397]
                  have fσ397 := wt_fr_sf eσ397
                  have vσ397 := wt_ceq (wt_v_sf eσ397)
                  have g399 : 0 ≤ (wt_gf σ395 108 4).toInt ∧ (wt_gf σ395 108 4).toInt ≤ 500 := wt_Rf2 rσ395
                  have tt400 : (wt_gf σ395 108 4).toInt = (wt_gf r386 108 4).toInt := congrArg Int32.toInt (fσ395.1 108 4 (fun z => z))
                  have tt403 : (wt_gf r386 108 4).toInt = (wt_gf r351.2 108 4).toInt := congrArg Int32.toInt (f388.1 108 4 (by (try dsimp only); omega))
                  obtain ⟨j404, j404a, j404b⟩ := wt_addI (wt_gf σ395 108 4) r351.1
                  have rσ397 := wt_Rm2 rσ395 eσ397 (show 0 ≤ ((wt_gf σ395 108 4) + r351.1).toInt by omega) (show ((wt_gf σ395 108 4) + r351.1).toInt ≤ 500 by omega)
                  refine wt_T_bi (wq_md_blanks n hn σ397 rσ397) (fun r405 h406 => ?_)
                  obtain ⟨f407, ri408, pp409⟩ := h406
                  have g411 : 0 ≤ (wt_gf σ397 108 4).toInt ∧ (wt_gf σ397 108 4).toInt ≤ 500 := wt_Rf2 rσ397
                  have g413 : 0 ≤ (wt_gf r405 108 4).toInt ∧ (wt_gf r405 108 4).toInt ≤ 500 := wt_Rf2 ri408
                  obtain ⟨j414, j414a, j414b⟩ := wt_addI z49.1 (1 : Int32)
                  refine hKK48 _ ⟨(wt_fr.tr (wt_fr.tr (wt_fr.tr (wt_fr.tr (wt_fr.tr (wt_fr.tr wt_fr.rf l51 (fun i k h => by (try dsimp only at h); rcases h with h | h | h; exact Or.inl (by first | exact h | omega); exact Or.inr (Or.inl (by first | exact h | omega)); exact Or.inr (Or.inr (by first | exact h | omega))) (fun i h => by (try dsimp only at h); exact (by first | exact h | omega))) f353 (fun i k h => by (try dsimp only at h); exact Or.inl (by first | exact h | omega)) (fun i h => h.elim)) f388 (fun i k h => by (try dsimp only at h); rcases h with h | h; exact Or.inr (Or.inl (by first | exact h | omega)); exact Or.inr (Or.inr (by first | exact h | omega))) (fun i h => h.elim)) fσ395 (fun i k h => h.elim) (fun i h => by (try dsimp only at h); exact (by first | exact h | omega))) fσ397 (fun i k h => by (try dsimp only at h); exact Or.inl (by first | exact h | omega)) (fun i h => h.elim)) f407 (fun i k h => by (try dsimp only at h); exact Or.inl (by first | exact h | omega)) (fun i h => h.elim)), (show 0 ≤ ((z49.1 + (1 : Int32))).toInt by omega), (show (z49.1 + (1 : Int32)).toInt ≤ 12 by omega), ri408⟩ ?_
                  show (13 - (z49.1 + (1 : Int32)).toInt).toNat < (13 - z49.1.toInt).toNat
                  omega
                · skip
                  have c415 := wt_nceq h393
                  have g417 : 0 ≤ (wt_gf r386 108 39).toInt ∧ (wt_gf r386 108 39).toInt ≤ 8 := wt_Rf7 ri389
                  have tt418 : (wt_gf r386 108 39).toInt = (wt_gf r351.2 108 39).toInt := congrArg Int32.toInt (f388.1 108 39 (by (try dsimp only); omega))
                  have tt421 : (wt_gf r351.2 108 39).toInt = (wt_gf z49.2 108 39).toInt := congrArg Int32.toInt (f353.1 108 39 (by (try dsimp only); omega))
                  have tt424 : (wt_gf z49.2 108 39).toInt = (wt_gf σ26 108 39).toInt := congrArg Int32.toInt (l51.1 108 39 (by (try dsimp only); omega))
                  refine wt_T.imp (wq_md_text_B195 n hn z49.1 r386 ri389 (by first | with_reducible assumption | omega) (by first | with_reducible assumption | omega) (by first | with_reducible assumption | omega)) (fun r425 h426 => ?_)
                  have bb427 := wt_bd r425.1
                  obtain ⟨f428, ri429⟩ := h426
                  have g431 : 0 ≤ (wt_gf r425.2 108 1).toInt ∧ (wt_gf r425.2 108 1).toInt ≤ 500 := wt_Rf0 ri429
                  have tt432 : (wt_gf r425.2 108 1).toInt = (wt_gf r386 108 1).toInt := congrArg Int32.toInt (f428.1 108 1 (by (try dsimp only); omega))
                  have tt435 : (wt_gf r386 108 1).toInt = (wt_gf r351.2 108 1).toInt := congrArg Int32.toInt (f388.1 108 1 (by (try dsimp only); omega))
                  have tt438 : (wt_gf r351.2 108 1).toInt = (wt_gf z49.2 108 1).toInt := congrArg Int32.toInt (f353.1 108 1 (by (try dsimp only); omega))
                  have tt441 : (wt_gf z49.2 108 1).toInt = (wt_gf σ26 108 1).toInt := congrArg Int32.toInt (l51.1 108 1 (by (try dsimp only); omega))
                  have tt444 : (wt_gf σ26 108 1).toInt = (wt_gf r15 108 1).toInt := congrArg Int32.toInt (fσ26.1 108 1 (by (try dsimp only); omega))
                  have g446 : 0 ≤ (wt_gf σ 108 1).toInt ∧ (wt_gf σ 108 1).toInt ≤ 500 := wt_Rf0 r0
                  exact ⟨(wt_fr.tr (wt_fr.tr (wt_fr.tr (wt_fr.tr (wt_fr.tr (wt_fr.tr (wt_fr.tr wt_fr.rf f6 (fun i k h => by (try dsimp only at h); exact Or.inl (by first | exact h | omega)) (fun i h => h.elim)) f17 (fun i k h => by (try dsimp only at h); rcases h with h | h | h | h | h | h; exact Or.inr (Or.inl (by first | exact h | omega)); exact Or.inr (Or.inr (Or.inl (by first | exact h | omega))); exact Or.inr (Or.inr (Or.inr (Or.inl (by first | exact h | omega)))); exact Or.inr (Or.inr (Or.inr (Or.inr (Or.inl (by first | exact h | omega))))); exact Or.inr (Or.inr (Or.inr (Or.inr (Or.inr (Or.inl (by first | exact h | omega)))))); exact Or.inr (Or.inr (Or.inr (Or.inr (Or.inr (Or.inr (Or.inl (by first | exact h | omega)))))))) (fun i h => h.elim)) fσ26 (fun i k h => by (try dsimp only at h); exact Or.inr (Or.inr (Or.inr (Or.inr (Or.inr (Or.inr (Or.inr (Or.inl (by first | exact h | omega))))))))) (fun i h => h.elim)) l51 (fun i k h => by (try dsimp only at h); rcases h with h | h | h; exact Or.inr (Or.inr (Or.inr (Or.inl (by first | exact h | omega)))); exact Or.inr (Or.inr (Or.inr (Or.inr (Or.inl (by first | exact h | omega))))); exact Or.inr (Or.inr (Or.inr (Or.inr (Or.inr (Or.inl (by first | exact h | omega))))))) (fun i h => by (try dsimp only at h); exact Or.inl (by first | exact h | omega))) f353 (fun i k h => by (try dsimp only at h); exact Or.inr (Or.inr (Or.inr (Or.inl (by first | exact h | omega))))) (fun i h => h.elim)) f388 (fun i k h => by (try dsimp only at h); rcases h with h | h; exact Or.inr (Or.inr (Or.inr (Or.inr (Or.inl (by first | exact h | omega))))); exact Or.inr (Or.inr (Or.inr (Or.inr (Or.inr (Or.inl (by first | exact h | omega))))))) (fun i h => h.elim)) f428 (fun i k h => by (try dsimp only at h); rcases h with h | h; exact Or.inr (Or.inr (Or.inr (Or.inr (Or.inr (Or.inr (Or.inr (Or.inl (by first | exact h | omega)))))))); exact Or.inr (Or.inr (Or.inr (Or.inr (Or.inr (Or.inr (Or.inr (Or.inr (by first | exact h | omega))))))))) (fun i h => by (try dsimp only at h); rcases h with h | h; exact Or.inr (Or.inl (by first | exact h | omega)); exact Or.inr (Or.inr (by first | exact h | omega)))), ri429, (show ((y1.toInt ≠ 0 → (wt_gf r425.2 108 1).toInt = (wt_gf σ 108 1).toInt) ∧ (y1.toInt = 0 ∧ (wt_gf σ 108 0).toInt = 0 → (wt_gf r425.2 108 1).toInt = 0)) from by omega)⟩
              · skip
                have c447 := wt_nceq h384
                refine wt_T_if (fun h448 => ?_) (fun h448 => ?_)
                · skip
                  have c449 := wt_ceq h448
                  rw [wt_lm1] at c449
                  have k450 : (2 : Int32).toInt = 2 := by decide
                  refine wt_T_bi (wq_md_wrong n hn (2 : Int32) (wt_gf r351.2 108 4) r351.2 ri354 (by first | with_reducible assumption | omega) (by first | with_reducible assumption | omega)) (fun r451 h452 => ?_)
                  obtain ⟨f453, ri454, pp455⟩ := h452
                  have g457 : 0 ≤ (wt_gf r451 108 5).toInt ∧ (wt_gf r451 108 5).toInt ≤ 3 := wt_Rf3 ri454
                  unfold wp_md_text_B157
                  refine wt_T_if (fun h458 => ?_) (fun h458 => ?_)
                  · skip
                    have c459 := wt_ceq h458
                    refine wt_T_gd (wt_ix (by first | with_reducible assumption | omega) (by first | with_reducible assumption | omega)) ?_
                    obtain ⟨σ460, eσ460⟩ : ∃ z : wt_St, z = wt_sa r451 274 (Int32.toNatClampNeg z49.1) r379.1 := ⟨_, rfl⟩
                    rw [← eσ460]
                    have fσ460 := wt_fr_sa eσ460
                    have vσ460 := wt_ceq (wt_v_sa eσ460)
                    have bb461 := wt_tn z49.1
                    have rσ460 := wt_Rn11 ri454 eσ460 (by decide) (by decide) (show 0 ≤ (r379.1).toInt by omega) (show (r379.1).toInt ≤ 59 by omega)
                    obtain ⟨σ462, eσ462⟩ : ∃ z : wt_St, z = wt_sf σ460 108 4 ((wt_gf σ460 108 4) + r351.1) := ⟨_, rfl⟩
                    rw [← eσ462]
                    have fσ462 := wt_fr_sf eσ462
                    have vσ462 := wt_ceq (wt_v_sf eσ462)
                    have g464 : 0 ≤ (wt_gf σ460 108 4).toInt ∧ (wt_gf σ460 108 4).toInt ≤ 500 := wt_Rf2 rσ460
                    have tt465 : (wt_gf σ460 108 4).toInt = (wt_gf r451 108 4).toInt := congrArg Int32.toInt (fσ460.1 108 4 (fun z => z))
                    have tt468 : (wt_gf r451 108 4).toInt = (wt_gf r351.2 108 4).toInt := congrArg Int32.toInt (f453.1 108 4 (by (try dsimp only); omega))
                    obtain ⟨j469, j469a, j469b⟩ := wt_addI (wt_gf σ460 108 4) r351.1
                    have rσ462 := wt_Rm2 rσ460 eσ462 (show 0 ≤ ((wt_gf σ460 108 4) + r351.1).toInt by omega) (show ((wt_gf σ460 108 4) + r351.1).toInt ≤ 500 by omega)
                    refine wt_T_bi (wq_md_blanks n hn σ462 rσ462) (fun r470 h471 => ?_)
                    obtain ⟨f472, ri473, pp474⟩ := h471
                    have g476 : 0 ≤ (wt_gf σ462 108 4).toInt ∧ (wt_gf σ462 108 4).toInt ≤ 500 := wt_Rf2 rσ462
                    have g478 : 0 ≤ (wt_gf r470 108 4).toInt ∧ (wt_gf r470 108 4).toInt ≤ 500 := wt_Rf2 ri473
                    obtain ⟨j479, j479a, j479b⟩ := wt_addI z49.1 (1 : Int32)
                    refine hKK48 _ ⟨(wt_fr.tr (wt_fr.tr (wt_fr.tr (wt_fr.tr (wt_fr.tr (wt_fr.tr wt_fr.rf l51 (fun i k h => by (try dsimp only at h); rcases h with h | h | h; exact Or.inl (by first | exact h | omega); exact Or.inr (Or.inl (by first | exact h | omega)); exact Or.inr (Or.inr (by first | exact h | omega))) (fun i h => by (try dsimp only at h); exact (by first | exact h | omega))) f353 (fun i k h => by (try dsimp only at h); exact Or.inl (by first | exact h | omega)) (fun i h => h.elim)) f453 (fun i k h => by (try dsimp only at h); rcases h with h | h; exact Or.inr (Or.inl (by first | exact h | omega)); exact Or.inr (Or.inr (by first | exact h | omega))) (fun i h => h.elim)) fσ460 (fun i k h => h.elim) (fun i h => by (try dsimp only at h); exact (by first | exact h | omega))) fσ462 (fun i k h => by (try dsimp only at h); exact Or.inl (by first | exact h | omega)) (fun i h => h.elim)) f472 (fun i k h => by (try dsimp only at h); exact Or.inl (by first | exact h | omega)) (fun i h => h.elim)), (show 0 ≤ ((z49.1 + (1 : Int32))).toInt by omega), (show (z49.1 + (1 : Int32)).toInt ≤ 12 by omega), ri473⟩ ?_
                    show (13 - (z49.1 + (1 : Int32)).toInt).toNat < (13 - z49.1.toInt).toNat
                    omega
                  · skip
                    have c480 := wt_nceq h458
                    have g482 : 0 ≤ (wt_gf r451 108 39).toInt ∧ (wt_gf r451 108 39).toInt ≤ 8 := wt_Rf7 ri454
                    have tt483 : (wt_gf r451 108 39).toInt = (wt_gf r351.2 108 39).toInt := congrArg Int32.toInt (f453.1 108 39 (by (try dsimp only); omega))
                    have tt486 : (wt_gf r351.2 108 39).toInt = (wt_gf z49.2 108 39).toInt := congrArg Int32.toInt (f353.1 108 39 (by (try dsimp only); omega))
                    have tt489 : (wt_gf z49.2 108 39).toInt = (wt_gf σ26 108 39).toInt := congrArg Int32.toInt (l51.1 108 39 (by (try dsimp only); omega))
                    refine wt_T.imp (wq_md_text_B195 n hn z49.1 r451 ri454 (by first | with_reducible assumption | omega) (by first | with_reducible assumption | omega) (by first | with_reducible assumption | omega)) (fun r490 h491 => ?_)
                    have bb492 := wt_bd r490.1
                    obtain ⟨f493, ri494⟩ := h491
                    have g496 : 0 ≤ (wt_gf r490.2 108 1).toInt ∧ (wt_gf r490.2 108 1).toInt ≤ 500 := wt_Rf0 ri494
                    have tt497 : (wt_gf r490.2 108 1).toInt = (wt_gf r451 108 1).toInt := congrArg Int32.toInt (f493.1 108 1 (by (try dsimp only); omega))
                    have tt500 : (wt_gf r451 108 1).toInt = (wt_gf r351.2 108 1).toInt := congrArg Int32.toInt (f453.1 108 1 (by (try dsimp only); omega))
                    have tt503 : (wt_gf r351.2 108 1).toInt = (wt_gf z49.2 108 1).toInt := congrArg Int32.toInt (f353.1 108 1 (by (try dsimp only); omega))
                    have tt506 : (wt_gf z49.2 108 1).toInt = (wt_gf σ26 108 1).toInt := congrArg Int32.toInt (l51.1 108 1 (by (try dsimp only); omega))
                    have tt509 : (wt_gf σ26 108 1).toInt = (wt_gf r15 108 1).toInt := congrArg Int32.toInt (fσ26.1 108 1 (by (try dsimp only); omega))
                    have g511 : 0 ≤ (wt_gf σ 108 1).toInt ∧ (wt_gf σ 108 1).toInt ≤ 500 := wt_Rf0 r0
                    exact ⟨(wt_fr.tr (wt_fr.tr (wt_fr.tr (wt_fr.tr (wt_fr.tr (wt_fr.tr (wt_fr.tr wt_fr.rf f6 (fun i k h => by (try dsimp only at h); exact Or.inl (by first | exact h | omega)) (fun i h => h.elim)) f17 (fun i k h => by (try dsimp only at h); rcases h with h | h | h | h | h | h; exact Or.inr (Or.inl (by first | exact h | omega)); exact Or.inr (Or.inr (Or.inl (by first | exact h | omega))); exact Or.inr (Or.inr (Or.inr (Or.inl (by first | exact h | omega)))); exact Or.inr (Or.inr (Or.inr (Or.inr (Or.inl (by first | exact h | omega))))); exact Or.inr (Or.inr (Or.inr (Or.inr (Or.inr (Or.inl (by first | exact h | omega)))))); exact Or.inr (Or.inr (Or.inr (Or.inr (Or.inr (Or.inr (Or.inl (by first | exact h | omega)))))))) (fun i h => h.elim)) fσ26 (fun i k h => by (try dsimp only at h); exact Or.inr (Or.inr (Or.inr (Or.inr (Or.inr (Or.inr (Or.inr (Or.inl (by first | exact h | omega))))))))) (fun i h => h.elim)) l51 (fun i k h => by (try dsimp only at h); rcases h with h | h | h; exact Or.inr (Or.inr (Or.inr (Or.inl (by first | exact h | omega)))); exact Or.inr (Or.inr (Or.inr (Or.inr (Or.inl (by first | exact h | omega))))); exact Or.inr (Or.inr (Or.inr (Or.inr (Or.inr (Or.inl (by first | exact h | omega))))))) (fun i h => by (try dsimp only at h); exact Or.inl (by first | exact h | omega))) f353 (fun i k h => by (try dsimp only at h); exact Or.inr (Or.inr (Or.inr (Or.inl (by first | exact h | omega))))) (fun i h => h.elim)) f453 (fun i k h => by (try dsimp only at h); rcases h with h | h; exact Or.inr (Or.inr (Or.inr (Or.inr (Or.inl (by first | exact h | omega))))); exact Or.inr (Or.inr (Or.inr (Or.inr (Or.inr (Or.inl (by first | exact h | omega))))))) (fun i h => h.elim)) f493 (fun i k h => by (try dsimp only at h); rcases h with h | h; exact Or.inr (Or.inr (Or.inr (Or.inr (Or.inr (Or.inr (Or.inr (Or.inl (by first | exact h | omega)))))))); exact Or.inr (Or.inr (Or.inr (Or.inr (Or.inr (Or.inr (Or.inr (Or.inr (by first | exact h | omega))))))))) (fun i h => by (try dsimp only at h); rcases h with h | h; exact Or.inr (Or.inl (by first | exact h | omega)); exact Or.inr (Or.inr (by first | exact h | omega)))), ri494, (show ((y1.toInt ≠ 0 → (wt_gf r490.2 108 1).toInt = (wt_gf σ 108 1).toInt) ∧ (y1.toInt = 0 ∧ (wt_gf σ 108 0).toInt = 0 → (wt_gf r490.2 108 1).toInt = 0)) from by omega)⟩
                · skip
                  have c512 := wt_nceq h448
                  rw [wt_lm1] at c512
                  have k513 : (12 : Int32).toInt = 12 := by decide
                  refine wt_T_if (fun h514 => ?_) (fun h514 => ?_)
                  · skip
                    have c515 := wt_ceq h514
                    have k516 : (3 : Int32).toInt = 3 := by decide
                    refine wt_T_bi (wq_md_wrong n hn (3 : Int32) (wt_gf r351.2 108 4) r351.2 ri354 (by first | with_reducible assumption | omega) (by first | with_reducible assumption | omega)) (fun r517 h518 => ?_)
                    obtain ⟨f519, ri520, pp521⟩ := h518
                    have g523 : 0 ≤ (wt_gf r517 108 5).toInt ∧ (wt_gf r517 108 5).toInt ≤ 3 := wt_Rf3 ri520
                    unfold wp_md_text_B157
                    refine wt_T_if (fun h524 => ?_) (fun h524 => ?_)
                    · skip
                      have c525 := wt_ceq h524
                      refine wt_T_gd (wt_ix (by first | with_reducible assumption | omega) (by first | with_reducible assumption | omega)) ?_
                      obtain ⟨σ526, eσ526⟩ : ∃ z : wt_St, z = wt_sa r517 274 (Int32.toNatClampNeg z49.1) r379.1 := ⟨_, rfl⟩
                      rw [← eσ526]
                      have fσ526 := wt_fr_sa eσ526
                      have vσ526 := wt_ceq (wt_v_sa eσ526)
                      have bb527 := wt_tn z49.1
                      have rσ526 := wt_Rn11 ri520 eσ526 (by decide) (by decide) (show 0 ≤ (r379.1).toInt by omega) (show (r379.1).toInt ≤ 59 by omega)
                      obtain ⟨σ528, eσ528⟩ : ∃ z : wt_St, z = wt_sf σ526 108 4 ((wt_gf σ526 108 4) + r351.1) := ⟨_, rfl⟩
                      rw [← eσ528]
                      have fσ528 := wt_fr_sf eσ528
                      have vσ528 := wt_ceq (wt_v_sf eσ528)
                      have g530 : 0 ≤ (wt_gf σ526 108 4).toInt ∧ (wt_gf σ526 108 4).toInt ≤ 500 := wt_Rf2 rσ526
                      have tt531 : (wt_gf σ526 108 4).toInt = (wt_gf r517 108 4).toInt := congrArg Int32.toInt (fσ526.1 108 4 (fun z => z))
                      have tt534 : (wt_gf r517 108 4).toInt = (wt_gf r351.2 108 4).toInt := congrArg Int32.toInt (f519.1 108 4 (by (try dsimp only); omega))
                      obtain ⟨j535, j535a, j535b⟩ := wt_addI (wt_gf σ526 108 4) r351.1
                      have rσ528 := wt_Rm2 rσ526 eσ528 (show 0 ≤ ((wt_gf σ526 108 4) + r351.1).toInt by omega) (show ((wt_gf σ526 108 4) + r351.1).toInt ≤ 500 by omega)
                      refine wt_T_bi (wq_md_blanks n hn σ528 rσ528) (fun r536 h537 => ?_)
                      obtain ⟨f538, ri539, pp540⟩ := h537
                      have g542 : 0 ≤ (wt_gf σ528 108 4).toInt ∧ (wt_gf σ528 108 4).toInt ≤ 500 := wt_Rf2 rσ528
                      have g544 : 0 ≤ (wt_gf r536 108 4).toInt ∧ (wt_gf r536 108 4).toInt ≤ 500 := wt_Rf2 ri539
                      obtain ⟨j545, j545a, j545b⟩ := wt_addI z49.1 (1 : Int32)
                      refine hKK48 _ ⟨(wt_fr.tr (wt_fr.tr (wt_fr.tr (wt_fr.tr (wt_fr.tr (wt_fr.tr wt_fr.rf l51 (fun i k h => by (try dsimp only at h); rcases h with h | h | h; exact Or.inl (by first | exact h | omega); exact Or.inr (Or.inl (by first | exact h | omega)); exact Or.inr (Or.inr (by first | exact h | omega))) (fun i h => by (try dsimp only at h); exact (by first | exact h | omega))) f353 (fun i k h => by (try dsimp only at h); exact Or.inl (by first | exact h | omega)) (fun i h => h.elim)) f519 (fun i k h => by (try dsimp only at h); rcases h with h | h; exact Or.inr (Or.inl (by first | exact h | omega)); exact Or.inr (Or.inr (by first | exact h | omega))) (fun i h => h.elim)) fσ526 (fun i k h => h.elim) (fun i h => by (try dsimp only at h); exact (by first | exact h | omega))) fσ528 (fun i k h => by (try dsimp only at h); exact Or.inl (by first | exact h | omega)) (fun i h => h.elim)) f538 (fun i k h => by (try dsimp only at h); exact Or.inl (by first | exact h | omega)) (fun i h => h.elim)), (show 0 ≤ ((z49.1 + (1 : Int32))).toInt by omega), (show (z49.1 + (1 : Int32)).toInt ≤ 12 by omega), ri539⟩ ?_
                      show (13 - (z49.1 + (1 : Int32)).toInt).toNat < (13 - z49.1.toInt).toNat
                      omega
                    · skip
                      have c546 := wt_nceq h524
                      have g548 : 0 ≤ (wt_gf r517 108 39).toInt ∧ (wt_gf r517 108 39).toInt ≤ 8 := wt_Rf7 ri520
                      have tt549 : (wt_gf r517 108 39).toInt = (wt_gf r351.2 108 39).toInt := congrArg Int32.toInt (f519.1 108 39 (by (try dsimp only); omega))
                      have tt552 : (wt_gf r351.2 108 39).toInt = (wt_gf z49.2 108 39).toInt := congrArg Int32.toInt (f353.1 108 39 (by (try dsimp only); omega))
                      have tt555 : (wt_gf z49.2 108 39).toInt = (wt_gf σ26 108 39).toInt := congrArg Int32.toInt (l51.1 108 39 (by (try dsimp only); omega))
                      refine wt_T.imp (wq_md_text_B195 n hn z49.1 r517 ri520 (by first | with_reducible assumption | omega) (by first | with_reducible assumption | omega) (by first | with_reducible assumption | omega)) (fun r556 h557 => ?_)
                      have bb558 := wt_bd r556.1
                      obtain ⟨f559, ri560⟩ := h557
                      have g562 : 0 ≤ (wt_gf r556.2 108 1).toInt ∧ (wt_gf r556.2 108 1).toInt ≤ 500 := wt_Rf0 ri560
                      have tt563 : (wt_gf r556.2 108 1).toInt = (wt_gf r517 108 1).toInt := congrArg Int32.toInt (f559.1 108 1 (by (try dsimp only); omega))
                      have tt566 : (wt_gf r517 108 1).toInt = (wt_gf r351.2 108 1).toInt := congrArg Int32.toInt (f519.1 108 1 (by (try dsimp only); omega))
                      have tt569 : (wt_gf r351.2 108 1).toInt = (wt_gf z49.2 108 1).toInt := congrArg Int32.toInt (f353.1 108 1 (by (try dsimp only); omega))
                      have tt572 : (wt_gf z49.2 108 1).toInt = (wt_gf σ26 108 1).toInt := congrArg Int32.toInt (l51.1 108 1 (by (try dsimp only); omega))
                      have tt575 : (wt_gf σ26 108 1).toInt = (wt_gf r15 108 1).toInt := congrArg Int32.toInt (fσ26.1 108 1 (by (try dsimp only); omega))
                      have g577 : 0 ≤ (wt_gf σ 108 1).toInt ∧ (wt_gf σ 108 1).toInt ≤ 500 := wt_Rf0 r0
                      exact ⟨(wt_fr.tr (wt_fr.tr (wt_fr.tr (wt_fr.tr (wt_fr.tr (wt_fr.tr (wt_fr.tr wt_fr.rf f6 (fun i k h => by (try dsimp only at h); exact Or.inl (by first | exact h | omega)) (fun i h => h.elim)) f17 (fun i k h => by (try dsimp only at h); rcases h with h | h | h | h | h | h; exact Or.inr (Or.inl (by first | exact h | omega)); exact Or.inr (Or.inr (Or.inl (by first | exact h | omega))); exact Or.inr (Or.inr (Or.inr (Or.inl (by first | exact h | omega)))); exact Or.inr (Or.inr (Or.inr (Or.inr (Or.inl (by first | exact h | omega))))); exact Or.inr (Or.inr (Or.inr (Or.inr (Or.inr (Or.inl (by first | exact h | omega)))))); exact Or.inr (Or.inr (Or.inr (Or.inr (Or.inr (Or.inr (Or.inl (by first | exact h | omega)))))))) (fun i h => h.elim)) fσ26 (fun i k h => by (try dsimp only at h); exact Or.inr (Or.inr (Or.inr (Or.inr (Or.inr (Or.inr (Or.inr (Or.inl (by first | exact h | omega))))))))) (fun i h => h.elim)) l51 (fun i k h => by (try dsimp only at h); rcases h with h | h | h; exact Or.inr (Or.inr (Or.inr (Or.inl (by first | exact h | omega)))); exact Or.inr (Or.inr (Or.inr (Or.inr (Or.inl (by first | exact h | omega))))); exact Or.inr (Or.inr (Or.inr (Or.inr (Or.inr (Or.inl (by first | exact h | omega))))))) (fun i h => by (try dsimp only at h); exact Or.inl (by first | exact h | omega))) f353 (fun i k h => by (try dsimp only at h); exact Or.inr (Or.inr (Or.inr (Or.inl (by first | exact h | omega))))) (fun i h => h.elim)) f519 (fun i k h => by (try dsimp only at h); rcases h with h | h; exact Or.inr (Or.inr (Or.inr (Or.inr (Or.inl (by first | exact h | omega))))); exact Or.inr (Or.inr (Or.inr (Or.inr (Or.inr (Or.inl (by first | exact h | omega))))))) (fun i h => h.elim)) f559 (fun i k h => by (try dsimp only at h); rcases h with h | h; exact Or.inr (Or.inr (Or.inr (Or.inr (Or.inr (Or.inr (Or.inr (Or.inl (by first | exact h | omega)))))))); exact Or.inr (Or.inr (Or.inr (Or.inr (Or.inr (Or.inr (Or.inr (Or.inr (by first | exact h | omega))))))))) (fun i h => by (try dsimp only at h); rcases h with h | h; exact Or.inr (Or.inl (by first | exact h | omega)); exact Or.inr (Or.inr (by first | exact h | omega)))), ri560, (show ((y1.toInt ≠ 0 → (wt_gf r556.2 108 1).toInt = (wt_gf σ 108 1).toInt) ∧ (y1.toInt = 0 ∧ (wt_gf σ 108 0).toInt = 0 → (wt_gf r556.2 108 1).toInt = 0)) from by omega)⟩
                  · skip
                    have c578 := wt_nceq h514
                    unfold wp_md_text_B157
                    have g580 : 0 ≤ (wt_gf r351.2 108 5).toInt ∧ (wt_gf r351.2 108 5).toInt ≤ 3 := wt_Rf3 ri354
                    have tt581 : (wt_gf r351.2 108 5).toInt = (wt_gf z49.2 108 5).toInt := congrArg Int32.toInt (f353.1 108 5 (by (try dsimp only); omega))
                    refine wt_T_if (fun h582 => ?_) (fun h582 => ?_)
                    · skip
                      have c583 := wt_ceq h582
                      refine wt_T_gd (wt_ix (by first | with_reducible assumption | omega) (by first | with_reducible assumption | omega)) ?_
                      obtain ⟨σ584, eσ584⟩ : ∃ z : wt_St, z = wt_sa r351.2 274 (Int32.toNatClampNeg z49.1) r379.1 := ⟨_, rfl⟩
                      rw [← eσ584]
                      have fσ584 := wt_fr_sa eσ584
                      have vσ584 := wt_ceq (wt_v_sa eσ584)
                      have bb585 := wt_tn z49.1
                      have rσ584 := wt_Rn11 ri354 eσ584 (by decide) (by decide) (show 0 ≤ (r379.1).toInt by omega) (show (r379.1).toInt ≤ 59 by omega)
                      obtain ⟨σ586, eσ586⟩ : ∃ z : wt_St, z = wt_sf σ584 108 4 ((wt_gf σ584 108 4) + r351.1) := ⟨_, rfl⟩
                      rw [← eσ586]
                      have fσ586 := wt_fr_sf eσ586
                      have vσ586 := wt_ceq (wt_v_sf eσ586)
                      have g588 : 0 ≤ (wt_gf σ584 108 4).toInt ∧ (wt_gf σ584 108 4).toInt ≤ 500 := wt_Rf2 rσ584
                      have tt589 : (wt_gf σ584 108 4).toInt = (wt_gf r351.2 108 4).toInt := congrArg Int32.toInt (fσ584.1 108 4 (fun z => z))
                      obtain ⟨j590, j590a, j590b⟩ := wt_addI (wt_gf σ584 108 4) r351.1
                      have rσ586 := wt_Rm2 rσ584 eσ586 (show 0 ≤ ((wt_gf σ584 108 4) + r351.1).toInt by omega) (show ((wt_gf σ584 108 4) + r351.1).toInt ≤ 500 by omega)
                      refine wt_T_bi (wq_md_blanks n hn σ586 rσ586) (fun r591 h592 => ?_)
                      obtain ⟨f593, ri594, pp595⟩ := h592
                      have g597 : 0 ≤ (wt_gf σ586 108 4).toInt ∧ (wt_gf σ586 108 4).toInt ≤ 500 := wt_Rf2 rσ586
                      have g599 : 0 ≤ (wt_gf r591 108 4).toInt ∧ (wt_gf r591 108 4).toInt ≤ 500 := wt_Rf2 ri594
                      obtain ⟨j600, j600a, j600b⟩ := wt_addI z49.1 (1 : Int32)
                      refine hKK48 _ ⟨(wt_fr.tr (wt_fr.tr (wt_fr.tr (wt_fr.tr (wt_fr.tr wt_fr.rf l51 (fun i k h => by (try dsimp only at h); rcases h with h | h | h; exact Or.inl (by first | exact h | omega); exact Or.inr (Or.inl (by first | exact h | omega)); exact Or.inr (Or.inr (by first | exact h | omega))) (fun i h => by (try dsimp only at h); exact (by first | exact h | omega))) f353 (fun i k h => by (try dsimp only at h); exact Or.inl (by first | exact h | omega)) (fun i h => h.elim)) fσ584 (fun i k h => h.elim) (fun i h => by (try dsimp only at h); exact (by first | exact h | omega))) fσ586 (fun i k h => by (try dsimp only at h); exact Or.inl (by first | exact h | omega)) (fun i h => h.elim)) f593 (fun i k h => by (try dsimp only at h); exact Or.inl (by first | exact h | omega)) (fun i h => h.elim)), (show 0 ≤ ((z49.1 + (1 : Int32))).toInt by omega), (show (z49.1 + (1 : Int32)).toInt ≤ 12 by omega), ri594⟩ ?_
                      show (13 - (z49.1 + (1 : Int32)).toInt).toNat < (13 - z49.1.toInt).toNat
                      omega
                    · skip
                      have c601 := wt_nceq h582
                      have g603 : 0 ≤ (wt_gf r351.2 108 39).toInt ∧ (wt_gf r351.2 108 39).toInt ≤ 8 := wt_Rf7 ri354
                      have tt604 : (wt_gf r351.2 108 39).toInt = (wt_gf z49.2 108 39).toInt := congrArg Int32.toInt (f353.1 108 39 (by (try dsimp only); omega))
                      have tt607 : (wt_gf z49.2 108 39).toInt = (wt_gf σ26 108 39).toInt := congrArg Int32.toInt (l51.1 108 39 (by (try dsimp only); omega))
                      refine wt_T.imp (wq_md_text_B195 n hn z49.1 r351.2 ri354 (by first | with_reducible assumption | omega) (by first | with_reducible assumption | omega) (by first | with_reducible assumption | omega)) (fun r608 h609 => ?_)
                      have bb610 := wt_bd r608.1
                      obtain ⟨f611, ri612⟩ := h609
                      have g614 : 0 ≤ (wt_gf r608.2 108 1).toInt ∧ (wt_gf r608.2 108 1).toInt ≤ 500 := wt_Rf0 ri612
                      have tt615 : (wt_gf r608.2 108 1).toInt = (wt_gf r351.2 108 1).toInt := congrArg Int32.toInt (f611.1 108 1 (by (try dsimp only); omega))
                      have tt618 : (wt_gf r351.2 108 1).toInt = (wt_gf z49.2 108 1).toInt := congrArg Int32.toInt (f353.1 108 1 (by (try dsimp only); omega))
                      have tt621 : (wt_gf z49.2 108 1).toInt = (wt_gf σ26 108 1).toInt := congrArg Int32.toInt (l51.1 108 1 (by (try dsimp only); omega))
                      have tt624 : (wt_gf σ26 108 1).toInt = (wt_gf r15 108 1).toInt := congrArg Int32.toInt (fσ26.1 108 1 (by (try dsimp only); omega))
                      have g626 : 0 ≤ (wt_gf σ 108 1).toInt ∧ (wt_gf σ 108 1).toInt ≤ 500 := wt_Rf0 r0
                      exact ⟨(wt_fr.tr (wt_fr.tr (wt_fr.tr (wt_fr.tr (wt_fr.tr (wt_fr.tr wt_fr.rf f6 (fun i k h => by (try dsimp only at h); exact Or.inl (by first | exact h | omega)) (fun i h => h.elim)) f17 (fun i k h => by (try dsimp only at h); rcases h with h | h | h | h | h | h; exact Or.inr (Or.inl (by first | exact h | omega)); exact Or.inr (Or.inr (Or.inl (by first | exact h | omega))); exact Or.inr (Or.inr (Or.inr (Or.inl (by first | exact h | omega)))); exact Or.inr (Or.inr (Or.inr (Or.inr (Or.inl (by first | exact h | omega))))); exact Or.inr (Or.inr (Or.inr (Or.inr (Or.inr (Or.inl (by first | exact h | omega)))))); exact Or.inr (Or.inr (Or.inr (Or.inr (Or.inr (Or.inr (Or.inl (by first | exact h | omega)))))))) (fun i h => h.elim)) fσ26 (fun i k h => by (try dsimp only at h); exact Or.inr (Or.inr (Or.inr (Or.inr (Or.inr (Or.inr (Or.inr (Or.inl (by first | exact h | omega))))))))) (fun i h => h.elim)) l51 (fun i k h => by (try dsimp only at h); rcases h with h | h | h; exact Or.inr (Or.inr (Or.inr (Or.inl (by first | exact h | omega)))); exact Or.inr (Or.inr (Or.inr (Or.inr (Or.inl (by first | exact h | omega))))); exact Or.inr (Or.inr (Or.inr (Or.inr (Or.inr (Or.inl (by first | exact h | omega))))))) (fun i h => by (try dsimp only at h); exact Or.inl (by first | exact h | omega))) f353 (fun i k h => by (try dsimp only at h); exact Or.inr (Or.inr (Or.inr (Or.inl (by first | exact h | omega))))) (fun i h => h.elim)) f611 (fun i k h => by (try dsimp only at h); rcases h with h | h; exact Or.inr (Or.inr (Or.inr (Or.inr (Or.inr (Or.inr (Or.inr (Or.inl (by first | exact h | omega)))))))); exact Or.inr (Or.inr (Or.inr (Or.inr (Or.inr (Or.inr (Or.inr (Or.inr (by first | exact h | omega))))))))) (fun i h => by (try dsimp only at h); rcases h with h | h; exact Or.inr (Or.inl (by first | exact h | omega)); exact Or.inr (Or.inr (by first | exact h | omega)))), ri612, (show ((y1.toInt ≠ 0 → (wt_gf r608.2 108 1).toInt = (wt_gf σ 108 1).toInt) ∧ (y1.toInt = 0 ∧ (wt_gf σ 108 0).toInt = 0 → (wt_gf r608.2 108 1).toInt = 0)) from by omega)⟩
            · skip
              have c627 := wt_nceq h349
              have g629 : 0 ≤ (wt_gf z49.2 108 39).toInt ∧ (wt_gf z49.2 108 39).toInt ≤ 8 := wt_Rf7 l54
              have tt630 : (wt_gf z49.2 108 39).toInt = (wt_gf σ26 108 39).toInt := congrArg Int32.toInt (l51.1 108 39 (by (try dsimp only); omega))
              refine wt_T.imp (wq_md_text_B195 n hn z49.1 z49.2 l54 (by first | with_reducible assumption | omega) (by first | with_reducible assumption | omega) (by first | with_reducible assumption | omega)) (fun r631 h632 => ?_)
              have bb633 := wt_bd r631.1
              obtain ⟨f634, ri635⟩ := h632
              have g637 : 0 ≤ (wt_gf r631.2 108 1).toInt ∧ (wt_gf r631.2 108 1).toInt ≤ 500 := wt_Rf0 ri635
              have tt638 : (wt_gf r631.2 108 1).toInt = (wt_gf z49.2 108 1).toInt := congrArg Int32.toInt (f634.1 108 1 (by (try dsimp only); omega))
              have tt641 : (wt_gf z49.2 108 1).toInt = (wt_gf σ26 108 1).toInt := congrArg Int32.toInt (l51.1 108 1 (by (try dsimp only); omega))
              have tt644 : (wt_gf σ26 108 1).toInt = (wt_gf r15 108 1).toInt := congrArg Int32.toInt (fσ26.1 108 1 (by (try dsimp only); omega))
              have g646 : 0 ≤ (wt_gf σ 108 1).toInt ∧ (wt_gf σ 108 1).toInt ≤ 500 := wt_Rf0 r0
              exact ⟨(wt_fr.tr (wt_fr.tr (wt_fr.tr (wt_fr.tr (wt_fr.tr wt_fr.rf f6 (fun i k h => by (try dsimp only at h); exact Or.inl (by first | exact h | omega)) (fun i h => h.elim)) f17 (fun i k h => by (try dsimp only at h); rcases h with h | h | h | h | h | h; exact Or.inr (Or.inl (by first | exact h | omega)); exact Or.inr (Or.inr (Or.inl (by first | exact h | omega))); exact Or.inr (Or.inr (Or.inr (Or.inl (by first | exact h | omega)))); exact Or.inr (Or.inr (Or.inr (Or.inr (Or.inl (by first | exact h | omega))))); exact Or.inr (Or.inr (Or.inr (Or.inr (Or.inr (Or.inl (by first | exact h | omega)))))); exact Or.inr (Or.inr (Or.inr (Or.inr (Or.inr (Or.inr (Or.inl (by first | exact h | omega)))))))) (fun i h => h.elim)) fσ26 (fun i k h => by (try dsimp only at h); exact Or.inr (Or.inr (Or.inr (Or.inr (Or.inr (Or.inr (Or.inr (Or.inl (by first | exact h | omega))))))))) (fun i h => h.elim)) l51 (fun i k h => by (try dsimp only at h); rcases h with h | h | h; exact Or.inr (Or.inr (Or.inr (Or.inl (by first | exact h | omega)))); exact Or.inr (Or.inr (Or.inr (Or.inr (Or.inl (by first | exact h | omega))))); exact Or.inr (Or.inr (Or.inr (Or.inr (Or.inr (Or.inl (by first | exact h | omega))))))) (fun i h => by (try dsimp only at h); exact Or.inl (by first | exact h | omega))) f634 (fun i k h => by (try dsimp only at h); rcases h with h | h; exact Or.inr (Or.inr (Or.inr (Or.inr (Or.inr (Or.inr (Or.inr (Or.inl (by first | exact h | omega)))))))); exact Or.inr (Or.inr (Or.inr (Or.inr (Or.inr (Or.inr (Or.inr (Or.inr (by first | exact h | omega))))))))) (fun i h => by (try dsimp only at h); rcases h with h | h; exact Or.inr (Or.inl (by first | exact h | omega)); exact Or.inr (Or.inr (by first | exact h | omega)))), ri635, (show ((y1.toInt ≠ 0 → (wt_gf r631.2 108 1).toInt = (wt_gf σ 108 1).toInt) ∧ (y1.toInt = 0 ∧ (wt_gf σ 108 0).toInt = 0 → (wt_gf r631.2 108 1).toInt = 0)) from by omega)⟩
        · skip
          have c647 := wt_nceq h58
          have g649 : 0 ≤ (wt_gf z49.2 108 39).toInt ∧ (wt_gf z49.2 108 39).toInt ≤ 8 := wt_Rf7 l54
          have tt650 : (wt_gf z49.2 108 39).toInt = (wt_gf σ26 108 39).toInt := congrArg Int32.toInt (l51.1 108 39 (by (try dsimp only); omega))
          refine wt_T.imp (wq_md_text_B195 n hn z49.1 z49.2 l54 (by first | with_reducible assumption | omega) (by first | with_reducible assumption | omega) (by first | with_reducible assumption | omega)) (fun r651 h652 => ?_)
          have bb653 := wt_bd r651.1
          obtain ⟨f654, ri655⟩ := h652
          have g657 : 0 ≤ (wt_gf r651.2 108 1).toInt ∧ (wt_gf r651.2 108 1).toInt ≤ 500 := wt_Rf0 ri655
          have tt658 : (wt_gf r651.2 108 1).toInt = (wt_gf z49.2 108 1).toInt := congrArg Int32.toInt (f654.1 108 1 (by (try dsimp only); omega))
          have tt661 : (wt_gf z49.2 108 1).toInt = (wt_gf σ26 108 1).toInt := congrArg Int32.toInt (l51.1 108 1 (by (try dsimp only); omega))
          have tt664 : (wt_gf σ26 108 1).toInt = (wt_gf r15 108 1).toInt := congrArg Int32.toInt (fσ26.1 108 1 (by (try dsimp only); omega))
          have g666 : 0 ≤ (wt_gf σ 108 1).toInt ∧ (wt_gf σ 108 1).toInt ≤ 500 := wt_Rf0 r0
          exact ⟨(wt_fr.tr (wt_fr.tr (wt_fr.tr (wt_fr.tr (wt_fr.tr wt_fr.rf f6 (fun i k h => by (try dsimp only at h); exact Or.inl (by first | exact h | omega)) (fun i h => h.elim)) f17 (fun i k h => by (try dsimp only at h); rcases h with h | h | h | h | h | h; exact Or.inr (Or.inl (by first | exact h | omega)); exact Or.inr (Or.inr (Or.inl (by first | exact h | omega))); exact Or.inr (Or.inr (Or.inr (Or.inl (by first | exact h | omega)))); exact Or.inr (Or.inr (Or.inr (Or.inr (Or.inl (by first | exact h | omega))))); exact Or.inr (Or.inr (Or.inr (Or.inr (Or.inr (Or.inl (by first | exact h | omega)))))); exact Or.inr (Or.inr (Or.inr (Or.inr (Or.inr (Or.inr (Or.inl (by first | exact h | omega)))))))) (fun i h => h.elim)) fσ26 (fun i k h => by (try dsimp only at h); exact Or.inr (Or.inr (Or.inr (Or.inr (Or.inr (Or.inr (Or.inr (Or.inl (by first | exact h | omega))))))))) (fun i h => h.elim)) l51 (fun i k h => by (try dsimp only at h); rcases h with h | h | h; exact Or.inr (Or.inr (Or.inr (Or.inl (by first | exact h | omega)))); exact Or.inr (Or.inr (Or.inr (Or.inr (Or.inl (by first | exact h | omega))))); exact Or.inr (Or.inr (Or.inr (Or.inr (Or.inr (Or.inl (by first | exact h | omega))))))) (fun i h => by (try dsimp only at h); exact Or.inl (by first | exact h | omega))) f654 (fun i k h => by (try dsimp only at h); rcases h with h | h; exact Or.inr (Or.inr (Or.inr (Or.inr (Or.inr (Or.inr (Or.inr (Or.inl (by first | exact h | omega)))))))); exact Or.inr (Or.inr (Or.inr (Or.inr (Or.inr (Or.inr (Or.inr (Or.inr (by first | exact h | omega))))))))) (fun i h => by (try dsimp only at h); rcases h with h | h; exact Or.inr (Or.inl (by first | exact h | omega)); exact Or.inr (Or.inr (by first | exact h | omega)))), ri655, (show ((y1.toInt ≠ 0 → (wt_gf r651.2 108 1).toInt = (wt_gf σ 108 1).toInt) ∧ (y1.toInt = 0 ∧ (wt_gf σ 108 0).toInt = 0 → (wt_gf r651.2 108 1).toInt = 0)) from by omega)⟩
      · skip
        exact ⟨wt_fr.rf, (show 0 ≤ ((0 : Int32)).toInt by omega), (show (0 : Int32).toInt ≤ 12 by omega), rσ26⟩
      · skip
        show (13 - (0 : Int32).toInt).toNat < n
        omega
  · skip
    have c667 := wt_nceq h13
    refine wt_T_some ?_
    have g669 : 0 ≤ (wt_gf r4.2 108 1).toInt ∧ (wt_gf r4.2 108 1).toInt ≤ 500 := wt_Rf0 ri7
    have tt670 : (wt_gf r4.2 108 1).toInt = (wt_gf σ 108 1).toInt := congrArg Int32.toInt (f6.1 108 1 (by (try dsimp only); omega))
    exact ⟨(wt_fr.tr wt_fr.rf f6 (fun i k h => by (try dsimp only at h); exact Or.inl (by first | exact h | omega)) (fun i h => h.elim)), ri7, (show ((y1.toInt ≠ 0 → (wt_gf r4.2 108 1).toInt = (wt_gf σ 108 1).toInt) ∧ (y1.toInt = 0 ∧ (wt_gf σ 108 0).toInt = 0 → (wt_gf r4.2 108 1).toInt = 0)) from by omega)⟩
set_option maxRecDepth 100000 in
set_option maxHeartbeats 4000000 in
theorem wq_md_text (n : Nat) (hn : 4294967297 < n) (x1 : Int32) (σ : wt_St) (r0 : wt_RI σ) : wt_T (wp_md_text n x1 σ) (fun q => wt_fr (fun i k => (i = 108 ∧ k = 0) ∨ (i = 108 ∧ k = 1) ∨ (i = 108 ∧ k = 2) ∨ (i = 108 ∧ k = 4) ∨ (i = 108 ∧ k = 5) ∨ (i = 108 ∧ k = 6) ∨ (i = 108 ∧ k = 7) ∨ (i = 108 ∧ k = 3) ∨ (i = 108 ∧ k = 39)) (fun i => i = 274 ∨ i = 253 ∨ (255 ≤ i ∧ i < 263)) σ q.2 ∧ wt_RI q.2 ∧ ((x1.toInt < 0 ∨ (wt_gf σ 108 1).toInt < x1.toInt ∨ 200 < x1.toInt → (wt_gf q.2 108 1).toInt = (wt_gf σ 108 1).toInt) ∧ (0 ≤ x1.toInt ∧ x1.toInt ≤ (wt_gf σ 108 1).toInt ∧ x1.toInt ≤ 200 → (wt_gf q.2 108 1).toInt = 0))) := by
  have bb1 := wt_bd x1
  unfold wp_md_text
  obtain ⟨σ2, eσ2⟩ : ∃ z : wt_St, z = wt_sf σ 108 0 (0 : Int32) := ⟨_, rfl⟩
  rw [← eσ2]
  have fσ2 := wt_fr_sf eσ2
  have vσ2 := wt_ceq (wt_v_sf eσ2)
  have k3 : (0 : Int32).toInt = 0 := by decide
  have rσ2 := wt_RI_fno r0 eσ2 (Or.inr (by decide +kernel))
  have g5 : 0 ≤ (wt_gf σ2 108 1).toInt ∧ (wt_gf σ2 108 1).toInt ≤ 500 := wt_Rf0 rσ2
  have tt6 : (wt_gf σ2 108 1).toInt = (wt_gf σ 108 1).toInt := congrArg Int32.toInt (fσ2.1 108 1 (by (try dsimp only); omega))
  refine wt_T_bi (wq_md_in n hn x1 (0 : Int32) (wt_gf σ2 108 1) σ2 rσ2) (fun r9 h10 => ?_)
  obtain ⟨e11, pp12⟩ := h10
  have bb13 := wt_bd r9.1
  rw [e11]
  refine wt_T_if (fun h14 => ?_) (fun h14 => ?_)
  · skip
    have c15 := wt_ceq h14
    unfold wp_md_text_B25
    have k16 : (1 : Int32).toInt = 1 := by decide
    refine wt_T.imp (wq_md_text_B30 n hn x1 (1 : Int32) σ2 rσ2 (by first | with_reducible assumption | omega)) (fun r17 h18 => ?_)
    have bb19 := wt_bd r17.1
    obtain ⟨f20, ri21, pp22⟩ := h18
    have g24 : 0 ≤ (wt_gf r17.2 108 1).toInt ∧ (wt_gf r17.2 108 1).toInt ≤ 500 := wt_Rf0 ri21
    have bb25 := wt_bd (wt_gf σ2 108 0)
    exact ⟨(wt_fr.tr (wt_fr.tr wt_fr.rf fσ2 (fun i k h => by (try dsimp only at h); exact Or.inl (by first | exact h | omega)) (fun i h => h.elim)) f20 (fun i k h => by (try dsimp only at h); rcases h with h | h | h | h | h | h | h | h | h; exact Or.inl (by first | exact h | omega); exact Or.inr (Or.inl (by first | exact h | omega)); exact Or.inr (Or.inr (Or.inl (by first | exact h | omega))); exact Or.inr (Or.inr (Or.inr (Or.inl (by first | exact h | omega)))); exact Or.inr (Or.inr (Or.inr (Or.inr (Or.inl (by first | exact h | omega))))); exact Or.inr (Or.inr (Or.inr (Or.inr (Or.inr (Or.inl (by first | exact h | omega)))))); exact Or.inr (Or.inr (Or.inr (Or.inr (Or.inr (Or.inr (Or.inl (by first | exact h | omega))))))); exact Or.inr (Or.inr (Or.inr (Or.inr (Or.inr (Or.inr (Or.inr (Or.inl (by first | exact h | omega)))))))); exact Or.inr (Or.inr (Or.inr (Or.inr (Or.inr (Or.inr (Or.inr (Or.inr (by first | exact h | omega))))))))) (fun i h => by (try dsimp only at h); rcases h with h | h | h; exact Or.inl (by first | exact h | omega); exact Or.inr (Or.inl (by first | exact h | omega)); exact Or.inr (Or.inr (by first | exact h | omega)))), ri21, (show ((x1.toInt < 0 ∨ (wt_gf σ 108 1).toInt < x1.toInt ∨ 200 < x1.toInt → (wt_gf r17.2 108 1).toInt = (wt_gf σ 108 1).toInt) ∧ (0 ≤ x1.toInt ∧ x1.toInt ≤ (wt_gf σ 108 1).toInt ∧ x1.toInt ≤ 200 → (wt_gf r17.2 108 1).toInt = 0)) from by omega)⟩
  · skip
    have c26 := wt_nceq h14
    have k27 : (200 : Int32).toInt = 200 := by decide
    refine wt_T_if (fun h28 => ?_) (fun h28 => ?_)
    · skip
      have c29 := wt_cle h28
      refine wt_T.imp (wq_md_text_B30 n hn x1 (0 : Int32) σ2 rσ2 (by first | with_reducible assumption | omega)) (fun r30 h31 => ?_)
      have bb32 := wt_bd r30.1
      obtain ⟨f33, ri34, pp35⟩ := h31
      have g37 : 0 ≤ (wt_gf r30.2 108 1).toInt ∧ (wt_gf r30.2 108 1).toInt ≤ 500 := wt_Rf0 ri34
      have bb38 := wt_bd (wt_gf σ2 108 0)
      exact ⟨(wt_fr.tr (wt_fr.tr wt_fr.rf fσ2 (fun i k h => by (try dsimp only at h); exact Or.inl (by first | exact h | omega)) (fun i h => h.elim)) f33 (fun i k h => by (try dsimp only at h); rcases h with h | h | h | h | h | h | h | h | h; exact Or.inl (by first | exact h | omega); exact Or.inr (Or.inl (by first | exact h | omega)); exact Or.inr (Or.inr (Or.inl (by first | exact h | omega))); exact Or.inr (Or.inr (Or.inr (Or.inl (by first | exact h | omega)))); exact Or.inr (Or.inr (Or.inr (Or.inr (Or.inl (by first | exact h | omega))))); exact Or.inr (Or.inr (Or.inr (Or.inr (Or.inr (Or.inl (by first | exact h | omega)))))); exact Or.inr (Or.inr (Or.inr (Or.inr (Or.inr (Or.inr (Or.inl (by first | exact h | omega))))))); exact Or.inr (Or.inr (Or.inr (Or.inr (Or.inr (Or.inr (Or.inr (Or.inl (by first | exact h | omega)))))))); exact Or.inr (Or.inr (Or.inr (Or.inr (Or.inr (Or.inr (Or.inr (Or.inr (by first | exact h | omega))))))))) (fun i h => by (try dsimp only at h); rcases h with h | h | h; exact Or.inl (by first | exact h | omega); exact Or.inr (Or.inl (by first | exact h | omega)); exact Or.inr (Or.inr (by first | exact h | omega)))), ri34, (show ((x1.toInt < 0 ∨ (wt_gf σ 108 1).toInt < x1.toInt ∨ 200 < x1.toInt → (wt_gf r30.2 108 1).toInt = (wt_gf σ 108 1).toInt) ∧ (0 ≤ x1.toInt ∧ x1.toInt ≤ (wt_gf σ 108 1).toInt ∧ x1.toInt ≤ 200 → (wt_gf r30.2 108 1).toInt = 0)) from by omega)⟩
    · skip
      have c39 := wt_ncle h28
      unfold wp_md_text_B25
      have k40 : (1 : Int32).toInt = 1 := by decide
      refine wt_T.imp (wq_md_text_B30 n hn x1 (1 : Int32) σ2 rσ2 (by first | with_reducible assumption | omega)) (fun r41 h42 => ?_)
      have bb43 := wt_bd r41.1
      obtain ⟨f44, ri45, pp46⟩ := h42
      have g48 : 0 ≤ (wt_gf r41.2 108 1).toInt ∧ (wt_gf r41.2 108 1).toInt ≤ 500 := wt_Rf0 ri45
      have bb49 := wt_bd (wt_gf σ2 108 0)
      exact ⟨(wt_fr.tr (wt_fr.tr wt_fr.rf fσ2 (fun i k h => by (try dsimp only at h); exact Or.inl (by first | exact h | omega)) (fun i h => h.elim)) f44 (fun i k h => by (try dsimp only at h); rcases h with h | h | h | h | h | h | h | h | h; exact Or.inl (by first | exact h | omega); exact Or.inr (Or.inl (by first | exact h | omega)); exact Or.inr (Or.inr (Or.inl (by first | exact h | omega))); exact Or.inr (Or.inr (Or.inr (Or.inl (by first | exact h | omega)))); exact Or.inr (Or.inr (Or.inr (Or.inr (Or.inl (by first | exact h | omega))))); exact Or.inr (Or.inr (Or.inr (Or.inr (Or.inr (Or.inl (by first | exact h | omega)))))); exact Or.inr (Or.inr (Or.inr (Or.inr (Or.inr (Or.inr (Or.inl (by first | exact h | omega))))))); exact Or.inr (Or.inr (Or.inr (Or.inr (Or.inr (Or.inr (Or.inr (Or.inl (by first | exact h | omega)))))))); exact Or.inr (Or.inr (Or.inr (Or.inr (Or.inr (Or.inr (Or.inr (Or.inr (by first | exact h | omega))))))))) (fun i h => by (try dsimp only at h); rcases h with h | h | h; exact Or.inl (by first | exact h | omega); exact Or.inr (Or.inl (by first | exact h | omega)); exact Or.inr (Or.inr (by first | exact h | omega)))), ri45, (show ((x1.toInt < 0 ∨ (wt_gf σ 108 1).toInt < x1.toInt ∨ 200 < x1.toInt → (wt_gf r41.2 108 1).toInt = (wt_gf σ 108 1).toInt) ∧ (0 ≤ x1.toInt ∧ x1.toInt ≤ (wt_gf σ 108 1).toInt ∧ x1.toInt ≤ 200 → (wt_gf r41.2 108 1).toInt = 0)) from by omega)⟩
set_option maxRecDepth 100000 in
set_option maxHeartbeats 4000000 in
theorem wq_md_together_B18 (n : Nat) (hn : 4294967297 < n) (x1 : Int32) (y1 : Int32) (σ : wt_St) (r0 : wt_RI σ) : wt_T (wp_md_together_B18 n x1 y1 σ) (fun q => wt_fr (fun i k => (i = 108 ∧ k = 0) ∨ (i = 108 ∧ k = 54)) (fun i => i = 124 ∨ i = 287 ∨ i = 288) σ q.2 ∧ wt_RI q.2) := by
  have bb1 := wt_bd x1
  have bb2 := wt_bd y1
  unfold wp_md_together_B18
  have k3 : (1 : Int32).toInt = 1 := by decide
  refine wt_T_bi (wq_md_bad n hn y1 (1 : Int32) σ r0 (by first | with_reducible assumption | omega)) (fun r4 h5 => ?_)
  obtain ⟨f6, ri7, pp8⟩ := h5
  have bb9 := wt_bd r4.1
  have bb10 := wt_bd (wt_gf r4.2 108 0)
  have bb11 := wt_bd (wt_gf σ 108 0)
  have k12 : (0 : Int32).toInt = 0 := by decide
  refine wt_T_if (fun h13 => ?_) (fun h13 => ?_)
  · skip
    have c14 := wt_ceq h13
    refine wt_T_it (fun s : Int32 × Int32 × wt_St => wt_fr (fun i k => (i = 108 ∧ k = 54)) (fun i => i = 124 ∨ i = 287 ∨ i = 288) r4.2 s.2.2 ∧ 0 ≤ (s.2.1).toInt ∧ wt_RI s.2.2) (fun s : Int32 × Int32 × wt_St => (2147483647 - s.2.1.toInt).toNat) (fun KK15 z16 I17 hKK15 => ?_) _ _ ?_ ?_
    · skip
      obtain ⟨l18, l19, l20⟩ := I17
      unfold wp_md_together_B31
      have bb21 := wt_bd z16.2.1
      have g23 : 0 ≤ (wt_gf z16.2.2 108 39).toInt ∧ (wt_gf z16.2.2 108 39).toInt ≤ 8 := wt_Rf7 l20
      have tt24 : (wt_gf z16.2.2 108 39).toInt = (wt_gf r4.2 108 39).toInt := congrArg Int32.toInt (l18.1 108 39 (by (try dsimp only); omega))
      have tt27 : (wt_gf r4.2 108 39).toInt = (wt_gf σ 108 39).toInt := congrArg Int32.toInt (f6.1 108 39 (by (try dsimp only); omega))
      have k30 : (31 : Int32).toInt = 31 := by decide
      have bb31 := wt_bd ((wt_gf z16.2.2 108 39) &&& 31)
      have bb32 := wt_bd ((1 : Int32) <<< ((wt_gf z16.2.2 108 39) &&& 31))
      refine wt_T_if (fun h33 => ?_) (fun h33 => ?_)
      · skip
        have c34 := wt_cle h33
        refine wt_T_some ?_
        exact ⟨(wt_fr.tr (wt_fr.tr wt_fr.rf f6 (fun i k h => by (try dsimp only at h); exact Or.inl (by first | exact h | omega)) (fun i h => h.elim)) l18 (fun i k h => by (try dsimp only at h); exact Or.inr (by first | exact h | omega)) (fun i h => by (try dsimp only at h); rcases h with h | h | h; exact Or.inl (by first | exact h | omega); exact Or.inr (Or.inl (by first | exact h | omega)); exact Or.inr (Or.inr (by first | exact h | omega)))), l20⟩
      · skip
        have c35 := wt_ncle h33
        refine wt_T_bi (wq_md_ones n hn z16.2.1 z16.2.2 l20) (fun r36 h37 => ?_)
        have e38 := h37
        have bb39 := wt_bd r36.1
        rw [e38]
        have bb40 := wt_bd z16.1
        refine wt_T_bi (wq_md_ones n hn z16.1 z16.2.2 l20) (fun r41 h42 => ?_)
        have e43 := h42
        have bb44 := wt_bd r41.1
        rw [e43]
        refine wt_T_if (fun h45 => ?_) (fun h45 => ?_)
        · skip
          have c46 := wt_clt h45
          refine wt_T_it (fun s : Int32 × Int32 × wt_St => wt_fr (fun i k => (i = 108 ∧ k = 54)) (fun i => i = 287 ∨ i = 124 ∨ i = 288) z16.2.2 s.2.2 ∧ 0 ≤ (s.2.1).toInt ∧ wt_RI s.2.2) (fun s : Int32 × Int32 × wt_St => ((wt_gf s.2.2 108 39).toInt - s.2.1.toInt + 0).toNat) (fun KK47 z48 I49 hKK47 => ?_) _ _ ?_ ?_
          · skip
            obtain ⟨l50, l51, l52⟩ := I49
            unfold wp_md_together_B61
            have g54 : 0 ≤ (wt_gf z48.2.2 108 39).toInt ∧ (wt_gf z48.2.2 108 39).toInt ≤ 8 := wt_Rf7 l52
            have tt55 : (wt_gf z48.2.2 108 39).toInt = (wt_gf z16.2.2 108 39).toInt := congrArg Int32.toInt (l50.1 108 39 (by (try dsimp only); omega))
            have bb56 := wt_bd z48.2.1
            refine wt_T_if (fun h57 => ?_) (fun h57 => ?_)
            · skip
              have c58 := wt_cle h57
              unfold wp_md_together_B107
              refine wt_T_it (fun s : Int32 × wt_St => wt_fr (fun i k => False) (fun i => i = 124) z48.2.2 s.2 ∧ 0 ≤ (s.1).toInt ∧ wt_RI s.2) (fun s : Int32 × wt_St => ((338 : Int32).toInt - s.1.toInt + 0).toNat) (fun KK59 z60 I61 hKK59 => ?_) _ _ ?_ ?_
              · skip
                obtain ⟨l62, l63, l64⟩ := I61
                unfold wp_md_together_B110
                have k65 : (338 : Int32).toInt = 338 := by decide
                have bb66 := wt_bd z60.1
                refine wt_T_if (fun h67 => ?_) (fun h67 => ?_)
                · skip
                  have c68 := wt_cle h67
                  have bb69 := wt_bd z48.1
                  refine wt_T_if (fun h70 => ?_) (fun h70 => ?_)
                  · skip
                    have c71 := wt_ceq h70
                    unfold wp_md_together_B163
                    unfold wp_md_together_B164
                    obtain ⟨j72, j72a, j72b⟩ := wt_addI z16.2.1 (1 : Int32)
                    refine hKK15 _ ⟨(wt_fr.tr (wt_fr.tr (wt_fr.tr wt_fr.rf l18 (fun i k h => by (try dsimp only at h); exact (by first | exact h | omega)) (fun i h => by (try dsimp only at h); rcases h with h | h | h; exact Or.inl (by first | exact h | omega); exact Or.inr (Or.inl (by first | exact h | omega)); exact Or.inr (Or.inr (by first | exact h | omega)))) l50 (fun i k h => by (try dsimp only at h); exact (by first | exact h | omega)) (fun i h => by (try dsimp only at h); rcases h with h | h | h; exact Or.inr (Or.inl (by first | exact h | omega)); exact Or.inl (by first | exact h | omega); exact Or.inr (Or.inr (by first | exact h | omega)))) l62 (fun i k h => h.elim) (fun i h => by (try dsimp only at h); exact Or.inl (by first | exact h | omega))), (show 0 ≤ ((z16.2.1 + (1 : Int32))).toInt by omega), l64⟩ ?_
                    show (2147483647 - (z16.2.1 + (1 : Int32)).toInt).toNat < (2147483647 - z16.2.1.toInt).toNat
                    omega
                  · skip
                    have c73 := wt_nceq h70
                    unfold wp_md_together_B163
                    unfold wp_md_together_B164
                    obtain ⟨j74, j74a, j74b⟩ := wt_addI z16.2.1 (1 : Int32)
                    refine hKK15 _ ⟨(wt_fr.tr (wt_fr.tr (wt_fr.tr wt_fr.rf l18 (fun i k h => by (try dsimp only at h); exact (by first | exact h | omega)) (fun i h => by (try dsimp only at h); rcases h with h | h | h; exact Or.inl (by first | exact h | omega); exact Or.inr (Or.inl (by first | exact h | omega)); exact Or.inr (Or.inr (by first | exact h | omega)))) l50 (fun i k h => by (try dsimp only at h); exact (by first | exact h | omega)) (fun i h => by (try dsimp only at h); rcases h with h | h | h; exact Or.inr (Or.inl (by first | exact h | omega)); exact Or.inl (by first | exact h | omega); exact Or.inr (Or.inr (by first | exact h | omega)))) l62 (fun i k h => h.elim) (fun i h => by (try dsimp only at h); exact Or.inl (by first | exact h | omega))), (show 0 ≤ ((z16.2.1 + (1 : Int32))).toInt by omega), l64⟩ ?_
                    show (2147483647 - (z16.2.1 + (1 : Int32)).toInt).toNat < (2147483647 - z16.2.1.toInt).toNat
                    omega
                · skip
                  have c75 := wt_ncle h67
                  refine wt_T_gd (wt_ix (by first | with_reducible assumption | omega) (by first | with_reducible assumption | omega)) ?_
                  have bb76 := wt_tn z60.1
                  have bb77 := wt_bd (wt_ga z60.2 124 (Int32.toNatClampNeg z60.1))
                  have k78 : (4 : Int32).toInt = 4 := by decide
                  refine wt_T_if (fun h79 => ?_) (fun h79 => ?_)
                  · skip
                    have c80 := wt_ceq h79
                    unfold wp_md_together_B146
                    refine wt_T_gd (wt_ix (by first | with_reducible assumption | omega) (by first | with_reducible assumption | omega)) ?_
                    obtain ⟨σ81, eσ81⟩ : ∃ z : wt_St, z = wt_sa z60.2 124 (Int32.toNatClampNeg z60.1) (-1 : Int32) := ⟨_, rfl⟩
                    rw [← eσ81]
                    have fσ81 := wt_fr_sa eσ81
                    have vσ81 := wt_ceq (wt_v_sa eσ81)
                    have rσ81 := wt_RI_no l64 eσ81 124 125 (by decide +kernel) (by decide) (by decide)
                    refine hKK59 _ ⟨(wt_fr.tr (wt_fr.tr wt_fr.rf l62 (fun i k h => h.elim) (fun i h => by (try dsimp only at h); exact (by first | exact h | omega))) fσ81 (fun i k h => h.elim) (fun i h => by (try dsimp only at h); exact (by first | exact h | omega))), (wt_nn (B := (338 : Int32)) (by first | with_reducible assumption | omega) (by first | with_reducible assumption | omega)), rσ81⟩ ?_
                    show ((338 : Int32).toInt - (z60.1 + (1 : Int32)).toInt + 0).toNat < ((338 : Int32).toInt - z60.1.toInt + 0).toNat
                    exact wt_mu (by first | with_reducible assumption | omega) (by first | with_reducible assumption | omega)
                  · skip
                    have c82 := wt_nceq h79
                    refine wt_T_gd (wt_ix (by first | with_reducible assumption | omega) (by first | with_reducible assumption | omega)) ?_
                    unfold wp_md_together_B146
                    refine wt_T_gd (wt_ix (by first | with_reducible assumption | omega) (by first | with_reducible assumption | omega)) ?_
                    obtain ⟨σ83, eσ83⟩ : ∃ z : wt_St, z = wt_sa z60.2 124 (Int32.toNatClampNeg z60.1) (wt_ga z60.2 124 (Int32.toNatClampNeg z60.1)) := ⟨_, rfl⟩
                    rw [← eσ83]
                    have fσ83 := wt_fr_sa eσ83
                    have vσ83 := wt_ceq (wt_v_sa eσ83)
                    have rσ83 := wt_RI_no l64 eσ83 124 125 (by decide +kernel) (by decide) (by decide)
                    refine hKK59 _ ⟨(wt_fr.tr (wt_fr.tr wt_fr.rf l62 (fun i k h => h.elim) (fun i h => by (try dsimp only at h); exact (by first | exact h | omega))) fσ83 (fun i k h => h.elim) (fun i h => by (try dsimp only at h); exact (by first | exact h | omega))), (wt_nn (B := (338 : Int32)) (by first | with_reducible assumption | omega) (by first | with_reducible assumption | omega)), rσ83⟩ ?_
                    show ((338 : Int32).toInt - (z60.1 + (1 : Int32)).toInt + 0).toNat < ((338 : Int32).toInt - z60.1.toInt + 0).toNat
                    exact wt_mu (by first | with_reducible assumption | omega) (by first | with_reducible assumption | omega)
              · skip
                have k84 : (338 : Int32).toInt = 338 := by decide
                exact ⟨wt_fr.rf, (show 0 ≤ ((0 : Int32)).toInt by omega), l52⟩
              · skip
                have k85 : (338 : Int32).toInt = 338 := by decide
                show ((338 : Int32).toInt - (0 : Int32).toInt + 0).toNat < n
                omega
            · skip
              have c86 := wt_ncle h57
              have bb87 := wt_bd z48.1
              refine wt_T_if (fun h88 => ?_) (fun h88 => ?_)
              · skip
                have c89 := wt_ceq h88
                unfold wp_md_together_B107
                refine wt_T_it (fun s : Int32 × wt_St => wt_fr (fun i k => False) (fun i => i = 124) z48.2.2 s.2 ∧ 0 ≤ (s.1).toInt ∧ wt_RI s.2) (fun s : Int32 × wt_St => ((338 : Int32).toInt - s.1.toInt + 0).toNat) (fun KK90 z91 I92 hKK90 => ?_) _ _ ?_ ?_
                · skip
                  obtain ⟨l93, l94, l95⟩ := I92
                  unfold wp_md_together_B110
                  have k96 : (338 : Int32).toInt = 338 := by decide
                  have bb97 := wt_bd z91.1
                  refine wt_T_if (fun h98 => ?_) (fun h98 => ?_)
                  · skip
                    have c99 := wt_cle h98
                    refine wt_T_if (fun h100 => ?_) (fun h100 => ?_)
                    · skip
                      have c101 := wt_ceq h100
                      unfold wp_md_together_B163
                      unfold wp_md_together_B164
                      obtain ⟨j102, j102a, j102b⟩ := wt_addI z16.2.1 (1 : Int32)
                      refine hKK15 _ ⟨(wt_fr.tr (wt_fr.tr (wt_fr.tr wt_fr.rf l18 (fun i k h => by (try dsimp only at h); exact (by first | exact h | omega)) (fun i h => by (try dsimp only at h); rcases h with h | h | h; exact Or.inl (by first | exact h | omega); exact Or.inr (Or.inl (by first | exact h | omega)); exact Or.inr (Or.inr (by first | exact h | omega)))) l50 (fun i k h => by (try dsimp only at h); exact (by first | exact h | omega)) (fun i h => by (try dsimp only at h); rcases h with h | h | h; exact Or.inr (Or.inl (by first | exact h | omega)); exact Or.inl (by first | exact h | omega); exact Or.inr (Or.inr (by first | exact h | omega)))) l93 (fun i k h => h.elim) (fun i h => by (try dsimp only at h); exact Or.inl (by first | exact h | omega))), (show 0 ≤ ((z16.2.1 + (1 : Int32))).toInt by omega), l95⟩ ?_
                      show (2147483647 - (z16.2.1 + (1 : Int32)).toInt).toNat < (2147483647 - z16.2.1.toInt).toNat
                      omega
                    · skip
                      have c103 := wt_nceq h100
                      unfold wp_md_together_B163
                      unfold wp_md_together_B164
                      obtain ⟨j104, j104a, j104b⟩ := wt_addI z16.2.1 (1 : Int32)
                      refine hKK15 _ ⟨(wt_fr.tr (wt_fr.tr (wt_fr.tr wt_fr.rf l18 (fun i k h => by (try dsimp only at h); exact (by first | exact h | omega)) (fun i h => by (try dsimp only at h); rcases h with h | h | h; exact Or.inl (by first | exact h | omega); exact Or.inr (Or.inl (by first | exact h | omega)); exact Or.inr (Or.inr (by first | exact h | omega)))) l50 (fun i k h => by (try dsimp only at h); exact (by first | exact h | omega)) (fun i h => by (try dsimp only at h); rcases h with h | h | h; exact Or.inr (Or.inl (by first | exact h | omega)); exact Or.inl (by first | exact h | omega); exact Or.inr (Or.inr (by first | exact h | omega)))) l93 (fun i k h => h.elim) (fun i h => by (try dsimp only at h); exact Or.inl (by first | exact h | omega))), (show 0 ≤ ((z16.2.1 + (1 : Int32))).toInt by omega), l95⟩ ?_
                      show (2147483647 - (z16.2.1 + (1 : Int32)).toInt).toNat < (2147483647 - z16.2.1.toInt).toNat
                      omega
                  · skip
                    have c105 := wt_ncle h98
                    refine wt_T_gd (wt_ix (by first | with_reducible assumption | omega) (by first | with_reducible assumption | omega)) ?_
                    have bb106 := wt_tn z91.1
                    have bb107 := wt_bd (wt_ga z91.2 124 (Int32.toNatClampNeg z91.1))
                    have k108 : (4 : Int32).toInt = 4 := by decide
                    refine wt_T_if (fun h109 => ?_) (fun h109 => ?_)
                    · skip
                      have c110 := wt_ceq h109
                      unfold wp_md_together_B146
                      refine wt_T_gd (wt_ix (by first | with_reducible assumption | omega) (by first | with_reducible assumption | omega)) ?_
                      obtain ⟨σ111, eσ111⟩ : ∃ z : wt_St, z = wt_sa z91.2 124 (Int32.toNatClampNeg z91.1) (-1 : Int32) := ⟨_, rfl⟩
                      rw [← eσ111]
                      have fσ111 := wt_fr_sa eσ111
                      have vσ111 := wt_ceq (wt_v_sa eσ111)
                      have rσ111 := wt_RI_no l95 eσ111 124 125 (by decide +kernel) (by decide) (by decide)
                      refine hKK90 _ ⟨(wt_fr.tr (wt_fr.tr wt_fr.rf l93 (fun i k h => h.elim) (fun i h => by (try dsimp only at h); exact (by first | exact h | omega))) fσ111 (fun i k h => h.elim) (fun i h => by (try dsimp only at h); exact (by first | exact h | omega))), (wt_nn (B := (338 : Int32)) (by first | with_reducible assumption | omega) (by first | with_reducible assumption | omega)), rσ111⟩ ?_
                      show ((338 : Int32).toInt - (z91.1 + (1 : Int32)).toInt + 0).toNat < ((338 : Int32).toInt - z91.1.toInt + 0).toNat
                      exact wt_mu (by first | with_reducible assumption | omega) (by first | with_reducible assumption | omega)
                    · skip
                      have c112 := wt_nceq h109
                      refine wt_T_gd (wt_ix (by first | with_reducible assumption | omega) (by first | with_reducible assumption | omega)) ?_
                      unfold wp_md_together_B146
                      refine wt_T_gd (wt_ix (by first | with_reducible assumption | omega) (by first | with_reducible assumption | omega)) ?_
                      obtain ⟨σ113, eσ113⟩ : ∃ z : wt_St, z = wt_sa z91.2 124 (Int32.toNatClampNeg z91.1) (wt_ga z91.2 124 (Int32.toNatClampNeg z91.1)) := ⟨_, rfl⟩
                      rw [← eσ113]
                      have fσ113 := wt_fr_sa eσ113
                      have vσ113 := wt_ceq (wt_v_sa eσ113)
                      have rσ113 := wt_RI_no l95 eσ113 124 125 (by decide +kernel) (by decide) (by decide)
                      refine hKK90 _ ⟨(wt_fr.tr (wt_fr.tr wt_fr.rf l93 (fun i k h => h.elim) (fun i h => by (try dsimp only at h); exact (by first | exact h | omega))) fσ113 (fun i k h => h.elim) (fun i h => by (try dsimp only at h); exact (by first | exact h | omega))), (wt_nn (B := (338 : Int32)) (by first | with_reducible assumption | omega) (by first | with_reducible assumption | omega)), rσ113⟩ ?_
                      show ((338 : Int32).toInt - (z91.1 + (1 : Int32)).toInt + 0).toNat < ((338 : Int32).toInt - z91.1.toInt + 0).toNat
                      exact wt_mu (by first | with_reducible assumption | omega) (by first | with_reducible assumption | omega)
                · skip
                  have k114 : (338 : Int32).toInt = 338 := by decide
                  exact ⟨wt_fr.rf, (show 0 ≤ ((0 : Int32)).toInt by omega), l52⟩
                · skip
                  have k115 : (338 : Int32).toInt = 338 := by decide
                  show ((338 : Int32).toInt - (0 : Int32).toInt + 0).toNat < n
                  omega
              · skip
                have c116 := wt_nceq h88
                have bb117 := wt_bd (z48.2.1 &&& 31)
                have bb118 := wt_bd (z16.2.1 >>> (z48.2.1 &&& 31))
                have bb119 := wt_bd ((z16.2.1 >>> (z48.2.1 &&& 31)) &&& (1 : Int32))
                refine wt_T_if (fun h120 => ?_) (fun h120 => ?_)
                · skip
                  have c121 := wt_ceq h120
                  unfold wp_md_together_B101
                  refine hKK47 _ ⟨(wt_fr.tr wt_fr.rf l50 (fun i k h => by (try dsimp only at h); exact (by first | exact h | omega)) (fun i h => by (try dsimp only at h); rcases h with h | h | h; exact Or.inl (by first | exact h | omega); exact Or.inr (Or.inl (by first | exact h | omega)); exact Or.inr (Or.inr (by first | exact h | omega)))), (wt_nn (B := wt_gf z48.2.2 108 39) (by first | with_reducible assumption | omega) (by first | with_reducible assumption | omega)), l52⟩ ?_
                  show ((wt_gf z48.2.2 108 39).toInt - (z48.2.1 + (1 : Int32)).toInt + 0).toNat < ((wt_gf z48.2.2 108 39).toInt - z48.2.1.toInt + 0).toNat
                  exact wt_mu (by first | with_reducible assumption | omega) (by first | with_reducible assumption | omega)
                · skip
                  have c122 := wt_nceq h120
                  refine wt_T_bi (wq_md_needsText n hn z48.2.1 z48.2.2 l52 (by first | with_reducible assumption | omega) (by first | with_reducible assumption | omega)) (fun r123 h124 => ?_)
                  obtain ⟨f125, ri126, pp127⟩ := h124
                  have k128 : (4 : Int32).toInt = 4 := by decide
                  refine wt_T_bi (wq_md_takes n hn x1 (4 : Int32) r123 ri126 (by first | with_reducible assumption | omega) (by first | with_reducible assumption | omega) pp127.1) (fun r129 h130 => ?_)
                  obtain ⟨f131, ri132, pp133⟩ := h130
                  have bb134 := wt_bd r129.1
                  unfold wp_md_together_B101
                  have g136 : 0 ≤ (wt_gf r129.2 108 39).toInt ∧ (wt_gf r129.2 108 39).toInt ≤ 8 := wt_Rf7 ri132
                  have tt137 : (wt_gf r129.2 108 39).toInt = (wt_gf r123 108 39).toInt := congrArg Int32.toInt (f131.1 108 39 (by (try dsimp only); omega))
                  have tt140 : (wt_gf r123 108 39).toInt = (wt_gf z48.2.2 108 39).toInt := congrArg Int32.toInt (f125.1 108 39 (fun z => z))
                  refine hKK47 _ ⟨(wt_fr.tr (wt_fr.tr (wt_fr.tr wt_fr.rf l50 (fun i k h => by (try dsimp only at h); exact (by first | exact h | omega)) (fun i h => by (try dsimp only at h); rcases h with h | h | h; exact Or.inl (by first | exact h | omega); exact Or.inr (Or.inl (by first | exact h | omega)); exact Or.inr (Or.inr (by first | exact h | omega)))) f125 (fun i k h => h.elim) (fun i h => by (try dsimp only at h); exact Or.inl (by first | exact h | omega))) f131 (fun i k h => by (try dsimp only at h); exact (by first | exact h | omega)) (fun i h => by (try dsimp only at h); rcases h with h | h; exact Or.inr (Or.inl (by first | exact h | omega)); exact Or.inr (Or.inr (by first | exact h | omega)))), (wt_nn (B := wt_gf z48.2.2 108 39) (by first | with_reducible assumption | omega) (by first | with_reducible assumption | omega)), ri132⟩ ?_
                  show ((wt_gf r129.2 108 39).toInt - (z48.2.1 + (1 : Int32)).toInt + 0).toNat < ((wt_gf z48.2.2 108 39).toInt - z48.2.1.toInt + 0).toNat
                  exact wt_mu (by first | with_reducible assumption | omega) (by first | with_reducible assumption | omega)
          · skip
            exact ⟨wt_fr.rf, (show 0 ≤ ((0 : Int32)).toInt by omega), l20⟩
          · skip
            show ((wt_gf z16.2.2 108 39).toInt - (0 : Int32).toInt + 0).toNat < n
            omega
        · skip
          have c141 := wt_ncl h45
          unfold wp_md_together_B164
          obtain ⟨j142, j142a, j142b⟩ := wt_addI z16.2.1 (1 : Int32)
          refine hKK15 _ ⟨(wt_fr.tr wt_fr.rf l18 (fun i k h => by (try dsimp only at h); exact (by first | exact h | omega)) (fun i h => by (try dsimp only at h); rcases h with h | h | h; exact Or.inl (by first | exact h | omega); exact Or.inr (Or.inl (by first | exact h | omega)); exact Or.inr (Or.inr (by first | exact h | omega)))), (show 0 ≤ ((z16.2.1 + (1 : Int32))).toInt by omega), l20⟩ ?_
          show (2147483647 - (z16.2.1 + (1 : Int32)).toInt).toNat < (2147483647 - z16.2.1.toInt).toNat
          omega
    · skip
      exact ⟨wt_fr.rf, (show 0 ≤ ((0 : Int32)).toInt by omega), ri7⟩
    · skip
      show (2147483647 - (0 : Int32).toInt).toNat < n
      omega
  · skip
    have c143 := wt_nceq h13
    refine wt_T_some ?_
    exact ⟨(wt_fr.tr wt_fr.rf f6 (fun i k h => by (try dsimp only at h); exact Or.inl (by first | exact h | omega)) (fun i h => h.elim)), ri7⟩
set_option maxRecDepth 100000 in
set_option maxHeartbeats 4000000 in
theorem wq_md_together (n : Nat) (hn : 4294967297 < n) (x1 : Int32) (σ : wt_St) (r0 : wt_RI σ) : wt_T (wp_md_together n x1 σ) (fun q => wt_fr (fun i k => (i = 108 ∧ k = 0) ∨ (i = 108 ∧ k = 54)) (fun i => i = 124 ∨ i = 287 ∨ i = 288) σ q.2 ∧ wt_RI q.2) := by
  have bb1 := wt_bd x1
  unfold wp_md_together
  obtain ⟨σ2, eσ2⟩ : ∃ z : wt_St, z = wt_sf σ 108 0 (0 : Int32) := ⟨_, rfl⟩
  rw [← eσ2]
  have fσ2 := wt_fr_sf eσ2
  have vσ2 := wt_ceq (wt_v_sf eσ2)
  have k3 : (0 : Int32).toInt = 0 := by decide
  have rσ2 := wt_RI_fno r0 eσ2 (Or.inr (by decide +kernel))
  refine wt_T_bi (wq_md_isCopies n hn x1 σ2 rσ2) (fun r4 h5 => ?_)
  obtain ⟨e6, pp7⟩ := h5
  have bb8 := wt_bd r4.1
  rw [e6]
  refine wt_T_if (fun h9 => ?_) (fun h9 => ?_)
  · skip
    have c10 := wt_ceq h9
    have k11 : (1 : Int32).toInt = 1 := by decide
    refine wt_T.imp (wq_md_together_B18 n hn x1 (1 : Int32) σ2 rσ2) (fun r12 h13 => ?_)
    have bb14 := wt_bd r12.1
    obtain ⟨f15, ri16⟩ := h13
    exact ⟨(wt_fr.tr (wt_fr.tr wt_fr.rf fσ2 (fun i k h => by (try dsimp only at h); exact Or.inl (by first | exact h | omega)) (fun i h => h.elim)) f15 (fun i k h => by (try dsimp only at h); rcases h with h | h; exact Or.inl (by first | exact h | omega); exact Or.inr (by first | exact h | omega)) (fun i h => by (try dsimp only at h); rcases h with h | h | h; exact Or.inl (by first | exact h | omega); exact Or.inr (Or.inl (by first | exact h | omega)); exact Or.inr (Or.inr (by first | exact h | omega)))), ri16⟩
  · skip
    have c17 := wt_nceq h9
    refine wt_T.imp (wq_md_together_B18 n hn x1 (0 : Int32) σ2 rσ2) (fun r18 h19 => ?_)
    have bb20 := wt_bd r18.1
    obtain ⟨f21, ri22⟩ := h19
    exact ⟨(wt_fr.tr (wt_fr.tr wt_fr.rf fσ2 (fun i k h => by (try dsimp only at h); exact Or.inl (by first | exact h | omega)) (fun i h => h.elim)) f21 (fun i k h => by (try dsimp only at h); rcases h with h | h; exact Or.inl (by first | exact h | omega); exact Or.inr (by first | exact h | omega)) (fun i h => by (try dsimp only at h); rcases h with h | h | h; exact Or.inl (by first | exact h | omega); exact Or.inr (Or.inl (by first | exact h | omega)); exact Or.inr (Or.inr (by first | exact h | omega)))), ri22⟩
set_option maxRecDepth 100000 in
set_option maxHeartbeats 4000000 in
theorem wq_md_told (n : Nat) (hn : 4294967297 < n) (x1 : Int32) (σ : wt_St) (r0 : wt_RI σ) : wt_T (wp_md_told n x1 σ) (fun q => wt_fr (fun i k => (i = 108 ∧ k = 0)) (fun i => False) σ q.2 ∧ wt_RI q.2) := by
  have bb1 := wt_bd x1
  unfold wp_md_told
  obtain ⟨σ2, eσ2⟩ : ∃ z : wt_St, z = wt_sf σ 108 0 (0 : Int32) := ⟨_, rfl⟩
  rw [← eσ2]
  have fσ2 := wt_fr_sf eσ2
  have vσ2 := wt_ceq (wt_v_sf eσ2)
  have k3 : (0 : Int32).toInt = 0 := by decide
  have rσ2 := wt_RI_fno r0 eσ2 (Or.inr (by decide +kernel))
  have k4 : (7 : Int32).toInt = 7 := by decide
  refine wt_T_bi (wq_md_in n hn x1 (0 : Int32) (7 : Int32) σ2 rσ2) (fun r5 h6 => ?_)
  obtain ⟨e7, pp8⟩ := h6
  have bb9 := wt_bd r5.1
  rw [e7]
  refine wt_T_if (fun h10 => ?_) (fun h10 => ?_)
  · skip
    have c11 := wt_ceq h10
    unfold wp_md_told_B21
    have k12 : (1 : Int32).toInt = 1 := by decide
    refine wt_T_bi (wq_md_bad n hn (1 : Int32) (1 : Int32) σ2 rσ2 (by first | with_reducible assumption | omega)) (fun r13 h14 => ?_)
    obtain ⟨f15, ri16, pp17⟩ := h14
    have bb18 := wt_bd r13.1
    have bb19 := wt_bd (wt_gf r13.2 108 0)
    have bb20 := wt_bd (wt_gf σ2 108 0)
    refine wt_T_if (fun h21 => ?_) (fun h21 => ?_)
    · skip
      have c22 := wt_ceq h21
      refine wt_T_if (fun h23 => ?_) (fun h23 => ?_)
      · skip
        have c24 := wt_ceq h23
        refine wt_T_bi (wq_md_allPieces n hn r13.2 ri16) (fun r25 h26 => ?_)
        have e27 := h26
        have bb28 := wt_bd r25.1
        rw [e27]
        refine wt_T_some ?_
        exact ⟨(wt_fr.tr (wt_fr.tr wt_fr.rf fσ2 (fun i k h => by (try dsimp only at h); exact (by first | exact h | omega)) (fun i h => h.elim)) f15 (fun i k h => by (try dsimp only at h); exact (by first | exact h | omega)) (fun i h => h.elim)), ri16⟩
      · skip
        have c29 := wt_nceq h23
        refine wt_T_if (fun h30 => ?_) (fun h30 => ?_)
        · skip
          have c31 := wt_ceq h30
          refine wt_T_some ?_
          exact ⟨(wt_fr.tr (wt_fr.tr wt_fr.rf fσ2 (fun i k h => by (try dsimp only at h); exact (by first | exact h | omega)) (fun i h => h.elim)) f15 (fun i k h => by (try dsimp only at h); exact (by first | exact h | omega)) (fun i h => h.elim)), ri16⟩
        · skip
          have c32 := wt_nceq h30
          have k33 : (2 : Int32).toInt = 2 := by decide
          refine wt_T_if (fun h34 => ?_) (fun h34 => ?_)
          · skip
            have c35 := wt_ceq h34
            refine wt_T_some ?_
            exact ⟨(wt_fr.tr (wt_fr.tr wt_fr.rf fσ2 (fun i k h => by (try dsimp only at h); exact (by first | exact h | omega)) (fun i h => h.elim)) f15 (fun i k h => by (try dsimp only at h); exact (by first | exact h | omega)) (fun i h => h.elim)), ri16⟩
          · skip
            have c36 := wt_nceq h34
            have k37 : (3 : Int32).toInt = 3 := by decide
            refine wt_T_if (fun h38 => ?_) (fun h38 => ?_)
            · skip
              have c39 := wt_ceq h38
              refine wt_T_bi (wq_md_standing n hn r13.2 ri16) (fun r40 h41 => ?_)
              have e42 := h41
              have bb43 := wt_bd r40.1
              rw [e42]
              refine wt_T_some ?_
              exact ⟨(wt_fr.tr (wt_fr.tr wt_fr.rf fσ2 (fun i k h => by (try dsimp only at h); exact (by first | exact h | omega)) (fun i h => h.elim)) f15 (fun i k h => by (try dsimp only at h); exact (by first | exact h | omega)) (fun i h => h.elim)), ri16⟩
            · skip
              have c44 := wt_nceq h38
              have k45 : (4 : Int32).toInt = 4 := by decide
              refine wt_T_if (fun h46 => ?_) (fun h46 => ?_)
              · skip
                have c47 := wt_ceq h46
                refine wt_T_some ?_
                exact ⟨(wt_fr.tr (wt_fr.tr wt_fr.rf fσ2 (fun i k h => by (try dsimp only at h); exact (by first | exact h | omega)) (fun i h => h.elim)) f15 (fun i k h => by (try dsimp only at h); exact (by first | exact h | omega)) (fun i h => h.elim)), ri16⟩
              · skip
                have c48 := wt_nceq h46
                have k49 : (5 : Int32).toInt = 5 := by decide
                refine wt_T_if (fun h50 => ?_) (fun h50 => ?_)
                · skip
                  have c51 := wt_ceq h50
                  refine wt_T_some ?_
                  exact ⟨(wt_fr.tr (wt_fr.tr wt_fr.rf fσ2 (fun i k h => by (try dsimp only at h); exact (by first | exact h | omega)) (fun i h => h.elim)) f15 (fun i k h => by (try dsimp only at h); exact (by first | exact h | omega)) (fun i h => h.elim)), ri16⟩
                · skip
                  have c52 := wt_nceq h50
                  have k53 : (6 : Int32).toInt = 6 := by decide
                  refine wt_T_if (fun h54 => ?_) (fun h54 => ?_)
                  · skip
                    have c55 := wt_ceq h54
                    refine wt_T_some ?_
                    exact ⟨(wt_fr.tr (wt_fr.tr wt_fr.rf fσ2 (fun i k h => by (try dsimp only at h); exact (by first | exact h | omega)) (fun i h => h.elim)) f15 (fun i k h => by (try dsimp only at h); exact (by first | exact h | omega)) (fun i h => h.elim)), ri16⟩
                  · skip
                    have c56 := wt_nceq h54
                    refine wt_T_some ?_
                    exact ⟨(wt_fr.tr (wt_fr.tr wt_fr.rf fσ2 (fun i k h => by (try dsimp only at h); exact (by first | exact h | omega)) (fun i h => h.elim)) f15 (fun i k h => by (try dsimp only at h); exact (by first | exact h | omega)) (fun i h => h.elim)), ri16⟩
    · skip
      have c57 := wt_nceq h21
      refine wt_T_some ?_
      exact ⟨(wt_fr.tr (wt_fr.tr wt_fr.rf fσ2 (fun i k h => by (try dsimp only at h); exact (by first | exact h | omega)) (fun i h => h.elim)) f15 (fun i k h => by (try dsimp only at h); exact (by first | exact h | omega)) (fun i h => h.elim)), ri16⟩
  · skip
    have c58 := wt_nceq h10
    unfold wp_md_told_B21
    have k59 : (1 : Int32).toInt = 1 := by decide
    refine wt_T_bi (wq_md_bad n hn (0 : Int32) (1 : Int32) σ2 rσ2 (by first | with_reducible assumption | omega)) (fun r60 h61 => ?_)
    obtain ⟨f62, ri63, pp64⟩ := h61
    have bb65 := wt_bd r60.1
    have bb66 := wt_bd (wt_gf r60.2 108 0)
    have bb67 := wt_bd (wt_gf σ2 108 0)
    refine wt_T_if (fun h68 => ?_) (fun h68 => ?_)
    · skip
      have c69 := wt_ceq h68
      refine wt_T_if (fun h70 => ?_) (fun h70 => ?_)
      · skip
        have c71 := wt_ceq h70
        refine wt_T_bi (wq_md_allPieces n hn r60.2 ri63) (fun r72 h73 => ?_)
        have e74 := h73
        have bb75 := wt_bd r72.1
        rw [e74]
        refine wt_T_some ?_
        exact ⟨(wt_fr.tr (wt_fr.tr wt_fr.rf fσ2 (fun i k h => by (try dsimp only at h); exact (by first | exact h | omega)) (fun i h => h.elim)) f62 (fun i k h => by (try dsimp only at h); exact (by first | exact h | omega)) (fun i h => h.elim)), ri63⟩
      · skip
        have c76 := wt_nceq h70
        refine wt_T_if (fun h77 => ?_) (fun h77 => ?_)
        · skip
          have c78 := wt_ceq h77
          refine wt_T_some ?_
          exact ⟨(wt_fr.tr (wt_fr.tr wt_fr.rf fσ2 (fun i k h => by (try dsimp only at h); exact (by first | exact h | omega)) (fun i h => h.elim)) f62 (fun i k h => by (try dsimp only at h); exact (by first | exact h | omega)) (fun i h => h.elim)), ri63⟩
        · skip
          have c79 := wt_nceq h77
          have k80 : (2 : Int32).toInt = 2 := by decide
          refine wt_T_if (fun h81 => ?_) (fun h81 => ?_)
          · skip
            have c82 := wt_ceq h81
            refine wt_T_some ?_
            exact ⟨(wt_fr.tr (wt_fr.tr wt_fr.rf fσ2 (fun i k h => by (try dsimp only at h); exact (by first | exact h | omega)) (fun i h => h.elim)) f62 (fun i k h => by (try dsimp only at h); exact (by first | exact h | omega)) (fun i h => h.elim)), ri63⟩
          · skip
            have c83 := wt_nceq h81
            have k84 : (3 : Int32).toInt = 3 := by decide
            refine wt_T_if (fun h85 => ?_) (fun h85 => ?_)
            · skip
              have c86 := wt_ceq h85
              refine wt_T_bi (wq_md_standing n hn r60.2 ri63) (fun r87 h88 => ?_)
              have e89 := h88
              have bb90 := wt_bd r87.1
              rw [e89]
              refine wt_T_some ?_
              exact ⟨(wt_fr.tr (wt_fr.tr wt_fr.rf fσ2 (fun i k h => by (try dsimp only at h); exact (by first | exact h | omega)) (fun i h => h.elim)) f62 (fun i k h => by (try dsimp only at h); exact (by first | exact h | omega)) (fun i h => h.elim)), ri63⟩
            · skip
              have c91 := wt_nceq h85
              have k92 : (4 : Int32).toInt = 4 := by decide
              refine wt_T_if (fun h93 => ?_) (fun h93 => ?_)
              · skip
                have c94 := wt_ceq h93
                refine wt_T_some ?_
                exact ⟨(wt_fr.tr (wt_fr.tr wt_fr.rf fσ2 (fun i k h => by (try dsimp only at h); exact (by first | exact h | omega)) (fun i h => h.elim)) f62 (fun i k h => by (try dsimp only at h); exact (by first | exact h | omega)) (fun i h => h.elim)), ri63⟩
              · skip
                have c95 := wt_nceq h93
                have k96 : (5 : Int32).toInt = 5 := by decide
                refine wt_T_if (fun h97 => ?_) (fun h97 => ?_)
                · skip
                  have c98 := wt_ceq h97
                  refine wt_T_some ?_
                  exact ⟨(wt_fr.tr (wt_fr.tr wt_fr.rf fσ2 (fun i k h => by (try dsimp only at h); exact (by first | exact h | omega)) (fun i h => h.elim)) f62 (fun i k h => by (try dsimp only at h); exact (by first | exact h | omega)) (fun i h => h.elim)), ri63⟩
                · skip
                  have c99 := wt_nceq h97
                  have k100 : (6 : Int32).toInt = 6 := by decide
                  refine wt_T_if (fun h101 => ?_) (fun h101 => ?_)
                  · skip
                    have c102 := wt_ceq h101
                    refine wt_T_some ?_
                    exact ⟨(wt_fr.tr (wt_fr.tr wt_fr.rf fσ2 (fun i k h => by (try dsimp only at h); exact (by first | exact h | omega)) (fun i h => h.elim)) f62 (fun i k h => by (try dsimp only at h); exact (by first | exact h | omega)) (fun i h => h.elim)), ri63⟩
                  · skip
                    have c103 := wt_nceq h101
                    refine wt_T_some ?_
                    exact ⟨(wt_fr.tr (wt_fr.tr wt_fr.rf fσ2 (fun i k h => by (try dsimp only at h); exact (by first | exact h | omega)) (fun i h => h.elim)) f62 (fun i k h => by (try dsimp only at h); exact (by first | exact h | omega)) (fun i h => h.elim)), ri63⟩
    · skip
      have c104 := wt_nceq h68
      refine wt_T_some ?_
      exact ⟨(wt_fr.tr (wt_fr.tr wt_fr.rf fσ2 (fun i k h => by (try dsimp only at h); exact (by first | exact h | omega)) (fun i h => h.elim)) f62 (fun i k h => by (try dsimp only at h); exact (by first | exact h | omega)) (fun i h => h.elim)), ri63⟩
