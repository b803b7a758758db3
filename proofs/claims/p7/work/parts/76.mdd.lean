set_option maxRecDepth 100000 in
set_option maxHeartbeats 4000000 in
theorem wq_md_letter (n : Nat) (hn : 4294967297 < n) (x1 : Int32) (x2 : Int32) (σ : wt_St) (r0 : wt_RI σ) : wt_T (wp_md_letter n x1 x2 σ) (fun q => wt_fr (fun i k => (i = 108 ∧ k = 0)) (fun i => False) σ q.2 ∧ wt_RI q.2) := by
  have bb1 := wt_bd x1
  have bb2 := wt_bd x2
  unfold wp_md_letter
  obtain ⟨σ3, eσ3⟩ : ∃ z : wt_St, z = wt_sf σ 108 0 (0 : Int32) := ⟨_, rfl⟩
  rw [← eσ3]
  have fσ3 := wt_fr_sf eσ3
  have vσ3 := wt_ceq (wt_v_sf eσ3)
  have k4 : (0 : Int32).toInt = 0 := by decide
  have rσ3 := wt_RI_fno r0 eσ3 (Or.inr (by decide))
  refine wt_T_bi (wq_md_isLetter n hn x1 σ3 rσ3) (fun r5 h6 => ?_)
  obtain ⟨e7, pp8⟩ := h6
  have bb9 := wt_bd r5.1
  rw [e7]
  refine wt_T_if (fun h10 => ?_) (fun h10 => ?_)
  · skip
    have c11 := wt_ceq h10
    unfold wp_md_letter_B23
    unfold wp_md_letter_B28
    have k12 : (1 : Int32).toInt = 1 := by decide
    refine wt_T_bi (wq_md_bad n hn (1 : Int32) (1 : Int32) σ3 rσ3 (by omega)) (fun r13 h14 => ?_)
    obtain ⟨f15, ri16, pp17⟩ := h14
    have bb18 := wt_bd r13.1
    have bb19 := wt_bd (wt_gf r13.2 108 0)
    have bb20 := wt_bd (wt_gf σ3 108 0)
    refine wt_T_if (fun h21 => ?_) (fun h21 => ?_)
    · skip
      have c22 := wt_ceq h21
      refine wt_T_it (fun s : Int32 × Int32 × Int32 × Int32 × Int32 × wt_St => s.2.2.2.2.2 = r13.2 ∧ 0 ≤ (s.2.2.2.2.1).toInt) (fun s : Int32 × Int32 × Int32 × Int32 × Int32 × wt_St => ((wt_ga s.2.2.2.2.2 111 (Int32.toNatClampNeg x1)).toInt - s.2.2.2.2.1.toInt + 0).toNat) (fun KK23 z24 I25 hKK23 => ?_) _ _ ?_ ?_
      · skip
        obtain ⟨l26, l27⟩ := I25
        unfold wp_md_letter_B51
        rw [l26]
        have bb28 := wt_tn x1
        have bb29 := wt_bd (wt_ga r13.2 111 (Int32.toNatClampNeg x1))
        have g30 : 0 ≤ (wt_ga r13.2 111 (Int32.toNatClampNeg x1)).toInt ∧ (wt_ga r13.2 111 (Int32.toNatClampNeg x1)).toInt ≤ 13 := wt_R_ga ri16 1 rfl 111 (by decide) (by decide) (Int32.toNatClampNeg x1)
        have tt31 : (wt_ga r13.2 111 (Int32.toNatClampNeg x1)).toInt = (wt_ga σ3 111 (Int32.toNatClampNeg x1)).toInt := congrArg Int32.toInt (f15.2 111 (fun z => z) (Int32.toNatClampNeg x1))
        have bb32 := wt_bd (wt_ga σ3 111 (Int32.toNatClampNeg x1))
        have g33 : 0 ≤ (wt_ga σ3 111 (Int32.toNatClampNeg x1)).toInt ∧ (wt_ga σ3 111 (Int32.toNatClampNeg x1)).toInt ≤ 13 := wt_R_ga rσ3 1 rfl 111 (by decide) (by decide) (Int32.toNatClampNeg x1)
        have tt34 : (wt_ga σ3 111 (Int32.toNatClampNeg x1)).toInt = (wt_ga σ 111 (Int32.toNatClampNeg x1)).toInt := congrArg Int32.toInt (fσ3.2 111 (fun z => z) (Int32.toNatClampNeg x1))
        have bb35 := wt_bd (wt_ga σ 111 (Int32.toNatClampNeg x1))
        have g36 : 0 ≤ (wt_ga σ 111 (Int32.toNatClampNeg x1)).toInt ∧ (wt_ga σ 111 (Int32.toNatClampNeg x1)).toInt ≤ 13 := wt_R_ga r0 1 rfl 111 (by decide) (by decide) (Int32.toNatClampNeg x1)
        have bb37 := wt_bd z24.2.2.2.2.1
        refine wt_T_gd (wt_ix (by omega) (by omega)) ?_
        refine wt_T_if (fun h38 => ?_) (fun h38 => ?_)
        · skip
          have c39 := wt_cle h38
          refine wt_T_if (fun h40 => ?_) (fun h40 => ?_)
          · skip
            have c41 := wt_ceq h40
            refine wt_T_gd (wt_ix (by omega) (by omega)) ?_
            refine wt_T_some ?_
            exact ⟨(wt_fr.tr (wt_fr.tr wt_fr.rf fσ3 (fun i k h => by (try dsimp only at h); exact (by omega)) (fun i h => h.elim)) f15 (fun i k h => by (try dsimp only at h); exact (by omega)) (fun i h => h.elim)), ri16⟩
          · skip
            have c42 := wt_nceq h40
            refine wt_T_if (fun h43 => ?_) (fun h43 => ?_)
            · skip
              have c44 := wt_ceq h43
              refine wt_T_some ?_
              exact ⟨(wt_fr.tr (wt_fr.tr wt_fr.rf fσ3 (fun i k h => by (try dsimp only at h); exact (by omega)) (fun i h => h.elim)) f15 (fun i k h => by (try dsimp only at h); exact (by omega)) (fun i h => h.elim)), ri16⟩
            · skip
              have c45 := wt_nceq h43
              have k46 : (2 : Int32).toInt = 2 := by decide
              refine wt_T_if (fun h47 => ?_) (fun h47 => ?_)
              · skip
                have c48 := wt_ceq h47
                refine wt_T_some ?_
                exact ⟨(wt_fr.tr (wt_fr.tr wt_fr.rf fσ3 (fun i k h => by (try dsimp only at h); exact (by omega)) (fun i h => h.elim)) f15 (fun i k h => by (try dsimp only at h); exact (by omega)) (fun i h => h.elim)), ri16⟩
              · skip
                have c49 := wt_nceq h47
                have k50 : (3 : Int32).toInt = 3 := by decide
                refine wt_T_if (fun h51 => ?_) (fun h51 => ?_)
                · skip
                  have c52 := wt_ceq h51
                  refine wt_T_some ?_
                  exact ⟨(wt_fr.tr (wt_fr.tr wt_fr.rf fσ3 (fun i k h => by (try dsimp only at h); exact (by omega)) (fun i h => h.elim)) f15 (fun i k h => by (try dsimp only at h); exact (by omega)) (fun i h => h.elim)), ri16⟩
                · skip
                  have c53 := wt_nceq h51
                  have k54 : (4 : Int32).toInt = 4 := by decide
                  refine wt_T_if (fun h55 => ?_) (fun h55 => ?_)
                  · skip
                    have c56 := wt_ceq h55
                    refine wt_T_some ?_
                    exact ⟨(wt_fr.tr (wt_fr.tr wt_fr.rf fσ3 (fun i k h => by (try dsimp only at h); exact (by omega)) (fun i h => h.elim)) f15 (fun i k h => by (try dsimp only at h); exact (by omega)) (fun i h => h.elim)), ri16⟩
                  · skip
                    have c57 := wt_nceq h55
                    have k58 : (5 : Int32).toInt = 5 := by decide
                    refine wt_T_if (fun h59 => ?_) (fun h59 => ?_)
                    · skip
                      have c60 := wt_ceq h59
                      refine wt_T_gd (wt_ix (by omega) (by omega)) ?_
                      refine wt_T_some ?_
                      exact ⟨(wt_fr.tr (wt_fr.tr wt_fr.rf fσ3 (fun i k h => by (try dsimp only at h); exact (by omega)) (fun i h => h.elim)) f15 (fun i k h => by (try dsimp only at h); exact (by omega)) (fun i h => h.elim)), ri16⟩
                    · skip
                      have c61 := wt_nceq h59
                      have k62 : (6 : Int32).toInt = 6 := by decide
                      refine wt_T_if (fun h63 => ?_) (fun h63 => ?_)
                      · skip
                        have c64 := wt_ceq h63
                        refine wt_T_gd (wt_ix (by omega) (by omega)) ?_
                        refine wt_T_some ?_
                        exact ⟨(wt_fr.tr (wt_fr.tr wt_fr.rf fσ3 (fun i k h => by (try dsimp only at h); exact (by omega)) (fun i h => h.elim)) f15 (fun i k h => by (try dsimp only at h); exact (by omega)) (fun i h => h.elim)), ri16⟩
                      · skip
                        have c65 := wt_nceq h63
                        refine wt_T_gd (wt_ix (by omega) (by omega)) ?_
                        refine wt_T_some ?_
                        exact ⟨(wt_fr.tr (wt_fr.tr wt_fr.rf fσ3 (fun i k h => by (try dsimp only at h); exact (by omega)) (fun i h => h.elim)) f15 (fun i k h => by (try dsimp only at h); exact (by omega)) (fun i h => h.elim)), ri16⟩
        · skip
          have c66 := wt_ncle h38
          refine wt_T_bi (wq_md_cell n hn x1 z24.2.2.2.2.1 r13.2 ri16 (by omega) (by omega) (by omega) (by omega)) (fun r67 h68 => ?_)
          obtain ⟨e69, pp70⟩ := h68
          have bb71 := wt_bd r67.1
          rw [e69]
          refine wt_T_gd (wt_ix (by omega) (by omega)) ?_
          refine wt_T_bi (wq_md_cell n hn x1 z24.2.2.2.2.1 r13.2 ri16 (by omega) (by omega) (by omega) (by omega)) (fun r72 h73 => ?_)
          obtain ⟨e74, pp75⟩ := h73
          have bb76 := wt_bd r72.1
          rw [e74]
          refine wt_T_gd (wt_ix (by omega) (by omega)) ?_
          have bb77 := wt_tn r72.1
          have bb78 := wt_bd (wt_ga r13.2 124 (Int32.toNatClampNeg r72.1))
          have tt79 : (wt_ga r13.2 124 (Int32.toNatClampNeg r72.1)).toInt = (wt_ga σ3 124 (Int32.toNatClampNeg r72.1)).toInt := congrArg Int32.toInt (f15.2 124 (fun z => z) (Int32.toNatClampNeg r72.1))
          have bb80 := wt_bd (wt_ga σ3 124 (Int32.toNatClampNeg r72.1))
          have tt81 : (wt_ga σ3 124 (Int32.toNatClampNeg r72.1)).toInt = (wt_ga σ 124 (Int32.toNatClampNeg r72.1)).toInt := congrArg Int32.toInt (fσ3.2 124 (fun z => z) (Int32.toNatClampNeg r72.1))
          have bb82 := wt_bd (wt_ga σ 124 (Int32.toNatClampNeg r72.1))
          refine wt_T_if (fun h83 => ?_) (fun h83 => ?_)
          · skip
            have c84 := wt_ceq h83
            rw [wt_lm1] at c84
            unfold wp_md_letter_B96
            have bb85 := wt_tn r67.1
            have bb86 := wt_bd (wt_ga r13.2 121 (Int32.toNatClampNeg r67.1))
            have g87 : 0 ≤ (wt_ga r13.2 121 (Int32.toNatClampNeg r67.1)).toInt ∧ (wt_ga r13.2 121 (Int32.toNatClampNeg r67.1)).toInt ≤ 400 := wt_R_ga ri16 3 rfl 121 (by decide) (by decide) (Int32.toNatClampNeg r67.1)
            have tt88 : (wt_ga r13.2 121 (Int32.toNatClampNeg r67.1)).toInt = (wt_ga σ3 121 (Int32.toNatClampNeg r67.1)).toInt := congrArg Int32.toInt (f15.2 121 (fun z => z) (Int32.toNatClampNeg r67.1))
            have bb89 := wt_bd (wt_ga σ3 121 (Int32.toNatClampNeg r67.1))
            have g90 : 0 ≤ (wt_ga σ3 121 (Int32.toNatClampNeg r67.1)).toInt ∧ (wt_ga σ3 121 (Int32.toNatClampNeg r67.1)).toInt ≤ 400 := wt_R_ga rσ3 3 rfl 121 (by decide) (by decide) (Int32.toNatClampNeg r67.1)
            have tt91 : (wt_ga σ3 121 (Int32.toNatClampNeg r67.1)).toInt = (wt_ga σ 121 (Int32.toNatClampNeg r67.1)).toInt := congrArg Int32.toInt (fσ3.2 121 (fun z => z) (Int32.toNatClampNeg r67.1))
            have bb92 := wt_bd (wt_ga σ 121 (Int32.toNatClampNeg r67.1))
            have g93 : 0 ≤ (wt_ga σ 121 (Int32.toNatClampNeg r67.1)).toInt ∧ (wt_ga σ 121 (Int32.toNatClampNeg r67.1)).toInt ≤ 400 := wt_R_ga r0 3 rfl 121 (by decide) (by decide) (Int32.toNatClampNeg r67.1)
            have bb94 := wt_bd z24.2.2.1
            refine wt_T_if (fun h95 => ?_) (fun h95 => ?_)
            · skip
              have c96 := wt_cle h95
              unfold wp_md_letter_B119
              refine wt_T_if (fun h97 => ?_) (fun h97 => ?_)
              · skip
                have c98 := wt_ceq h97
                unfold wp_md_letter_B133
                have bb99 := wt_bd z24.1
                obtain ⟨j100, j100a, j100b⟩ := wt_addI z24.1 (1 : Int32)
                have bb101 := wt_bd z24.2.1
                obtain ⟨j102, j102a, j102b⟩ := wt_addI z24.2.1 (wt_ga r13.2 121 (Int32.toNatClampNeg r67.1))
                have bb103 := wt_bd z24.2.2.2.1
                obtain ⟨j104, j104a, j104b⟩ := wt_addI z24.2.2.2.1 (1 : Int32)
                refine hKK23 _ ⟨rfl, (wt_nn (B := wt_ga z24.2.2.2.2.2 111 (Int32.toNatClampNeg x1)) (by omega) (by first | (rw [l26]; omega) | (rw [l26]; done) | omega))⟩ ?_
                show ((wt_ga r13.2 111 (Int32.toNatClampNeg x1)).toInt - (z24.2.2.2.2.1 + (1 : Int32)).toInt + 0).toNat < ((wt_ga z24.2.2.2.2.2 111 (Int32.toNatClampNeg x1)).toInt - z24.2.2.2.2.1.toInt + 0).toNat
                exact wt_mu (by first | (rw [l26]; omega) | (rw [l26]; done) | omega) (by first | (rw [l26]; omega) | (rw [l26]; done) | omega)
              · skip
                have c105 := wt_nceq h97
                unfold wp_md_letter_B133
                have bb106 := wt_bd z24.1
                obtain ⟨j107, j107a, j107b⟩ := wt_addI z24.1 (1 : Int32)
                have bb108 := wt_bd z24.2.1
                obtain ⟨j109, j109a, j109b⟩ := wt_addI z24.2.1 (wt_ga r13.2 121 (Int32.toNatClampNeg r67.1))
                have bb110 := wt_bd z24.2.2.2.1
                obtain ⟨j111, j111a, j111b⟩ := wt_addI z24.2.2.2.1 (0 : Int32)
                refine hKK23 _ ⟨rfl, (wt_nn (B := wt_ga z24.2.2.2.2.2 111 (Int32.toNatClampNeg x1)) (by omega) (by first | (rw [l26]; omega) | (rw [l26]; done) | omega))⟩ ?_
                show ((wt_ga r13.2 111 (Int32.toNatClampNeg x1)).toInt - (z24.2.2.2.2.1 + (1 : Int32)).toInt + 0).toNat < ((wt_ga z24.2.2.2.2.2 111 (Int32.toNatClampNeg x1)).toInt - z24.2.2.2.2.1.toInt + 0).toNat
                exact wt_mu (by first | (rw [l26]; omega) | (rw [l26]; done) | omega) (by first | (rw [l26]; omega) | (rw [l26]; done) | omega)
            · skip
              have c112 := wt_ncle h95
              unfold wp_md_letter_B119
              refine wt_T_if (fun h113 => ?_) (fun h113 => ?_)
              · skip
                have c114 := wt_ceq h113
                unfold wp_md_letter_B133
                have bb115 := wt_bd z24.1
                obtain ⟨j116, j116a, j116b⟩ := wt_addI z24.1 (1 : Int32)
                have bb117 := wt_bd z24.2.1
                obtain ⟨j118, j118a, j118b⟩ := wt_addI z24.2.1 (wt_ga r13.2 121 (Int32.toNatClampNeg r67.1))
                have bb119 := wt_bd z24.2.2.2.1
                obtain ⟨j120, j120a, j120b⟩ := wt_addI z24.2.2.2.1 (1 : Int32)
                refine hKK23 _ ⟨rfl, (wt_nn (B := wt_ga z24.2.2.2.2.2 111 (Int32.toNatClampNeg x1)) (by omega) (by first | (rw [l26]; omega) | (rw [l26]; done) | omega))⟩ ?_
                show ((wt_ga r13.2 111 (Int32.toNatClampNeg x1)).toInt - (z24.2.2.2.2.1 + (1 : Int32)).toInt + 0).toNat < ((wt_ga z24.2.2.2.2.2 111 (Int32.toNatClampNeg x1)).toInt - z24.2.2.2.2.1.toInt + 0).toNat
                exact wt_mu (by first | (rw [l26]; omega) | (rw [l26]; done) | omega) (by first | (rw [l26]; omega) | (rw [l26]; done) | omega)
              · skip
                have c121 := wt_nceq h113
                unfold wp_md_letter_B133
                have bb122 := wt_bd z24.1
                obtain ⟨j123, j123a, j123b⟩ := wt_addI z24.1 (1 : Int32)
                have bb124 := wt_bd z24.2.1
                obtain ⟨j125, j125a, j125b⟩ := wt_addI z24.2.1 (wt_ga r13.2 121 (Int32.toNatClampNeg r67.1))
                have bb126 := wt_bd z24.2.2.2.1
                obtain ⟨j127, j127a, j127b⟩ := wt_addI z24.2.2.2.1 (0 : Int32)
                refine hKK23 _ ⟨rfl, (wt_nn (B := wt_ga z24.2.2.2.2.2 111 (Int32.toNatClampNeg x1)) (by omega) (by first | (rw [l26]; omega) | (rw [l26]; done) | omega))⟩ ?_
                show ((wt_ga r13.2 111 (Int32.toNatClampNeg x1)).toInt - (z24.2.2.2.2.1 + (1 : Int32)).toInt + 0).toNat < ((wt_ga z24.2.2.2.2.2 111 (Int32.toNatClampNeg x1)).toInt - z24.2.2.2.2.1.toInt + 0).toNat
                exact wt_mu (by first | (rw [l26]; omega) | (rw [l26]; done) | omega) (by first | (rw [l26]; omega) | (rw [l26]; done) | omega)
          · skip
            have c128 := wt_nceq h83
            rw [wt_lm1] at c128
            unfold wp_md_letter_B96
            have bb129 := wt_tn r67.1
            have bb130 := wt_bd (wt_ga r13.2 121 (Int32.toNatClampNeg r67.1))
            have g131 : 0 ≤ (wt_ga r13.2 121 (Int32.toNatClampNeg r67.1)).toInt ∧ (wt_ga r13.2 121 (Int32.toNatClampNeg r67.1)).toInt ≤ 400 := wt_R_ga ri16 3 rfl 121 (by decide) (by decide) (Int32.toNatClampNeg r67.1)
            have tt132 : (wt_ga r13.2 121 (Int32.toNatClampNeg r67.1)).toInt = (wt_ga σ3 121 (Int32.toNatClampNeg r67.1)).toInt := congrArg Int32.toInt (f15.2 121 (fun z => z) (Int32.toNatClampNeg r67.1))
            have bb133 := wt_bd (wt_ga σ3 121 (Int32.toNatClampNeg r67.1))
            have g134 : 0 ≤ (wt_ga σ3 121 (Int32.toNatClampNeg r67.1)).toInt ∧ (wt_ga σ3 121 (Int32.toNatClampNeg r67.1)).toInt ≤ 400 := wt_R_ga rσ3 3 rfl 121 (by decide) (by decide) (Int32.toNatClampNeg r67.1)
            have tt135 : (wt_ga σ3 121 (Int32.toNatClampNeg r67.1)).toInt = (wt_ga σ 121 (Int32.toNatClampNeg r67.1)).toInt := congrArg Int32.toInt (fσ3.2 121 (fun z => z) (Int32.toNatClampNeg r67.1))
            have bb136 := wt_bd (wt_ga σ 121 (Int32.toNatClampNeg r67.1))
            have g137 : 0 ≤ (wt_ga σ 121 (Int32.toNatClampNeg r67.1)).toInt ∧ (wt_ga σ 121 (Int32.toNatClampNeg r67.1)).toInt ≤ 400 := wt_R_ga r0 3 rfl 121 (by decide) (by decide) (Int32.toNatClampNeg r67.1)
            have bb138 := wt_bd z24.2.2.1
            refine wt_T_if (fun h139 => ?_) (fun h139 => ?_)
            · skip
              have c140 := wt_cle h139
              unfold wp_md_letter_B119
              refine wt_T_if (fun h141 => ?_) (fun h141 => ?_)
              · skip
                have c142 := wt_ceq h141
                unfold wp_md_letter_B133
                have bb143 := wt_bd z24.1
                obtain ⟨j144, j144a, j144b⟩ := wt_addI z24.1 (0 : Int32)
                have bb145 := wt_bd z24.2.1
                obtain ⟨j146, j146a, j146b⟩ := wt_addI z24.2.1 (wt_ga r13.2 121 (Int32.toNatClampNeg r67.1))
                have bb147 := wt_bd z24.2.2.2.1
                obtain ⟨j148, j148a, j148b⟩ := wt_addI z24.2.2.2.1 (1 : Int32)
                refine hKK23 _ ⟨rfl, (wt_nn (B := wt_ga z24.2.2.2.2.2 111 (Int32.toNatClampNeg x1)) (by omega) (by first | (rw [l26]; omega) | (rw [l26]; done) | omega))⟩ ?_
                show ((wt_ga r13.2 111 (Int32.toNatClampNeg x1)).toInt - (z24.2.2.2.2.1 + (1 : Int32)).toInt + 0).toNat < ((wt_ga z24.2.2.2.2.2 111 (Int32.toNatClampNeg x1)).toInt - z24.2.2.2.2.1.toInt + 0).toNat
                exact wt_mu (by first | (rw [l26]; omega) | (rw [l26]; done) | omega) (by first | (rw [l26]; omega) | (rw [l26]; done) | omega)
              · skip
                have c149 := wt_nceq h141
                unfold wp_md_letter_B133
                have bb150 := wt_bd z24.1
                obtain ⟨j151, j151a, j151b⟩ := wt_addI z24.1 (0 : Int32)
                have bb152 := wt_bd z24.2.1
                obtain ⟨j153, j153a, j153b⟩ := wt_addI z24.2.1 (wt_ga r13.2 121 (Int32.toNatClampNeg r67.1))
                have bb154 := wt_bd z24.2.2.2.1
                obtain ⟨j155, j155a, j155b⟩ := wt_addI z24.2.2.2.1 (0 : Int32)
                refine hKK23 _ ⟨rfl, (wt_nn (B := wt_ga z24.2.2.2.2.2 111 (Int32.toNatClampNeg x1)) (by omega) (by first | (rw [l26]; omega) | (rw [l26]; done) | omega))⟩ ?_
                show ((wt_ga r13.2 111 (Int32.toNatClampNeg x1)).toInt - (z24.2.2.2.2.1 + (1 : Int32)).toInt + 0).toNat < ((wt_ga z24.2.2.2.2.2 111 (Int32.toNatClampNeg x1)).toInt - z24.2.2.2.2.1.toInt + 0).toNat
                exact wt_mu (by first | (rw [l26]; omega) | (rw [l26]; done) | omega) (by first | (rw [l26]; omega) | (rw [l26]; done) | omega)
            · skip
              have c156 := wt_ncle h139
              unfold wp_md_letter_B119
              refine wt_T_if (fun h157 => ?_) (fun h157 => ?_)
              · skip
                have c158 := wt_ceq h157
                unfold wp_md_letter_B133
                have bb159 := wt_bd z24.1
                obtain ⟨j160, j160a, j160b⟩ := wt_addI z24.1 (0 : Int32)
                have bb161 := wt_bd z24.2.1
                obtain ⟨j162, j162a, j162b⟩ := wt_addI z24.2.1 (wt_ga r13.2 121 (Int32.toNatClampNeg r67.1))
                have bb163 := wt_bd z24.2.2.2.1
                obtain ⟨j164, j164a, j164b⟩ := wt_addI z24.2.2.2.1 (1 : Int32)
                refine hKK23 _ ⟨rfl, (wt_nn (B := wt_ga z24.2.2.2.2.2 111 (Int32.toNatClampNeg x1)) (by omega) (by first | (rw [l26]; omega) | (rw [l26]; done) | omega))⟩ ?_
                show ((wt_ga r13.2 111 (Int32.toNatClampNeg x1)).toInt - (z24.2.2.2.2.1 + (1 : Int32)).toInt + 0).toNat < ((wt_ga z24.2.2.2.2.2 111 (Int32.toNatClampNeg x1)).toInt - z24.2.2.2.2.1.toInt + 0).toNat
                exact wt_mu (by first | (rw [l26]; omega) | (rw [l26]; done) | omega) (by first | (rw [l26]; omega) | (rw [l26]; done) | omega)
              · skip
                have c165 := wt_nceq h157
                unfold wp_md_letter_B133
                have bb166 := wt_bd z24.1
                obtain ⟨j167, j167a, j167b⟩ := wt_addI z24.1 (0 : Int32)
                have bb168 := wt_bd z24.2.1
                obtain ⟨j169, j169a, j169b⟩ := wt_addI z24.2.1 (wt_ga r13.2 121 (Int32.toNatClampNeg r67.1))
                have bb170 := wt_bd z24.2.2.2.1
                obtain ⟨j171, j171a, j171b⟩ := wt_addI z24.2.2.2.1 (0 : Int32)
                refine hKK23 _ ⟨rfl, (wt_nn (B := wt_ga z24.2.2.2.2.2 111 (Int32.toNatClampNeg x1)) (by omega) (by first | (rw [l26]; omega) | (rw [l26]; done) | omega))⟩ ?_
                show ((wt_ga r13.2 111 (Int32.toNatClampNeg x1)).toInt - (z24.2.2.2.2.1 + (1 : Int32)).toInt + 0).toNat < ((wt_ga z24.2.2.2.2.2 111 (Int32.toNatClampNeg x1)).toInt - z24.2.2.2.2.1.toInt + 0).toNat
                exact wt_mu (by first | (rw [l26]; omega) | (rw [l26]; done) | omega) (by first | (rw [l26]; omega) | (rw [l26]; done) | omega)
      · skip
        have bb172 := wt_tn x1
        have bb173 := wt_bd (wt_ga r13.2 111 (Int32.toNatClampNeg x1))
        have g174 : 0 ≤ (wt_ga r13.2 111 (Int32.toNatClampNeg x1)).toInt ∧ (wt_ga r13.2 111 (Int32.toNatClampNeg x1)).toInt ≤ 13 := wt_R_ga ri16 1 rfl 111 (by decide) (by decide) (Int32.toNatClampNeg x1)
        have tt175 : (wt_ga r13.2 111 (Int32.toNatClampNeg x1)).toInt = (wt_ga σ3 111 (Int32.toNatClampNeg x1)).toInt := congrArg Int32.toInt (f15.2 111 (fun z => z) (Int32.toNatClampNeg x1))
        have bb176 := wt_bd (wt_ga σ3 111 (Int32.toNatClampNeg x1))
        have g177 : 0 ≤ (wt_ga σ3 111 (Int32.toNatClampNeg x1)).toInt ∧ (wt_ga σ3 111 (Int32.toNatClampNeg x1)).toInt ≤ 13 := wt_R_ga rσ3 1 rfl 111 (by decide) (by decide) (Int32.toNatClampNeg x1)
        have tt178 : (wt_ga σ3 111 (Int32.toNatClampNeg x1)).toInt = (wt_ga σ 111 (Int32.toNatClampNeg x1)).toInt := congrArg Int32.toInt (fσ3.2 111 (fun z => z) (Int32.toNatClampNeg x1))
        have bb179 := wt_bd (wt_ga σ 111 (Int32.toNatClampNeg x1))
        have g180 : 0 ≤ (wt_ga σ 111 (Int32.toNatClampNeg x1)).toInt ∧ (wt_ga σ 111 (Int32.toNatClampNeg x1)).toInt ≤ 13 := wt_R_ga r0 1 rfl 111 (by decide) (by decide) (Int32.toNatClampNeg x1)
        exact ⟨rfl, (show 0 ≤ ((0 : Int32)).toInt by omega)⟩
      · skip
        have bb181 := wt_tn x1
        have bb182 := wt_bd (wt_ga r13.2 111 (Int32.toNatClampNeg x1))
        have g183 : 0 ≤ (wt_ga r13.2 111 (Int32.toNatClampNeg x1)).toInt ∧ (wt_ga r13.2 111 (Int32.toNatClampNeg x1)).toInt ≤ 13 := wt_R_ga ri16 1 rfl 111 (by decide) (by decide) (Int32.toNatClampNeg x1)
        have tt184 : (wt_ga r13.2 111 (Int32.toNatClampNeg x1)).toInt = (wt_ga σ3 111 (Int32.toNatClampNeg x1)).toInt := congrArg Int32.toInt (f15.2 111 (fun z => z) (Int32.toNatClampNeg x1))
        have bb185 := wt_bd (wt_ga σ3 111 (Int32.toNatClampNeg x1))
        have g186 : 0 ≤ (wt_ga σ3 111 (Int32.toNatClampNeg x1)).toInt ∧ (wt_ga σ3 111 (Int32.toNatClampNeg x1)).toInt ≤ 13 := wt_R_ga rσ3 1 rfl 111 (by decide) (by decide) (Int32.toNatClampNeg x1)
        have tt187 : (wt_ga σ3 111 (Int32.toNatClampNeg x1)).toInt = (wt_ga σ 111 (Int32.toNatClampNeg x1)).toInt := congrArg Int32.toInt (fσ3.2 111 (fun z => z) (Int32.toNatClampNeg x1))
        have bb188 := wt_bd (wt_ga σ 111 (Int32.toNatClampNeg x1))
        have g189 : 0 ≤ (wt_ga σ 111 (Int32.toNatClampNeg x1)).toInt ∧ (wt_ga σ 111 (Int32.toNatClampNeg x1)).toInt ≤ 13 := wt_R_ga r0 1 rfl 111 (by decide) (by decide) (Int32.toNatClampNeg x1)
        show ((wt_ga r13.2 111 (Int32.toNatClampNeg x1)).toInt - (0 : Int32).toInt + 0).toNat < n
        omega
    · skip
      have c190 := wt_nceq h21
      refine wt_T_some ?_
      exact ⟨(wt_fr.tr (wt_fr.tr wt_fr.rf fσ3 (fun i k h => by (try dsimp only at h); exact (by omega)) (fun i h => h.elim)) f15 (fun i k h => by (try dsimp only at h); exact (by omega)) (fun i h => h.elim)), ri16⟩
  · skip
    have c191 := wt_nceq h10
    have k192 : (7 : Int32).toInt = 7 := by decide
    refine wt_T_bi (wq_md_in n hn x2 (0 : Int32) (7 : Int32) σ3 rσ3) (fun r193 h194 => ?_)
    obtain ⟨e195, pp196⟩ := h194
    have bb197 := wt_bd r193.1
    rw [e195]
    refine wt_T_if (fun h198 => ?_) (fun h198 => ?_)
    · skip
      have c199 := wt_ceq h198
      unfold wp_md_letter_B23
      unfold wp_md_letter_B28
      have k200 : (1 : Int32).toInt = 1 := by decide
      refine wt_T_bi (wq_md_bad n hn (1 : Int32) (1 : Int32) σ3 rσ3 (by omega)) (fun r201 h202 => ?_)
      obtain ⟨f203, ri204, pp205⟩ := h202
      have bb206 := wt_bd r201.1
      have bb207 := wt_bd (wt_gf r201.2 108 0)
      have bb208 := wt_bd (wt_gf σ3 108 0)
      refine wt_T_if (fun h209 => ?_) (fun h209 => ?_)
      · skip
        have c210 := wt_ceq h209
        refine wt_T_it (fun s : Int32 × Int32 × Int32 × Int32 × Int32 × wt_St => s.2.2.2.2.2 = r201.2 ∧ 0 ≤ (s.2.2.2.2.1).toInt) (fun s : Int32 × Int32 × Int32 × Int32 × Int32 × wt_St => ((wt_ga s.2.2.2.2.2 111 (Int32.toNatClampNeg x1)).toInt - s.2.2.2.2.1.toInt + 0).toNat) (fun KK211 z212 I213 hKK211 => ?_) _ _ ?_ ?_
        · skip
          obtain ⟨l214, l215⟩ := I213
          unfold wp_md_letter_B51
          rw [l214]
          have bb216 := wt_tn x1
          have bb217 := wt_bd (wt_ga r201.2 111 (Int32.toNatClampNeg x1))
          have g218 : 0 ≤ (wt_ga r201.2 111 (Int32.toNatClampNeg x1)).toInt ∧ (wt_ga r201.2 111 (Int32.toNatClampNeg x1)).toInt ≤ 13 := wt_R_ga ri204 1 rfl 111 (by decide) (by decide) (Int32.toNatClampNeg x1)
          have tt219 : (wt_ga r201.2 111 (Int32.toNatClampNeg x1)).toInt = (wt_ga σ3 111 (Int32.toNatClampNeg x1)).toInt := congrArg Int32.toInt (f203.2 111 (fun z => z) (Int32.toNatClampNeg x1))
          have bb220 := wt_bd (wt_ga σ3 111 (Int32.toNatClampNeg x1))
          have g221 : 0 ≤ (wt_ga σ3 111 (Int32.toNatClampNeg x1)).toInt ∧ (wt_ga σ3 111 (Int32.toNatClampNeg x1)).toInt ≤ 13 := wt_R_ga rσ3 1 rfl 111 (by decide) (by decide) (Int32.toNatClampNeg x1)
          have tt222 : (wt_ga σ3 111 (Int32.toNatClampNeg x1)).toInt = (wt_ga σ 111 (Int32.toNatClampNeg x1)).toInt := congrArg Int32.toInt (fσ3.2 111 (fun z => z) (Int32.toNatClampNeg x1))
          have bb223 := wt_bd (wt_ga σ 111 (Int32.toNatClampNeg x1))
          have g224 : 0 ≤ (wt_ga σ 111 (Int32.toNatClampNeg x1)).toInt ∧ (wt_ga σ 111 (Int32.toNatClampNeg x1)).toInt ≤ 13 := wt_R_ga r0 1 rfl 111 (by decide) (by decide) (Int32.toNatClampNeg x1)
          have bb225 := wt_bd z212.2.2.2.2.1
          refine wt_T_gd (wt_ix (by omega) (by omega)) ?_
          refine wt_T_if (fun h226 => ?_) (fun h226 => ?_)
          · skip
            have c227 := wt_cle h226
            refine wt_T_if (fun h228 => ?_) (fun h228 => ?_)
            · skip
              have c229 := wt_ceq h228
              refine wt_T_gd (wt_ix (by omega) (by omega)) ?_
              refine wt_T_some ?_
              exact ⟨(wt_fr.tr (wt_fr.tr wt_fr.rf fσ3 (fun i k h => by (try dsimp only at h); exact (by omega)) (fun i h => h.elim)) f203 (fun i k h => by (try dsimp only at h); exact (by omega)) (fun i h => h.elim)), ri204⟩
            · skip
              have c230 := wt_nceq h228
              refine wt_T_if (fun h231 => ?_) (fun h231 => ?_)
              · skip
                have c232 := wt_ceq h231
                refine wt_T_some ?_
                exact ⟨(wt_fr.tr (wt_fr.tr wt_fr.rf fσ3 (fun i k h => by (try dsimp only at h); exact (by omega)) (fun i h => h.elim)) f203 (fun i k h => by (try dsimp only at h); exact (by omega)) (fun i h => h.elim)), ri204⟩
              · skip
                have c233 := wt_nceq h231
                have k234 : (2 : Int32).toInt = 2 := by decide
                refine wt_T_if (fun h235 => ?_) (fun h235 => ?_)
                · skip
                  have c236 := wt_ceq h235
                  refine wt_T_some ?_
                  exact ⟨(wt_fr.tr (wt_fr.tr wt_fr.rf fσ3 (fun i k h => by (try dsimp only at h); exact (by omega)) (fun i h => h.elim)) f203 (fun i k h => by (try dsimp only at h); exact (by omega)) (fun i h => h.elim)), ri204⟩
                · skip
                  have c237 := wt_nceq h235
                  have k238 : (3 : Int32).toInt = 3 := by decide
                  refine wt_T_if (fun h239 => ?_) (fun h239 => ?_)
                  · skip
                    have c240 := wt_ceq h239
                    refine wt_T_some ?_
                    exact ⟨(wt_fr.tr (wt_fr.tr wt_fr.rf fσ3 (fun i k h => by (try dsimp only at h); exact (by omega)) (fun i h => h.elim)) f203 (fun i k h => by (try dsimp only at h); exact (by omega)) (fun i h => h.elim)), ri204⟩
                  · skip
                    have c241 := wt_nceq h239
                    have k242 : (4 : Int32).toInt = 4 := by decide
                    refine wt_T_if (fun h243 => ?_) (fun h243 => ?_)
                    · skip
                      have c244 := wt_ceq h243
                      refine wt_T_some ?_
                      exact ⟨(wt_fr.tr (wt_fr.tr wt_fr.rf fσ3 (fun i k h => by (try dsimp only at h); exact (by omega)) (fun i h => h.elim)) f203 (fun i k h => by (try dsimp only at h); exact (by omega)) (fun i h => h.elim)), ri204⟩
                    · skip
                      have c245 := wt_nceq h243
                      have k246 : (5 : Int32).toInt = 5 := by decide
                      refine wt_T_if (fun h247 => ?_) (fun h247 => ?_)
                      · skip
                        have c248 := wt_ceq h247
                        refine wt_T_gd (wt_ix (by omega) (by omega)) ?_
                        refine wt_T_some ?_
                        exact ⟨(wt_fr.tr (wt_fr.tr wt_fr.rf fσ3 (fun i k h => by (try dsimp only at h); exact (by omega)) (fun i h => h.elim)) f203 (fun i k h => by (try dsimp only at h); exact (by omega)) (fun i h => h.elim)), ri204⟩
                      · skip
                        have c249 := wt_nceq h247
                        have k250 : (6 : Int32).toInt = 6 := by decide
                        refine wt_T_if (fun h251 => ?_) (fun h251 => ?_)
                        · skip
                          have c252 := wt_ceq h251
                          refine wt_T_gd (wt_ix (by omega) (by omega)) ?_
                          refine wt_T_some ?_
                          exact ⟨(wt_fr.tr (wt_fr.tr wt_fr.rf fσ3 (fun i k h => by (try dsimp only at h); exact (by omega)) (fun i h => h.elim)) f203 (fun i k h => by (try dsimp only at h); exact (by omega)) (fun i h => h.elim)), ri204⟩
                        · skip
                          have c253 := wt_nceq h251
                          refine wt_T_gd (wt_ix (by omega) (by omega)) ?_
                          refine wt_T_some ?_
                          exact ⟨(wt_fr.tr (wt_fr.tr wt_fr.rf fσ3 (fun i k h => by (try dsimp only at h); exact (by omega)) (fun i h => h.elim)) f203 (fun i k h => by (try dsimp only at h); exact (by omega)) (fun i h => h.elim)), ri204⟩
          · skip
            have c254 := wt_ncle h226
            refine wt_T_bi (wq_md_cell n hn x1 z212.2.2.2.2.1 r201.2 ri204 (by omega) (by omega) (by omega) (by omega)) (fun r255 h256 => ?_)
            obtain ⟨e257, pp258⟩ := h256
            have bb259 := wt_bd r255.1
            rw [e257]
            refine wt_T_gd (wt_ix (by omega) (by omega)) ?_
            refine wt_T_bi (wq_md_cell n hn x1 z212.2.2.2.2.1 r201.2 ri204 (by omega) (by omega) (by omega) (by omega)) (fun r260 h261 => ?_)
            obtain ⟨e262, pp263⟩ := h261
            have bb264 := wt_bd r260.1
            rw [e262]
            refine wt_T_gd (wt_ix (by omega) (by omega)) ?_
            have bb265 := wt_tn r260.1
            have bb266 := wt_bd (wt_ga r201.2 124 (Int32.toNatClampNeg r260.1))
            have tt267 : (wt_ga r201.2 124 (Int32.toNatClampNeg r260.1)).toInt = (wt_ga σ3 124 (Int32.toNatClampNeg r260.1)).toInt := congrArg Int32.toInt (f203.2 124 (fun z => z) (Int32.toNatClampNeg r260.1))
            have bb268 := wt_bd (wt_ga σ3 124 (Int32.toNatClampNeg r260.1))
            have tt269 : (wt_ga σ3 124 (Int32.toNatClampNeg r260.1)).toInt = (wt_ga σ 124 (Int32.toNatClampNeg r260.1)).toInt := congrArg Int32.toInt (fσ3.2 124 (fun z => z) (Int32.toNatClampNeg r260.1))
            have bb270 := wt_bd (wt_ga σ 124 (Int32.toNatClampNeg r260.1))
            refine wt_T_if (fun h271 => ?_) (fun h271 => ?_)
            · skip
              have c272 := wt_ceq h271
              rw [wt_lm1] at c272
              unfold wp_md_letter_B96
              have bb273 := wt_tn r255.1
              have bb274 := wt_bd (wt_ga r201.2 121 (Int32.toNatClampNeg r255.1))
              have g275 : 0 ≤ (wt_ga r201.2 121 (Int32.toNatClampNeg r255.1)).toInt ∧ (wt_ga r201.2 121 (Int32.toNatClampNeg r255.1)).toInt ≤ 400 := wt_R_ga ri204 3 rfl 121 (by decide) (by decide) (Int32.toNatClampNeg r255.1)
              have tt276 : (wt_ga r201.2 121 (Int32.toNatClampNeg r255.1)).toInt = (wt_ga σ3 121 (Int32.toNatClampNeg r255.1)).toInt := congrArg Int32.toInt (f203.2 121 (fun z => z) (Int32.toNatClampNeg r255.1))
              have bb277 := wt_bd (wt_ga σ3 121 (Int32.toNatClampNeg r255.1))
              have g278 : 0 ≤ (wt_ga σ3 121 (Int32.toNatClampNeg r255.1)).toInt ∧ (wt_ga σ3 121 (Int32.toNatClampNeg r255.1)).toInt ≤ 400 := wt_R_ga rσ3 3 rfl 121 (by decide) (by decide) (Int32.toNatClampNeg r255.1)
              have tt279 : (wt_ga σ3 121 (Int32.toNatClampNeg r255.1)).toInt = (wt_ga σ 121 (Int32.toNatClampNeg r255.1)).toInt := congrArg Int32.toInt (fσ3.2 121 (fun z => z) (Int32.toNatClampNeg r255.1))
              have bb280 := wt_bd (wt_ga σ 121 (Int32.toNatClampNeg r255.1))
              have g281 : 0 ≤ (wt_ga σ 121 (Int32.toNatClampNeg r255.1)).toInt ∧ (wt_ga σ 121 (Int32.toNatClampNeg r255.1)).toInt ≤ 400 := wt_R_ga r0 3 rfl 121 (by decide) (by decide) (Int32.toNatClampNeg r255.1)
              have bb282 := wt_bd z212.2.2.1
              refine wt_T_if (fun h283 => ?_) (fun h283 => ?_)
              · skip
                have c284 := wt_cle h283
                unfold wp_md_letter_B119
                refine wt_T_if (fun h285 => ?_) (fun h285 => ?_)
                · skip
                  have c286 := wt_ceq h285
                  unfold wp_md_letter_B133
                  have bb287 := wt_bd z212.1
                  obtain ⟨j288, j288a, j288b⟩ := wt_addI z212.1 (1 : Int32)
                  have bb289 := wt_bd z212.2.1
                  obtain ⟨j290, j290a, j290b⟩ := wt_addI z212.2.1 (wt_ga r201.2 121 (Int32.toNatClampNeg r255.1))
                  have bb291 := wt_bd z212.2.2.2.1
                  obtain ⟨j292, j292a, j292b⟩ := wt_addI z212.2.2.2.1 (1 : Int32)
                  refine hKK211 _ ⟨rfl, (wt_nn (B := wt_ga z212.2.2.2.2.2 111 (Int32.toNatClampNeg x1)) (by omega) (by first | (rw [l214]; omega) | (rw [l214]; done) | omega))⟩ ?_
                  show ((wt_ga r201.2 111 (Int32.toNatClampNeg x1)).toInt - (z212.2.2.2.2.1 + (1 : Int32)).toInt + 0).toNat < ((wt_ga z212.2.2.2.2.2 111 (Int32.toNatClampNeg x1)).toInt - z212.2.2.2.2.1.toInt + 0).toNat
                  exact wt_mu (by first | (rw [l214]; omega) | (rw [l214]; done) | omega) (by first | (rw [l214]; omega) | (rw [l214]; done) | omega)
                · skip
                  have c293 := wt_nceq h285
                  unfold wp_md_letter_B133
                  have bb294 := wt_bd z212.1
                  obtain ⟨j295, j295a, j295b⟩ := wt_addI z212.1 (1 : Int32)
                  have bb296 := wt_bd z212.2.1
                  obtain ⟨j297, j297a, j297b⟩ := wt_addI z212.2.1 (wt_ga r201.2 121 (Int32.toNatClampNeg r255.1))
                  have bb298 := wt_bd z212.2.2.2.1
                  obtain ⟨j299, j299a, j299b⟩ := wt_addI z212.2.2.2.1 (0 : Int32)
                  refine hKK211 _ ⟨rfl, (wt_nn (B := wt_ga z212.2.2.2.2.2 111 (Int32.toNatClampNeg x1)) (by omega) (by first | (rw [l214]; omega) | (rw [l214]; done) | omega))⟩ ?_
                  show ((wt_ga r201.2 111 (Int32.toNatClampNeg x1)).toInt - (z212.2.2.2.2.1 + (1 : Int32)).toInt + 0).toNat < ((wt_ga z212.2.2.2.2.2 111 (Int32.toNatClampNeg x1)).toInt - z212.2.2.2.2.1.toInt + 0).toNat
                  exact wt_mu (by first | (rw [l214]; omega) | (rw [l214]; done) | omega) (by first | (rw [l214]; omega) | (rw [l214]; done) | omega)
              · skip
                have c300 := wt_ncle h283
                unfold wp_md_letter_B119
                refine wt_T_if (fun h301 => ?_) (fun h301 => ?_)
                · skip
                  have c302 := wt_ceq h301
                  unfold wp_md_letter_B133
                  have bb303 := wt_bd z212.1
                  obtain ⟨j304, j304a, j304b⟩ := wt_addI z212.1 (1 : Int32)
                  have bb305 := wt_bd z212.2.1
                  obtain ⟨j306, j306a, j306b⟩ := wt_addI z212.2.1 (wt_ga r201.2 121 (Int32.toNatClampNeg r255.1))
                  have bb307 := wt_bd z212.2.2.2.1
                  obtain ⟨j308, j308a, j308b⟩ := wt_addI z212.2.2.2.1 (1 : Int32)
                  refine hKK211 _ ⟨rfl, (wt_nn (B := wt_ga z212.2.2.2.2.2 111 (Int32.toNatClampNeg x1)) (by omega) (by first | (rw [l214]; omega) | (rw [l214]; done) | omega))⟩ ?_
                  show ((wt_ga r201.2 111 (Int32.toNatClampNeg x1)).toInt - (z212.2.2.2.2.1 + (1 : Int32)).toInt + 0).toNat < ((wt_ga z212.2.2.2.2.2 111 (Int32.toNatClampNeg x1)).toInt - z212.2.2.2.2.1.toInt + 0).toNat
                  exact wt_mu (by first | (rw [l214]; omega) | (rw [l214]; done) | omega) (by first | (rw [l214]; omega) | (rw [l214]; done) | omega)
                · skip
                  have c309 := wt_nceq h301
                  unfold wp_md_letter_B133
                  have bb310 := wt_bd z212.1
                  obtain ⟨j311, j311a, j311b⟩ := wt_addI z212.1 (1 : Int32)
                  have bb312 := wt_bd z212.2.1
                  obtain ⟨j313, j313a, j313b⟩ := wt_addI z212.2.1 (wt_ga r201.2 121 (Int32.toNatClampNeg r255.1))
                  have bb314 := wt_bd z212.2.2.2.1
                  obtain ⟨j315, j315a, j315b⟩ := wt_addI z212.2.2.2.1 (0 : Int32)
                  refine hKK211 _ ⟨rfl, (wt_nn (B := wt_ga z212.2.2.2.2.2 111 (Int32.toNatClampNeg x1)) (by omega) (by first | (rw [l214]; omega) | (rw [l214]; done) | omega))⟩ ?_
                  show ((wt_ga r201.2 111 (Int32.toNatClampNeg x1)).toInt - (z212.2.2.2.2.1 + (1 : Int32)).toInt + 0).toNat < ((wt_ga z212.2.2.2.2.2 111 (Int32.toNatClampNeg x1)).toInt - z212.2.2.2.2.1.toInt + 0).toNat
                  exact wt_mu (by first | (rw [l214]; omega) | (rw [l214]; done) | omega) (by first | (rw [l214]; omega) | (rw [l214]; done) | omega)
            · skip
              have c316 := wt_nceq h271
              rw [wt_lm1] at c316
              unfold wp_md_letter_B96
              have bb317 := wt_tn r255.1
              have bb318 := wt_bd (wt_ga r201.2 121 (Int32.toNatClampNeg r255.1))
              have g319 : 0 ≤ (wt_ga r201.2 121 (Int32.toNatClampNeg r255.1)).toInt ∧ (wt_ga r201.2 121 (Int32.toNatClampNeg r255.1)).toInt ≤ 400 := wt_R_ga ri204 3 rfl 121 (by decide) (by decide) (Int32.toNatClampNeg r255.1)
              have tt320 : (wt_ga r201.2 121 (Int32.toNatClampNeg r255.1)).toInt = (wt_ga σ3 121 (Int32.toNatClampNeg r255.1)).toInt := congrArg Int32.toInt (f203.2 121 (fun z => z) (Int32.toNatClampNeg r255.1))
              have bb321 := wt_bd (wt_ga σ3 121 (Int32.toNatClampNeg r255.1))
              have g322 : 0 ≤ (wt_ga σ3 121 (Int32.toNatClampNeg r255.1)).toInt ∧ (wt_ga σ3 121 (Int32.toNatClampNeg r255.1)).toInt ≤ 400 := wt_R_ga rσ3 3 rfl 121 (by decide) (by decide) (Int32.toNatClampNeg r255.1)
              have tt323 : (wt_ga σ3 121 (Int32.toNatClampNeg r255.1)).toInt = (wt_ga σ 121 (Int32.toNatClampNeg r255.1)).toInt := congrArg Int32.toInt (fσ3.2 121 (fun z => z) (Int32.toNatClampNeg r255.1))
              have bb324 := wt_bd (wt_ga σ 121 (Int32.toNatClampNeg r255.1))
              have g325 : 0 ≤ (wt_ga σ 121 (Int32.toNatClampNeg r255.1)).toInt ∧ (wt_ga σ 121 (Int32.toNatClampNeg r255.1)).toInt ≤ 400 := wt_R_ga r0 3 rfl 121 (by decide) (by decide) (Int32.toNatClampNeg r255.1)
              have bb326 := wt_bd z212.2.2.1
              refine wt_T_if (fun h327 => ?_) (fun h327 => ?_)
              · skip
                have c328 := wt_cle h327
                unfold wp_md_letter_B119
                refine wt_T_if (fun h329 => ?_) (fun h329 => ?_)
                · skip
                  have c330 := wt_ceq h329
                  unfold wp_md_letter_B133
                  have bb331 := wt_bd z212.1
                  obtain ⟨j332, j332a, j332b⟩ := wt_addI z212.1 (0 : Int32)
                  have bb333 := wt_bd z212.2.1
                  obtain ⟨j334, j334a, j334b⟩ := wt_addI z212.2.1 (wt_ga r201.2 121 (Int32.toNatClampNeg r255.1))
                  have bb335 := wt_bd z212.2.2.2.1
                  obtain ⟨j336, j336a, j336b⟩ := wt_addI z212.2.2.2.1 (1 : Int32)
                  refine hKK211 _ ⟨rfl, (wt_nn (B := wt_ga z212.2.2.2.2.2 111 (Int32.toNatClampNeg x1)) (by omega) (by first | (rw [l214]; omega) | (rw [l214]; done) | omega))⟩ ?_
                  show ((wt_ga r201.2 111 (Int32.toNatClampNeg x1)).toInt - (z212.2.2.2.2.1 + (1 : Int32)).toInt + 0).toNat < ((wt_ga z212.2.2.2.2.2 111 (Int32.toNatClampNeg x1)).toInt - z212.2.2.2.2.1.toInt + 0).toNat
                  exact wt_mu (by first | (rw [l214]; omega) | (rw [l214]; done) | omega) (by first | (rw [l214]; omega) | (rw [l214]; done) | omega)
                · skip
                  have c337 := wt_nceq h329
                  unfold wp_md_letter_B133
                  have bb338 := wt_bd z212.1
                  obtain ⟨j339, j339a, j339b⟩ := wt_addI z212.1 (0 : Int32)
                  have bb340 := wt_bd z212.2.1
                  obtain ⟨j341, j341a, j341b⟩ := wt_addI z212.2.1 (wt_ga r201.2 121 (Int32.toNatClampNeg r255.1))
                  have bb342 := wt_bd z212.2.2.2.1
                  obtain ⟨j343, j343a, j343b⟩ := wt_addI z212.2.2.2.1 (0 : Int32)
                  refine hKK211 _ ⟨rfl, (wt_nn (B := wt_ga z212.2.2.2.2.2 111 (Int32.toNatClampNeg x1)) (by omega) (by first | (rw [l214]; omega) | (rw [l214]; done) | omega))⟩ ?_
                  show ((wt_ga r201.2 111 (Int32.toNatClampNeg x1)).toInt - (z212.2.2.2.2.1 + (1 : Int32)).toInt + 0).toNat < ((wt_ga z212.2.2.2.2.2 111 (Int32.toNatClampNeg x1)).toInt - z212.2.2.2.2.1.toInt + 0).toNat
                  exact wt_mu (by first | (rw [l214]; omega) | (rw [l214]; done) | omega) (by first | (rw [l214]; omega) | (rw [l214]; done) | omega)
              · skip
                have c344 := wt_ncle h327
                unfold wp_md_letter_B119
                refine wt_T_if (fun h345 => ?_) (fun h345 => ?_)
                · skip
                  have c346 := wt_ceq h345
                  unfold wp_md_letter_B133
                  have bb347 := wt_bd z212.1
                  obtain ⟨j348, j348a, j348b⟩ := wt_addI z212.1 (0 : Int32)
                  have bb349 := wt_bd z212.2.1
                  obtain ⟨j350, j350a, j350b⟩ := wt_addI z212.2.1 (wt_ga r201.2 121 (Int32.toNatClampNeg r255.1))
                  have bb351 := wt_bd z212.2.2.2.1
                  obtain ⟨j352, j352a, j352b⟩ := wt_addI z212.2.2.2.1 (1 : Int32)
                  refine hKK211 _ ⟨rfl, (wt_nn (B := wt_ga z212.2.2.2.2.2 111 (Int32.toNatClampNeg x1)) (by omega) (by first | (rw [l214]; omega) | (rw [l214]; done) | omega))⟩ ?_
                  show ((wt_ga r201.2 111 (Int32.toNatClampNeg x1)).toInt - (z212.2.2.2.2.1 + (1 : Int32)).toInt + 0).toNat < ((wt_ga z212.2.2.2.2.2 111 (Int32.toNatClampNeg x1)).toInt - z212.2.2.2.2.1.toInt + 0).toNat
                  exact wt_mu (by first | (rw [l214]; omega) | (rw [l214]; done) | omega) (by first | (rw [l214]; omega) | (rw [l214]; done) | omega)
                · skip
                  have c353 := wt_nceq h345
                  unfold wp_md_letter_B133
                  have bb354 := wt_bd z212.1
                  obtain ⟨j355, j355a, j355b⟩ := wt_addI z212.1 (0 : Int32)
                  have bb356 := wt_bd z212.2.1
                  obtain ⟨j357, j357a, j357b⟩ := wt_addI z212.2.1 (wt_ga r201.2 121 (Int32.toNatClampNeg r255.1))
                  have bb358 := wt_bd z212.2.2.2.1
                  obtain ⟨j359, j359a, j359b⟩ := wt_addI z212.2.2.2.1 (0 : Int32)
                  refine hKK211 _ ⟨rfl, (wt_nn (B := wt_ga z212.2.2.2.2.2 111 (Int32.toNatClampNeg x1)) (by omega) (by first | (rw [l214]; omega) | (rw [l214]; done) | omega))⟩ ?_
                  show ((wt_ga r201.2 111 (Int32.toNatClampNeg x1)).toInt - (z212.2.2.2.2.1 + (1 : Int32)).toInt + 0).toNat < ((wt_ga z212.2.2.2.2.2 111 (Int32.toNatClampNeg x1)).toInt - z212.2.2.2.2.1.toInt + 0).toNat
                  exact wt_mu (by first | (rw [l214]; omega) | (rw [l214]; done) | omega) (by first | (rw [l214]; omega) | (rw [l214]; done) | omega)
        · skip
          have bb360 := wt_tn x1
          have bb361 := wt_bd (wt_ga r201.2 111 (Int32.toNatClampNeg x1))
          have g362 : 0 ≤ (wt_ga r201.2 111 (Int32.toNatClampNeg x1)).toInt ∧ (wt_ga r201.2 111 (Int32.toNatClampNeg x1)).toInt ≤ 13 := wt_R_ga ri204 1 rfl 111 (by decide) (by decide) (Int32.toNatClampNeg x1)
          have tt363 : (wt_ga r201.2 111 (Int32.toNatClampNeg x1)).toInt = (wt_ga σ3 111 (Int32.toNatClampNeg x1)).toInt := congrArg Int32.toInt (f203.2 111 (fun z => z) (Int32.toNatClampNeg x1))
          have bb364 := wt_bd (wt_ga σ3 111 (Int32.toNatClampNeg x1))
          have g365 : 0 ≤ (wt_ga σ3 111 (Int32.toNatClampNeg x1)).toInt ∧ (wt_ga σ3 111 (Int32.toNatClampNeg x1)).toInt ≤ 13 := wt_R_ga rσ3 1 rfl 111 (by decide) (by decide) (Int32.toNatClampNeg x1)
          have tt366 : (wt_ga σ3 111 (Int32.toNatClampNeg x1)).toInt = (wt_ga σ 111 (Int32.toNatClampNeg x1)).toInt := congrArg Int32.toInt (fσ3.2 111 (fun z => z) (Int32.toNatClampNeg x1))
          have bb367 := wt_bd (wt_ga σ 111 (Int32.toNatClampNeg x1))
          have g368 : 0 ≤ (wt_ga σ 111 (Int32.toNatClampNeg x1)).toInt ∧ (wt_ga σ 111 (Int32.toNatClampNeg x1)).toInt ≤ 13 := wt_R_ga r0 1 rfl 111 (by decide) (by decide) (Int32.toNatClampNeg x1)
          exact ⟨rfl, (show 0 ≤ ((0 : Int32)).toInt by omega)⟩
        · skip
          have bb369 := wt_tn x1
          have bb370 := wt_bd (wt_ga r201.2 111 (Int32.toNatClampNeg x1))
          have g371 : 0 ≤ (wt_ga r201.2 111 (Int32.toNatClampNeg x1)).toInt ∧ (wt_ga r201.2 111 (Int32.toNatClampNeg x1)).toInt ≤ 13 := wt_R_ga ri204 1 rfl 111 (by decide) (by decide) (Int32.toNatClampNeg x1)
          have tt372 : (wt_ga r201.2 111 (Int32.toNatClampNeg x1)).toInt = (wt_ga σ3 111 (Int32.toNatClampNeg x1)).toInt := congrArg Int32.toInt (f203.2 111 (fun z => z) (Int32.toNatClampNeg x1))
          have bb373 := wt_bd (wt_ga σ3 111 (Int32.toNatClampNeg x1))
          have g374 : 0 ≤ (wt_ga σ3 111 (Int32.toNatClampNeg x1)).toInt ∧ (wt_ga σ3 111 (Int32.toNatClampNeg x1)).toInt ≤ 13 := wt_R_ga rσ3 1 rfl 111 (by decide) (by decide) (Int32.toNatClampNeg x1)
          have tt375 : (wt_ga σ3 111 (Int32.toNatClampNeg x1)).toInt = (wt_ga σ 111 (Int32.toNatClampNeg x1)).toInt := congrArg Int32.toInt (fσ3.2 111 (fun z => z) (Int32.toNatClampNeg x1))
          have bb376 := wt_bd (wt_ga σ 111 (Int32.toNatClampNeg x1))
          have g377 : 0 ≤ (wt_ga σ 111 (Int32.toNatClampNeg x1)).toInt ∧ (wt_ga σ 111 (Int32.toNatClampNeg x1)).toInt ≤ 13 := wt_R_ga r0 1 rfl 111 (by decide) (by decide) (Int32.toNatClampNeg x1)
          show ((wt_ga r201.2 111 (Int32.toNatClampNeg x1)).toInt - (0 : Int32).toInt + 0).toNat < n
          omega
      · skip
        have c378 := wt_nceq h209
        refine wt_T_some ?_
        exact ⟨(wt_fr.tr (wt_fr.tr wt_fr.rf fσ3 (fun i k h => by (try dsimp only at h); exact (by omega)) (fun i h => h.elim)) f203 (fun i k h => by (try dsimp only at h); exact (by omega)) (fun i h => h.elim)), ri204⟩
    · skip
      have c379 := wt_nceq h198
      unfold wp_md_letter_B28
      have k380 : (1 : Int32).toInt = 1 := by decide
      refine wt_T_bi (wq_md_bad n hn (0 : Int32) (1 : Int32) σ3 rσ3 (by omega)) (fun r381 h382 => ?_)
      obtain ⟨f383, ri384, pp385⟩ := h382
      have bb386 := wt_bd r381.1
      have bb387 := wt_bd (wt_gf r381.2 108 0)
      have bb388 := wt_bd (wt_gf σ3 108 0)
      refine wt_T_if (fun h389 => ?_) (fun h389 => ?_)
      · skip
        have c390 := wt_ceq h389
        refine wt_T_it (fun s : Int32 × Int32 × Int32 × Int32 × Int32 × wt_St => s.2.2.2.2.2 = r381.2 ∧ 0 ≤ (s.2.2.2.2.1).toInt) (fun s : Int32 × Int32 × Int32 × Int32 × Int32 × wt_St => ((wt_ga s.2.2.2.2.2 111 (Int32.toNatClampNeg x1)).toInt - s.2.2.2.2.1.toInt + 0).toNat) (fun KK391 z392 I393 hKK391 => ?_) _ _ ?_ ?_
        · skip
          obtain ⟨l394, l395⟩ := I393
          unfold wp_md_letter_B51
          rw [l394]
          have bb396 := wt_tn x1
          have bb397 := wt_bd (wt_ga r381.2 111 (Int32.toNatClampNeg x1))
          have g398 : 0 ≤ (wt_ga r381.2 111 (Int32.toNatClampNeg x1)).toInt ∧ (wt_ga r381.2 111 (Int32.toNatClampNeg x1)).toInt ≤ 13 := wt_R_ga ri384 1 rfl 111 (by decide) (by decide) (Int32.toNatClampNeg x1)
          have tt399 : (wt_ga r381.2 111 (Int32.toNatClampNeg x1)).toInt = (wt_ga σ3 111 (Int32.toNatClampNeg x1)).toInt := congrArg Int32.toInt (f383.2 111 (fun z => z) (Int32.toNatClampNeg x1))
          have bb400 := wt_bd (wt_ga σ3 111 (Int32.toNatClampNeg x1))
          have g401 : 0 ≤ (wt_ga σ3 111 (Int32.toNatClampNeg x1)).toInt ∧ (wt_ga σ3 111 (Int32.toNatClampNeg x1)).toInt ≤ 13 := wt_R_ga rσ3 1 rfl 111 (by decide) (by decide) (Int32.toNatClampNeg x1)
          have tt402 : (wt_ga σ3 111 (Int32.toNatClampNeg x1)).toInt = (wt_ga σ 111 (Int32.toNatClampNeg x1)).toInt := congrArg Int32.toInt (fσ3.2 111 (fun z => z) (Int32.toNatClampNeg x1))
          have bb403 := wt_bd (wt_ga σ 111 (Int32.toNatClampNeg x1))
          have g404 : 0 ≤ (wt_ga σ 111 (Int32.toNatClampNeg x1)).toInt ∧ (wt_ga σ 111 (Int32.toNatClampNeg x1)).toInt ≤ 13 := wt_R_ga r0 1 rfl 111 (by decide) (by decide) (Int32.toNatClampNeg x1)
          have bb405 := wt_bd z392.2.2.2.2.1
          refine wt_T_gd (wt_ix (by omega) (by omega)) ?_
          refine wt_T_if (fun h406 => ?_) (fun h406 => ?_)
          · skip
            have c407 := wt_cle h406
            refine wt_T_if (fun h408 => ?_) (fun h408 => ?_)
            · skip
              have c409 := wt_ceq h408
              refine wt_T_gd (wt_ix (by omega) (by omega)) ?_
              refine wt_T_some ?_
              exact ⟨(wt_fr.tr (wt_fr.tr wt_fr.rf fσ3 (fun i k h => by (try dsimp only at h); exact (by omega)) (fun i h => h.elim)) f383 (fun i k h => by (try dsimp only at h); exact (by omega)) (fun i h => h.elim)), ri384⟩
            · skip
              have c410 := wt_nceq h408
              refine wt_T_if (fun h411 => ?_) (fun h411 => ?_)
              · skip
                have c412 := wt_ceq h411
                refine wt_T_some ?_
                exact ⟨(wt_fr.tr (wt_fr.tr wt_fr.rf fσ3 (fun i k h => by (try dsimp only at h); exact (by omega)) (fun i h => h.elim)) f383 (fun i k h => by (try dsimp only at h); exact (by omega)) (fun i h => h.elim)), ri384⟩
              · skip
                have c413 := wt_nceq h411
                have k414 : (2 : Int32).toInt = 2 := by decide
                refine wt_T_if (fun h415 => ?_) (fun h415 => ?_)
                · skip
                  have c416 := wt_ceq h415
                  refine wt_T_some ?_
                  exact ⟨(wt_fr.tr (wt_fr.tr wt_fr.rf fσ3 (fun i k h => by (try dsimp only at h); exact (by omega)) (fun i h => h.elim)) f383 (fun i k h => by (try dsimp only at h); exact (by omega)) (fun i h => h.elim)), ri384⟩
                · skip
                  have c417 := wt_nceq h415
                  have k418 : (3 : Int32).toInt = 3 := by decide
                  refine wt_T_if (fun h419 => ?_) (fun h419 => ?_)
                  · skip
                    have c420 := wt_ceq h419
                    refine wt_T_some ?_
                    exact ⟨(wt_fr.tr (wt_fr.tr wt_fr.rf fσ3 (fun i k h => by (try dsimp only at h); exact (by omega)) (fun i h => h.elim)) f383 (fun i k h => by (try dsimp only at h); exact (by omega)) (fun i h => h.elim)), ri384⟩
                  · skip
                    have c421 := wt_nceq h419
                    have k422 : (4 : Int32).toInt = 4 := by decide
                    refine wt_T_if (fun h423 => ?_) (fun h423 => ?_)
                    · skip
                      have c424 := wt_ceq h423
                      refine wt_T_some ?_
                      exact ⟨(wt_fr.tr (wt_fr.tr wt_fr.rf fσ3 (fun i k h => by (try dsimp only at h); exact (by omega)) (fun i h => h.elim)) f383 (fun i k h => by (try dsimp only at h); exact (by omega)) (fun i h => h.elim)), ri384⟩
                    · skip
                      have c425 := wt_nceq h423
                      have k426 : (5 : Int32).toInt = 5 := by decide
                      refine wt_T_if (fun h427 => ?_) (fun h427 => ?_)
                      · skip
                        have c428 := wt_ceq h427
                        refine wt_T_gd (wt_ix (by omega) (by omega)) ?_
                        refine wt_T_some ?_
                        exact ⟨(wt_fr.tr (wt_fr.tr wt_fr.rf fσ3 (fun i k h => by (try dsimp only at h); exact (by omega)) (fun i h => h.elim)) f383 (fun i k h => by (try dsimp only at h); exact (by omega)) (fun i h => h.elim)), ri384⟩
                      · skip
                        have c429 := wt_nceq h427
                        have k430 : (6 : Int32).toInt = 6 := by decide
                        refine wt_T_if (fun h431 => ?_) (fun h431 => ?_)
                        · skip
                          have c432 := wt_ceq h431
                          refine wt_T_gd (wt_ix (by omega) (by omega)) ?_
                          refine wt_T_some ?_
                          exact ⟨(wt_fr.tr (wt_fr.tr wt_fr.rf fσ3 (fun i k h => by (try dsimp only at h); exact (by omega)) (fun i h => h.elim)) f383 (fun i k h => by (try dsimp only at h); exact (by omega)) (fun i h => h.elim)), ri384⟩
                        · skip
                          have c433 := wt_nceq h431
                          refine wt_T_gd (wt_ix (by omega) (by omega)) ?_
                          refine wt_T_some ?_
                          exact ⟨(wt_fr.tr (wt_fr.tr wt_fr.rf fσ3 (fun i k h => by (try dsimp only at h); exact (by omega)) (fun i h => h.elim)) f383 (fun i k h => by (try dsimp only at h); exact (by omega)) (fun i h => h.elim)), ri384⟩
          · skip
            have c434 := wt_ncle h406
            refine wt_T_bi (wq_md_cell n hn x1 z392.2.2.2.2.1 r381.2 ri384 (by omega) (by omega) (by omega) (by omega)) (fun r435 h436 => ?_)
            obtain ⟨e437, pp438⟩ := h436
            have bb439 := wt_bd r435.1
            rw [e437]
            refine wt_T_gd (wt_ix (by omega) (by omega)) ?_
            refine wt_T_bi (wq_md_cell n hn x1 z392.2.2.2.2.1 r381.2 ri384 (by omega) (by omega) (by omega) (by omega)) (fun r440 h441 => ?_)
            obtain ⟨e442, pp443⟩ := h441
            have bb444 := wt_bd r440.1
            rw [e442]
            refine wt_T_gd (wt_ix (by omega) (by omega)) ?_
            have bb445 := wt_tn r440.1
            have bb446 := wt_bd (wt_ga r381.2 124 (Int32.toNatClampNeg r440.1))
            have tt447 : (wt_ga r381.2 124 (Int32.toNatClampNeg r440.1)).toInt = (wt_ga σ3 124 (Int32.toNatClampNeg r440.1)).toInt := congrArg Int32.toInt (f383.2 124 (fun z => z) (Int32.toNatClampNeg r440.1))
            have bb448 := wt_bd (wt_ga σ3 124 (Int32.toNatClampNeg r440.1))
            have tt449 : (wt_ga σ3 124 (Int32.toNatClampNeg r440.1)).toInt = (wt_ga σ 124 (Int32.toNatClampNeg r440.1)).toInt := congrArg Int32.toInt (fσ3.2 124 (fun z => z) (Int32.toNatClampNeg r440.1))
            have bb450 := wt_bd (wt_ga σ 124 (Int32.toNatClampNeg r440.1))
            refine wt_T_if (fun h451 => ?_) (fun h451 => ?_)
            · skip
              have c452 := wt_ceq h451
              rw [wt_lm1] at c452
              unfold wp_md_letter_B96
              have bb453 := wt_tn r435.1
              have bb454 := wt_bd (wt_ga r381.2 121 (Int32.toNatClampNeg r435.1))
              have g455 : 0 ≤ (wt_ga r381.2 121 (Int32.toNatClampNeg r435.1)).toInt ∧ (wt_ga r381.2 121 (Int32.toNatClampNeg r435.1)).toInt ≤ 400 := wt_R_ga ri384 3 rfl 121 (by decide) (by decide) (Int32.toNatClampNeg r435.1)
              have tt456 : (wt_ga r381.2 121 (Int32.toNatClampNeg r435.1)).toInt = (wt_ga σ3 121 (Int32.toNatClampNeg r435.1)).toInt := congrArg Int32.toInt (f383.2 121 (fun z => z) (Int32.toNatClampNeg r435.1))
              have bb457 := wt_bd (wt_ga σ3 121 (Int32.toNatClampNeg r435.1))
              have g458 : 0 ≤ (wt_ga σ3 121 (Int32.toNatClampNeg r435.1)).toInt ∧ (wt_ga σ3 121 (Int32.toNatClampNeg r435.1)).toInt ≤ 400 := wt_R_ga rσ3 3 rfl 121 (by decide) (by decide) (Int32.toNatClampNeg r435.1)
              have tt459 : (wt_ga σ3 121 (Int32.toNatClampNeg r435.1)).toInt = (wt_ga σ 121 (Int32.toNatClampNeg r435.1)).toInt := congrArg Int32.toInt (fσ3.2 121 (fun z => z) (Int32.toNatClampNeg r435.1))
              have bb460 := wt_bd (wt_ga σ 121 (Int32.toNatClampNeg r435.1))
              have g461 : 0 ≤ (wt_ga σ 121 (Int32.toNatClampNeg r435.1)).toInt ∧ (wt_ga σ 121 (Int32.toNatClampNeg r435.1)).toInt ≤ 400 := wt_R_ga r0 3 rfl 121 (by decide) (by decide) (Int32.toNatClampNeg r435.1)
              have bb462 := wt_bd z392.2.2.1
              refine wt_T_if (fun h463 => ?_) (fun h463 => ?_)
              · skip
                have c464 := wt_cle h463
                unfold wp_md_letter_B119
                refine wt_T_if (fun h465 => ?_) (fun h465 => ?_)
                · skip
                  have c466 := wt_ceq h465
                  unfold wp_md_letter_B133
                  have bb467 := wt_bd z392.1
                  obtain ⟨j468, j468a, j468b⟩ := wt_addI z392.1 (1 : Int32)
                  have bb469 := wt_bd z392.2.1
                  obtain ⟨j470, j470a, j470b⟩ := wt_addI z392.2.1 (wt_ga r381.2 121 (Int32.toNatClampNeg r435.1))
                  have bb471 := wt_bd z392.2.2.2.1
                  obtain ⟨j472, j472a, j472b⟩ := wt_addI z392.2.2.2.1 (1 : Int32)
                  refine hKK391 _ ⟨rfl, (wt_nn (B := wt_ga z392.2.2.2.2.2 111 (Int32.toNatClampNeg x1)) (by omega) (by first | (rw [l394]; omega) | (rw [l394]; done) | omega))⟩ ?_
                  show ((wt_ga r381.2 111 (Int32.toNatClampNeg x1)).toInt - (z392.2.2.2.2.1 + (1 : Int32)).toInt + 0).toNat < ((wt_ga z392.2.2.2.2.2 111 (Int32.toNatClampNeg x1)).toInt - z392.2.2.2.2.1.toInt + 0).toNat
                  exact wt_mu (by first | (rw [l394]; omega) | (rw [l394]; done) | omega) (by first | (rw [l394]; omega) | (rw [l394]; done) | omega)
                · skip
                  have c473 := wt_nceq h465
                  unfold wp_md_letter_B133
                  have bb474 := wt_bd z392.1
                  obtain ⟨j475, j475a, j475b⟩ := wt_addI z392.1 (1 : Int32)
                  have bb476 := wt_bd z392.2.1
                  obtain ⟨j477, j477a, j477b⟩ := wt_addI z392.2.1 (wt_ga r381.2 121 (Int32.toNatClampNeg r435.1))
                  have bb478 := wt_bd z392.2.2.2.1
                  obtain ⟨j479, j479a, j479b⟩ := wt_addI z392.2.2.2.1 (0 : Int32)
                  refine hKK391 _ ⟨rfl, (wt_nn (B := wt_ga z392.2.2.2.2.2 111 (Int32.toNatClampNeg x1)) (by omega) (by first | (rw [l394]; omega) | (rw [l394]; done) | omega))⟩ ?_
                  show ((wt_ga r381.2 111 (Int32.toNatClampNeg x1)).toInt - (z392.2.2.2.2.1 + (1 : Int32)).toInt + 0).toNat < ((wt_ga z392.2.2.2.2.2 111 (Int32.toNatClampNeg x1)).toInt - z392.2.2.2.2.1.toInt + 0).toNat
                  exact wt_mu (by first | (rw [l394]; omega) | (rw [l394]; done) | omega) (by first | (rw [l394]; omega) | (rw [l394]; done) | omega)
              · skip
                have c480 := wt_ncle h463
                unfold wp_md_letter_B119
                refine wt_T_if (fun h481 => ?_) (fun h481 => ?_)
                · skip
                  have c482 := wt_ceq h481
                  unfold wp_md_letter_B133
                  have bb483 := wt_bd z392.1
                  obtain ⟨j484, j484a, j484b⟩ := wt_addI z392.1 (1 : Int32)
                  have bb485 := wt_bd z392.2.1
                  obtain ⟨j486, j486a, j486b⟩ := wt_addI z392.2.1 (wt_ga r381.2 121 (Int32.toNatClampNeg r435.1))
                  have bb487 := wt_bd z392.2.2.2.1
                  obtain ⟨j488, j488a, j488b⟩ := wt_addI z392.2.2.2.1 (1 : Int32)
                  refine hKK391 _ ⟨rfl, (wt_nn (B := wt_ga z392.2.2.2.2.2 111 (Int32.toNatClampNeg x1)) (by omega) (by first | (rw [l394]; omega) | (rw [l394]; done) | omega))⟩ ?_
                  show ((wt_ga r381.2 111 (Int32.toNatClampNeg x1)).toInt - (z392.2.2.2.2.1 + (1 : Int32)).toInt + 0).toNat < ((wt_ga z392.2.2.2.2.2 111 (Int32.toNatClampNeg x1)).toInt - z392.2.2.2.2.1.toInt + 0).toNat
                  exact wt_mu (by first | (rw [l394]; omega) | (rw [l394]; done) | omega) (by first | (rw [l394]; omega) | (rw [l394]; done) | omega)
                · skip
                  have c489 := wt_nceq h481
                  unfold wp_md_letter_B133
                  have bb490 := wt_bd z392.1
                  obtain ⟨j491, j491a, j491b⟩ := wt_addI z392.1 (1 : Int32)
                  have bb492 := wt_bd z392.2.1
                  obtain ⟨j493, j493a, j493b⟩ := wt_addI z392.2.1 (wt_ga r381.2 121 (Int32.toNatClampNeg r435.1))
                  have bb494 := wt_bd z392.2.2.2.1
                  obtain ⟨j495, j495a, j495b⟩ := wt_addI z392.2.2.2.1 (0 : Int32)
                  refine hKK391 _ ⟨rfl, (wt_nn (B := wt_ga z392.2.2.2.2.2 111 (Int32.toNatClampNeg x1)) (by omega) (by first | (rw [l394]; omega) | (rw [l394]; done) | omega))⟩ ?_
                  show ((wt_ga r381.2 111 (Int32.toNatClampNeg x1)).toInt - (z392.2.2.2.2.1 + (1 : Int32)).toInt + 0).toNat < ((wt_ga z392.2.2.2.2.2 111 (Int32.toNatClampNeg x1)).toInt - z392.2.2.2.2.1.toInt + 0).toNat
                  exact wt_mu (by first | (rw [l394]; omega) | (rw [l394]; done) | omega) (by first | (rw [l394]; omega) | (rw [l394]; done) | omega)
            · skip
              have c496 := wt_nceq h451
              rw [wt_lm1] at c496
              unfold wp_md_letter_B96
              have bb497 := wt_tn r435.1
              have bb498 := wt_bd (wt_ga r381.2 121 (Int32.toNatClampNeg r435.1))
              have g499 : 0 ≤ (wt_ga r381.2 121 (Int32.toNatClampNeg r435.1)).toInt ∧ (wt_ga r381.2 121 (Int32.toNatClampNeg r435.1)).toInt ≤ 400 := wt_R_ga ri384 3 rfl 121 (by decide) (by decide) (Int32.toNatClampNeg r435.1)
              have tt500 : (wt_ga r381.2 121 (Int32.toNatClampNeg r435.1)).toInt = (wt_ga σ3 121 (Int32.toNatClampNeg r435.1)).toInt := congrArg Int32.toInt (f383.2 121 (fun z => z) (Int32.toNatClampNeg r435.1))
              have bb501 := wt_bd (wt_ga σ3 121 (Int32.toNatClampNeg r435.1))
              have g502 : 0 ≤ (wt_ga σ3 121 (Int32.toNatClampNeg r435.1)).toInt ∧ (wt_ga σ3 121 (Int32.toNatClampNeg r435.1)).toInt ≤ 400 := wt_R_ga rσ3 3 rfl 121 (by decide) (by decide) (Int32.toNatClampNeg r435.1)
              have tt503 : (wt_ga σ3 121 (Int32.toNatClampNeg r435.1)).toInt = (wt_ga σ 121 (Int32.toNatClampNeg r435.1)).toInt := congrArg Int32.toInt (fσ3.2 121 (fun z => z) (Int32.toNatClampNeg r435.1))
              have bb504 := wt_bd (wt_ga σ 121 (Int32.toNatClampNeg r435.1))
              have g505 : 0 ≤ (wt_ga σ 121 (Int32.toNatClampNeg r435.1)).toInt ∧ (wt_ga σ 121 (Int32.toNatClampNeg r435.1)).toInt ≤ 400 := wt_R_ga r0 3 rfl 121 (by decide) (by decide) (Int32.toNatClampNeg r435.1)
              have bb506 := wt_bd z392.2.2.1
              refine wt_T_if (fun h507 => ?_) (fun h507 => ?_)
              · skip
                have c508 := wt_cle h507
                unfold wp_md_letter_B119
                refine wt_T_if (fun h509 => ?_) (fun h509 => ?_)
                · skip
                  have c510 := wt_ceq h509
                  unfold wp_md_letter_B133
                  have bb511 := wt_bd z392.1
                  obtain ⟨j512, j512a, j512b⟩ := wt_addI z392.1 (0 : Int32)
                  have bb513 := wt_bd z392.2.1
                  obtain ⟨j514, j514a, j514b⟩ := wt_addI z392.2.1 (wt_ga r381.2 121 (Int32.toNatClampNeg r435.1))
                  have bb515 := wt_bd z392.2.2.2.1
                  obtain ⟨j516, j516a, j516b⟩ := wt_addI z392.2.2.2.1 (1 : Int32)
                  refine hKK391 _ ⟨rfl, (wt_nn (B := wt_ga z392.2.2.2.2.2 111 (Int32.toNatClampNeg x1)) (by omega) (by first | (rw [l394]; omega) | (rw [l394]; done) | omega))⟩ ?_
                  show ((wt_ga r381.2 111 (Int32.toNatClampNeg x1)).toInt - (z392.2.2.2.2.1 + (1 : Int32)).toInt + 0).toNat < ((wt_ga z392.2.2.2.2.2 111 (Int32.toNatClampNeg x1)).toInt - z392.2.2.2.2.1.toInt + 0).toNat
                  exact wt_mu (by first | (rw [l394]; omega) | (rw [l394]; done) | omega) (by first | (rw [l394]; omega) | (rw [l394]; done) | omega)
                · skip
                  have c517 := wt_nceq h509
                  unfold wp_md_letter_B133
                  have bb518 := wt_bd z392.1
                  obtain ⟨j519, j519a, j519b⟩ := wt_addI z392.1 (0 : Int32)
                  have bb520 := wt_bd z392.2.1
                  obtain ⟨j521, j521a, j521b⟩ := wt_addI z392.2.1 (wt_ga r381.2 121 (Int32.toNatClampNeg r435.1))
                  have bb522 := wt_bd z392.2.2.2.1
                  obtain ⟨j523, j523a, j523b⟩ := wt_addI z392.2.2.2.1 (0 : Int32)
                  refine hKK391 _ ⟨rfl, (wt_nn (B := wt_ga z392.2.2.2.2.2 111 (Int32.toNatClampNeg x1)) (by omega) (by first | (rw [l394]; omega) | (rw [l394]; done) | omega))⟩ ?_
                  show ((wt_ga r381.2 111 (Int32.toNatClampNeg x1)).toInt - (z392.2.2.2.2.1 + (1 : Int32)).toInt + 0).toNat < ((wt_ga z392.2.2.2.2.2 111 (Int32.toNatClampNeg x1)).toInt - z392.2.2.2.2.1.toInt + 0).toNat
                  exact wt_mu (by first | (rw [l394]; omega) | (rw [l394]; done) | omega) (by first | (rw [l394]; omega) | (rw [l394]; done) | omega)
              · skip
                have c524 := wt_ncle h507
                unfold wp_md_letter_B119
                refine wt_T_if (fun h525 => ?_) (fun h525 => ?_)
                · skip
                  have c526 := wt_ceq h525
                  unfold wp_md_letter_B133
                  have bb527 := wt_bd z392.1
                  obtain ⟨j528, j528a, j528b⟩ := wt_addI z392.1 (0 : Int32)
                  have bb529 := wt_bd z392.2.1
                  obtain ⟨j530, j530a, j530b⟩ := wt_addI z392.2.1 (wt_ga r381.2 121 (Int32.toNatClampNeg r435.1))
                  have bb531 := wt_bd z392.2.2.2.1
                  obtain ⟨j532, j532a, j532b⟩ := wt_addI z392.2.2.2.1 (1 : Int32)
                  refine hKK391 _ ⟨rfl, (wt_nn (B := wt_ga z392.2.2.2.2.2 111 (Int32.toNatClampNeg x1)) (by omega) (by first | (rw [l394]; omega) | (rw [l394]; done) | omega))⟩ ?_
                  show ((wt_ga r381.2 111 (Int32.toNatClampNeg x1)).toInt - (z392.2.2.2.2.1 + (1 : Int32)).toInt + 0).toNat < ((wt_ga z392.2.2.2.2.2 111 (Int32.toNatClampNeg x1)).toInt - z392.2.2.2.2.1.toInt + 0).toNat
                  exact wt_mu (by first | (rw [l394]; omega) | (rw [l394]; done) | omega) (by first | (rw [l394]; omega) | (rw [l394]; done) | omega)
                · skip
                  have c533 := wt_nceq h525
                  unfold wp_md_letter_B133
                  have bb534 := wt_bd z392.1
                  obtain ⟨j535, j535a, j535b⟩ := wt_addI z392.1 (0 : Int32)
                  have bb536 := wt_bd z392.2.1
                  obtain ⟨j537, j537a, j537b⟩ := wt_addI z392.2.1 (wt_ga r381.2 121 (Int32.toNatClampNeg r435.1))
                  have bb538 := wt_bd z392.2.2.2.1
                  obtain ⟨j539, j539a, j539b⟩ := wt_addI z392.2.2.2.1 (0 : Int32)
                  refine hKK391 _ ⟨rfl, (wt_nn (B := wt_ga z392.2.2.2.2.2 111 (Int32.toNatClampNeg x1)) (by omega) (by first | (rw [l394]; omega) | (rw [l394]; done) | omega))⟩ ?_
                  show ((wt_ga r381.2 111 (Int32.toNatClampNeg x1)).toInt - (z392.2.2.2.2.1 + (1 : Int32)).toInt + 0).toNat < ((wt_ga z392.2.2.2.2.2 111 (Int32.toNatClampNeg x1)).toInt - z392.2.2.2.2.1.toInt + 0).toNat
                  exact wt_mu (by first | (rw [l394]; omega) | (rw [l394]; done) | omega) (by first | (rw [l394]; omega) | (rw [l394]; done) | omega)
        · skip
          have bb540 := wt_tn x1
          have bb541 := wt_bd (wt_ga r381.2 111 (Int32.toNatClampNeg x1))
          have g542 : 0 ≤ (wt_ga r381.2 111 (Int32.toNatClampNeg x1)).toInt ∧ (wt_ga r381.2 111 (Int32.toNatClampNeg x1)).toInt ≤ 13 := wt_R_ga ri384 1 rfl 111 (by decide) (by decide) (Int32.toNatClampNeg x1)
          have tt543 : (wt_ga r381.2 111 (Int32.toNatClampNeg x1)).toInt = (wt_ga σ3 111 (Int32.toNatClampNeg x1)).toInt := congrArg Int32.toInt (f383.2 111 (fun z => z) (Int32.toNatClampNeg x1))
          have bb544 := wt_bd (wt_ga σ3 111 (Int32.toNatClampNeg x1))
          have g545 : 0 ≤ (wt_ga σ3 111 (Int32.toNatClampNeg x1)).toInt ∧ (wt_ga σ3 111 (Int32.toNatClampNeg x1)).toInt ≤ 13 := wt_R_ga rσ3 1 rfl 111 (by decide) (by decide) (Int32.toNatClampNeg x1)
          have tt546 : (wt_ga σ3 111 (Int32.toNatClampNeg x1)).toInt = (wt_ga σ 111 (Int32.toNatClampNeg x1)).toInt := congrArg Int32.toInt (fσ3.2 111 (fun z => z) (Int32.toNatClampNeg x1))
          have bb547 := wt_bd (wt_ga σ 111 (Int32.toNatClampNeg x1))
          have g548 : 0 ≤ (wt_ga σ 111 (Int32.toNatClampNeg x1)).toInt ∧ (wt_ga σ 111 (Int32.toNatClampNeg x1)).toInt ≤ 13 := wt_R_ga r0 1 rfl 111 (by decide) (by decide) (Int32.toNatClampNeg x1)
          exact ⟨rfl, (show 0 ≤ ((0 : Int32)).toInt by omega)⟩
        · skip
          have bb549 := wt_tn x1
          have bb550 := wt_bd (wt_ga r381.2 111 (Int32.toNatClampNeg x1))
          have g551 : 0 ≤ (wt_ga r381.2 111 (Int32.toNatClampNeg x1)).toInt ∧ (wt_ga r381.2 111 (Int32.toNatClampNeg x1)).toInt ≤ 13 := wt_R_ga ri384 1 rfl 111 (by decide) (by decide) (Int32.toNatClampNeg x1)
          have tt552 : (wt_ga r381.2 111 (Int32.toNatClampNeg x1)).toInt = (wt_ga σ3 111 (Int32.toNatClampNeg x1)).toInt := congrArg Int32.toInt (f383.2 111 (fun z => z) (Int32.toNatClampNeg x1))
          have bb553 := wt_bd (wt_ga σ3 111 (Int32.toNatClampNeg x1))
          have g554 : 0 ≤ (wt_ga σ3 111 (Int32.toNatClampNeg x1)).toInt ∧ (wt_ga σ3 111 (Int32.toNatClampNeg x1)).toInt ≤ 13 := wt_R_ga rσ3 1 rfl 111 (by decide) (by decide) (Int32.toNatClampNeg x1)
          have tt555 : (wt_ga σ3 111 (Int32.toNatClampNeg x1)).toInt = (wt_ga σ 111 (Int32.toNatClampNeg x1)).toInt := congrArg Int32.toInt (fσ3.2 111 (fun z => z) (Int32.toNatClampNeg x1))
          have bb556 := wt_bd (wt_ga σ 111 (Int32.toNatClampNeg x1))
          have g557 : 0 ≤ (wt_ga σ 111 (Int32.toNatClampNeg x1)).toInt ∧ (wt_ga σ 111 (Int32.toNatClampNeg x1)).toInt ≤ 13 := wt_R_ga r0 1 rfl 111 (by decide) (by decide) (Int32.toNatClampNeg x1)
          show ((wt_ga r381.2 111 (Int32.toNatClampNeg x1)).toInt - (0 : Int32).toInt + 0).toNat < n
          omega
      · skip
        have c558 := wt_nceq h389
        refine wt_T_some ?_
        exact ⟨(wt_fr.tr (wt_fr.tr wt_fr.rf fσ3 (fun i k h => by (try dsimp only at h); exact (by omega)) (fun i h => h.elim)) f383 (fun i k h => by (try dsimp only at h); exact (by omega)) (fun i h => h.elim)), ri384⟩
set_option maxRecDepth 100000 in
set_option maxHeartbeats 4000000 in
theorem wq_md_lost (n : Nat) (hn : 4294967297 < n) (x1 : Int32) (σ : wt_St) (r0 : wt_RI σ) : wt_T (wp_md_lost n x1 σ) (fun q => wt_fr (fun i k => (i = 108 ∧ k = 0) ∨ (i = 108 ∧ k = 54)) (fun i => i = 286 ∨ i = 287 ∨ i = 124 ∨ i = 288 ∨ i = 121) σ q.2 ∧ wt_RI q.2) := by
  have bb1 := wt_bd x1
  unfold wp_md_lost
  obtain ⟨σ2, eσ2⟩ : ∃ z : wt_St, z = wt_sf σ 108 0 (0 : Int32) := ⟨_, rfl⟩
  rw [← eσ2]
  have fσ2 := wt_fr_sf eσ2
  have vσ2 := wt_ceq (wt_v_sf eσ2)
  have k3 : (0 : Int32).toInt = 0 := by decide
  have rσ2 := wt_RI_fno r0 eσ2 (Or.inr (by decide))
  refine wt_T_bi (wq_md_isWeek n hn x1 σ2 rσ2) (fun r4 h5 => ?_)
  obtain ⟨e6, pp7⟩ := h5
  have bb8 := wt_bd r4.1
  rw [e6]
  refine wt_T_if (fun h9 => ?_) (fun h9 => ?_)
  · skip
    have c10 := wt_ceq h9
    unfold wp_md_lost_B18
    have k11 : (1 : Int32).toInt = 1 := by decide
    refine wt_T_bi (wq_md_bad n hn (1 : Int32) (1 : Int32) σ2 rσ2 (by omega)) (fun r12 h13 => ?_)
    obtain ⟨f14, ri15, pp16⟩ := h13
    have bb17 := wt_bd r12.1
    have bb18 := wt_bd (wt_gf r12.2 108 0)
    have bb19 := wt_bd (wt_gf σ2 108 0)
    refine wt_T_if (fun h20 => ?_) (fun h20 => ?_)
    · skip
      have c21 := wt_ceq h20
      refine wt_T_bi (wq_md_greedyAhead n hn x1 r12.2 ri15) (fun r22 h23 => ?_)
      obtain ⟨f24, ri25⟩ := h23
      refine wt_T_it (fun s : Int32 × Int32 × wt_St => wt_fr (fun i k => False) (fun i => i = 287) r22.2 s.2.2 ∧ 0 ≤ (s.2.1).toInt ∧ wt_RI s.2.2) (fun s : Int32 × Int32 × wt_St => ((wt_gf s.2.2 108 28).toInt - s.2.1.toInt + 0).toNat) (fun KK26 z27 I28 hKK26 => ?_) _ _ ?_ ?_
      · skip
        obtain ⟨l29, l30, l31⟩ := I28
        unfold wp_md_lost_B37
        have bb32 := wt_bd (wt_gf z27.2.2 108 28)
        have g33 : 0 ≤ (wt_gf z27.2.2 108 28).toInt ∧ (wt_gf z27.2.2 108 28).toInt ≤ 60 := wt_R_gf l31 6 rfl
        have tt34 : (wt_gf z27.2.2 108 28).toInt = (wt_gf r22.2 108 28).toInt := congrArg Int32.toInt (l29.1 108 28 (fun z => z))
        have bb35 := wt_bd (wt_gf r22.2 108 28)
        have g36 : 0 ≤ (wt_gf r22.2 108 28).toInt ∧ (wt_gf r22.2 108 28).toInt ≤ 60 := wt_R_gf ri25 6 rfl
        have tt37 : (wt_gf r22.2 108 28).toInt = (wt_gf r12.2 108 28).toInt := congrArg Int32.toInt (f24.1 108 28 (by (try dsimp only); omega))
        have bb38 := wt_bd (wt_gf r12.2 108 28)
        have g39 : 0 ≤ (wt_gf r12.2 108 28).toInt ∧ (wt_gf r12.2 108 28).toInt ≤ 60 := wt_R_gf ri15 6 rfl
        have tt40 : (wt_gf r12.2 108 28).toInt = (wt_gf σ2 108 28).toInt := congrArg Int32.toInt (f14.1 108 28 (by (try dsimp only); omega))
        have bb41 := wt_bd (wt_gf σ2 108 28)
        have g42 : 0 ≤ (wt_gf σ2 108 28).toInt ∧ (wt_gf σ2 108 28).toInt ≤ 60 := wt_R_gf rσ2 6 rfl
        have tt43 : (wt_gf σ2 108 28).toInt = (wt_gf σ 108 28).toInt := congrArg Int32.toInt (fσ2.1 108 28 (by (try dsimp only); omega))
        have bb44 := wt_bd (wt_gf σ 108 28)
        have g45 : 0 ≤ (wt_gf σ 108 28).toInt ∧ (wt_gf σ 108 28).toInt ≤ 60 := wt_R_gf r0 6 rfl
        have bb46 := wt_bd z27.2.1
        refine wt_T_if (fun h47 => ?_) (fun h47 => ?_)
        · skip
          have c48 := wt_cle h47
          refine wt_T_bi (wq_md_putsBack n hn z27.2.2 l31) (fun r49 h50 => ?_)
          obtain ⟨f51, ri52⟩ := h50
          refine wt_T_some ?_
          exact ⟨(wt_fr.tr (wt_fr.tr (wt_fr.tr (wt_fr.tr (wt_fr.tr wt_fr.rf fσ2 (fun i k h => by (try dsimp only at h); exact Or.inl (by omega)) (fun i h => h.elim)) f14 (fun i k h => by (try dsimp only at h); exact Or.inl (by omega)) (fun i h => h.elim)) f24 (fun i k h => by (try dsimp only at h); exact Or.inr ((by omega))) (fun i h => by (try dsimp only at h); rcases h with h | h | h | h | h; exact Or.inl (by omega); exact Or.inr (Or.inl (by omega)); exact Or.inr (Or.inr (Or.inl (by omega))); exact Or.inr (Or.inr (Or.inr (Or.inl (by omega)))); exact Or.inr (Or.inr (Or.inr (Or.inr ((by omega))))))) l29 (fun i k h => h.elim) (fun i h => by (try dsimp only at h); exact Or.inr (Or.inl (by omega)))) f51 (fun i k h => h.elim) (fun i h => by (try dsimp only at h); exact Or.inr (Or.inr (Or.inr (Or.inr ((by omega))))))), ri52⟩
        · skip
          have c53 := wt_ncle h47
          refine wt_T_bi (wq_md_canWord n hn z27.2.1 z27.2.2 l31 (by omega) (by omega)) (fun r54 h55 => ?_)
          obtain ⟨f56, ri57, pp58⟩ := h55
          have bb59 := wt_bd r54.1
          refine wt_T_if (fun h60 => ?_) (fun h60 => ?_)
          · skip
            have c61 := wt_ceq h60
            unfold wp_md_lost_B59
            have bb62 := wt_bd z27.1
            obtain ⟨j63, j63a, j63b⟩ := wt_addI z27.1 (1 : Int32)
            have bb64 := wt_bd (wt_gf r54.2 108 28)
            have g65 : 0 ≤ (wt_gf r54.2 108 28).toInt ∧ (wt_gf r54.2 108 28).toInt ≤ 60 := wt_R_gf ri57 6 rfl
            have tt66 : (wt_gf r54.2 108 28).toInt = (wt_gf z27.2.2 108 28).toInt := congrArg Int32.toInt (f56.1 108 28 (fun z => z))
            refine hKK26 _ ⟨(wt_fr.tr (wt_fr.tr wt_fr.rf l29 (fun i k h => h.elim) (fun i h => by (try dsimp only at h); exact (by omega))) f56 (fun i k h => h.elim) (fun i h => by (try dsimp only at h); exact (by omega))), (wt_nn (B := wt_gf z27.2.2 108 28) (by omega) (by omega)), ri57⟩ ?_
            show ((wt_gf r54.2 108 28).toInt - (z27.2.1 + (1 : Int32)).toInt + 0).toNat < ((wt_gf z27.2.2 108 28).toInt - z27.2.1.toInt + 0).toNat
            exact wt_mu (by omega) (by omega)
          · skip
            have c67 := wt_nceq h60
            unfold wp_md_lost_B59
            have bb68 := wt_bd z27.1
            obtain ⟨j69, j69a, j69b⟩ := wt_addI z27.1 (0 : Int32)
            have bb70 := wt_bd (wt_gf r54.2 108 28)
            have g71 : 0 ≤ (wt_gf r54.2 108 28).toInt ∧ (wt_gf r54.2 108 28).toInt ≤ 60 := wt_R_gf ri57 6 rfl
            have tt72 : (wt_gf r54.2 108 28).toInt = (wt_gf z27.2.2 108 28).toInt := congrArg Int32.toInt (f56.1 108 28 (fun z => z))
            refine hKK26 _ ⟨(wt_fr.tr (wt_fr.tr wt_fr.rf l29 (fun i k h => h.elim) (fun i h => by (try dsimp only at h); exact (by omega))) f56 (fun i k h => h.elim) (fun i h => by (try dsimp only at h); exact (by omega))), (wt_nn (B := wt_gf z27.2.2 108 28) (by omega) (by omega)), ri57⟩ ?_
            show ((wt_gf r54.2 108 28).toInt - (z27.2.1 + (1 : Int32)).toInt + 0).toNat < ((wt_gf z27.2.2 108 28).toInt - z27.2.1.toInt + 0).toNat
            exact wt_mu (by omega) (by omega)
      · skip
        have bb73 := wt_bd (wt_gf r22.2 108 28)
        have g74 : 0 ≤ (wt_gf r22.2 108 28).toInt ∧ (wt_gf r22.2 108 28).toInt ≤ 60 := wt_R_gf ri25 6 rfl
        have tt75 : (wt_gf r22.2 108 28).toInt = (wt_gf r12.2 108 28).toInt := congrArg Int32.toInt (f24.1 108 28 (by (try dsimp only); omega))
        have bb76 := wt_bd (wt_gf r12.2 108 28)
        have g77 : 0 ≤ (wt_gf r12.2 108 28).toInt ∧ (wt_gf r12.2 108 28).toInt ≤ 60 := wt_R_gf ri15 6 rfl
        have tt78 : (wt_gf r12.2 108 28).toInt = (wt_gf σ2 108 28).toInt := congrArg Int32.toInt (f14.1 108 28 (by (try dsimp only); omega))
        have bb79 := wt_bd (wt_gf σ2 108 28)
        have g80 : 0 ≤ (wt_gf σ2 108 28).toInt ∧ (wt_gf σ2 108 28).toInt ≤ 60 := wt_R_gf rσ2 6 rfl
        have tt81 : (wt_gf σ2 108 28).toInt = (wt_gf σ 108 28).toInt := congrArg Int32.toInt (fσ2.1 108 28 (by (try dsimp only); omega))
        have bb82 := wt_bd (wt_gf σ 108 28)
        have g83 : 0 ≤ (wt_gf σ 108 28).toInt ∧ (wt_gf σ 108 28).toInt ≤ 60 := wt_R_gf r0 6 rfl
        exact ⟨wt_fr.rf, (show 0 ≤ ((0 : Int32)).toInt by omega), ri25⟩
      · skip
        have bb84 := wt_bd (wt_gf r22.2 108 28)
        have g85 : 0 ≤ (wt_gf r22.2 108 28).toInt ∧ (wt_gf r22.2 108 28).toInt ≤ 60 := wt_R_gf ri25 6 rfl
        have tt86 : (wt_gf r22.2 108 28).toInt = (wt_gf r12.2 108 28).toInt := congrArg Int32.toInt (f24.1 108 28 (by (try dsimp only); omega))
        have bb87 := wt_bd (wt_gf r12.2 108 28)
        have g88 : 0 ≤ (wt_gf r12.2 108 28).toInt ∧ (wt_gf r12.2 108 28).toInt ≤ 60 := wt_R_gf ri15 6 rfl
        have tt89 : (wt_gf r12.2 108 28).toInt = (wt_gf σ2 108 28).toInt := congrArg Int32.toInt (f14.1 108 28 (by (try dsimp only); omega))
        have bb90 := wt_bd (wt_gf σ2 108 28)
        have g91 : 0 ≤ (wt_gf σ2 108 28).toInt ∧ (wt_gf σ2 108 28).toInt ≤ 60 := wt_R_gf rσ2 6 rfl
        have tt92 : (wt_gf σ2 108 28).toInt = (wt_gf σ 108 28).toInt := congrArg Int32.toInt (fσ2.1 108 28 (by (try dsimp only); omega))
        have bb93 := wt_bd (wt_gf σ 108 28)
        have g94 : 0 ≤ (wt_gf σ 108 28).toInt ∧ (wt_gf σ 108 28).toInt ≤ 60 := wt_R_gf r0 6 rfl
        show ((wt_gf r22.2 108 28).toInt - (0 : Int32).toInt + 0).toNat < n
        omega
    · skip
      have c95 := wt_nceq h20
      refine wt_T_some ?_
      exact ⟨(wt_fr.tr (wt_fr.tr wt_fr.rf fσ2 (fun i k h => by (try dsimp only at h); exact Or.inl (by omega)) (fun i h => h.elim)) f14 (fun i k h => by (try dsimp only at h); exact Or.inl (by omega)) (fun i h => h.elim)), ri15⟩
  · skip
    have c96 := wt_nceq h9
    unfold wp_md_lost_B18
    have k97 : (1 : Int32).toInt = 1 := by decide
    refine wt_T_bi (wq_md_bad n hn (0 : Int32) (1 : Int32) σ2 rσ2 (by omega)) (fun r98 h99 => ?_)
    obtain ⟨f100, ri101, pp102⟩ := h99
    have bb103 := wt_bd r98.1
    have bb104 := wt_bd (wt_gf r98.2 108 0)
    have bb105 := wt_bd (wt_gf σ2 108 0)
    refine wt_T_if (fun h106 => ?_) (fun h106 => ?_)
    · skip
      have c107 := wt_ceq h106
      refine wt_T_bi (wq_md_greedyAhead n hn x1 r98.2 ri101) (fun r108 h109 => ?_)
      obtain ⟨f110, ri111⟩ := h109
      refine wt_T_it (fun s : Int32 × Int32 × wt_St => wt_fr (fun i k => False) (fun i => i = 287) r108.2 s.2.2 ∧ 0 ≤ (s.2.1).toInt ∧ wt_RI s.2.2) (fun s : Int32 × Int32 × wt_St => ((wt_gf s.2.2 108 28).toInt - s.2.1.toInt + 0).toNat) (fun KK112 z113 I114 hKK112 => ?_) _ _ ?_ ?_
      · skip
        obtain ⟨l115, l116, l117⟩ := I114
        unfold wp_md_lost_B37
        have bb118 := wt_bd (wt_gf z113.2.2 108 28)
        have g119 : 0 ≤ (wt_gf z113.2.2 108 28).toInt ∧ (wt_gf z113.2.2 108 28).toInt ≤ 60 := wt_R_gf l117 6 rfl
        have tt120 : (wt_gf z113.2.2 108 28).toInt = (wt_gf r108.2 108 28).toInt := congrArg Int32.toInt (l115.1 108 28 (fun z => z))
        have bb121 := wt_bd (wt_gf r108.2 108 28)
        have g122 : 0 ≤ (wt_gf r108.2 108 28).toInt ∧ (wt_gf r108.2 108 28).toInt ≤ 60 := wt_R_gf ri111 6 rfl
        have tt123 : (wt_gf r108.2 108 28).toInt = (wt_gf r98.2 108 28).toInt := congrArg Int32.toInt (f110.1 108 28 (by (try dsimp only); omega))
        have bb124 := wt_bd (wt_gf r98.2 108 28)
        have g125 : 0 ≤ (wt_gf r98.2 108 28).toInt ∧ (wt_gf r98.2 108 28).toInt ≤ 60 := wt_R_gf ri101 6 rfl
        have tt126 : (wt_gf r98.2 108 28).toInt = (wt_gf σ2 108 28).toInt := congrArg Int32.toInt (f100.1 108 28 (by (try dsimp only); omega))
        have bb127 := wt_bd (wt_gf σ2 108 28)
        have g128 : 0 ≤ (wt_gf σ2 108 28).toInt ∧ (wt_gf σ2 108 28).toInt ≤ 60 := wt_R_gf rσ2 6 rfl
        have tt129 : (wt_gf σ2 108 28).toInt = (wt_gf σ 108 28).toInt := congrArg Int32.toInt (fσ2.1 108 28 (by (try dsimp only); omega))
        have bb130 := wt_bd (wt_gf σ 108 28)
        have g131 : 0 ≤ (wt_gf σ 108 28).toInt ∧ (wt_gf σ 108 28).toInt ≤ 60 := wt_R_gf r0 6 rfl
        have bb132 := wt_bd z113.2.1
        refine wt_T_if (fun h133 => ?_) (fun h133 => ?_)
        · skip
          have c134 := wt_cle h133
          refine wt_T_bi (wq_md_putsBack n hn z113.2.2 l117) (fun r135 h136 => ?_)
          obtain ⟨f137, ri138⟩ := h136
          refine wt_T_some ?_
          exact ⟨(wt_fr.tr (wt_fr.tr (wt_fr.tr (wt_fr.tr (wt_fr.tr wt_fr.rf fσ2 (fun i k h => by (try dsimp only at h); exact Or.inl (by omega)) (fun i h => h.elim)) f100 (fun i k h => by (try dsimp only at h); exact Or.inl (by omega)) (fun i h => h.elim)) f110 (fun i k h => by (try dsimp only at h); exact Or.inr ((by omega))) (fun i h => by (try dsimp only at h); rcases h with h | h | h | h | h; exact Or.inl (by omega); exact Or.inr (Or.inl (by omega)); exact Or.inr (Or.inr (Or.inl (by omega))); exact Or.inr (Or.inr (Or.inr (Or.inl (by omega)))); exact Or.inr (Or.inr (Or.inr (Or.inr ((by omega))))))) l115 (fun i k h => h.elim) (fun i h => by (try dsimp only at h); exact Or.inr (Or.inl (by omega)))) f137 (fun i k h => h.elim) (fun i h => by (try dsimp only at h); exact Or.inr (Or.inr (Or.inr (Or.inr ((by omega))))))), ri138⟩
        · skip
          have c139 := wt_ncle h133
          refine wt_T_bi (wq_md_canWord n hn z113.2.1 z113.2.2 l117 (by omega) (by omega)) (fun r140 h141 => ?_)
          obtain ⟨f142, ri143, pp144⟩ := h141
          have bb145 := wt_bd r140.1
          refine wt_T_if (fun h146 => ?_) (fun h146 => ?_)
          · skip
            have c147 := wt_ceq h146
            unfold wp_md_lost_B59
            have bb148 := wt_bd z113.1
            obtain ⟨j149, j149a, j149b⟩ := wt_addI z113.1 (1 : Int32)
            have bb150 := wt_bd (wt_gf r140.2 108 28)
            have g151 : 0 ≤ (wt_gf r140.2 108 28).toInt ∧ (wt_gf r140.2 108 28).toInt ≤ 60 := wt_R_gf ri143 6 rfl
            have tt152 : (wt_gf r140.2 108 28).toInt = (wt_gf z113.2.2 108 28).toInt := congrArg Int32.toInt (f142.1 108 28 (fun z => z))
            refine hKK112 _ ⟨(wt_fr.tr (wt_fr.tr wt_fr.rf l115 (fun i k h => h.elim) (fun i h => by (try dsimp only at h); exact (by omega))) f142 (fun i k h => h.elim) (fun i h => by (try dsimp only at h); exact (by omega))), (wt_nn (B := wt_gf z113.2.2 108 28) (by omega) (by omega)), ri143⟩ ?_
            show ((wt_gf r140.2 108 28).toInt - (z113.2.1 + (1 : Int32)).toInt + 0).toNat < ((wt_gf z113.2.2 108 28).toInt - z113.2.1.toInt + 0).toNat
            exact wt_mu (by omega) (by omega)
          · skip
            have c153 := wt_nceq h146
            unfold wp_md_lost_B59
            have bb154 := wt_bd z113.1
            obtain ⟨j155, j155a, j155b⟩ := wt_addI z113.1 (0 : Int32)
            have bb156 := wt_bd (wt_gf r140.2 108 28)
            have g157 : 0 ≤ (wt_gf r140.2 108 28).toInt ∧ (wt_gf r140.2 108 28).toInt ≤ 60 := wt_R_gf ri143 6 rfl
            have tt158 : (wt_gf r140.2 108 28).toInt = (wt_gf z113.2.2 108 28).toInt := congrArg Int32.toInt (f142.1 108 28 (fun z => z))
            refine hKK112 _ ⟨(wt_fr.tr (wt_fr.tr wt_fr.rf l115 (fun i k h => h.elim) (fun i h => by (try dsimp only at h); exact (by omega))) f142 (fun i k h => h.elim) (fun i h => by (try dsimp only at h); exact (by omega))), (wt_nn (B := wt_gf z113.2.2 108 28) (by omega) (by omega)), ri143⟩ ?_
            show ((wt_gf r140.2 108 28).toInt - (z113.2.1 + (1 : Int32)).toInt + 0).toNat < ((wt_gf z113.2.2 108 28).toInt - z113.2.1.toInt + 0).toNat
            exact wt_mu (by omega) (by omega)
      · skip
        have bb159 := wt_bd (wt_gf r108.2 108 28)
        have g160 : 0 ≤ (wt_gf r108.2 108 28).toInt ∧ (wt_gf r108.2 108 28).toInt ≤ 60 := wt_R_gf ri111 6 rfl
        have tt161 : (wt_gf r108.2 108 28).toInt = (wt_gf r98.2 108 28).toInt := congrArg Int32.toInt (f110.1 108 28 (by (try dsimp only); omega))
        have bb162 := wt_bd (wt_gf r98.2 108 28)
        have g163 : 0 ≤ (wt_gf r98.2 108 28).toInt ∧ (wt_gf r98.2 108 28).toInt ≤ 60 := wt_R_gf ri101 6 rfl
        have tt164 : (wt_gf r98.2 108 28).toInt = (wt_gf σ2 108 28).toInt := congrArg Int32.toInt (f100.1 108 28 (by (try dsimp only); omega))
        have bb165 := wt_bd (wt_gf σ2 108 28)
        have g166 : 0 ≤ (wt_gf σ2 108 28).toInt ∧ (wt_gf σ2 108 28).toInt ≤ 60 := wt_R_gf rσ2 6 rfl
        have tt167 : (wt_gf σ2 108 28).toInt = (wt_gf σ 108 28).toInt := congrArg Int32.toInt (fσ2.1 108 28 (by (try dsimp only); omega))
        have bb168 := wt_bd (wt_gf σ 108 28)
        have g169 : 0 ≤ (wt_gf σ 108 28).toInt ∧ (wt_gf σ 108 28).toInt ≤ 60 := wt_R_gf r0 6 rfl
        exact ⟨wt_fr.rf, (show 0 ≤ ((0 : Int32)).toInt by omega), ri111⟩
      · skip
        have bb170 := wt_bd (wt_gf r108.2 108 28)
        have g171 : 0 ≤ (wt_gf r108.2 108 28).toInt ∧ (wt_gf r108.2 108 28).toInt ≤ 60 := wt_R_gf ri111 6 rfl
        have tt172 : (wt_gf r108.2 108 28).toInt = (wt_gf r98.2 108 28).toInt := congrArg Int32.toInt (f110.1 108 28 (by (try dsimp only); omega))
        have bb173 := wt_bd (wt_gf r98.2 108 28)
        have g174 : 0 ≤ (wt_gf r98.2 108 28).toInt ∧ (wt_gf r98.2 108 28).toInt ≤ 60 := wt_R_gf ri101 6 rfl
        have tt175 : (wt_gf r98.2 108 28).toInt = (wt_gf σ2 108 28).toInt := congrArg Int32.toInt (f100.1 108 28 (by (try dsimp only); omega))
        have bb176 := wt_bd (wt_gf σ2 108 28)
        have g177 : 0 ≤ (wt_gf σ2 108 28).toInt ∧ (wt_gf σ2 108 28).toInt ≤ 60 := wt_R_gf rσ2 6 rfl
        have tt178 : (wt_gf σ2 108 28).toInt = (wt_gf σ 108 28).toInt := congrArg Int32.toInt (fσ2.1 108 28 (by (try dsimp only); omega))
        have bb179 := wt_bd (wt_gf σ 108 28)
        have g180 : 0 ≤ (wt_gf σ 108 28).toInt ∧ (wt_gf σ 108 28).toInt ≤ 60 := wt_R_gf r0 6 rfl
        show ((wt_gf r108.2 108 28).toInt - (0 : Int32).toInt + 0).toNat < n
        omega
    · skip
      have c181 := wt_nceq h106
      refine wt_T_some ?_
      exact ⟨(wt_fr.tr (wt_fr.tr wt_fr.rf fσ2 (fun i k h => by (try dsimp only at h); exact Or.inl (by omega)) (fun i h => h.elim)) f100 (fun i k h => by (try dsimp only at h); exact Or.inl (by omega)) (fun i h => h.elim)), ri101⟩
set_option maxRecDepth 100000 in
set_option maxHeartbeats 4000000 in
theorem wq_md_most (n : Nat) (hn : 4294967297 < n) (x1 : Int32) (σ : wt_St) (r0 : wt_RI σ) : wt_T (wp_md_most n x1 σ) (fun q => wt_fr (fun i k => (i = 108 ∧ k = 0) ∨ (i = 108 ∧ k = 54)) (fun i => i = 286 ∨ i = 287 ∨ i = 124 ∨ i = 288 ∨ i = 121) σ q.2 ∧ wt_RI q.2) := by
  have bb1 := wt_bd x1
  unfold wp_md_most
  obtain ⟨σ2, eσ2⟩ : ∃ z : wt_St, z = wt_sf σ 108 0 (0 : Int32) := ⟨_, rfl⟩
  rw [← eσ2]
  have fσ2 := wt_fr_sf eσ2
  have vσ2 := wt_ceq (wt_v_sf eσ2)
  have k3 : (0 : Int32).toInt = 0 := by decide
  have rσ2 := wt_RI_fno r0 eσ2 (Or.inr (by decide))
  have k4 : (2 : Int32).toInt = 2 := by decide
  refine wt_T_bi (wq_md_in n hn x1 (0 : Int32) (2 : Int32) σ2 rσ2) (fun r5 h6 => ?_)
  obtain ⟨e7, pp8⟩ := h6
  have bb9 := wt_bd r5.1
  rw [e7]
  refine wt_T_if (fun h10 => ?_) (fun h10 => ?_)
  · skip
    have c11 := wt_ceq h10
    unfold wp_md_most_B20
    have k12 : (1 : Int32).toInt = 1 := by decide
    refine wt_T_bi (wq_md_bad n hn (1 : Int32) (1 : Int32) σ2 rσ2 (by omega)) (fun r13 h14 => ?_)
    obtain ⟨f15, ri16, pp17⟩ := h14
    have bb18 := wt_bd r13.1
    have bb19 := wt_bd (wt_gf r13.2 108 0)
    have bb20 := wt_bd (wt_gf σ2 108 0)
    refine wt_T_if (fun h21 => ?_) (fun h21 => ?_)
    · skip
      have c22 := wt_ceq h21
      refine wt_T_it (fun s : Int32 × Int32 × Int32 × wt_St => wt_fr (fun i k => (i = 108 ∧ k = 54)) (fun i => i = 286 ∨ i = 287 ∨ i = 124 ∨ i = 288 ∨ i = 121) r13.2 s.2.2.2 ∧ 0 ≤ (s.2.2.1).toInt ∧ wt_RI s.2.2.2) (fun s : Int32 × Int32 × Int32 × wt_St => (2147483647 - s.2.2.1.toInt).toNat) (fun KK23 z24 I25 hKK23 => ?_) _ _ ?_ ?_
      · skip
        obtain ⟨l26, l27, l28⟩ := I25
        unfold wp_md_most_B36
        have bb29 := wt_bd z24.2.2.1
        have bb30 := wt_bd (wt_gf z24.2.2.2 108 40)
        have g31 : 0 ≤ (wt_gf z24.2.2.2 108 40).toInt ∧ (wt_gf z24.2.2.2 108 40).toInt ≤ 10 := wt_R_gf l28 8 rfl
        have tt32 : (wt_gf z24.2.2.2 108 40).toInt = (wt_gf r13.2 108 40).toInt := congrArg Int32.toInt (l26.1 108 40 (by (try dsimp only); omega))
        have bb33 := wt_bd (wt_gf r13.2 108 40)
        have g34 : 0 ≤ (wt_gf r13.2 108 40).toInt ∧ (wt_gf r13.2 108 40).toInt ≤ 10 := wt_R_gf ri16 8 rfl
        have tt35 : (wt_gf r13.2 108 40).toInt = (wt_gf σ2 108 40).toInt := congrArg Int32.toInt (f15.1 108 40 (by (try dsimp only); omega))
        have bb36 := wt_bd (wt_gf σ2 108 40)
        have g37 : 0 ≤ (wt_gf σ2 108 40).toInt ∧ (wt_gf σ2 108 40).toInt ≤ 10 := wt_R_gf rσ2 8 rfl
        have tt38 : (wt_gf σ2 108 40).toInt = (wt_gf σ 108 40).toInt := congrArg Int32.toInt (fσ2.1 108 40 (by (try dsimp only); omega))
        have bb39 := wt_bd (wt_gf σ 108 40)
        have g40 : 0 ≤ (wt_gf σ 108 40).toInt ∧ (wt_gf σ 108 40).toInt ≤ 10 := wt_R_gf r0 8 rfl
        have k41 : (31 : Int32).toInt = 31 := by decide
        have bb42 := wt_bd ((wt_gf z24.2.2.2 108 40) &&& 31)
        have bb43 := wt_bd ((1 : Int32) <<< ((wt_gf z24.2.2.2 108 40) &&& 31))
        refine wt_T_if (fun h44 => ?_) (fun h44 => ?_)
        · skip
          have c45 := wt_cle h44
          refine wt_T_if (fun h46 => ?_) (fun h46 => ?_)
          · skip
            have c47 := wt_ceq h46
            have bb48 := wt_bd z24.1
            refine wt_T_bi (wq_md_worthOf n hn z24.1 z24.2.2.2 l28) (fun r49 h50 => ?_)
            have e51 := h50
            have bb52 := wt_bd r49.1
            rw [e51]
            refine wt_T_some ?_
            exact ⟨(wt_fr.tr (wt_fr.tr (wt_fr.tr wt_fr.rf fσ2 (fun i k h => by (try dsimp only at h); exact Or.inl (by omega)) (fun i h => h.elim)) f15 (fun i k h => by (try dsimp only at h); exact Or.inl (by omega)) (fun i h => h.elim)) l26 (fun i k h => by (try dsimp only at h); exact Or.inr ((by omega))) (fun i h => by (try dsimp only at h); rcases h with h | h | h | h | h; exact Or.inl (by omega); exact Or.inr (Or.inl (by omega)); exact Or.inr (Or.inr (Or.inl (by omega))); exact Or.inr (Or.inr (Or.inr (Or.inl (by omega)))); exact Or.inr (Or.inr (Or.inr (Or.inr ((by omega))))))), l28⟩
          · skip
            have c53 := wt_nceq h46
            refine wt_T_if (fun h54 => ?_) (fun h54 => ?_)
            · skip
              have c55 := wt_ceq h54
              refine wt_T_some ?_
              exact ⟨(wt_fr.tr (wt_fr.tr (wt_fr.tr wt_fr.rf fσ2 (fun i k h => by (try dsimp only at h); exact Or.inl (by omega)) (fun i h => h.elim)) f15 (fun i k h => by (try dsimp only at h); exact Or.inl (by omega)) (fun i h => h.elim)) l26 (fun i k h => by (try dsimp only at h); exact Or.inr ((by omega))) (fun i h => by (try dsimp only at h); rcases h with h | h | h | h | h; exact Or.inl (by omega); exact Or.inr (Or.inl (by omega)); exact Or.inr (Or.inr (Or.inl (by omega))); exact Or.inr (Or.inr (Or.inr (Or.inl (by omega)))); exact Or.inr (Or.inr (Or.inr (Or.inr ((by omega))))))), l28⟩
            · skip
              have c56 := wt_nceq h54
              refine wt_T_some ?_
              exact ⟨(wt_fr.tr (wt_fr.tr (wt_fr.tr wt_fr.rf fσ2 (fun i k h => by (try dsimp only at h); exact Or.inl (by omega)) (fun i h => h.elim)) f15 (fun i k h => by (try dsimp only at h); exact Or.inl (by omega)) (fun i h => h.elim)) l26 (fun i k h => by (try dsimp only at h); exact Or.inr ((by omega))) (fun i h => by (try dsimp only at h); rcases h with h | h | h | h | h; exact Or.inl (by omega); exact Or.inr (Or.inl (by omega)); exact Or.inr (Or.inr (Or.inl (by omega))); exact Or.inr (Or.inr (Or.inr (Or.inl (by omega)))); exact Or.inr (Or.inr (Or.inr (Or.inr ((by omega))))))), l28⟩
        · skip
          have c57 := wt_ncle h44
          refine wt_T_bi (wq_md_puts n hn z24.2.2.2 l28) (fun r58 h59 => ?_)
          obtain ⟨f60, ri61⟩ := h59
          have k62 : (100 : Int32).toInt = 100 := by decide
          refine wt_T_bi (wq_md_prints n hn z24.2.2.1 (0 : Int32) (100 : Int32) r58 ri61) (fun r63 h64 => ?_)
          obtain ⟨f65, ri66⟩ := h64
          have bb67 := wt_bd r63.1
          refine wt_T_if (fun h68 => ?_) (fun h68 => ?_)
          · skip
            have c69 := wt_ceq h68
            rw [wt_lm1] at c69
            unfold wp_md_most_B69
            refine wt_T_bi (wq_md_putsBack n hn r63.2 ri66) (fun r70 h71 => ?_)
            obtain ⟨f72, ri73⟩ := h71
            refine wt_T_if (fun h74 => ?_) (fun h74 => ?_)
            · skip
              have c75 := wt_ceq h74
              unfold wp_md_most_B107
              have bb76 := wt_bd z24.1
              have bb77 := wt_bd z24.2.1
              obtain ⟨j78, j78a, j78b⟩ := wt_addI z24.2.2.1 (1 : Int32)
              refine hKK23 _ ⟨(wt_fr.tr (wt_fr.tr (wt_fr.tr (wt_fr.tr wt_fr.rf l26 (fun i k h => by (try dsimp only at h); exact (by omega)) (fun i h => by (try dsimp only at h); rcases h with h | h | h | h | h; exact Or.inl (by omega); exact Or.inr (Or.inl (by omega)); exact Or.inr (Or.inr (Or.inl (by omega))); exact Or.inr (Or.inr (Or.inr (Or.inl (by omega)))); exact Or.inr (Or.inr (Or.inr (Or.inr ((by omega))))))) f60 (fun i k h => h.elim) (fun i h => by (try dsimp only at h); exact Or.inl (by omega))) f65 (fun i k h => by (try dsimp only at h); exact (by omega)) (fun i h => by (try dsimp only at h); rcases h with h | h | h | h; exact Or.inr (Or.inl (by omega)); exact Or.inr (Or.inr (Or.inl (by omega))); exact Or.inr (Or.inr (Or.inr (Or.inl (by omega)))); exact Or.inr (Or.inr (Or.inr (Or.inr ((by omega))))))) f72 (fun i k h => h.elim) (fun i h => by (try dsimp only at h); exact Or.inr (Or.inr (Or.inr (Or.inr ((by omega))))))), (show 0 ≤ ((z24.2.2.1 + (1 : Int32))).toInt by omega), ri73⟩ ?_
              show (2147483647 - (z24.2.2.1 + (1 : Int32)).toInt).toNat < (2147483647 - z24.2.2.1.toInt).toNat
              omega
            · skip
              have c79 := wt_nceq h74
              refine wt_T_bi (wq_md_worthOf n hn z24.2.2.1 r70 ri73) (fun r80 h81 => ?_)
              have e82 := h81
              have bb83 := wt_bd r80.1
              rw [e82]
              have bb84 := wt_bd z24.1
              refine wt_T_bi (wq_md_worthOf n hn z24.1 r70 ri73) (fun r85 h86 => ?_)
              have e87 := h86
              have bb88 := wt_bd r85.1
              rw [e87]
              refine wt_T_if (fun h89 => ?_) (fun h89 => ?_)
              · skip
                have c90 := wt_cle h89
                unfold wp_md_most_B106
                unfold wp_md_most_B107
                have bb91 := wt_bd z24.2.1
                obtain ⟨j92, j92a, j92b⟩ := wt_addI z24.2.1 (1 : Int32)
                obtain ⟨j93, j93a, j93b⟩ := wt_addI z24.2.2.1 (1 : Int32)
                refine hKK23 _ ⟨(wt_fr.tr (wt_fr.tr (wt_fr.tr (wt_fr.tr wt_fr.rf l26 (fun i k h => by (try dsimp only at h); exact (by omega)) (fun i h => by (try dsimp only at h); rcases h with h | h | h | h | h; exact Or.inl (by omega); exact Or.inr (Or.inl (by omega)); exact Or.inr (Or.inr (Or.inl (by omega))); exact Or.inr (Or.inr (Or.inr (Or.inl (by omega)))); exact Or.inr (Or.inr (Or.inr (Or.inr ((by omega))))))) f60 (fun i k h => h.elim) (fun i h => by (try dsimp only at h); exact Or.inl (by omega))) f65 (fun i k h => by (try dsimp only at h); exact (by omega)) (fun i h => by (try dsimp only at h); rcases h with h | h | h | h; exact Or.inr (Or.inl (by omega)); exact Or.inr (Or.inr (Or.inl (by omega))); exact Or.inr (Or.inr (Or.inr (Or.inl (by omega)))); exact Or.inr (Or.inr (Or.inr (Or.inr ((by omega))))))) f72 (fun i k h => h.elim) (fun i h => by (try dsimp only at h); exact Or.inr (Or.inr (Or.inr (Or.inr ((by omega))))))), (show 0 ≤ ((z24.2.2.1 + (1 : Int32))).toInt by omega), ri73⟩ ?_
                show (2147483647 - (z24.2.2.1 + (1 : Int32)).toInt).toNat < (2147483647 - z24.2.2.1.toInt).toNat
                omega
              · skip
                have c94 := wt_ncle h89
                unfold wp_md_most_B106
                unfold wp_md_most_B107
                have bb95 := wt_bd z24.2.1
                obtain ⟨j96, j96a, j96b⟩ := wt_addI z24.2.1 (1 : Int32)
                obtain ⟨j97, j97a, j97b⟩ := wt_addI z24.2.2.1 (1 : Int32)
                refine hKK23 _ ⟨(wt_fr.tr (wt_fr.tr (wt_fr.tr (wt_fr.tr wt_fr.rf l26 (fun i k h => by (try dsimp only at h); exact (by omega)) (fun i h => by (try dsimp only at h); rcases h with h | h | h | h | h; exact Or.inl (by omega); exact Or.inr (Or.inl (by omega)); exact Or.inr (Or.inr (Or.inl (by omega))); exact Or.inr (Or.inr (Or.inr (Or.inl (by omega)))); exact Or.inr (Or.inr (Or.inr (Or.inr ((by omega))))))) f60 (fun i k h => h.elim) (fun i h => by (try dsimp only at h); exact Or.inl (by omega))) f65 (fun i k h => by (try dsimp only at h); exact (by omega)) (fun i h => by (try dsimp only at h); rcases h with h | h | h | h; exact Or.inr (Or.inl (by omega)); exact Or.inr (Or.inr (Or.inl (by omega))); exact Or.inr (Or.inr (Or.inr (Or.inl (by omega)))); exact Or.inr (Or.inr (Or.inr (Or.inr ((by omega))))))) f72 (fun i k h => h.elim) (fun i h => by (try dsimp only at h); exact Or.inr (Or.inr (Or.inr (Or.inr ((by omega))))))), (show 0 ≤ ((z24.2.2.1 + (1 : Int32))).toInt by omega), ri73⟩ ?_
                show (2147483647 - (z24.2.2.1 + (1 : Int32)).toInt).toNat < (2147483647 - z24.2.2.1.toInt).toNat
                omega
          · skip
            have c98 := wt_nceq h68
            rw [wt_lm1] at c98
            unfold wp_md_most_B69
            refine wt_T_bi (wq_md_putsBack n hn r63.2 ri66) (fun r99 h100 => ?_)
            obtain ⟨f101, ri102⟩ := h100
            refine wt_T_if (fun h103 => ?_) (fun h103 => ?_)
            · skip
              have c104 := wt_ceq h103
              unfold wp_md_most_B107
              have bb105 := wt_bd z24.1
              have bb106 := wt_bd z24.2.1
              obtain ⟨j107, j107a, j107b⟩ := wt_addI z24.2.2.1 (1 : Int32)
              refine hKK23 _ ⟨(wt_fr.tr (wt_fr.tr (wt_fr.tr (wt_fr.tr wt_fr.rf l26 (fun i k h => by (try dsimp only at h); exact (by omega)) (fun i h => by (try dsimp only at h); rcases h with h | h | h | h | h; exact Or.inl (by omega); exact Or.inr (Or.inl (by omega)); exact Or.inr (Or.inr (Or.inl (by omega))); exact Or.inr (Or.inr (Or.inr (Or.inl (by omega)))); exact Or.inr (Or.inr (Or.inr (Or.inr ((by omega))))))) f60 (fun i k h => h.elim) (fun i h => by (try dsimp only at h); exact Or.inl (by omega))) f65 (fun i k h => by (try dsimp only at h); exact (by omega)) (fun i h => by (try dsimp only at h); rcases h with h | h | h | h; exact Or.inr (Or.inl (by omega)); exact Or.inr (Or.inr (Or.inl (by omega))); exact Or.inr (Or.inr (Or.inr (Or.inl (by omega)))); exact Or.inr (Or.inr (Or.inr (Or.inr ((by omega))))))) f101 (fun i k h => h.elim) (fun i h => by (try dsimp only at h); exact Or.inr (Or.inr (Or.inr (Or.inr ((by omega))))))), (show 0 ≤ ((z24.2.2.1 + (1 : Int32))).toInt by omega), ri102⟩ ?_
              show (2147483647 - (z24.2.2.1 + (1 : Int32)).toInt).toNat < (2147483647 - z24.2.2.1.toInt).toNat
              omega
            · skip
              have c108 := wt_nceq h103
              refine wt_T_bi (wq_md_worthOf n hn z24.2.2.1 r99 ri102) (fun r109 h110 => ?_)
              have e111 := h110
              have bb112 := wt_bd r109.1
              rw [e111]
              have bb113 := wt_bd z24.1
              refine wt_T_bi (wq_md_worthOf n hn z24.1 r99 ri102) (fun r114 h115 => ?_)
              have e116 := h115
              have bb117 := wt_bd r114.1
              rw [e116]
              refine wt_T_if (fun h118 => ?_) (fun h118 => ?_)
              · skip
                have c119 := wt_cle h118
                unfold wp_md_most_B106
                unfold wp_md_most_B107
                have bb120 := wt_bd z24.2.1
                obtain ⟨j121, j121a, j121b⟩ := wt_addI z24.2.1 (1 : Int32)
                obtain ⟨j122, j122a, j122b⟩ := wt_addI z24.2.2.1 (1 : Int32)
                refine hKK23 _ ⟨(wt_fr.tr (wt_fr.tr (wt_fr.tr (wt_fr.tr wt_fr.rf l26 (fun i k h => by (try dsimp only at h); exact (by omega)) (fun i h => by (try dsimp only at h); rcases h with h | h | h | h | h; exact Or.inl (by omega); exact Or.inr (Or.inl (by omega)); exact Or.inr (Or.inr (Or.inl (by omega))); exact Or.inr (Or.inr (Or.inr (Or.inl (by omega)))); exact Or.inr (Or.inr (Or.inr (Or.inr ((by omega))))))) f60 (fun i k h => h.elim) (fun i h => by (try dsimp only at h); exact Or.inl (by omega))) f65 (fun i k h => by (try dsimp only at h); exact (by omega)) (fun i h => by (try dsimp only at h); rcases h with h | h | h | h; exact Or.inr (Or.inl (by omega)); exact Or.inr (Or.inr (Or.inl (by omega))); exact Or.inr (Or.inr (Or.inr (Or.inl (by omega)))); exact Or.inr (Or.inr (Or.inr (Or.inr ((by omega))))))) f101 (fun i k h => h.elim) (fun i h => by (try dsimp only at h); exact Or.inr (Or.inr (Or.inr (Or.inr ((by omega))))))), (show 0 ≤ ((z24.2.2.1 + (1 : Int32))).toInt by omega), ri102⟩ ?_
                show (2147483647 - (z24.2.2.1 + (1 : Int32)).toInt).toNat < (2147483647 - z24.2.2.1.toInt).toNat
                omega
              · skip
                have c123 := wt_ncle h118
                unfold wp_md_most_B106
                unfold wp_md_most_B107
                have bb124 := wt_bd z24.2.1
                obtain ⟨j125, j125a, j125b⟩ := wt_addI z24.2.1 (1 : Int32)
                obtain ⟨j126, j126a, j126b⟩ := wt_addI z24.2.2.1 (1 : Int32)
                refine hKK23 _ ⟨(wt_fr.tr (wt_fr.tr (wt_fr.tr (wt_fr.tr wt_fr.rf l26 (fun i k h => by (try dsimp only at h); exact (by omega)) (fun i h => by (try dsimp only at h); rcases h with h | h | h | h | h; exact Or.inl (by omega); exact Or.inr (Or.inl (by omega)); exact Or.inr (Or.inr (Or.inl (by omega))); exact Or.inr (Or.inr (Or.inr (Or.inl (by omega)))); exact Or.inr (Or.inr (Or.inr (Or.inr ((by omega))))))) f60 (fun i k h => h.elim) (fun i h => by (try dsimp only at h); exact Or.inl (by omega))) f65 (fun i k h => by (try dsimp only at h); exact (by omega)) (fun i h => by (try dsimp only at h); rcases h with h | h | h | h; exact Or.inr (Or.inl (by omega)); exact Or.inr (Or.inr (Or.inl (by omega))); exact Or.inr (Or.inr (Or.inr (Or.inl (by omega)))); exact Or.inr (Or.inr (Or.inr (Or.inr ((by omega))))))) f101 (fun i k h => h.elim) (fun i h => by (try dsimp only at h); exact Or.inr (Or.inr (Or.inr (Or.inr ((by omega))))))), (show 0 ≤ ((z24.2.2.1 + (1 : Int32))).toInt by omega), ri102⟩ ?_
                show (2147483647 - (z24.2.2.1 + (1 : Int32)).toInt).toNat < (2147483647 - z24.2.2.1.toInt).toNat
                omega
      · skip
        exact ⟨wt_fr.rf, (show 0 ≤ ((0 : Int32)).toInt by omega), ri16⟩
      · skip
        show (2147483647 - (0 : Int32).toInt).toNat < n
        omega
    · skip
      have c127 := wt_nceq h21
      refine wt_T_some ?_
      exact ⟨(wt_fr.tr (wt_fr.tr wt_fr.rf fσ2 (fun i k h => by (try dsimp only at h); exact Or.inl (by omega)) (fun i h => h.elim)) f15 (fun i k h => by (try dsimp only at h); exact Or.inl (by omega)) (fun i h => h.elim)), ri16⟩
  · skip
    have c128 := wt_nceq h10
    unfold wp_md_most_B20
    have k129 : (1 : Int32).toInt = 1 := by decide
    refine wt_T_bi (wq_md_bad n hn (0 : Int32) (1 : Int32) σ2 rσ2 (by omega)) (fun r130 h131 => ?_)
    obtain ⟨f132, ri133, pp134⟩ := h131
    have bb135 := wt_bd r130.1
    have bb136 := wt_bd (wt_gf r130.2 108 0)
    have bb137 := wt_bd (wt_gf σ2 108 0)
    refine wt_T_if (fun h138 => ?_) (fun h138 => ?_)
    · skip
      have c139 := wt_ceq h138
      refine wt_T_it (fun s : Int32 × Int32 × Int32 × wt_St => wt_fr (fun i k => (i = 108 ∧ k = 54)) (fun i => i = 286 ∨ i = 287 ∨ i = 124 ∨ i = 288 ∨ i = 121) r130.2 s.2.2.2 ∧ 0 ≤ (s.2.2.1).toInt ∧ wt_RI s.2.2.2) (fun s : Int32 × Int32 × Int32 × wt_St => (2147483647 - s.2.2.1.toInt).toNat) (fun KK140 z141 I142 hKK140 => ?_) _ _ ?_ ?_
      · skip
        obtain ⟨l143, l144, l145⟩ := I142
        unfold wp_md_most_B36
        have bb146 := wt_bd z141.2.2.1
        have bb147 := wt_bd (wt_gf z141.2.2.2 108 40)
        have g148 : 0 ≤ (wt_gf z141.2.2.2 108 40).toInt ∧ (wt_gf z141.2.2.2 108 40).toInt ≤ 10 := wt_R_gf l145 8 rfl
        have tt149 : (wt_gf z141.2.2.2 108 40).toInt = (wt_gf r130.2 108 40).toInt := congrArg Int32.toInt (l143.1 108 40 (by (try dsimp only); omega))
        have bb150 := wt_bd (wt_gf r130.2 108 40)
        have g151 : 0 ≤ (wt_gf r130.2 108 40).toInt ∧ (wt_gf r130.2 108 40).toInt ≤ 10 := wt_R_gf ri133 8 rfl
        have tt152 : (wt_gf r130.2 108 40).toInt = (wt_gf σ2 108 40).toInt := congrArg Int32.toInt (f132.1 108 40 (by (try dsimp only); omega))
        have bb153 := wt_bd (wt_gf σ2 108 40)
        have g154 : 0 ≤ (wt_gf σ2 108 40).toInt ∧ (wt_gf σ2 108 40).toInt ≤ 10 := wt_R_gf rσ2 8 rfl
        have tt155 : (wt_gf σ2 108 40).toInt = (wt_gf σ 108 40).toInt := congrArg Int32.toInt (fσ2.1 108 40 (by (try dsimp only); omega))
        have bb156 := wt_bd (wt_gf σ 108 40)
        have g157 : 0 ≤ (wt_gf σ 108 40).toInt ∧ (wt_gf σ 108 40).toInt ≤ 10 := wt_R_gf r0 8 rfl
        have k158 : (31 : Int32).toInt = 31 := by decide
        have bb159 := wt_bd ((wt_gf z141.2.2.2 108 40) &&& 31)
        have bb160 := wt_bd ((1 : Int32) <<< ((wt_gf z141.2.2.2 108 40) &&& 31))
        refine wt_T_if (fun h161 => ?_) (fun h161 => ?_)
        · skip
          have c162 := wt_cle h161
          refine wt_T_if (fun h163 => ?_) (fun h163 => ?_)
          · skip
            have c164 := wt_ceq h163
            have bb165 := wt_bd z141.1
            refine wt_T_bi (wq_md_worthOf n hn z141.1 z141.2.2.2 l145) (fun r166 h167 => ?_)
            have e168 := h167
            have bb169 := wt_bd r166.1
            rw [e168]
            refine wt_T_some ?_
            exact ⟨(wt_fr.tr (wt_fr.tr (wt_fr.tr wt_fr.rf fσ2 (fun i k h => by (try dsimp only at h); exact Or.inl (by omega)) (fun i h => h.elim)) f132 (fun i k h => by (try dsimp only at h); exact Or.inl (by omega)) (fun i h => h.elim)) l143 (fun i k h => by (try dsimp only at h); exact Or.inr ((by omega))) (fun i h => by (try dsimp only at h); rcases h with h | h | h | h | h; exact Or.inl (by omega); exact Or.inr (Or.inl (by omega)); exact Or.inr (Or.inr (Or.inl (by omega))); exact Or.inr (Or.inr (Or.inr (Or.inl (by omega)))); exact Or.inr (Or.inr (Or.inr (Or.inr ((by omega))))))), l145⟩
          · skip
            have c170 := wt_nceq h163
            refine wt_T_if (fun h171 => ?_) (fun h171 => ?_)
            · skip
              have c172 := wt_ceq h171
              refine wt_T_some ?_
              exact ⟨(wt_fr.tr (wt_fr.tr (wt_fr.tr wt_fr.rf fσ2 (fun i k h => by (try dsimp only at h); exact Or.inl (by omega)) (fun i h => h.elim)) f132 (fun i k h => by (try dsimp only at h); exact Or.inl (by omega)) (fun i h => h.elim)) l143 (fun i k h => by (try dsimp only at h); exact Or.inr ((by omega))) (fun i h => by (try dsimp only at h); rcases h with h | h | h | h | h; exact Or.inl (by omega); exact Or.inr (Or.inl (by omega)); exact Or.inr (Or.inr (Or.inl (by omega))); exact Or.inr (Or.inr (Or.inr (Or.inl (by omega)))); exact Or.inr (Or.inr (Or.inr (Or.inr ((by omega))))))), l145⟩
            · skip
              have c173 := wt_nceq h171
              refine wt_T_some ?_
              exact ⟨(wt_fr.tr (wt_fr.tr (wt_fr.tr wt_fr.rf fσ2 (fun i k h => by (try dsimp only at h); exact Or.inl (by omega)) (fun i h => h.elim)) f132 (fun i k h => by (try dsimp only at h); exact Or.inl (by omega)) (fun i h => h.elim)) l143 (fun i k h => by (try dsimp only at h); exact Or.inr ((by omega))) (fun i h => by (try dsimp only at h); rcases h with h | h | h | h | h; exact Or.inl (by omega); exact Or.inr (Or.inl (by omega)); exact Or.inr (Or.inr (Or.inl (by omega))); exact Or.inr (Or.inr (Or.inr (Or.inl (by omega)))); exact Or.inr (Or.inr (Or.inr (Or.inr ((by omega))))))), l145⟩
        · skip
          have c174 := wt_ncle h161
          refine wt_T_bi (wq_md_puts n hn z141.2.2.2 l145) (fun r175 h176 => ?_)
          obtain ⟨f177, ri178⟩ := h176
          have k179 : (100 : Int32).toInt = 100 := by decide
          refine wt_T_bi (wq_md_prints n hn z141.2.2.1 (0 : Int32) (100 : Int32) r175 ri178) (fun r180 h181 => ?_)
          obtain ⟨f182, ri183⟩ := h181
          have bb184 := wt_bd r180.1
          refine wt_T_if (fun h185 => ?_) (fun h185 => ?_)
          · skip
            have c186 := wt_ceq h185
            rw [wt_lm1] at c186
            unfold wp_md_most_B69
            refine wt_T_bi (wq_md_putsBack n hn r180.2 ri183) (fun r187 h188 => ?_)
            obtain ⟨f189, ri190⟩ := h188
            refine wt_T_if (fun h191 => ?_) (fun h191 => ?_)
            · skip
              have c192 := wt_ceq h191
              unfold wp_md_most_B107
              have bb193 := wt_bd z141.1
              have bb194 := wt_bd z141.2.1
              obtain ⟨j195, j195a, j195b⟩ := wt_addI z141.2.2.1 (1 : Int32)
              refine hKK140 _ ⟨(wt_fr.tr (wt_fr.tr (wt_fr.tr (wt_fr.tr wt_fr.rf l143 (fun i k h => by (try dsimp only at h); exact (by omega)) (fun i h => by (try dsimp only at h); rcases h with h | h | h | h | h; exact Or.inl (by omega); exact Or.inr (Or.inl (by omega)); exact Or.inr (Or.inr (Or.inl (by omega))); exact Or.inr (Or.inr (Or.inr (Or.inl (by omega)))); exact Or.inr (Or.inr (Or.inr (Or.inr ((by omega))))))) f177 (fun i k h => h.elim) (fun i h => by (try dsimp only at h); exact Or.inl (by omega))) f182 (fun i k h => by (try dsimp only at h); exact (by omega)) (fun i h => by (try dsimp only at h); rcases h with h | h | h | h; exact Or.inr (Or.inl (by omega)); exact Or.inr (Or.inr (Or.inl (by omega))); exact Or.inr (Or.inr (Or.inr (Or.inl (by omega)))); exact Or.inr (Or.inr (Or.inr (Or.inr ((by omega))))))) f189 (fun i k h => h.elim) (fun i h => by (try dsimp only at h); exact Or.inr (Or.inr (Or.inr (Or.inr ((by omega))))))), (show 0 ≤ ((z141.2.2.1 + (1 : Int32))).toInt by omega), ri190⟩ ?_
              show (2147483647 - (z141.2.2.1 + (1 : Int32)).toInt).toNat < (2147483647 - z141.2.2.1.toInt).toNat
              omega
            · skip
              have c196 := wt_nceq h191
              refine wt_T_bi (wq_md_worthOf n hn z141.2.2.1 r187 ri190) (fun r197 h198 => ?_)
              have e199 := h198
              have bb200 := wt_bd r197.1
              rw [e199]
              have bb201 := wt_bd z141.1
              refine wt_T_bi (wq_md_worthOf n hn z141.1 r187 ri190) (fun r202 h203 => ?_)
              have e204 := h203
              have bb205 := wt_bd r202.1
              rw [e204]
              refine wt_T_if (fun h206 => ?_) (fun h206 => ?_)
              · skip
                have c207 := wt_cle h206
                unfold wp_md_most_B106
                unfold wp_md_most_B107
                have bb208 := wt_bd z141.2.1
                obtain ⟨j209, j209a, j209b⟩ := wt_addI z141.2.1 (1 : Int32)
                obtain ⟨j210, j210a, j210b⟩ := wt_addI z141.2.2.1 (1 : Int32)
                refine hKK140 _ ⟨(wt_fr.tr (wt_fr.tr (wt_fr.tr (wt_fr.tr wt_fr.rf l143 (fun i k h => by (try dsimp only at h); exact (by omega)) (fun i h => by (try dsimp only at h); rcases h with h | h | h | h | h; exact Or.inl (by omega); exact Or.inr (Or.inl (by omega)); exact Or.inr (Or.inr (Or.inl (by omega))); exact Or.inr (Or.inr (Or.inr (Or.inl (by omega)))); exact Or.inr (Or.inr (Or.inr (Or.inr ((by omega))))))) f177 (fun i k h => h.elim) (fun i h => by (try dsimp only at h); exact Or.inl (by omega))) f182 (fun i k h => by (try dsimp only at h); exact (by omega)) (fun i h => by (try dsimp only at h); rcases h with h | h | h | h; exact Or.inr (Or.inl (by omega)); exact Or.inr (Or.inr (Or.inl (by omega))); exact Or.inr (Or.inr (Or.inr (Or.inl (by omega)))); exact Or.inr (Or.inr (Or.inr (Or.inr ((by omega))))))) f189 (fun i k h => h.elim) (fun i h => by (try dsimp only at h); exact Or.inr (Or.inr (Or.inr (Or.inr ((by omega))))))), (show 0 ≤ ((z141.2.2.1 + (1 : Int32))).toInt by omega), ri190⟩ ?_
                show (2147483647 - (z141.2.2.1 + (1 : Int32)).toInt).toNat < (2147483647 - z141.2.2.1.toInt).toNat
                omega
              · skip
                have c211 := wt_ncle h206
                unfold wp_md_most_B106
                unfold wp_md_most_B107
                have bb212 := wt_bd z141.2.1
                obtain ⟨j213, j213a, j213b⟩ := wt_addI z141.2.1 (1 : Int32)
                obtain ⟨j214, j214a, j214b⟩ := wt_addI z141.2.2.1 (1 : Int32)
                refine hKK140 _ ⟨(wt_fr.tr (wt_fr.tr (wt_fr.tr (wt_fr.tr wt_fr.rf l143 (fun i k h => by (try dsimp only at h); exact (by omega)) (fun i h => by (try dsimp only at h); rcases h with h | h | h | h | h; exact Or.inl (by omega); exact Or.inr (Or.inl (by omega)); exact Or.inr (Or.inr (Or.inl (by omega))); exact Or.inr (Or.inr (Or.inr (Or.inl (by omega)))); exact Or.inr (Or.inr (Or.inr (Or.inr ((by omega))))))) f177 (fun i k h => h.elim) (fun i h => by (try dsimp only at h); exact Or.inl (by omega))) f182 (fun i k h => by (try dsimp only at h); exact (by omega)) (fun i h => by (try dsimp only at h); rcases h with h | h | h | h; exact Or.inr (Or.inl (by omega)); exact Or.inr (Or.inr (Or.inl (by omega))); exact Or.inr (Or.inr (Or.inr (Or.inl (by omega)))); exact Or.inr (Or.inr (Or.inr (Or.inr ((by omega))))))) f189 (fun i k h => h.elim) (fun i h => by (try dsimp only at h); exact Or.inr (Or.inr (Or.inr (Or.inr ((by omega))))))), (show 0 ≤ ((z141.2.2.1 + (1 : Int32))).toInt by omega), ri190⟩ ?_
                show (2147483647 - (z141.2.2.1 + (1 : Int32)).toInt).toNat < (2147483647 - z141.2.2.1.toInt).toNat
                omega
          · skip
            have c215 := wt_nceq h185
            rw [wt_lm1] at c215
            unfold wp_md_most_B69
            refine wt_T_bi (wq_md_putsBack n hn r180.2 ri183) (fun r216 h217 => ?_)
            obtain ⟨f218, ri219⟩ := h217
            refine wt_T_if (fun h220 => ?_) (fun h220 => ?_)
            · skip
              have c221 := wt_ceq h220
              unfold wp_md_most_B107
              have bb222 := wt_bd z141.1
              have bb223 := wt_bd z141.2.1
              obtain ⟨j224, j224a, j224b⟩ := wt_addI z141.2.2.1 (1 : Int32)
              refine hKK140 _ ⟨(wt_fr.tr (wt_fr.tr (wt_fr.tr (wt_fr.tr wt_fr.rf l143 (fun i k h => by (try dsimp only at h); exact (by omega)) (fun i h => by (try dsimp only at h); rcases h with h | h | h | h | h; exact Or.inl (by omega); exact Or.inr (Or.inl (by omega)); exact Or.inr (Or.inr (Or.inl (by omega))); exact Or.inr (Or.inr (Or.inr (Or.inl (by omega)))); exact Or.inr (Or.inr (Or.inr (Or.inr ((by omega))))))) f177 (fun i k h => h.elim) (fun i h => by (try dsimp only at h); exact Or.inl (by omega))) f182 (fun i k h => by (try dsimp only at h); exact (by omega)) (fun i h => by (try dsimp only at h); rcases h with h | h | h | h; exact Or.inr (Or.inl (by omega)); exact Or.inr (Or.inr (Or.inl (by omega))); exact Or.inr (Or.inr (Or.inr (Or.inl (by omega)))); exact Or.inr (Or.inr (Or.inr (Or.inr ((by omega))))))) f218 (fun i k h => h.elim) (fun i h => by (try dsimp only at h); exact Or.inr (Or.inr (Or.inr (Or.inr ((by omega))))))), (show 0 ≤ ((z141.2.2.1 + (1 : Int32))).toInt by omega), ri219⟩ ?_
              show (2147483647 - (z141.2.2.1 + (1 : Int32)).toInt).toNat < (2147483647 - z141.2.2.1.toInt).toNat
              omega
            · skip
              have c225 := wt_nceq h220
              refine wt_T_bi (wq_md_worthOf n hn z141.2.2.1 r216 ri219) (fun r226 h227 => ?_)
              have e228 := h227
              have bb229 := wt_bd r226.1
              rw [e228]
              have bb230 := wt_bd z141.1
              refine wt_T_bi (wq_md_worthOf n hn z141.1 r216 ri219) (fun r231 h232 => ?_)
              have e233 := h232
              have bb234 := wt_bd r231.1
              rw [e233]
              refine wt_T_if (fun h235 => ?_) (fun h235 => ?_)
              · skip
                have c236 := wt_cle h235
                unfold wp_md_most_B106
                unfold wp_md_most_B107
                have bb237 := wt_bd z141.2.1
                obtain ⟨j238, j238a, j238b⟩ := wt_addI z141.2.1 (1 : Int32)
                obtain ⟨j239, j239a, j239b⟩ := wt_addI z141.2.2.1 (1 : Int32)
                refine hKK140 _ ⟨(wt_fr.tr (wt_fr.tr (wt_fr.tr (wt_fr.tr wt_fr.rf l143 (fun i k h => by (try dsimp only at h); exact (by omega)) (fun i h => by (try dsimp only at h); rcases h with h | h | h | h | h; exact Or.inl (by omega); exact Or.inr (Or.inl (by omega)); exact Or.inr (Or.inr (Or.inl (by omega))); exact Or.inr (Or.inr (Or.inr (Or.inl (by omega)))); exact Or.inr (Or.inr (Or.inr (Or.inr ((by omega))))))) f177 (fun i k h => h.elim) (fun i h => by (try dsimp only at h); exact Or.inl (by omega))) f182 (fun i k h => by (try dsimp only at h); exact (by omega)) (fun i h => by (try dsimp only at h); rcases h with h | h | h | h; exact Or.inr (Or.inl (by omega)); exact Or.inr (Or.inr (Or.inl (by omega))); exact Or.inr (Or.inr (Or.inr (Or.inl (by omega)))); exact Or.inr (Or.inr (Or.inr (Or.inr ((by omega))))))) f218 (fun i k h => h.elim) (fun i h => by (try dsimp only at h); exact Or.inr (Or.inr (Or.inr (Or.inr ((by omega))))))), (show 0 ≤ ((z141.2.2.1 + (1 : Int32))).toInt by omega), ri219⟩ ?_
                show (2147483647 - (z141.2.2.1 + (1 : Int32)).toInt).toNat < (2147483647 - z141.2.2.1.toInt).toNat
                omega
              · skip
                have c240 := wt_ncle h235
                unfold wp_md_most_B106
                unfold wp_md_most_B107
                have bb241 := wt_bd z141.2.1
                obtain ⟨j242, j242a, j242b⟩ := wt_addI z141.2.1 (1 : Int32)
                obtain ⟨j243, j243a, j243b⟩ := wt_addI z141.2.2.1 (1 : Int32)
                refine hKK140 _ ⟨(wt_fr.tr (wt_fr.tr (wt_fr.tr (wt_fr.tr wt_fr.rf l143 (fun i k h => by (try dsimp only at h); exact (by omega)) (fun i h => by (try dsimp only at h); rcases h with h | h | h | h | h; exact Or.inl (by omega); exact Or.inr (Or.inl (by omega)); exact Or.inr (Or.inr (Or.inl (by omega))); exact Or.inr (Or.inr (Or.inr (Or.inl (by omega)))); exact Or.inr (Or.inr (Or.inr (Or.inr ((by omega))))))) f177 (fun i k h => h.elim) (fun i h => by (try dsimp only at h); exact Or.inl (by omega))) f182 (fun i k h => by (try dsimp only at h); exact (by omega)) (fun i h => by (try dsimp only at h); rcases h with h | h | h | h; exact Or.inr (Or.inl (by omega)); exact Or.inr (Or.inr (Or.inl (by omega))); exact Or.inr (Or.inr (Or.inr (Or.inl (by omega)))); exact Or.inr (Or.inr (Or.inr (Or.inr ((by omega))))))) f218 (fun i k h => h.elim) (fun i h => by (try dsimp only at h); exact Or.inr (Or.inr (Or.inr (Or.inr ((by omega))))))), (show 0 ≤ ((z141.2.2.1 + (1 : Int32))).toInt by omega), ri219⟩ ?_
                show (2147483647 - (z141.2.2.1 + (1 : Int32)).toInt).toNat < (2147483647 - z141.2.2.1.toInt).toNat
                omega
      · skip
        exact ⟨wt_fr.rf, (show 0 ≤ ((0 : Int32)).toInt by omega), ri133⟩
      · skip
        show (2147483647 - (0 : Int32).toInt).toNat < n
        omega
    · skip
      have c244 := wt_nceq h138
      refine wt_T_some ?_
      exact ⟨(wt_fr.tr (wt_fr.tr wt_fr.rf fσ2 (fun i k h => by (try dsimp only at h); exact Or.inl (by omega)) (fun i h => h.elim)) f132 (fun i k h => by (try dsimp only at h); exact Or.inl (by omega)) (fun i h => h.elim)), ri133⟩
set_option maxRecDepth 100000 in
set_option maxHeartbeats 4000000 in
theorem wq_md_needs (n : Nat) (hn : 4294967297 < n) (x1 : Int32) (x2 : Int32) (σ : wt_St) (r0 : wt_RI σ) : wt_T (wp_md_needs n x1 x2 σ) (fun q => wt_fr (fun i k => (i = 108 ∧ k = 0)) (fun i => i = 287) σ q.2 ∧ wt_RI q.2) := by
  have bb1 := wt_bd x1
  have bb2 := wt_bd x2
  unfold wp_md_needs
  obtain ⟨σ3, eσ3⟩ : ∃ z : wt_St, z = wt_sf σ 108 0 (0 : Int32) := ⟨_, rfl⟩
  rw [← eσ3]
  have fσ3 := wt_fr_sf eσ3
  have vσ3 := wt_ceq (wt_v_sf eσ3)
  have k4 : (0 : Int32).toInt = 0 := by decide
  have rσ3 := wt_RI_fno r0 eσ3 (Or.inr (by decide))
  refine wt_T_bi (wq_md_isText n hn x1 σ3 rσ3) (fun r5 h6 => ?_)
  obtain ⟨e7, pp8⟩ := h6
  have bb9 := wt_bd r5.1
  rw [e7]
  have bb10 := wt_bd (wt_gf σ3 108 39)
  have g11 : 0 ≤ (wt_gf σ3 108 39).toInt ∧ (wt_gf σ3 108 39).toInt ≤ 8 := wt_R_gf rσ3 7 rfl
  have tt12 : (wt_gf σ3 108 39).toInt = (wt_gf σ 108 39).toInt := congrArg Int32.toInt (fσ3.1 108 39 (by (try dsimp only); omega))
  have bb13 := wt_bd (wt_gf σ 108 39)
  have g14 : 0 ≤ (wt_gf σ 108 39).toInt ∧ (wt_gf σ 108 39).toInt ≤ 8 := wt_R_gf r0 7 rfl
  refine wt_T_if (fun h15 => ?_) (fun h15 => ?_)
  · skip
    have c16 := wt_ceq h15
    unfold wp_md_needs_B19
    have k17 : (1 : Int32).toInt = 1 := by decide
    refine wt_T_bi (wq_md_bad n hn (1 : Int32) (1 : Int32) σ3 rσ3 (by omega)) (fun r18 h19 => ?_)
    obtain ⟨f20, ri21, pp22⟩ := h19
    have bb23 := wt_bd r18.1
    have bb24 := wt_bd (wt_gf r18.2 108 0)
    have bb25 := wt_bd (wt_gf σ3 108 0)
    refine wt_T_if (fun h26 => ?_) (fun h26 => ?_)
    · skip
      have c27 := wt_ceq h26
      refine wt_T_bi (wq_md_isLetter n hn x2 r18.2 ri21) (fun r28 h29 => ?_)
      obtain ⟨e30, pp31⟩ := h29
      have bb32 := wt_bd r28.1
      rw [e30]
      refine wt_T_if (fun h33 => ?_) (fun h33 => ?_)
      · skip
        have c34 := wt_ceq h33
        unfold wp_md_needs_B39
        have k35 : (2 : Int32).toInt = 2 := by decide
        refine wt_T_bi (wq_md_bad n hn (1 : Int32) (2 : Int32) r18.2 ri21 (by omega)) (fun r36 h37 => ?_)
        obtain ⟨f38, ri39, pp40⟩ := h37
        have bb41 := wt_bd r36.1
        have bb42 := wt_bd (wt_gf r36.2 108 0)
        refine wt_T_if (fun h43 => ?_) (fun h43 => ?_)
        · skip
          have c44 := wt_ceq h43
          refine wt_T_bi (wq_md_needsText n hn x1 r36.2 ri39 (by omega) (by omega)) (fun r45 h46 => ?_)
          obtain ⟨f47, ri48, pp49⟩ := h46
          refine wt_T_gd (wt_ix (by omega) (by omega)) ?_
          refine wt_T_some ?_
          exact ⟨(wt_fr.tr (wt_fr.tr (wt_fr.tr (wt_fr.tr wt_fr.rf fσ3 (fun i k h => by (try dsimp only at h); exact (by omega)) (fun i h => h.elim)) f20 (fun i k h => by (try dsimp only at h); exact (by omega)) (fun i h => h.elim)) f38 (fun i k h => by (try dsimp only at h); exact (by omega)) (fun i h => h.elim)) f47 (fun i k h => h.elim) (fun i h => by (try dsimp only at h); exact (by omega))), ri48⟩
        · skip
          have c50 := wt_nceq h43
          refine wt_T_some ?_
          exact ⟨(wt_fr.tr (wt_fr.tr (wt_fr.tr wt_fr.rf fσ3 (fun i k h => by (try dsimp only at h); exact (by omega)) (fun i h => h.elim)) f20 (fun i k h => by (try dsimp only at h); exact (by omega)) (fun i h => h.elim)) f38 (fun i k h => by (try dsimp only at h); exact (by omega)) (fun i h => h.elim)), ri39⟩
      · skip
        have c51 := wt_nceq h33
        unfold wp_md_needs_B39
        have k52 : (2 : Int32).toInt = 2 := by decide
        refine wt_T_bi (wq_md_bad n hn (0 : Int32) (2 : Int32) r18.2 ri21 (by omega)) (fun r53 h54 => ?_)
        obtain ⟨f55, ri56, pp57⟩ := h54
        have bb58 := wt_bd r53.1
        have bb59 := wt_bd (wt_gf r53.2 108 0)
        refine wt_T_if (fun h60 => ?_) (fun h60 => ?_)
        · skip
          have c61 := wt_ceq h60
          refine wt_T_bi (wq_md_needsText n hn x1 r53.2 ri56 (by omega) (by omega)) (fun r62 h63 => ?_)
          obtain ⟨f64, ri65, pp66⟩ := h63
          refine wt_T_gd (wt_ix (by omega) (by omega)) ?_
          refine wt_T_some ?_
          exact ⟨(wt_fr.tr (wt_fr.tr (wt_fr.tr (wt_fr.tr wt_fr.rf fσ3 (fun i k h => by (try dsimp only at h); exact (by omega)) (fun i h => h.elim)) f20 (fun i k h => by (try dsimp only at h); exact (by omega)) (fun i h => h.elim)) f55 (fun i k h => by (try dsimp only at h); exact (by omega)) (fun i h => h.elim)) f64 (fun i k h => h.elim) (fun i h => by (try dsimp only at h); exact (by omega))), ri65⟩
        · skip
          have c67 := wt_nceq h60
          refine wt_T_some ?_
          exact ⟨(wt_fr.tr (wt_fr.tr (wt_fr.tr wt_fr.rf fσ3 (fun i k h => by (try dsimp only at h); exact (by omega)) (fun i h => h.elim)) f20 (fun i k h => by (try dsimp only at h); exact (by omega)) (fun i h => h.elim)) f55 (fun i k h => by (try dsimp only at h); exact (by omega)) (fun i h => h.elim)), ri56⟩
    · skip
      have c68 := wt_nceq h26
      refine wt_T_some ?_
      exact ⟨(wt_fr.tr (wt_fr.tr wt_fr.rf fσ3 (fun i k h => by (try dsimp only at h); exact (by omega)) (fun i h => h.elim)) f20 (fun i k h => by (try dsimp only at h); exact (by omega)) (fun i h => h.elim)), ri21⟩
  · skip
    have c69 := wt_nceq h15
    unfold wp_md_needs_B19
    have k70 : (1 : Int32).toInt = 1 := by decide
    refine wt_T_bi (wq_md_bad n hn (0 : Int32) (1 : Int32) σ3 rσ3 (by omega)) (fun r71 h72 => ?_)
    obtain ⟨f73, ri74, pp75⟩ := h72
    have bb76 := wt_bd r71.1
    have bb77 := wt_bd (wt_gf r71.2 108 0)
    have bb78 := wt_bd (wt_gf σ3 108 0)
    refine wt_T_if (fun h79 => ?_) (fun h79 => ?_)
    · skip
      have c80 := wt_ceq h79
      refine wt_T_bi (wq_md_isLetter n hn x2 r71.2 ri74) (fun r81 h82 => ?_)
      obtain ⟨e83, pp84⟩ := h82
      have bb85 := wt_bd r81.1
      rw [e83]
      refine wt_T_if (fun h86 => ?_) (fun h86 => ?_)
      · skip
        have c87 := wt_ceq h86
        unfold wp_md_needs_B39
        have k88 : (2 : Int32).toInt = 2 := by decide
        refine wt_T_bi (wq_md_bad n hn (1 : Int32) (2 : Int32) r71.2 ri74 (by omega)) (fun r89 h90 => ?_)
        obtain ⟨f91, ri92, pp93⟩ := h90
        have bb94 := wt_bd r89.1
        have bb95 := wt_bd (wt_gf r89.2 108 0)
        refine wt_T_if (fun h96 => ?_) (fun h96 => ?_)
        · skip
          have c97 := wt_ceq h96
          refine wt_T_bi (wq_md_needsText n hn x1 r89.2 ri92 (by omega) (by omega)) (fun r98 h99 => ?_)
          obtain ⟨f100, ri101, pp102⟩ := h99
          refine wt_T_gd (wt_ix (by omega) (by omega)) ?_
          refine wt_T_some ?_
          exact ⟨(wt_fr.tr (wt_fr.tr (wt_fr.tr (wt_fr.tr wt_fr.rf fσ3 (fun i k h => by (try dsimp only at h); exact (by omega)) (fun i h => h.elim)) f73 (fun i k h => by (try dsimp only at h); exact (by omega)) (fun i h => h.elim)) f91 (fun i k h => by (try dsimp only at h); exact (by omega)) (fun i h => h.elim)) f100 (fun i k h => h.elim) (fun i h => by (try dsimp only at h); exact (by omega))), ri101⟩
        · skip
          have c103 := wt_nceq h96
          refine wt_T_some ?_
          exact ⟨(wt_fr.tr (wt_fr.tr (wt_fr.tr wt_fr.rf fσ3 (fun i k h => by (try dsimp only at h); exact (by omega)) (fun i h => h.elim)) f73 (fun i k h => by (try dsimp only at h); exact (by omega)) (fun i h => h.elim)) f91 (fun i k h => by (try dsimp only at h); exact (by omega)) (fun i h => h.elim)), ri92⟩
      · skip
        have c104 := wt_nceq h86
        unfold wp_md_needs_B39
        have k105 : (2 : Int32).toInt = 2 := by decide
        refine wt_T_bi (wq_md_bad n hn (0 : Int32) (2 : Int32) r71.2 ri74 (by omega)) (fun r106 h107 => ?_)
        obtain ⟨f108, ri109, pp110⟩ := h107
        have bb111 := wt_bd r106.1
        have bb112 := wt_bd (wt_gf r106.2 108 0)
        refine wt_T_if (fun h113 => ?_) (fun h113 => ?_)
        · skip
          have c114 := wt_ceq h113
          refine wt_T_bi (wq_md_needsText n hn x1 r106.2 ri109 (by omega) (by omega)) (fun r115 h116 => ?_)
          obtain ⟨f117, ri118, pp119⟩ := h116
          refine wt_T_gd (wt_ix (by omega) (by omega)) ?_
          refine wt_T_some ?_
          exact ⟨(wt_fr.tr (wt_fr.tr (wt_fr.tr (wt_fr.tr wt_fr.rf fσ3 (fun i k h => by (try dsimp only at h); exact (by omega)) (fun i h => h.elim)) f73 (fun i k h => by (try dsimp only at h); exact (by omega)) (fun i h => h.elim)) f108 (fun i k h => by (try dsimp only at h); exact (by omega)) (fun i h => h.elim)) f117 (fun i k h => h.elim) (fun i h => by (try dsimp only at h); exact (by omega))), ri118⟩
        · skip
          have c120 := wt_nceq h113
          refine wt_T_some ?_
          exact ⟨(wt_fr.tr (wt_fr.tr (wt_fr.tr wt_fr.rf fσ3 (fun i k h => by (try dsimp only at h); exact (by omega)) (fun i h => h.elim)) f73 (fun i k h => by (try dsimp only at h); exact (by omega)) (fun i h => h.elim)) f108 (fun i k h => by (try dsimp only at h); exact (by omega)) (fun i h => h.elim)), ri109⟩
    · skip
      have c121 := wt_nceq h79
      refine wt_T_some ?_
      exact ⟨(wt_fr.tr (wt_fr.tr wt_fr.rf fσ3 (fun i k h => by (try dsimp only at h); exact (by omega)) (fun i h => h.elim)) f73 (fun i k h => by (try dsimp only at h); exact (by omega)) (fun i h => h.elim)), ri74⟩
set_option maxRecDepth 100000 in
set_option maxHeartbeats 4000000 in
theorem wq_md_ones (n : Nat) (hn : 4294967297 < n) (x0 : Int32) (σ : wt_St) (r0 : wt_RI σ) : wt_T (wp_md_ones n x0 σ) (fun q => q.2 = σ) := by
  have bb1 := wt_bd x0
  unfold wp_md_ones
  have k7 : (0 : Int32).toInt = 0 := by decide
  refine wt_T_it (fun s : Int32 × Int32 × wt_St => s.2.2 = σ ∧ 0 ≤ (s.2.1).toInt) (fun s : Int32 × Int32 × wt_St => ((16 : Int32).toInt - s.2.1.toInt + 0).toNat) (fun KK2 z3 I4 hKK2 => ?_) _ _ ?_ ?_
  · skip
    obtain ⟨l5, l6⟩ := I4
    unfold wp_md_ones_B4
    rw [l5]
    have k8 : (16 : Int32).toInt = 16 := by decide
    have bb9 := wt_bd z3.2.1
    refine wt_T_if (fun h10 => ?_) (fun h10 => ?_)
    · skip
      have c11 := wt_cle h10
      refine wt_T_some ?_
      exact rfl
    · skip
      have c12 := wt_ncle h10
      have bb13 := wt_bd z3.1
      have k14 : (31 : Int32).toInt = 31 := by decide
      have bb15 := wt_bd (z3.2.1 &&& 31)
      have bb16 := wt_bd (x0 >>> (z3.2.1 &&& 31))
      have k17 : (1 : Int32).toInt = 1 := by decide
      have bb18 := wt_bd ((x0 >>> (z3.2.1 &&& 31)) &&& (1 : Int32))
      obtain ⟨j19, j19a, j19b⟩ := wt_addI z3.1 ((x0 >>> (z3.2.1 &&& 31)) &&& (1 : Int32))
      refine hKK2 _ ⟨rfl, (wt_nn (B := (16 : Int32)) (by omega) (by first | (rw [l5]; omega) | (rw [l5]; done) | omega))⟩ ?_
      show ((16 : Int32).toInt - (z3.2.1 + (1 : Int32)).toInt + 0).toNat < ((16 : Int32).toInt - z3.2.1.toInt + 0).toNat
      exact wt_mu (by first | (rw [l5]; omega) | (rw [l5]; done) | omega) (by first | (rw [l5]; omega) | (rw [l5]; done) | omega)
  · skip
    have k20 : (16 : Int32).toInt = 16 := by decide
    exact ⟨rfl, (show 0 ≤ ((0 : Int32)).toInt by omega)⟩
  · skip
    have k21 : (16 : Int32).toInt = 16 := by decide
    show ((16 : Int32).toInt - (0 : Int32).toInt + 0).toNat < n
    omega
set_option maxRecDepth 100000 in
set_option maxHeartbeats 4000000 in
theorem wq_md_pieceOn (n : Nat) (hn : 4294967297 < n) (x1 : Int32) (x2 : Int32) (x3 : Int32) (σ : wt_St) (r0 : wt_RI σ) (p0 : 0 ≤ x1.toInt) (p1 : x1.toInt ≤ 3) : wt_T (wp_md_pieceOn n x1 x2 x3 σ) (fun q => q.2 = σ) := by
  have bb1 := wt_bd x1
  have bb2 := wt_bd x2
  have bb3 := wt_bd x3
  unfold wp_md_pieceOn
  have k9 : (0 : Int32).toInt = 0 := by decide
  refine wt_T_it (fun s : Int32 × Int32 × wt_St => s.2.2 = σ ∧ 0 ≤ (s.2.1).toInt) (fun s : Int32 × Int32 × wt_St => ((wt_ga s.2.2 276 (Int32.toNatClampNeg x1)).toInt - s.2.1.toInt + 0).toNat) (fun KK4 z5 I6 hKK4 => ?_) _ _ ?_ ?_
  · skip
    obtain ⟨l7, l8⟩ := I6
    unfold wp_md_pieceOn_B6
    rw [l7]
    have bb10 := wt_tn x1
    have bb11 := wt_bd (wt_ga σ 276 (Int32.toNatClampNeg x1))
    have g12 : 0 ≤ (wt_ga σ 276 (Int32.toNatClampNeg x1)).toInt ∧ (wt_ga σ 276 (Int32.toNatClampNeg x1)).toInt ≤ 108 := wt_R_ga r0 13 rfl 276 (by decide) (by decide) (Int32.toNatClampNeg x1)
    have bb13 := wt_bd z5.2.1
    refine wt_T_gd (wt_ix (by omega) (by omega)) ?_
    refine wt_T_if (fun h14 => ?_) (fun h14 => ?_)
    · skip
      have c15 := wt_cle h14
      refine wt_T_some ?_
      exact rfl
    · skip
      have c16 := wt_ncle h14
      refine wt_T_gd (wt_ix (by omega) (by omega)) ?_
      refine wt_T_gd (wt_ix (by omega) (by omega)) ?_
      have bb17 := wt_tn z5.2.1
      have bb18 := wt_bd (wt_ga σ (278 + (Int32.toNatClampNeg x1)) (Int32.toNatClampNeg z5.2.1))
      have g19 : 0 ≤ (wt_ga σ (278 + (Int32.toNatClampNeg x1)) (Int32.toNatClampNeg z5.2.1)).toInt ∧ (wt_ga σ (278 + (Int32.toNatClampNeg x1)) (Int32.toNatClampNeg z5.2.1)).toInt ≤ 337 := wt_R_ga r0 14 rfl (278 + (Int32.toNatClampNeg x1)) (show 278 ≤ 278 + (Int32.toNatClampNeg x1) by omega) (show 278 + (Int32.toNatClampNeg x1) < 282 by omega) (Int32.toNatClampNeg z5.2.1)
      have k20 : (13 : Int32).toInt = 13 := by decide
      have bb21 := wt_bd ((wt_ga σ (278 + (Int32.toNatClampNeg x1)) (Int32.toNatClampNeg z5.2.1)) / (13 : Int32))
      have dv22 : ((wt_ga σ (278 + (Int32.toNatClampNeg x1)) (Int32.toNatClampNeg z5.2.1)) / (13 : Int32)).toInt = (wt_ga σ (278 + (Int32.toNatClampNeg x1)) (Int32.toNatClampNeg z5.2.1)).toInt / 13 := (wt_divI (x := wt_ga σ (278 + (Int32.toNatClampNeg x1)) (Int32.toNatClampNeg z5.2.1)) (y := (13 : Int32)) (by omega) (by omega)).trans (by rw [show (13 : Int32).toInt = 13 from by decide])
      refine wt_T_if (fun h23 => ?_) (fun h23 => ?_)
      · skip
        have c24 := wt_ceq h23
        have bb25 := wt_bd z5.1
        refine wt_T_if (fun h26 => ?_) (fun h26 => ?_)
        · skip
          have c27 := wt_ceq h26
          refine wt_T_gd (wt_ix (by omega) (by omega)) ?_
          refine wt_T_gd (wt_ix (by omega) (by omega)) ?_
          refine wt_T_some ?_
          exact rfl
        · skip
          have c28 := wt_nceq h26
          unfold wp_md_pieceOn_B55
          have k29 : (1 : Int32).toInt = 1 := by decide
          obtain ⟨j30, j30a, j30b⟩ := wt_addI z5.1 (1 : Int32)
          refine hKK4 _ ⟨rfl, (wt_nn (B := wt_ga z5.2.2 276 (Int32.toNatClampNeg x1)) (by omega) (by first | (rw [l7]; omega) | (rw [l7]; done) | omega))⟩ ?_
          show ((wt_ga σ 276 (Int32.toNatClampNeg x1)).toInt - (z5.2.1 + (1 : Int32)).toInt + 0).toNat < ((wt_ga z5.2.2 276 (Int32.toNatClampNeg x1)).toInt - z5.2.1.toInt + 0).toNat
          exact wt_mu (by first | (rw [l7]; omega) | (rw [l7]; done) | omega) (by first | (rw [l7]; omega) | (rw [l7]; done) | omega)
      · skip
        have c31 := wt_nceq h23
        unfold wp_md_pieceOn_B55
        have bb32 := wt_bd z5.1
        refine hKK4 _ ⟨rfl, (wt_nn (B := wt_ga z5.2.2 276 (Int32.toNatClampNeg x1)) (by omega) (by first | (rw [l7]; omega) | (rw [l7]; done) | omega))⟩ ?_
        show ((wt_ga σ 276 (Int32.toNatClampNeg x1)).toInt - (z5.2.1 + (1 : Int32)).toInt + 0).toNat < ((wt_ga z5.2.2 276 (Int32.toNatClampNeg x1)).toInt - z5.2.1.toInt + 0).toNat
        exact wt_mu (by first | (rw [l7]; omega) | (rw [l7]; done) | omega) (by first | (rw [l7]; omega) | (rw [l7]; done) | omega)
  · skip
    have bb33 := wt_tn x1
    have bb34 := wt_bd (wt_ga σ 276 (Int32.toNatClampNeg x1))
    have g35 : 0 ≤ (wt_ga σ 276 (Int32.toNatClampNeg x1)).toInt ∧ (wt_ga σ 276 (Int32.toNatClampNeg x1)).toInt ≤ 108 := wt_R_ga r0 13 rfl 276 (by decide) (by decide) (Int32.toNatClampNeg x1)
    exact ⟨rfl, (show 0 ≤ ((0 : Int32)).toInt by omega)⟩
  · skip
    have bb36 := wt_tn x1
    have bb37 := wt_bd (wt_ga σ 276 (Int32.toNatClampNeg x1))
    have g38 : 0 ≤ (wt_ga σ 276 (Int32.toNatClampNeg x1)).toInt ∧ (wt_ga σ 276 (Int32.toNatClampNeg x1)).toInt ≤ 108 := wt_R_ga r0 13 rfl 276 (by decide) (by decide) (Int32.toNatClampNeg x1)
    show ((wt_ga σ 276 (Int32.toNatClampNeg x1)).toInt - (0 : Int32).toInt + 0).toNat < n
    omega
set_option maxRecDepth 100000 in
set_option maxHeartbeats 4000000 in
theorem wq_md_pieceOnP (n : Nat) (hn : 4294967297 < n) (x1 : Int32) (x2 : Int32) (x3 : Int32) (σ : wt_St) (r0 : wt_RI σ) (p0 : 0 ≤ x1.toInt) (p1 : x1.toInt ≤ 3) (p2 : 0 ≤ x3.toInt) (p3 : x3.toInt < wt_pc σ (Int32.toNatClampNeg x1) x2.toInt) : wt_T (wp_md_pieceOn n x1 x2 x3 σ) (fun q => q.2 = σ ∧ 0 ≤ q.1.toInt ∧ q.1.toInt ≤ 337) := by
  unfold wp_md_pieceOn
  have k0 : (0 : Int32).toInt = 0 := by decide
  have k13 : (13 : Int32).toInt = 13 := by decide
  have hx := wt_tnI p0
  have gm : 0 ≤ (wt_ga σ 276 (Int32.toNatClampNeg x1)).toInt ∧ (wt_ga σ 276 (Int32.toNatClampNeg x1)).toInt ≤ 108 := wt_R_ga r0 13 rfl 276 (by decide) (by decide) _
  refine wt_T_it (fun s : Int32 × Int32 × wt_St => s.2.2 = σ ∧ 0 ≤ s.2.1.toInt ∧ s.2.1.toInt ≤ (wt_ga σ 276 (Int32.toNatClampNeg x1)).toInt ∧ s.1.toInt ≤ x3.toInt ∧ s.1.toInt = wt_ct (fun k => (wt_ga σ (278 + Int32.toNatClampNeg x1) k).toInt / 13) x2.toInt (Int32.toNatClampNeg s.2.1)) (fun s => ((wt_ga σ 276 (Int32.toNatClampNeg x1)).toInt - s.2.1.toInt).toNat) (fun K z hI hK => ?_) n _ ?_ ?_
  · obtain ⟨e, l1, l2, l4, l3⟩ := hI
    unfold wp_md_pieceOn_B6
    rw [e]
    refine wt_T_gd (wt_ix (by omega) (by omega)) ?_
    refine wt_T_if (fun h => ?_) (fun h => ?_)
    · have c := wt_cle h
      have e2 : z.2.1 = wt_ga σ 276 (Int32.toNatClampNeg x1) := wt_eqI (by omega)
      exfalso
      unfold wt_pc at p3
      rw [← e2] at p3
      omega
    · have c := wt_ncle h
      have et := wt_tnI l1
      have ei := wt_i1 (c := z.2.1) (by omega)
      have gc : 0 ≤ (wt_ga σ (278 + Int32.toNatClampNeg x1) (Int32.toNatClampNeg z.2.1)).toInt ∧ (wt_ga σ (278 + Int32.toNatClampNeg x1) (Int32.toNatClampNeg z.2.1)).toInt ≤ 337 := wt_R_ga r0 14 rfl (278 + Int32.toNatClampNeg x1) (show 278 ≤ 278 + Int32.toNatClampNeg x1 by omega) (show 278 + Int32.toNatClampNeg x1 < 282 by omega) _
      have ed := wt_divI (x := wt_ga σ (278 + Int32.toNatClampNeg x1) (Int32.toNatClampNeg z.2.1)) (y := (13 : Int32)) gc.1 (by omega)
      rw [k13] at ed
      have hb := wt_ct_bd (fun k => (wt_ga σ (278 + Int32.toNatClampNeg x1) k).toInt / 13) x2.toInt (Int32.toNatClampNeg z.2.1)
      have step : ∀ y : Int32, y.toInt ≤ x3.toInt → y.toInt = wt_ct (fun k => (wt_ga σ (278 + Int32.toNatClampNeg x1) k).toInt / 13) x2.toInt (Int32.toNatClampNeg z.2.1) + (if (wt_ga σ (278 + Int32.toNatClampNeg x1) (Int32.toNatClampNeg z.2.1)).toInt / 13 = x2.toInt then 1 else 0) → wt_T (K (y, z.2.1 + (1 : Int32), σ)) (fun q => q.2 = σ ∧ 0 ≤ q.1.toInt ∧ q.1.toInt ≤ 337) := by
        intro y hy1 hy2
        refine hK _ ⟨rfl, (show 0 ≤ (z.2.1 + (1 : Int32)).toInt by omega), (show (z.2.1 + (1 : Int32)).toInt ≤ (wt_ga σ 276 (Int32.toNatClampNeg x1)).toInt by omega), hy1, ?_⟩ (show ((wt_ga σ 276 (Int32.toNatClampNeg x1)).toInt - (z.2.1 + (1 : Int32)).toInt).toNat < ((wt_ga σ 276 (Int32.toNatClampNeg x1)).toInt - z.2.1.toInt).toNat by omega)
        show y.toInt = wt_ct (fun k => (wt_ga σ (278 + Int32.toNatClampNeg x1) k).toInt / 13) x2.toInt (Int32.toNatClampNeg (z.2.1 + (1 : Int32)))
        rw [wt_tn_i1 l1 (by omega), hy2]
        rfl
      refine wt_T_gd (wt_ix (by omega) (by omega)) ?_
      refine wt_T_gd (wt_ix (by omega) (by omega)) ?_
      refine wt_T_if (fun h4 => ?_) (fun h4 => ?_)
      · have c4 := wt_ceq h4
        rw [ed] at c4
        refine wt_T_if (fun h5 => ?_) (fun h5 => ?_)
        · refine wt_T_gd (wt_ix (by omega) (by omega)) ?_
          refine wt_T_gd (wt_ix (by omega) (by omega)) ?_
          exact wt_T_some ⟨rfl, gc⟩
        · have c5 := wt_nceq h5
          have ej := wt_i1 (c := z.1) (by omega)
          unfold wp_md_pieceOn_B55
          exact step _ (by omega) (by rw [if_pos c4]; omega)
      · have c4 := wt_nceq h4
        rw [ed] at c4
        unfold wp_md_pieceOn_B55
        exact step _ l4 (by rw [if_neg c4]; omega)
  · refine ⟨rfl, (show 0 ≤ (0 : Int32).toInt by omega), (show (0 : Int32).toInt ≤ (wt_ga σ 276 (Int32.toNatClampNeg x1)).toInt by omega), (show (0 : Int32).toInt ≤ x3.toInt by omega), ?_⟩
    show (0 : Int32).toInt = wt_ct (fun k => (wt_ga σ (278 + Int32.toNatClampNeg x1) k).toInt / 13) x2.toInt (Int32.toNatClampNeg (0 : Int32))
    rw [wt_tn0]
    exact k0
  · show ((wt_ga σ 276 (Int32.toNatClampNeg x1)).toInt - (0 : Int32).toInt).toNat < n
    omega
set_option maxRecDepth 100000 in
set_option maxHeartbeats 4000000 in
theorem wq_md_readOf_words (n : Nat) (hn : 4294967297 < n) (x4 : Int32) (σ : wt_St) (r0 : wt_RI σ) (h9 : x4.toInt ≤ 9) : wt_T (wt_it (wp_md_readOf_B179 n x4) n ((0 : Int32), σ)) (fun q => q.2 = σ) := by
  have k0 : (0 : Int32).toInt = 0 := by decide
  have gw : 0 ≤ (wt_gf σ 108 28).toInt ∧ (wt_gf σ 108 28).toInt ≤ 60 := wt_R_gf r0 6 rfl
  refine wt_T_it (fun s : Int32 × wt_St => s.2 = σ ∧ 0 ≤ s.1.toInt) (fun s => (60 - s.1.toInt).toNat) (fun K z hI hK => ?_) n _ ?_ ?_
  · obtain ⟨e, l1⟩ := hI
    unfold wp_md_readOf_B179
    rw [e]
    refine wt_T_if (fun h => wt_T_some rfl) (fun h => ?_)
    have c := wt_ncle h
    have ei := wt_i1 (c := z.1) (by omega)
    have inner : ∀ y0 : Int32, wt_T (wp_md_readOf_B205 n x4 z.1 K y0 σ) (fun q => q.2 = σ) := by
      intro y0
      unfold wp_md_readOf_B205
      refine wt_T_it (fun s : Int32 × Int32 × wt_St => s.2.2 = σ ∧ 0 ≤ s.2.1.toInt) (fun s => (9 - s.2.1.toInt).toNat) (fun K2 y hJ hK2 => ?_) n _ ?_ ?_
      · obtain ⟨e', m1⟩ := hJ
        unfold wp_md_readOf_B210
        rw [e']
        have fin : ∀ fl : Int32, wt_T (wp_md_readOf_B255 n x4 z.1 fl K σ) (fun q => q.2 = σ) := by
          intro fl
          unfold wp_md_readOf_B255
          refine wt_T_if (fun _ => ?_) (fun _ => wt_T_some rfl)
          exact hK _ ⟨rfl, (show 0 ≤ (z.1 + (1 : Int32)).toInt by omega)⟩ (show (60 - (z.1 + (1 : Int32)).toInt).toNat < (60 - z.1.toInt).toNat by omega)
        refine wt_T_if (fun _ => fin _) (fun h2 => ?_)
        refine wt_T_if (fun _ => fin _) (fun _ => ?_)
        have c2 := wt_ncle h2
        have ej := wt_i1 (c := y.2.1) (by omega)
        refine wt_T_gd (wt_ix (by omega) (by omega)) ?_
        refine wt_T_gd (wt_ix (by omega) (by omega)) ?_
        refine wt_T_gd (wt_ix (by omega) (by omega)) ?_
        have go : ∀ v : Int32, wt_T (wp_md_readOf_B247 n x4 z.1 y.2.1 K K2 v σ) (fun q => q.2 = σ) := by
          intro v
          unfold wp_md_readOf_B247
          exact hK2 _ ⟨rfl, (show 0 ≤ (y.2.1 + (1 : Int32)).toInt by omega)⟩ (show (9 - (y.2.1 + (1 : Int32)).toInt).toNat < (9 - y.2.1.toInt).toNat by omega)
        exact wt_T_if (fun _ => go _) (fun _ => go _)
      · exact ⟨rfl, (show 0 ≤ (0 : Int32).toInt by omega)⟩
      · show (9 - (0 : Int32).toInt).toNat < n
        omega
    refine wt_T_gd (wt_ix (by omega) (by omega)) ?_
    exact wt_T_if (fun _ => inner _) (fun _ => inner _)
  · exact ⟨rfl, (show 0 ≤ (0 : Int32).toInt by omega)⟩
  · show (60 - (0 : Int32).toInt).toNat < n
    omega
set_option maxRecDepth 100000 in
set_option maxHeartbeats 4000000 in
theorem wq_md_readOf (n : Nat) (hn : 4294967297 < n) (x1 : Int32) (x2 : Int32) (σ : wt_St) (r0 : wt_RI σ) (p0 : 0 ≤ x1.toInt) (p1 : x1.toInt ≤ 3) (p2 : (wt_ga σ 275 (Int32.toNatClampNeg x1)).toInt ≠ -1) (p3 : 0 ≤ x2.toInt) (p4 : x2.toInt < (wt_ga σ 253 (Int32.toNatClampNeg (wt_ga σ 275 (Int32.toNatClampNeg x1)))).toInt) (p5 : wt_PG σ) : wt_T (wp_md_readOf n x1 x2 σ) (fun q => wt_fr (fun i k => False) (fun i => i = 290 ∨ i = 289) σ q.2 ∧ wt_RI q.2) := by
  unfold wp_md_readOf
  have k0 : (0 : Int32).toInt = 0 := by decide
  have k26 : (26 : Int32).toInt = 26 := by decide
  have hx := wt_tnI p0
  have hx2 := wt_tnI p3
  have gt : -1 ≤ (wt_ga σ 275 (Int32.toNatClampNeg x1)).toInt ∧ (wt_ga σ 275 (Int32.toNatClampNeg x1)).toInt ≤ 7 := wt_R_ga r0 12 rfl 275 (by decide) (by decide) _
  have pg := (p5 (Int32.toNatClampNeg x1) (by omega) p2).2
  refine wt_T_gd (wt_ix (by omega) (by omega)) ?_
  generalize wt_ga σ 275 (Int32.toNatClampNeg x1) = t at *
  have ht := wt_tnI (x := t) (by omega)
  have gl : 0 ≤ (wt_ga σ 253 (Int32.toNatClampNeg t)).toInt ∧ (wt_ga σ 253 (Int32.toNatClampNeg t)).toInt ≤ 12 := wt_R_ga r0 9 rfl 253 (by decide) (by decide) _
  have hgl := wt_tnI gl.1
  have gw : ∀ i, 0 ≤ (wt_ga σ (255 + Int32.toNatClampNeg t) i).toInt ∧ (wt_ga σ (255 + Int32.toNatClampNeg t) i).toInt ≤ 59 := fun i => wt_R_ga r0 10 rfl (255 + Int32.toNatClampNeg t) (show 255 ≤ 255 + Int32.toNatClampNeg t by omega) (show 255 + Int32.toNatClampNeg t < 263 by omega) i
  have gn : ∀ w, 0 ≤ (wt_ga σ 126 w).toInt ∧ (wt_ga σ 126 w).toInt ≤ 9 := fun w => wt_R_ga r0 5 rfl 126 (by decide) (by decide) w
  refine wt_T_it (fun s : Int32 × wt_St => wt_fr (fun i k => False) (fun i => i = 290 ∨ i = 289) σ s.2 ∧ wt_RI s.2 ∧ 0 ≤ s.1.toInt ∧ ∀ l : Nat, (l : Int) < s.1.toInt → (wt_ga s.2 290 l).toInt = 0) (fun s => (26 - s.1.toInt).toNat) (fun K10 z hI hK10 => ?_) n _ ?_ ?_
  · obtain ⟨fz, rz, l1, l2⟩ := hI
    unfold wp_md_readOf_B10
    refine wt_T_if (fun h => ?_) (fun h => ?_)
    · have c := wt_cle h
      refine wt_T_it (fun s : Int32 × wt_St => wt_fr (fun i k => False) (fun i => i = 290 ∨ i = 289) σ s.2 ∧ wt_RI s.2 ∧ 0 ≤ s.1.toInt ∧ s.1.toInt ≤ x2.toInt + 1 ∧ ∀ l : Nat, l < 26 → (wt_ga s.2 290 l).toInt = wt_sum (fun k => wt_nw σ (Int32.toNatClampNeg (wt_ga σ (255 + Int32.toNatClampNeg t) k)) l) (Int32.toNatClampNeg s.1)) (fun s => (x2.toInt + 1 - s.1.toInt).toNat) (fun K34 y hJ hK34 => ?_) n _ ?_ ?_
      · obtain ⟨fy, ry, m1, m2, m3⟩ := hJ
        have t255 : ∀ i, wt_ga y.2 (255 + Int32.toNatClampNeg t) i = wt_ga σ (255 + Int32.toNatClampNeg t) i := fy.2 (255 + Int32.toNatClampNeg t) (by omega)
        have t126 : ∀ i, wt_ga y.2 126 i = wt_ga σ 126 i := fy.2 126 (by omega)
        have em := wt_tnI m1
        unfold wp_md_readOf_B34
        refine wt_T_if (fun h2 => ?_) (fun h2 => ?_)
        · rw [t255, t126]
          have g1 := gw (Int32.toNatClampNeg x2)
          have g2 := gn (Int32.toNatClampNeg (wt_ga σ (255 + Int32.toNatClampNeg t) (Int32.toNatClampNeg x2)))
          refine wt_T_gd (wt_ix (by omega) (by omega)) ?_
          refine wt_T_gd (wt_ix (by omega) (by omega)) ?_
          refine wt_T_gd (wt_ix (by omega) (by omega)) ?_
          exact wt_T.imp (wq_md_readOf_words n hn _ y.2 ry g2.2) (fun q hq => by rw [hq]; exact ⟨fy, ry⟩)
        · have c2 := wt_ncl h2
          have ei := wt_i1 (c := y.1) (by omega)
          refine wt_T_gd (wt_ix (by omega) (by omega)) ?_
          refine wt_T_gd (wt_ix (by omega) (by omega)) ?_
          rw [t255]
          have g1 := gw (Int32.toNatClampNeg y.1)
          have hS : ∀ l : Int, 0 ≤ l → l < 26 → wt_sum (fun k => wt_nw σ (Int32.toNatClampNeg (wt_ga σ (255 + Int32.toNatClampNeg t) k)) l) (Int32.toNatClampNeg y.1) + wt_nw σ (Int32.toNatClampNeg (wt_ga σ (255 + Int32.toNatClampNeg t) (Int32.toNatClampNeg y.1))) l ≤ wt_pc σ (Int32.toNatClampNeg x1) l := fun l hl0 hl => by
            have h1 := wt_sum_pre (f := fun k => wt_nw σ (Int32.toNatClampNeg (wt_ga σ (255 + Int32.toNatClampNeg t) k)) l) (a := Int32.toNatClampNeg y.1 + 1) (Int32.toNatClampNeg (wt_ga σ 253 (Int32.toNatClampNeg t))) (by omega) (fun k _ => (wt_nw_bd r0 _ _).1)
            have h2 : wt_sum (fun k => wt_nw σ (Int32.toNatClampNeg (wt_ga σ (255 + Int32.toNatClampNeg t) k)) l) (Int32.toNatClampNeg y.1 + 1) = wt_sum (fun k => wt_nw σ (Int32.toNatClampNeg (wt_ga σ (255 + Int32.toNatClampNeg t) k)) l) (Int32.toNatClampNeg y.1) + wt_nw σ (Int32.toNatClampNeg (wt_ga σ (255 + Int32.toNatClampNeg t) (Int32.toNatClampNeg y.1))) l := rfl
            have h3 := pg l hl0 hl
            unfold wt_nt at h3
            omega
          generalize hwd : wt_ga σ (255 + Int32.toNatClampNeg t) (Int32.toNatClampNeg y.1) = w at *
          have hw := wt_tnI g1.1
          have g9 := gn (Int32.toNatClampNeg w)
          have hg9 := wt_tnI g9.1
          refine wt_T_it (fun s : Int32 × wt_St => wt_fr (fun i k => False) (fun i => i = 290 ∨ i = 289) σ s.2 ∧ wt_RI s.2 ∧ 0 ≤ s.1.toInt ∧ s.1.toInt ≤ (wt_ga σ 126 (Int32.toNatClampNeg w)).toInt ∧ ∀ l : Nat, l < 26 → (wt_ga s.2 290 l).toInt = wt_sum (fun k => wt_nw σ (Int32.toNatClampNeg (wt_ga σ (255 + Int32.toNatClampNeg t) k)) l) (Int32.toNatClampNeg y.1) + wt_ct (fun k => (wt_ga σ (193 + Int32.toNatClampNeg w) k).toInt) l (Int32.toNatClampNeg s.1)) (fun s => ((wt_ga σ 126 (Int32.toNatClampNeg w)).toInt - s.1.toInt).toNat) (fun K54 u hU hK54 => ?_) n _ ?_ ?_
          · obtain ⟨fu, ru, n1, n2, n3⟩ := hU
            unfold wp_md_readOf_B54
            rw [fu.2 126 (by omega) (Int32.toNatClampNeg w), fu.2 (193 + Int32.toNatClampNeg w) (by omega) (Int32.toNatClampNeg u.1)]
            have en := wt_tnI n1
            refine wt_T_gd (wt_ix (by omega) (by omega)) ?_
            refine wt_T_if (fun h3 => ?_) (fun h3 => ?_)
            · have c3 := wt_cle h3
              refine hK34 _ ⟨fu, ru, (show 0 ≤ (y.1 + (1 : Int32)).toInt by omega), (show (y.1 + (1 : Int32)).toInt ≤ x2.toInt + 1 by omega), fun l hl => ?_⟩ (show (x2.toInt + 1 - (y.1 + (1 : Int32)).toInt).toNat < (x2.toInt + 1 - y.1.toInt).toNat by omega)
              show (wt_ga u.2 290 l).toInt = wt_sum (fun k => wt_nw σ (Int32.toNatClampNeg (wt_ga σ (255 + Int32.toNatClampNeg t) k)) l) (Int32.toNatClampNeg (y.1 + (1 : Int32)))
              rw [wt_tn_i1 m1 (by omega), n3 l hl]
              have ee : Int32.toNatClampNeg u.1 = Int32.toNatClampNeg (wt_ga σ 126 (Int32.toNatClampNeg w)) := by omega
              rw [ee]
              show _ = wt_sum (fun k => wt_nw σ (Int32.toNatClampNeg (wt_ga σ (255 + Int32.toNatClampNeg t) k)) l) (Int32.toNatClampNeg y.1) + wt_nw σ (Int32.toNatClampNeg (wt_ga σ (255 + Int32.toNatClampNeg t) (Int32.toNatClampNeg y.1))) l
              rw [hwd]
              rfl
            · have c3 := wt_ncle h3
              have gL : 0 ≤ (wt_ga σ (193 + Int32.toNatClampNeg w) (Int32.toNatClampNeg u.1)).toInt ∧ (wt_ga σ (193 + Int32.toNatClampNeg w) (Int32.toNatClampNeg u.1)).toInt ≤ 25 := wt_R_ga r0 8 rfl (193 + Int32.toNatClampNeg w) (show 193 ≤ 193 + Int32.toNatClampNeg w by omega) (show 193 + Int32.toNatClampNeg w < 253 by omega) _
              have hle := wt_sum_pre (f := fun k => if (wt_ga σ (193 + Int32.toNatClampNeg w) k).toInt = (wt_ga σ (193 + Int32.toNatClampNeg w) (Int32.toNatClampNeg u.1)).toInt then (1 : Int) else 0) (a := Int32.toNatClampNeg u.1 + 1) (Int32.toNatClampNeg (wt_ga σ 126 (Int32.toNatClampNeg w))) (by omega) (fun k _ => by
                show (0 : Int) ≤ (if (wt_ga σ (193 + Int32.toNatClampNeg w) k).toInt = (wt_ga σ (193 + Int32.toNatClampNeg w) (Int32.toNatClampNeg u.1)).toInt then (1 : Int) else 0)
                split <;> omega)
              have hle2 : wt_sum (fun k => if (wt_ga σ (193 + Int32.toNatClampNeg w) k).toInt = (wt_ga σ (193 + Int32.toNatClampNeg w) (Int32.toNatClampNeg u.1)).toInt then (1 : Int) else 0) (Int32.toNatClampNeg u.1 + 1) = wt_ct (fun k => (wt_ga σ (193 + Int32.toNatClampNeg w) k).toInt) (wt_ga σ (193 + Int32.toNatClampNeg w) (Int32.toNatClampNeg u.1)).toInt (Int32.toNatClampNeg u.1) + 1 := by
                show wt_sum _ (Int32.toNatClampNeg u.1) + (if (wt_ga σ (193 + Int32.toNatClampNeg w) (Int32.toNatClampNeg u.1)).toInt = (wt_ga σ (193 + Int32.toNatClampNeg w) (Int32.toNatClampNeg u.1)).toInt then (1 : Int) else 0) = _
                rw [if_pos rfl]
                rfl
              have hle3 : wt_sum (fun k => if (wt_ga σ (193 + Int32.toNatClampNeg w) k).toInt = (wt_ga σ (193 + Int32.toNatClampNeg w) (Int32.toNatClampNeg u.1)).toInt then (1 : Int) else 0) (Int32.toNatClampNeg (wt_ga σ 126 (Int32.toNatClampNeg w))) = wt_nw σ (Int32.toNatClampNeg w) (wt_ga σ (193 + Int32.toNatClampNeg w) (Int32.toNatClampNeg u.1)).toInt := rfl
              have hSL := hS (wt_ga σ (193 + Int32.toNatClampNeg w) (Int32.toNatClampNeg u.1)).toInt gL.1 (by omega)
              generalize hLd : wt_ga σ (193 + Int32.toNatClampNeg w) (Int32.toNatClampNeg u.1) = L at *
              have hL := wt_tnI gL.1
              have n3L := n3 (Int32.toNatClampNeg L) (by omega)
              rw [hL] at n3L
              have hs0 := (wt_sum_bd (f := fun k => wt_nw σ (Int32.toNatClampNeg (wt_ga σ (255 + Int32.toNatClampNeg t) k)) L.toInt) (c := 9) (Int32.toNatClampNeg y.1) (fun k _ => wt_nw_bd r0 _ _))
              have hc0 := wt_ct_bd (fun k => (wt_ga σ (193 + Int32.toNatClampNeg w) k).toInt) L.toInt (Int32.toNatClampNeg u.1)
              have hpc : wt_pc u.2 (Int32.toNatClampNeg x1) L.toInt = wt_pc σ (Int32.toNatClampNeg x1) L.toInt := wt_pc_fr (by omega) (fun i hi j => fu.2 i (fun h => by unfold wt_PA at hi; omega) j)
              refine wt_T_gd (wt_ix (by omega) (by omega)) ?_
              refine wt_T_gd (wt_ix (by omega) (by omega)) ?_
              refine wt_T_gd (wt_ix (by omega) (by omega)) ?_
              refine wt_T_bi (wq_md_pieceOnP n hn x1 L (wt_ga u.2 290 (Int32.toNatClampNeg L)) u.2 ru p0 p1 (by omega) (by omega)) (fun q24 h24 => ?_)
              obtain ⟨e24, v24⟩ := h24
              rw [e24]
              refine wt_T_gd (wt_ix (by omega) (by omega)) ?_
              refine wt_T_gd (wt_ix (by omega) (by omega)) ?_
              refine wt_T_gd (wt_ix (by omega) (by omega)) ?_
              obtain ⟨σ1, ε1⟩ : ∃ o : wt_St, o = wt_sa u.2 290 (Int32.toNatClampNeg L) ((wt_ga u.2 290 (Int32.toNatClampNeg L)) + (1 : Int32)) := ⟨_, rfl⟩
              rw [← ε1]
              have f1 := wt_fr_sa ε1
              have r1 := wt_RI_no ru ε1 290 291 (by decide) (by decide) (by decide)
              have ek := wt_i1 (c := u.1) (by omega)
              have es := wt_i1 (c := wt_ga u.2 290 (Int32.toNatClampNeg L)) (by omega)
              have step : ∀ v : Int32, wt_T (wp_md_readOf_B148 n x1 x2 t y.1 w u.1 K34 K54 289 u.1 v σ1) (fun q => wt_fr (fun i k => False) (fun i => i = 290 ∨ i = 289) σ q.2 ∧ wt_RI q.2) := by
                intro v
                unfold wp_md_readOf_B148
                refine wt_T_gd (wt_ix (by omega) (by omega)) ?_
                obtain ⟨σ2, ε2⟩ : ∃ o : wt_St, o = wt_sa σ1 289 (Int32.toNatClampNeg u.1) v := ⟨_, rfl⟩
                rw [← ε2]
                have f2 := wt_fr_sa ε2
                refine hK54 _ ⟨wt_fr.tr (wt_fr.tr fu f1 (fun i k h => h.elim) (fun i h => Or.inl h)) f2 (fun i k h => h.elim) (fun i h => Or.inr h), wt_RI_no r1 ε2 289 290 (by decide) (by decide) (by decide), (show 0 ≤ (u.1 + (1 : Int32)).toInt by omega), (show (u.1 + (1 : Int32)).toInt ≤ (wt_ga σ 126 (Int32.toNatClampNeg w)).toInt by omega), fun l hl => ?_⟩ (show ((wt_ga σ 126 (Int32.toNatClampNeg w)).toInt - (u.1 + (1 : Int32)).toInt).toNat < ((wt_ga σ 126 (Int32.toNatClampNeg w)).toInt - u.1.toInt).toNat by omega)
                show (wt_ga σ2 290 l).toInt = wt_sum (fun k => wt_nw σ (Int32.toNatClampNeg (wt_ga σ (255 + Int32.toNatClampNeg t) k)) l) (Int32.toNatClampNeg y.1) + wt_ct (fun k => (wt_ga σ (193 + Int32.toNatClampNeg w) k).toInt) l (Int32.toNatClampNeg (u.1 + (1 : Int32)))
                rw [wt_tn_i1 n1 (by omega), f2.2 290 (by decide)]
                show (wt_ga σ1 290 l).toInt = wt_sum (fun k => wt_nw σ (Int32.toNatClampNeg (wt_ga σ (255 + Int32.toNatClampNeg t) k)) l) (Int32.toNatClampNeg y.1) + (wt_ct (fun k => (wt_ga σ (193 + Int32.toNatClampNeg w) k).toInt) l (Int32.toNatClampNeg u.1) + if (wt_ga σ (193 + Int32.toNatClampNeg w) (Int32.toNatClampNeg u.1)).toInt = (l : Int) then 1 else 0)
                rw [hLd]
                have n3l := n3 l hl
                by_cases hc : l = Int32.toNatClampNeg L
                · rw [if_pos (by omega), hc, wt_v_sa ε1, es, ← hc, n3l]
                  omega
                · rw [if_neg (by omega), wt_w_sa ε1 l hc, n3l]
                  omega
              have step2 : wt_T (wp_md_readOf_B146 n x1 x2 t y.1 w u.1 L K34 K54 289 u.1 σ1) (fun q => wt_fr (fun i k => False) (fun i => i = 290 ∨ i = 289) σ q.2 ∧ wt_RI q.2) := by
                unfold wp_md_readOf_B146
                exact step _
              refine wt_T_if (fun _ => step2) (fun _ => ?_)
              refine wt_T_gd (wt_ix (by omega) (by omega)) ?_
              refine wt_T_if (fun _ => step2) (fun _ => ?_)
              refine wt_T_gd (wt_ix (by omega) (by omega)) ?_
              exact step _
          · refine ⟨fy, ry, (show 0 ≤ (0 : Int32).toInt by omega), (show (0 : Int32).toInt ≤ (wt_ga σ 126 (Int32.toNatClampNeg w)).toInt by omega), fun l hl => ?_⟩
            show (wt_ga y.2 290 l).toInt = wt_sum (fun k => wt_nw σ (Int32.toNatClampNeg (wt_ga σ (255 + Int32.toNatClampNeg t) k)) l) (Int32.toNatClampNeg y.1) + wt_ct (fun k => (wt_ga σ (193 + Int32.toNatClampNeg w) k).toInt) l (Int32.toNatClampNeg (0 : Int32))
            rw [wt_tn0, m3 l hl]
            exact (Int.add_zero _).symm
          · show ((wt_ga σ 126 (Int32.toNatClampNeg w)).toInt - (0 : Int32).toInt).toNat < n
            omega
      · refine ⟨fz, rz, (show 0 ≤ (0 : Int32).toInt by omega), (show (0 : Int32).toInt ≤ x2.toInt + 1 by omega), fun l hl => ?_⟩
        show (wt_ga z.2 290 l).toInt = wt_sum (fun k => wt_nw σ (Int32.toNatClampNeg (wt_ga σ (255 + Int32.toNatClampNeg t) k)) l) (Int32.toNatClampNeg (0 : Int32))
        rw [wt_tn0, l2 l (by omega)]
        rfl
      · show (x2.toInt + 1 - (0 : Int32).toInt).toNat < n
        omega
    · have c := wt_ncle h
      have et := wt_tnI l1
      have ei := wt_i1 (c := z.1) (by omega)
      refine wt_T_gd (wt_ix (by omega) (by omega)) ?_
      obtain ⟨σ1, ε1⟩ : ∃ o : wt_St, o = wt_sa z.2 290 (Int32.toNatClampNeg z.1) (0 : Int32) := ⟨_, rfl⟩
      rw [← ε1]
      refine hK10 _ ⟨wt_fr.tr fz (wt_fr_sa ε1) (fun i k h => h) (fun i h => Or.inl h), wt_RI_no rz ε1 290 291 (by decide) (by decide) (by decide), (show 0 ≤ (z.1 + (1 : Int32)).toInt by omega), fun l hl => ?_⟩ (show (26 - (z.1 + (1 : Int32)).toInt).toNat < (26 - z.1.toInt).toNat by omega)
      have hl' : (l : Int) < (z.1 + (1 : Int32)).toInt := hl
      show (wt_ga σ1 290 l).toInt = 0
      by_cases hc : l = Int32.toNatClampNeg z.1
      · rw [hc, wt_v_sa ε1]
        exact k0
      · rw [wt_w_sa ε1 l hc]
        exact l2 l (by omega)
  · exact ⟨wt_fr.rf, r0, (show 0 ≤ (0 : Int32).toInt by omega), fun l hl => by
      have hl' : (l : Int) < (0 : Int32).toInt := hl
      omega⟩
  · show (26 - (0 : Int32).toInt).toNat < n
    omega

