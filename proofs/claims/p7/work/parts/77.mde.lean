set_option maxRecDepth 100000 in
set_option maxHeartbeats 4000000 in
theorem wq_md_page (n : Nat) (hn : 4294967297 < n) (x1 : Int32) (x2 : Int32) (σ : wt_St) (r0 : wt_RI σ) (p0 : wt_PG σ) : wt_T (wp_md_page n x1 x2 σ) (fun q => wt_fr (fun i k => (i = 108 ∧ k = 0)) (fun i => i = 290 ∨ i = 289) σ q.2 ∧ wt_RI q.2) := by
  have bb1 := wt_bd x1
  have bb2 := wt_bd x2
  unfold wp_md_page
  obtain ⟨σ3, eσ3⟩ : ∃ z : wt_St, z = wt_sf σ 108 0 (0 : Int32) := ⟨_, rfl⟩
  rw [← eσ3]
  have fσ3 := wt_fr_sf eσ3
  have vσ3 := wt_ceq (wt_v_sf eσ3)
  have k4 : (0 : Int32).toInt = 0 := by decide
  have rσ3 := wt_RI_fno r0 eσ3 (Or.inr (by decide))
  refine wt_T_bi (wq_md_isPage n hn x1 σ3 rσ3) (fun r5 h6 => ?_)
  obtain ⟨e7, pp8⟩ := h6
  have bb9 := wt_bd r5.1
  rw [e7]
  have bb10 := wt_tn x1
  have bb11 := wt_bd (wt_ga σ3 275 (Int32.toNatClampNeg x1))
  have g12 : -1 ≤ (wt_ga σ3 275 (Int32.toNatClampNeg x1)).toInt ∧ (wt_ga σ3 275 (Int32.toNatClampNeg x1)).toInt ≤ 7 := wt_R_ga rσ3 12 rfl 275 (by decide) (by decide) (Int32.toNatClampNeg x1)
  have tt13 : (wt_ga σ3 275 (Int32.toNatClampNeg x1)).toInt = (wt_ga σ 275 (Int32.toNatClampNeg x1)).toInt := congrArg Int32.toInt (fσ3.2 275 (fun z => z) (Int32.toNatClampNeg x1))
  have bb14 := wt_bd (wt_ga σ 275 (Int32.toNatClampNeg x1))
  have g15 : -1 ≤ (wt_ga σ 275 (Int32.toNatClampNeg x1)).toInt ∧ (wt_ga σ 275 (Int32.toNatClampNeg x1)).toInt ≤ 7 := wt_R_ga r0 12 rfl 275 (by decide) (by decide) (Int32.toNatClampNeg x1)
  refine wt_T_if (fun h16 => ?_) (fun h16 => ?_)
  · skip
    have c17 := wt_ceq h16
    unfold wp_md_page_B19
    have k18 : (1 : Int32).toInt = 1 := by decide
    refine wt_T_bi (wq_md_bad n hn (1 : Int32) (1 : Int32) σ3 rσ3 (by omega)) (fun r19 h20 => ?_)
    obtain ⟨f21, ri22, pp23⟩ := h20
    have bb24 := wt_bd r19.1
    have bb25 := wt_bd (wt_gf r19.2 108 0)
    have bb26 := wt_bd (wt_gf σ3 108 0)
    refine wt_T_if (fun h27 => ?_) (fun h27 => ?_)
    · skip
      have c28 := wt_ceq h27
      have k29 : (4 : Int32).toInt = 4 := by decide
      refine wt_T_bi (wq_md_in n hn x2 (0 : Int32) (4 : Int32) r19.2 ri22) (fun r30 h31 => ?_)
      obtain ⟨e32, pp33⟩ := h31
      have bb34 := wt_bd r30.1
      rw [e32]
      refine wt_T_if (fun h35 => ?_) (fun h35 => ?_)
      · skip
        have c36 := wt_ceq h35
        unfold wp_md_page_B41
        have k37 : (2 : Int32).toInt = 2 := by decide
        refine wt_T_bi (wq_md_bad n hn (1 : Int32) (2 : Int32) r19.2 ri22 (by omega)) (fun r38 h39 => ?_)
        obtain ⟨f40, ri41, pp42⟩ := h39
        have bb43 := wt_bd r38.1
        have bb44 := wt_bd (wt_gf r38.2 108 0)
        refine wt_T_if (fun h45 => ?_) (fun h45 => ?_)
        · skip
          have c46 := wt_ceq h45
          refine wt_T_if (fun h47 => ?_) (fun h47 => ?_)
          · skip
            have c48 := wt_cle h47
            have k49 : (3 : Int32).toInt = 3 := by decide
            refine wt_T_if (fun h50 => ?_) (fun h50 => ?_)
            · skip
              have c51 := wt_ceq h50
              refine wt_T_bi (wq_md_leastOf n hn x1 r38.2 ri41 (by omega) (by omega)) (fun r52 h53 => ?_)
              have e54 := h53
              have bb55 := wt_bd r52.1
              rw [e54]
              refine wt_T_some ?_
              exact ⟨(wt_fr.tr (wt_fr.tr (wt_fr.tr wt_fr.rf fσ3 (fun i k h => by (try dsimp only at h); exact (by omega)) (fun i h => h.elim)) f21 (fun i k h => by (try dsimp only at h); exact (by omega)) (fun i h => h.elim)) f40 (fun i k h => by (try dsimp only at h); exact (by omega)) (fun i h => h.elim)), ri41⟩
            · skip
              have c56 := wt_nceq h50
              refine wt_T_it (fun s : Int32 × Int32 × wt_St => s.2.2 = r38.2 ∧ 0 ≤ (s.2.1).toInt) (fun s : Int32 × Int32 × wt_St => ((wt_ga s.2.2 276 (Int32.toNatClampNeg x1)).toInt - s.2.1.toInt + 0).toNat) (fun KK57 z58 I59 hKK57 => ?_) _ _ ?_ ?_
              · skip
                obtain ⟨l60, l61⟩ := I59
                unfold wp_md_page_B91
                rw [l60]
                have bb62 := wt_bd (wt_ga r38.2 276 (Int32.toNatClampNeg x1))
                have g63 : 0 ≤ (wt_ga r38.2 276 (Int32.toNatClampNeg x1)).toInt ∧ (wt_ga r38.2 276 (Int32.toNatClampNeg x1)).toInt ≤ 108 := wt_R_ga ri41 13 rfl 276 (by decide) (by decide) (Int32.toNatClampNeg x1)
                have tt64 : (wt_ga r38.2 276 (Int32.toNatClampNeg x1)).toInt = (wt_ga r19.2 276 (Int32.toNatClampNeg x1)).toInt := congrArg Int32.toInt (f40.2 276 (fun z => z) (Int32.toNatClampNeg x1))
                have bb65 := wt_bd (wt_ga r19.2 276 (Int32.toNatClampNeg x1))
                have g66 : 0 ≤ (wt_ga r19.2 276 (Int32.toNatClampNeg x1)).toInt ∧ (wt_ga r19.2 276 (Int32.toNatClampNeg x1)).toInt ≤ 108 := wt_R_ga ri22 13 rfl 276 (by decide) (by decide) (Int32.toNatClampNeg x1)
                have tt67 : (wt_ga r19.2 276 (Int32.toNatClampNeg x1)).toInt = (wt_ga σ3 276 (Int32.toNatClampNeg x1)).toInt := congrArg Int32.toInt (f21.2 276 (fun z => z) (Int32.toNatClampNeg x1))
                have bb68 := wt_bd (wt_ga σ3 276 (Int32.toNatClampNeg x1))
                have g69 : 0 ≤ (wt_ga σ3 276 (Int32.toNatClampNeg x1)).toInt ∧ (wt_ga σ3 276 (Int32.toNatClampNeg x1)).toInt ≤ 108 := wt_R_ga rσ3 13 rfl 276 (by decide) (by decide) (Int32.toNatClampNeg x1)
                have tt70 : (wt_ga σ3 276 (Int32.toNatClampNeg x1)).toInt = (wt_ga σ 276 (Int32.toNatClampNeg x1)).toInt := congrArg Int32.toInt (fσ3.2 276 (fun z => z) (Int32.toNatClampNeg x1))
                have bb71 := wt_bd (wt_ga σ 276 (Int32.toNatClampNeg x1))
                have g72 : 0 ≤ (wt_ga σ 276 (Int32.toNatClampNeg x1)).toInt ∧ (wt_ga σ 276 (Int32.toNatClampNeg x1)).toInt ≤ 108 := wt_R_ga r0 13 rfl 276 (by decide) (by decide) (Int32.toNatClampNeg x1)
                have bb73 := wt_bd z58.2.1
                refine wt_T_gd (wt_ix (by omega) (by omega)) ?_
                refine wt_T_if (fun h74 => ?_) (fun h74 => ?_)
                · skip
                  have c75 := wt_cle h74
                  unfold wp_md_page_B142
                  have bb82 := wt_bd z58.1
                  refine wt_T_it (fun s : Int32 × Int32 × wt_St => wt_fr (fun i k => False) (fun i => i = 290 ∨ i = 289) r38.2 s.2.2 ∧ 0 ≤ (s.2.1).toInt ∧ wt_RI s.2.2) (fun s : Int32 × Int32 × wt_St => (12 - s.2.1.toInt).toNat) (fun KK76 z77 I78 hKK76 => ?_) _ _ ?_ ?_
                  · skip
                    obtain ⟨l79, l80, l81⟩ := I78
                    unfold wp_md_page_B145
                    have bb83 := wt_bd z77.2.1
                    refine wt_T_gd (wt_ix (by omega) (by omega)) ?_
                    have bb84 := wt_bd (wt_ga z77.2.2 275 (Int32.toNatClampNeg x1))
                    have g85 : -1 ≤ (wt_ga z77.2.2 275 (Int32.toNatClampNeg x1)).toInt ∧ (wt_ga z77.2.2 275 (Int32.toNatClampNeg x1)).toInt ≤ 7 := wt_R_ga l81 12 rfl 275 (by decide) (by decide) (Int32.toNatClampNeg x1)
                    have tt86 : (wt_ga z77.2.2 275 (Int32.toNatClampNeg x1)).toInt = (wt_ga r38.2 275 (Int32.toNatClampNeg x1)).toInt := congrArg Int32.toInt (l79.2 275 (by (try dsimp only); omega) (Int32.toNatClampNeg x1))
                    have bb87 := wt_bd (wt_ga r38.2 275 (Int32.toNatClampNeg x1))
                    have g88 : -1 ≤ (wt_ga r38.2 275 (Int32.toNatClampNeg x1)).toInt ∧ (wt_ga r38.2 275 (Int32.toNatClampNeg x1)).toInt ≤ 7 := wt_R_ga ri41 12 rfl 275 (by decide) (by decide) (Int32.toNatClampNeg x1)
                    have tt89 : (wt_ga r38.2 275 (Int32.toNatClampNeg x1)).toInt = (wt_ga r19.2 275 (Int32.toNatClampNeg x1)).toInt := congrArg Int32.toInt (f40.2 275 (fun z => z) (Int32.toNatClampNeg x1))
                    have bb90 := wt_bd (wt_ga r19.2 275 (Int32.toNatClampNeg x1))
                    have g91 : -1 ≤ (wt_ga r19.2 275 (Int32.toNatClampNeg x1)).toInt ∧ (wt_ga r19.2 275 (Int32.toNatClampNeg x1)).toInt ≤ 7 := wt_R_ga ri22 12 rfl 275 (by decide) (by decide) (Int32.toNatClampNeg x1)
                    have tt92 : (wt_ga r19.2 275 (Int32.toNatClampNeg x1)).toInt = (wt_ga σ3 275 (Int32.toNatClampNeg x1)).toInt := congrArg Int32.toInt (f21.2 275 (fun z => z) (Int32.toNatClampNeg x1))
                    refine wt_T_gd (wt_ix (by omega) (by omega)) ?_
                    have bb93 := wt_tn (wt_ga z77.2.2 275 (Int32.toNatClampNeg x1))
                    have bb94 := wt_bd (wt_ga z77.2.2 253 (Int32.toNatClampNeg (wt_ga z77.2.2 275 (Int32.toNatClampNeg x1))))
                    have g95 : 0 ≤ (wt_ga z77.2.2 253 (Int32.toNatClampNeg (wt_ga z77.2.2 275 (Int32.toNatClampNeg x1)))).toInt ∧ (wt_ga z77.2.2 253 (Int32.toNatClampNeg (wt_ga z77.2.2 275 (Int32.toNatClampNeg x1)))).toInt ≤ 12 := wt_R_ga l81 9 rfl 253 (by decide) (by decide) (Int32.toNatClampNeg (wt_ga z77.2.2 275 (Int32.toNatClampNeg x1)))
                    have tt96 : (wt_ga z77.2.2 253 (Int32.toNatClampNeg (wt_ga z77.2.2 275 (Int32.toNatClampNeg x1)))).toInt = (wt_ga r38.2 253 (Int32.toNatClampNeg (wt_ga z77.2.2 275 (Int32.toNatClampNeg x1)))).toInt := congrArg Int32.toInt (l79.2 253 (by (try dsimp only); omega) (Int32.toNatClampNeg (wt_ga z77.2.2 275 (Int32.toNatClampNeg x1))))
                    have bb97 := wt_bd (wt_ga r38.2 253 (Int32.toNatClampNeg (wt_ga z77.2.2 275 (Int32.toNatClampNeg x1))))
                    have g98 : 0 ≤ (wt_ga r38.2 253 (Int32.toNatClampNeg (wt_ga z77.2.2 275 (Int32.toNatClampNeg x1)))).toInt ∧ (wt_ga r38.2 253 (Int32.toNatClampNeg (wt_ga z77.2.2 275 (Int32.toNatClampNeg x1)))).toInt ≤ 12 := wt_R_ga ri41 9 rfl 253 (by decide) (by decide) (Int32.toNatClampNeg (wt_ga z77.2.2 275 (Int32.toNatClampNeg x1)))
                    have tt99 : (wt_ga r38.2 253 (Int32.toNatClampNeg (wt_ga z77.2.2 275 (Int32.toNatClampNeg x1)))).toInt = (wt_ga r19.2 253 (Int32.toNatClampNeg (wt_ga z77.2.2 275 (Int32.toNatClampNeg x1)))).toInt := congrArg Int32.toInt (f40.2 253 (fun z => z) (Int32.toNatClampNeg (wt_ga z77.2.2 275 (Int32.toNatClampNeg x1))))
                    have bb100 := wt_bd (wt_ga r19.2 253 (Int32.toNatClampNeg (wt_ga z77.2.2 275 (Int32.toNatClampNeg x1))))
                    have g101 : 0 ≤ (wt_ga r19.2 253 (Int32.toNatClampNeg (wt_ga z77.2.2 275 (Int32.toNatClampNeg x1)))).toInt ∧ (wt_ga r19.2 253 (Int32.toNatClampNeg (wt_ga z77.2.2 275 (Int32.toNatClampNeg x1)))).toInt ≤ 12 := wt_R_ga ri22 9 rfl 253 (by decide) (by decide) (Int32.toNatClampNeg (wt_ga z77.2.2 275 (Int32.toNatClampNeg x1)))
                    have tt102 : (wt_ga r19.2 253 (Int32.toNatClampNeg (wt_ga z77.2.2 275 (Int32.toNatClampNeg x1)))).toInt = (wt_ga σ3 253 (Int32.toNatClampNeg (wt_ga z77.2.2 275 (Int32.toNatClampNeg x1)))).toInt := congrArg Int32.toInt (f21.2 253 (fun z => z) (Int32.toNatClampNeg (wt_ga z77.2.2 275 (Int32.toNatClampNeg x1))))
                    have bb103 := wt_bd (wt_ga σ3 253 (Int32.toNatClampNeg (wt_ga z77.2.2 275 (Int32.toNatClampNeg x1))))
                    have g104 : 0 ≤ (wt_ga σ3 253 (Int32.toNatClampNeg (wt_ga z77.2.2 275 (Int32.toNatClampNeg x1)))).toInt ∧ (wt_ga σ3 253 (Int32.toNatClampNeg (wt_ga z77.2.2 275 (Int32.toNatClampNeg x1)))).toInt ≤ 12 := wt_R_ga rσ3 9 rfl 253 (by decide) (by decide) (Int32.toNatClampNeg (wt_ga z77.2.2 275 (Int32.toNatClampNeg x1)))
                    have tt105 : (wt_ga σ3 253 (Int32.toNatClampNeg (wt_ga z77.2.2 275 (Int32.toNatClampNeg x1)))).toInt = (wt_ga σ 253 (Int32.toNatClampNeg (wt_ga z77.2.2 275 (Int32.toNatClampNeg x1)))).toInt := congrArg Int32.toInt (fσ3.2 253 (fun z => z) (Int32.toNatClampNeg (wt_ga z77.2.2 275 (Int32.toNatClampNeg x1))))
                    have bb106 := wt_bd (wt_ga σ 253 (Int32.toNatClampNeg (wt_ga z77.2.2 275 (Int32.toNatClampNeg x1))))
                    have g107 : 0 ≤ (wt_ga σ 253 (Int32.toNatClampNeg (wt_ga z77.2.2 275 (Int32.toNatClampNeg x1)))).toInt ∧ (wt_ga σ 253 (Int32.toNatClampNeg (wt_ga z77.2.2 275 (Int32.toNatClampNeg x1)))).toInt ≤ 12 := wt_R_ga r0 9 rfl 253 (by decide) (by decide) (Int32.toNatClampNeg (wt_ga z77.2.2 275 (Int32.toNatClampNeg x1)))
                    refine wt_T_if (fun h108 => ?_) (fun h108 => ?_)
                    · skip
                      have c109 := wt_cle h108
                      refine wt_T_some ?_
                      exact ⟨(wt_fr.tr (wt_fr.tr (wt_fr.tr (wt_fr.tr wt_fr.rf fσ3 (fun i k h => by (try dsimp only at h); exact (by omega)) (fun i h => h.elim)) f21 (fun i k h => by (try dsimp only at h); exact (by omega)) (fun i h => h.elim)) f40 (fun i k h => by (try dsimp only at h); exact (by omega)) (fun i h => h.elim)) l79 (fun i k h => h.elim) (fun i h => by (try dsimp only at h); rcases h with h | h; exact Or.inl (by omega); exact Or.inr ((by omega)))), l81⟩
                    · skip
                      have c110 := wt_ncle h108
                      refine wt_T_if (fun h111 => ?_) (fun h111 => ?_)
                      · skip
                        have c112 := wt_ceq h111
                        refine wt_T_bi (wq_md_readOf n hn x1 z77.2.1 z77.2.2 l81 (by omega) (by omega) (by omega) (by omega) (by omega) (wt_PG_fr (F := fun i k => (i = 108 ∧ k = 0)) (A := fun i => i = 290 ∨ i = 289) r0 p0 (wt_fr.tr (wt_fr.tr (wt_fr.tr (wt_fr.tr wt_fr.rf fσ3 (fun i k h => by (try dsimp only at h); exact (by omega)) (fun i h => h.elim)) f21 (fun i k h => by (try dsimp only at h); exact (by omega)) (fun i h => h.elim)) f40 (fun i k h => by (try dsimp only at h); exact (by omega)) (fun i h => h.elim)) l79 (fun i k h => h.elim) (fun i h => by (try dsimp only at h); rcases h with h | h; exact Or.inl (by omega); exact Or.inr ((by omega)))) (by (try dsimp only); first | omega | exact fun h => h) (fun i hi => by (try dsimp only); unfold wt_PA at hi; omega))) (fun r113 h114 => ?_)
                        obtain ⟨f115, ri116⟩ := h114
                        have bb117 := wt_bd r113.1
                        refine wt_T_gd (wt_ix (by omega) (by omega)) ?_
                        have bb118 := wt_bd (wt_ga r113.2 275 (Int32.toNatClampNeg x1))
                        have g119 : -1 ≤ (wt_ga r113.2 275 (Int32.toNatClampNeg x1)).toInt ∧ (wt_ga r113.2 275 (Int32.toNatClampNeg x1)).toInt ≤ 7 := wt_R_ga ri116 12 rfl 275 (by decide) (by decide) (Int32.toNatClampNeg x1)
                        have tt120 : (wt_ga r113.2 275 (Int32.toNatClampNeg x1)).toInt = (wt_ga z77.2.2 275 (Int32.toNatClampNeg x1)).toInt := congrArg Int32.toInt (f115.2 275 (by (try dsimp only); omega) (Int32.toNatClampNeg x1))
                        refine wt_T_gd (wt_ix (by omega) (by omega)) ?_
                        refine wt_T_gd (wt_ix (by omega) (by omega)) ?_
                        have bb121 := wt_tn (wt_ga r113.2 275 (Int32.toNatClampNeg x1))
                        have bb122 := wt_tn z77.2.1
                        have bb123 := wt_bd (wt_ga r113.2 (255 + (Int32.toNatClampNeg (wt_ga r113.2 275 (Int32.toNatClampNeg x1)))) (Int32.toNatClampNeg z77.2.1))
                        have g124 : 0 ≤ (wt_ga r113.2 (255 + (Int32.toNatClampNeg (wt_ga r113.2 275 (Int32.toNatClampNeg x1)))) (Int32.toNatClampNeg z77.2.1)).toInt ∧ (wt_ga r113.2 (255 + (Int32.toNatClampNeg (wt_ga r113.2 275 (Int32.toNatClampNeg x1)))) (Int32.toNatClampNeg z77.2.1)).toInt ≤ 59 := wt_R_ga ri116 10 rfl (255 + (Int32.toNatClampNeg (wt_ga r113.2 275 (Int32.toNatClampNeg x1)))) (show 255 ≤ 255 + (Int32.toNatClampNeg (wt_ga r113.2 275 (Int32.toNatClampNeg x1))) by omega) (show 255 + (Int32.toNatClampNeg (wt_ga r113.2 275 (Int32.toNatClampNeg x1))) < 263 by omega) (Int32.toNatClampNeg z77.2.1)
                        have tt125 : (wt_ga r113.2 (255 + (Int32.toNatClampNeg (wt_ga r113.2 275 (Int32.toNatClampNeg x1)))) (Int32.toNatClampNeg z77.2.1)).toInt = (wt_ga z77.2.2 (255 + (Int32.toNatClampNeg (wt_ga r113.2 275 (Int32.toNatClampNeg x1)))) (Int32.toNatClampNeg z77.2.1)).toInt := congrArg Int32.toInt (f115.2 (255 + (Int32.toNatClampNeg (wt_ga r113.2 275 (Int32.toNatClampNeg x1)))) (by (try dsimp only); omega) (Int32.toNatClampNeg z77.2.1))
                        have bb126 := wt_bd (wt_ga z77.2.2 (255 + (Int32.toNatClampNeg (wt_ga r113.2 275 (Int32.toNatClampNeg x1)))) (Int32.toNatClampNeg z77.2.1))
                        have g127 : 0 ≤ (wt_ga z77.2.2 (255 + (Int32.toNatClampNeg (wt_ga r113.2 275 (Int32.toNatClampNeg x1)))) (Int32.toNatClampNeg z77.2.1)).toInt ∧ (wt_ga z77.2.2 (255 + (Int32.toNatClampNeg (wt_ga r113.2 275 (Int32.toNatClampNeg x1)))) (Int32.toNatClampNeg z77.2.1)).toInt ≤ 59 := wt_R_ga l81 10 rfl (255 + (Int32.toNatClampNeg (wt_ga r113.2 275 (Int32.toNatClampNeg x1)))) (show 255 ≤ 255 + (Int32.toNatClampNeg (wt_ga r113.2 275 (Int32.toNatClampNeg x1))) by omega) (show 255 + (Int32.toNatClampNeg (wt_ga r113.2 275 (Int32.toNatClampNeg x1))) < 263 by omega) (Int32.toNatClampNeg z77.2.1)
                        have tt128 : (wt_ga z77.2.2 (255 + (Int32.toNatClampNeg (wt_ga r113.2 275 (Int32.toNatClampNeg x1)))) (Int32.toNatClampNeg z77.2.1)).toInt = (wt_ga r38.2 (255 + (Int32.toNatClampNeg (wt_ga r113.2 275 (Int32.toNatClampNeg x1)))) (Int32.toNatClampNeg z77.2.1)).toInt := congrArg Int32.toInt (l79.2 (255 + (Int32.toNatClampNeg (wt_ga r113.2 275 (Int32.toNatClampNeg x1)))) (by (try dsimp only); omega) (Int32.toNatClampNeg z77.2.1))
                        have bb129 := wt_bd (wt_ga r38.2 (255 + (Int32.toNatClampNeg (wt_ga r113.2 275 (Int32.toNatClampNeg x1)))) (Int32.toNatClampNeg z77.2.1))
                        have g130 : 0 ≤ (wt_ga r38.2 (255 + (Int32.toNatClampNeg (wt_ga r113.2 275 (Int32.toNatClampNeg x1)))) (Int32.toNatClampNeg z77.2.1)).toInt ∧ (wt_ga r38.2 (255 + (Int32.toNatClampNeg (wt_ga r113.2 275 (Int32.toNatClampNeg x1)))) (Int32.toNatClampNeg z77.2.1)).toInt ≤ 59 := wt_R_ga ri41 10 rfl (255 + (Int32.toNatClampNeg (wt_ga r113.2 275 (Int32.toNatClampNeg x1)))) (show 255 ≤ 255 + (Int32.toNatClampNeg (wt_ga r113.2 275 (Int32.toNatClampNeg x1))) by omega) (show 255 + (Int32.toNatClampNeg (wt_ga r113.2 275 (Int32.toNatClampNeg x1))) < 263 by omega) (Int32.toNatClampNeg z77.2.1)
                        have tt131 : (wt_ga r38.2 (255 + (Int32.toNatClampNeg (wt_ga r113.2 275 (Int32.toNatClampNeg x1)))) (Int32.toNatClampNeg z77.2.1)).toInt = (wt_ga r19.2 (255 + (Int32.toNatClampNeg (wt_ga r113.2 275 (Int32.toNatClampNeg x1)))) (Int32.toNatClampNeg z77.2.1)).toInt := congrArg Int32.toInt (f40.2 (255 + (Int32.toNatClampNeg (wt_ga r113.2 275 (Int32.toNatClampNeg x1)))) (fun z => z) (Int32.toNatClampNeg z77.2.1))
                        have bb132 := wt_bd (wt_ga r19.2 (255 + (Int32.toNatClampNeg (wt_ga r113.2 275 (Int32.toNatClampNeg x1)))) (Int32.toNatClampNeg z77.2.1))
                        have g133 : 0 ≤ (wt_ga r19.2 (255 + (Int32.toNatClampNeg (wt_ga r113.2 275 (Int32.toNatClampNeg x1)))) (Int32.toNatClampNeg z77.2.1)).toInt ∧ (wt_ga r19.2 (255 + (Int32.toNatClampNeg (wt_ga r113.2 275 (Int32.toNatClampNeg x1)))) (Int32.toNatClampNeg z77.2.1)).toInt ≤ 59 := wt_R_ga ri22 10 rfl (255 + (Int32.toNatClampNeg (wt_ga r113.2 275 (Int32.toNatClampNeg x1)))) (show 255 ≤ 255 + (Int32.toNatClampNeg (wt_ga r113.2 275 (Int32.toNatClampNeg x1))) by omega) (show 255 + (Int32.toNatClampNeg (wt_ga r113.2 275 (Int32.toNatClampNeg x1))) < 263 by omega) (Int32.toNatClampNeg z77.2.1)
                        have tt134 : (wt_ga r19.2 (255 + (Int32.toNatClampNeg (wt_ga r113.2 275 (Int32.toNatClampNeg x1)))) (Int32.toNatClampNeg z77.2.1)).toInt = (wt_ga σ3 (255 + (Int32.toNatClampNeg (wt_ga r113.2 275 (Int32.toNatClampNeg x1)))) (Int32.toNatClampNeg z77.2.1)).toInt := congrArg Int32.toInt (f21.2 (255 + (Int32.toNatClampNeg (wt_ga r113.2 275 (Int32.toNatClampNeg x1)))) (fun z => z) (Int32.toNatClampNeg z77.2.1))
                        have bb135 := wt_bd (wt_ga σ3 (255 + (Int32.toNatClampNeg (wt_ga r113.2 275 (Int32.toNatClampNeg x1)))) (Int32.toNatClampNeg z77.2.1))
                        have g136 : 0 ≤ (wt_ga σ3 (255 + (Int32.toNatClampNeg (wt_ga r113.2 275 (Int32.toNatClampNeg x1)))) (Int32.toNatClampNeg z77.2.1)).toInt ∧ (wt_ga σ3 (255 + (Int32.toNatClampNeg (wt_ga r113.2 275 (Int32.toNatClampNeg x1)))) (Int32.toNatClampNeg z77.2.1)).toInt ≤ 59 := wt_R_ga rσ3 10 rfl (255 + (Int32.toNatClampNeg (wt_ga r113.2 275 (Int32.toNatClampNeg x1)))) (show 255 ≤ 255 + (Int32.toNatClampNeg (wt_ga r113.2 275 (Int32.toNatClampNeg x1))) by omega) (show 255 + (Int32.toNatClampNeg (wt_ga r113.2 275 (Int32.toNatClampNeg x1))) < 263 by omega) (Int32.toNatClampNeg z77.2.1)
                        have tt137 : (wt_ga σ3 (255 + (Int32.toNatClampNeg (wt_ga r113.2 275 (Int32.toNatClampNeg x1)))) (Int32.toNatClampNeg z77.2.1)).toInt = (wt_ga σ (255 + (Int32.toNatClampNeg (wt_ga r113.2 275 (Int32.toNatClampNeg x1)))) (Int32.toNatClampNeg z77.2.1)).toInt := congrArg Int32.toInt (fσ3.2 (255 + (Int32.toNatClampNeg (wt_ga r113.2 275 (Int32.toNatClampNeg x1)))) (fun z => z) (Int32.toNatClampNeg z77.2.1))
                        have bb138 := wt_bd (wt_ga σ (255 + (Int32.toNatClampNeg (wt_ga r113.2 275 (Int32.toNatClampNeg x1)))) (Int32.toNatClampNeg z77.2.1))
                        have g139 : 0 ≤ (wt_ga σ (255 + (Int32.toNatClampNeg (wt_ga r113.2 275 (Int32.toNatClampNeg x1)))) (Int32.toNatClampNeg z77.2.1)).toInt ∧ (wt_ga σ (255 + (Int32.toNatClampNeg (wt_ga r113.2 275 (Int32.toNatClampNeg x1)))) (Int32.toNatClampNeg z77.2.1)).toInt ≤ 59 := wt_R_ga r0 10 rfl (255 + (Int32.toNatClampNeg (wt_ga r113.2 275 (Int32.toNatClampNeg x1)))) (show 255 ≤ 255 + (Int32.toNatClampNeg (wt_ga r113.2 275 (Int32.toNatClampNeg x1))) by omega) (show 255 + (Int32.toNatClampNeg (wt_ga r113.2 275 (Int32.toNatClampNeg x1))) < 263 by omega) (Int32.toNatClampNeg z77.2.1)
                        refine wt_T_if (fun h140 => ?_) (fun h140 => ?_)
                        · skip
                          have c141 := wt_ceq h140
                          unfold wp_md_page_B196
                          have bb142 := wt_bd z77.1
                          obtain ⟨j143, j143a, j143b⟩ := wt_addI z77.1 (0 : Int32)
                          obtain ⟨j144, j144a, j144b⟩ := wt_addI z77.2.1 (1 : Int32)
                          refine hKK76 _ ⟨(wt_fr.tr (wt_fr.tr wt_fr.rf l79 (fun i k h => h.elim) (fun i h => by (try dsimp only at h); rcases h with h | h; exact Or.inl (by omega); exact Or.inr ((by omega)))) f115 (fun i k h => h.elim) (fun i h => by (try dsimp only at h); rcases h with h | h; exact Or.inl (by omega); exact Or.inr ((by omega)))), (show 0 ≤ ((z77.2.1 + (1 : Int32))).toInt by omega), ri116⟩ ?_
                          show (12 - (z77.2.1 + (1 : Int32)).toInt).toNat < (12 - z77.2.1.toInt).toNat
                          omega
                        · skip
                          have c145 := wt_nceq h140
                          unfold wp_md_page_B196
                          have bb146 := wt_bd z77.1
                          obtain ⟨j147, j147a, j147b⟩ := wt_addI z77.1 (1 : Int32)
                          obtain ⟨j148, j148a, j148b⟩ := wt_addI z77.2.1 (1 : Int32)
                          refine hKK76 _ ⟨(wt_fr.tr (wt_fr.tr wt_fr.rf l79 (fun i k h => h.elim) (fun i h => by (try dsimp only at h); rcases h with h | h; exact Or.inl (by omega); exact Or.inr ((by omega)))) f115 (fun i k h => h.elim) (fun i h => by (try dsimp only at h); rcases h with h | h; exact Or.inl (by omega); exact Or.inr ((by omega)))), (show 0 ≤ ((z77.2.1 + (1 : Int32))).toInt by omega), ri116⟩ ?_
                          show (12 - (z77.2.1 + (1 : Int32)).toInt).toNat < (12 - z77.2.1.toInt).toNat
                          omega
                      · skip
                        have c149 := wt_nceq h111
                        refine wt_T_some ?_
                        exact ⟨(wt_fr.tr (wt_fr.tr (wt_fr.tr (wt_fr.tr wt_fr.rf fσ3 (fun i k h => by (try dsimp only at h); exact (by omega)) (fun i h => h.elim)) f21 (fun i k h => by (try dsimp only at h); exact (by omega)) (fun i h => h.elim)) f40 (fun i k h => by (try dsimp only at h); exact (by omega)) (fun i h => h.elim)) l79 (fun i k h => h.elim) (fun i h => by (try dsimp only at h); rcases h with h | h; exact Or.inl (by omega); exact Or.inr ((by omega)))), l81⟩
                  · skip
                    exact ⟨wt_fr.rf, (show 0 ≤ ((0 : Int32)).toInt by omega), ri41⟩
                  · skip
                    show (12 - (0 : Int32).toInt).toNat < n
                    omega
                · skip
                  have c150 := wt_ncle h74
                  refine wt_T_if (fun h151 => ?_) (fun h151 => ?_)
                  · skip
                    have c152 := wt_ceq h151
                    refine wt_T_gd (wt_ix (by omega) (by omega)) ?_
                    refine wt_T_gd (wt_ix (by omega) (by omega)) ?_
                    have bb153 := wt_tn z58.2.1
                    have bb154 := wt_bd (wt_ga r38.2 (278 + (Int32.toNatClampNeg x1)) (Int32.toNatClampNeg z58.2.1))
                    have g155 : 0 ≤ (wt_ga r38.2 (278 + (Int32.toNatClampNeg x1)) (Int32.toNatClampNeg z58.2.1)).toInt ∧ (wt_ga r38.2 (278 + (Int32.toNatClampNeg x1)) (Int32.toNatClampNeg z58.2.1)).toInt ≤ 337 := wt_R_ga ri41 14 rfl (278 + (Int32.toNatClampNeg x1)) (show 278 ≤ 278 + (Int32.toNatClampNeg x1) by omega) (show 278 + (Int32.toNatClampNeg x1) < 282 by omega) (Int32.toNatClampNeg z58.2.1)
                    have tt156 : (wt_ga r38.2 (278 + (Int32.toNatClampNeg x1)) (Int32.toNatClampNeg z58.2.1)).toInt = (wt_ga r19.2 (278 + (Int32.toNatClampNeg x1)) (Int32.toNatClampNeg z58.2.1)).toInt := congrArg Int32.toInt (f40.2 (278 + (Int32.toNatClampNeg x1)) (fun z => z) (Int32.toNatClampNeg z58.2.1))
                    have bb157 := wt_bd (wt_ga r19.2 (278 + (Int32.toNatClampNeg x1)) (Int32.toNatClampNeg z58.2.1))
                    have g158 : 0 ≤ (wt_ga r19.2 (278 + (Int32.toNatClampNeg x1)) (Int32.toNatClampNeg z58.2.1)).toInt ∧ (wt_ga r19.2 (278 + (Int32.toNatClampNeg x1)) (Int32.toNatClampNeg z58.2.1)).toInt ≤ 337 := wt_R_ga ri22 14 rfl (278 + (Int32.toNatClampNeg x1)) (show 278 ≤ 278 + (Int32.toNatClampNeg x1) by omega) (show 278 + (Int32.toNatClampNeg x1) < 282 by omega) (Int32.toNatClampNeg z58.2.1)
                    have tt159 : (wt_ga r19.2 (278 + (Int32.toNatClampNeg x1)) (Int32.toNatClampNeg z58.2.1)).toInt = (wt_ga σ3 (278 + (Int32.toNatClampNeg x1)) (Int32.toNatClampNeg z58.2.1)).toInt := congrArg Int32.toInt (f21.2 (278 + (Int32.toNatClampNeg x1)) (fun z => z) (Int32.toNatClampNeg z58.2.1))
                    have bb160 := wt_bd (wt_ga σ3 (278 + (Int32.toNatClampNeg x1)) (Int32.toNatClampNeg z58.2.1))
                    have g161 : 0 ≤ (wt_ga σ3 (278 + (Int32.toNatClampNeg x1)) (Int32.toNatClampNeg z58.2.1)).toInt ∧ (wt_ga σ3 (278 + (Int32.toNatClampNeg x1)) (Int32.toNatClampNeg z58.2.1)).toInt ≤ 337 := wt_R_ga rσ3 14 rfl (278 + (Int32.toNatClampNeg x1)) (show 278 ≤ 278 + (Int32.toNatClampNeg x1) by omega) (show 278 + (Int32.toNatClampNeg x1) < 282 by omega) (Int32.toNatClampNeg z58.2.1)
                    have tt162 : (wt_ga σ3 (278 + (Int32.toNatClampNeg x1)) (Int32.toNatClampNeg z58.2.1)).toInt = (wt_ga σ (278 + (Int32.toNatClampNeg x1)) (Int32.toNatClampNeg z58.2.1)).toInt := congrArg Int32.toInt (fσ3.2 (278 + (Int32.toNatClampNeg x1)) (fun z => z) (Int32.toNatClampNeg z58.2.1))
                    have bb163 := wt_bd (wt_ga σ (278 + (Int32.toNatClampNeg x1)) (Int32.toNatClampNeg z58.2.1))
                    have g164 : 0 ≤ (wt_ga σ (278 + (Int32.toNatClampNeg x1)) (Int32.toNatClampNeg z58.2.1)).toInt ∧ (wt_ga σ (278 + (Int32.toNatClampNeg x1)) (Int32.toNatClampNeg z58.2.1)).toInt ≤ 337 := wt_R_ga r0 14 rfl (278 + (Int32.toNatClampNeg x1)) (show 278 ≤ 278 + (Int32.toNatClampNeg x1) by omega) (show 278 + (Int32.toNatClampNeg x1) < 282 by omega) (Int32.toNatClampNeg z58.2.1)
                    refine wt_T_gd (wt_ix (by omega) (by omega)) ?_
                    have bb165 := wt_bd (wt_gf r38.2 108 25)
                    have tt166 : (wt_gf r38.2 108 25).toInt = (wt_gf r19.2 108 25).toInt := congrArg Int32.toInt (f40.1 108 25 (by (try dsimp only); omega))
                    have bb167 := wt_bd (wt_gf r19.2 108 25)
                    have tt168 : (wt_gf r19.2 108 25).toInt = (wt_gf σ3 108 25).toInt := congrArg Int32.toInt (f21.1 108 25 (by (try dsimp only); omega))
                    have bb169 := wt_bd (wt_gf σ3 108 25)
                    have tt170 : (wt_gf σ3 108 25).toInt = (wt_gf σ 108 25).toInt := congrArg Int32.toInt (fσ3.1 108 25 (by (try dsimp only); omega))
                    have bb171 := wt_bd (wt_gf σ 108 25)
                    have bb172 := wt_tn (wt_ga r38.2 (278 + (Int32.toNatClampNeg x1)) (Int32.toNatClampNeg z58.2.1))
                    have bb173 := wt_bd (wt_ga r38.2 121 (Int32.toNatClampNeg (wt_ga r38.2 (278 + (Int32.toNatClampNeg x1)) (Int32.toNatClampNeg z58.2.1))))
                    have g174 : 0 ≤ (wt_ga r38.2 121 (Int32.toNatClampNeg (wt_ga r38.2 (278 + (Int32.toNatClampNeg x1)) (Int32.toNatClampNeg z58.2.1)))).toInt ∧ (wt_ga r38.2 121 (Int32.toNatClampNeg (wt_ga r38.2 (278 + (Int32.toNatClampNeg x1)) (Int32.toNatClampNeg z58.2.1)))).toInt ≤ 400 := wt_R_ga ri41 3 rfl 121 (by decide) (by decide) (Int32.toNatClampNeg (wt_ga r38.2 (278 + (Int32.toNatClampNeg x1)) (Int32.toNatClampNeg z58.2.1)))
                    have tt175 : (wt_ga r38.2 121 (Int32.toNatClampNeg (wt_ga r38.2 (278 + (Int32.toNatClampNeg x1)) (Int32.toNatClampNeg z58.2.1)))).toInt = (wt_ga r19.2 121 (Int32.toNatClampNeg (wt_ga r38.2 (278 + (Int32.toNatClampNeg x1)) (Int32.toNatClampNeg z58.2.1)))).toInt := congrArg Int32.toInt (f40.2 121 (fun z => z) (Int32.toNatClampNeg (wt_ga r38.2 (278 + (Int32.toNatClampNeg x1)) (Int32.toNatClampNeg z58.2.1))))
                    have bb176 := wt_bd (wt_ga r19.2 121 (Int32.toNatClampNeg (wt_ga r38.2 (278 + (Int32.toNatClampNeg x1)) (Int32.toNatClampNeg z58.2.1))))
                    have g177 : 0 ≤ (wt_ga r19.2 121 (Int32.toNatClampNeg (wt_ga r38.2 (278 + (Int32.toNatClampNeg x1)) (Int32.toNatClampNeg z58.2.1)))).toInt ∧ (wt_ga r19.2 121 (Int32.toNatClampNeg (wt_ga r38.2 (278 + (Int32.toNatClampNeg x1)) (Int32.toNatClampNeg z58.2.1)))).toInt ≤ 400 := wt_R_ga ri22 3 rfl 121 (by decide) (by decide) (Int32.toNatClampNeg (wt_ga r38.2 (278 + (Int32.toNatClampNeg x1)) (Int32.toNatClampNeg z58.2.1)))
                    have tt178 : (wt_ga r19.2 121 (Int32.toNatClampNeg (wt_ga r38.2 (278 + (Int32.toNatClampNeg x1)) (Int32.toNatClampNeg z58.2.1)))).toInt = (wt_ga σ3 121 (Int32.toNatClampNeg (wt_ga r38.2 (278 + (Int32.toNatClampNeg x1)) (Int32.toNatClampNeg z58.2.1)))).toInt := congrArg Int32.toInt (f21.2 121 (fun z => z) (Int32.toNatClampNeg (wt_ga r38.2 (278 + (Int32.toNatClampNeg x1)) (Int32.toNatClampNeg z58.2.1))))
                    have bb179 := wt_bd (wt_ga σ3 121 (Int32.toNatClampNeg (wt_ga r38.2 (278 + (Int32.toNatClampNeg x1)) (Int32.toNatClampNeg z58.2.1))))
                    have g180 : 0 ≤ (wt_ga σ3 121 (Int32.toNatClampNeg (wt_ga r38.2 (278 + (Int32.toNatClampNeg x1)) (Int32.toNatClampNeg z58.2.1)))).toInt ∧ (wt_ga σ3 121 (Int32.toNatClampNeg (wt_ga r38.2 (278 + (Int32.toNatClampNeg x1)) (Int32.toNatClampNeg z58.2.1)))).toInt ≤ 400 := wt_R_ga rσ3 3 rfl 121 (by decide) (by decide) (Int32.toNatClampNeg (wt_ga r38.2 (278 + (Int32.toNatClampNeg x1)) (Int32.toNatClampNeg z58.2.1)))
                    have tt181 : (wt_ga σ3 121 (Int32.toNatClampNeg (wt_ga r38.2 (278 + (Int32.toNatClampNeg x1)) (Int32.toNatClampNeg z58.2.1)))).toInt = (wt_ga σ 121 (Int32.toNatClampNeg (wt_ga r38.2 (278 + (Int32.toNatClampNeg x1)) (Int32.toNatClampNeg z58.2.1)))).toInt := congrArg Int32.toInt (fσ3.2 121 (fun z => z) (Int32.toNatClampNeg (wt_ga r38.2 (278 + (Int32.toNatClampNeg x1)) (Int32.toNatClampNeg z58.2.1))))
                    have bb182 := wt_bd (wt_ga σ 121 (Int32.toNatClampNeg (wt_ga r38.2 (278 + (Int32.toNatClampNeg x1)) (Int32.toNatClampNeg z58.2.1))))
                    have g183 : 0 ≤ (wt_ga σ 121 (Int32.toNatClampNeg (wt_ga r38.2 (278 + (Int32.toNatClampNeg x1)) (Int32.toNatClampNeg z58.2.1)))).toInt ∧ (wt_ga σ 121 (Int32.toNatClampNeg (wt_ga r38.2 (278 + (Int32.toNatClampNeg x1)) (Int32.toNatClampNeg z58.2.1)))).toInt ≤ 400 := wt_R_ga r0 3 rfl 121 (by decide) (by decide) (Int32.toNatClampNeg (wt_ga r38.2 (278 + (Int32.toNatClampNeg x1)) (Int32.toNatClampNeg z58.2.1)))
                    refine wt_T_if (fun h184 => ?_) (fun h184 => ?_)
                    · skip
                      have c185 := wt_cle h184
                      unfold wp_md_page_B134
                      have bb186 := wt_bd z58.1
                      obtain ⟨j187, j187a, j187b⟩ := wt_addI z58.1 (0 : Int32)
                      refine hKK57 _ ⟨rfl, (wt_nn (B := wt_ga z58.2.2 276 (Int32.toNatClampNeg x1)) (by omega) (by first | (rw [l60]; omega) | (rw [l60]; done) | omega))⟩ ?_
                      show ((wt_ga r38.2 276 (Int32.toNatClampNeg x1)).toInt - (z58.2.1 + (1 : Int32)).toInt + 0).toNat < ((wt_ga z58.2.2 276 (Int32.toNatClampNeg x1)).toInt - z58.2.1.toInt + 0).toNat
                      exact wt_mu (by first | (rw [l60]; omega) | (rw [l60]; done) | omega) (by first | (rw [l60]; omega) | (rw [l60]; done) | omega)
                    · skip
                      have c188 := wt_ncle h184
                      unfold wp_md_page_B134
                      have bb189 := wt_bd z58.1
                      obtain ⟨j190, j190a, j190b⟩ := wt_addI z58.1 (1 : Int32)
                      refine hKK57 _ ⟨rfl, (wt_nn (B := wt_ga z58.2.2 276 (Int32.toNatClampNeg x1)) (by omega) (by first | (rw [l60]; omega) | (rw [l60]; done) | omega))⟩ ?_
                      show ((wt_ga r38.2 276 (Int32.toNatClampNeg x1)).toInt - (z58.2.1 + (1 : Int32)).toInt + 0).toNat < ((wt_ga z58.2.2 276 (Int32.toNatClampNeg x1)).toInt - z58.2.1.toInt + 0).toNat
                      exact wt_mu (by first | (rw [l60]; omega) | (rw [l60]; done) | omega) (by first | (rw [l60]; omega) | (rw [l60]; done) | omega)
                  · skip
                    have c191 := wt_nceq h151
                    unfold wp_md_page_B142
                    have bb198 := wt_bd z58.1
                    refine wt_T_it (fun s : Int32 × Int32 × wt_St => wt_fr (fun i k => False) (fun i => i = 290 ∨ i = 289) r38.2 s.2.2 ∧ 0 ≤ (s.2.1).toInt ∧ wt_RI s.2.2) (fun s : Int32 × Int32 × wt_St => (12 - s.2.1.toInt).toNat) (fun KK192 z193 I194 hKK192 => ?_) _ _ ?_ ?_
                    · skip
                      obtain ⟨l195, l196, l197⟩ := I194
                      unfold wp_md_page_B145
                      have bb199 := wt_bd z193.2.1
                      refine wt_T_gd (wt_ix (by omega) (by omega)) ?_
                      have bb200 := wt_bd (wt_ga z193.2.2 275 (Int32.toNatClampNeg x1))
                      have g201 : -1 ≤ (wt_ga z193.2.2 275 (Int32.toNatClampNeg x1)).toInt ∧ (wt_ga z193.2.2 275 (Int32.toNatClampNeg x1)).toInt ≤ 7 := wt_R_ga l197 12 rfl 275 (by decide) (by decide) (Int32.toNatClampNeg x1)
                      have tt202 : (wt_ga z193.2.2 275 (Int32.toNatClampNeg x1)).toInt = (wt_ga r38.2 275 (Int32.toNatClampNeg x1)).toInt := congrArg Int32.toInt (l195.2 275 (by (try dsimp only); omega) (Int32.toNatClampNeg x1))
                      have bb203 := wt_bd (wt_ga r38.2 275 (Int32.toNatClampNeg x1))
                      have g204 : -1 ≤ (wt_ga r38.2 275 (Int32.toNatClampNeg x1)).toInt ∧ (wt_ga r38.2 275 (Int32.toNatClampNeg x1)).toInt ≤ 7 := wt_R_ga ri41 12 rfl 275 (by decide) (by decide) (Int32.toNatClampNeg x1)
                      have tt205 : (wt_ga r38.2 275 (Int32.toNatClampNeg x1)).toInt = (wt_ga r19.2 275 (Int32.toNatClampNeg x1)).toInt := congrArg Int32.toInt (f40.2 275 (fun z => z) (Int32.toNatClampNeg x1))
                      have bb206 := wt_bd (wt_ga r19.2 275 (Int32.toNatClampNeg x1))
                      have g207 : -1 ≤ (wt_ga r19.2 275 (Int32.toNatClampNeg x1)).toInt ∧ (wt_ga r19.2 275 (Int32.toNatClampNeg x1)).toInt ≤ 7 := wt_R_ga ri22 12 rfl 275 (by decide) (by decide) (Int32.toNatClampNeg x1)
                      have tt208 : (wt_ga r19.2 275 (Int32.toNatClampNeg x1)).toInt = (wt_ga σ3 275 (Int32.toNatClampNeg x1)).toInt := congrArg Int32.toInt (f21.2 275 (fun z => z) (Int32.toNatClampNeg x1))
                      refine wt_T_gd (wt_ix (by omega) (by omega)) ?_
                      have bb209 := wt_tn (wt_ga z193.2.2 275 (Int32.toNatClampNeg x1))
                      have bb210 := wt_bd (wt_ga z193.2.2 253 (Int32.toNatClampNeg (wt_ga z193.2.2 275 (Int32.toNatClampNeg x1))))
                      have g211 : 0 ≤ (wt_ga z193.2.2 253 (Int32.toNatClampNeg (wt_ga z193.2.2 275 (Int32.toNatClampNeg x1)))).toInt ∧ (wt_ga z193.2.2 253 (Int32.toNatClampNeg (wt_ga z193.2.2 275 (Int32.toNatClampNeg x1)))).toInt ≤ 12 := wt_R_ga l197 9 rfl 253 (by decide) (by decide) (Int32.toNatClampNeg (wt_ga z193.2.2 275 (Int32.toNatClampNeg x1)))
                      have tt212 : (wt_ga z193.2.2 253 (Int32.toNatClampNeg (wt_ga z193.2.2 275 (Int32.toNatClampNeg x1)))).toInt = (wt_ga r38.2 253 (Int32.toNatClampNeg (wt_ga z193.2.2 275 (Int32.toNatClampNeg x1)))).toInt := congrArg Int32.toInt (l195.2 253 (by (try dsimp only); omega) (Int32.toNatClampNeg (wt_ga z193.2.2 275 (Int32.toNatClampNeg x1))))
                      have bb213 := wt_bd (wt_ga r38.2 253 (Int32.toNatClampNeg (wt_ga z193.2.2 275 (Int32.toNatClampNeg x1))))
                      have g214 : 0 ≤ (wt_ga r38.2 253 (Int32.toNatClampNeg (wt_ga z193.2.2 275 (Int32.toNatClampNeg x1)))).toInt ∧ (wt_ga r38.2 253 (Int32.toNatClampNeg (wt_ga z193.2.2 275 (Int32.toNatClampNeg x1)))).toInt ≤ 12 := wt_R_ga ri41 9 rfl 253 (by decide) (by decide) (Int32.toNatClampNeg (wt_ga z193.2.2 275 (Int32.toNatClampNeg x1)))
                      have tt215 : (wt_ga r38.2 253 (Int32.toNatClampNeg (wt_ga z193.2.2 275 (Int32.toNatClampNeg x1)))).toInt = (wt_ga r19.2 253 (Int32.toNatClampNeg (wt_ga z193.2.2 275 (Int32.toNatClampNeg x1)))).toInt := congrArg Int32.toInt (f40.2 253 (fun z => z) (Int32.toNatClampNeg (wt_ga z193.2.2 275 (Int32.toNatClampNeg x1))))
                      have bb216 := wt_bd (wt_ga r19.2 253 (Int32.toNatClampNeg (wt_ga z193.2.2 275 (Int32.toNatClampNeg x1))))
                      have g217 : 0 ≤ (wt_ga r19.2 253 (Int32.toNatClampNeg (wt_ga z193.2.2 275 (Int32.toNatClampNeg x1)))).toInt ∧ (wt_ga r19.2 253 (Int32.toNatClampNeg (wt_ga z193.2.2 275 (Int32.toNatClampNeg x1)))).toInt ≤ 12 := wt_R_ga ri22 9 rfl 253 (by decide) (by decide) (Int32.toNatClampNeg (wt_ga z193.2.2 275 (Int32.toNatClampNeg x1)))
                      have tt218 : (wt_ga r19.2 253 (Int32.toNatClampNeg (wt_ga z193.2.2 275 (Int32.toNatClampNeg x1)))).toInt = (wt_ga σ3 253 (Int32.toNatClampNeg (wt_ga z193.2.2 275 (Int32.toNatClampNeg x1)))).toInt := congrArg Int32.toInt (f21.2 253 (fun z => z) (Int32.toNatClampNeg (wt_ga z193.2.2 275 (Int32.toNatClampNeg x1))))
                      have bb219 := wt_bd (wt_ga σ3 253 (Int32.toNatClampNeg (wt_ga z193.2.2 275 (Int32.toNatClampNeg x1))))
                      have g220 : 0 ≤ (wt_ga σ3 253 (Int32.toNatClampNeg (wt_ga z193.2.2 275 (Int32.toNatClampNeg x1)))).toInt ∧ (wt_ga σ3 253 (Int32.toNatClampNeg (wt_ga z193.2.2 275 (Int32.toNatClampNeg x1)))).toInt ≤ 12 := wt_R_ga rσ3 9 rfl 253 (by decide) (by decide) (Int32.toNatClampNeg (wt_ga z193.2.2 275 (Int32.toNatClampNeg x1)))
                      have tt221 : (wt_ga σ3 253 (Int32.toNatClampNeg (wt_ga z193.2.2 275 (Int32.toNatClampNeg x1)))).toInt = (wt_ga σ 253 (Int32.toNatClampNeg (wt_ga z193.2.2 275 (Int32.toNatClampNeg x1)))).toInt := congrArg Int32.toInt (fσ3.2 253 (fun z => z) (Int32.toNatClampNeg (wt_ga z193.2.2 275 (Int32.toNatClampNeg x1))))
                      have bb222 := wt_bd (wt_ga σ 253 (Int32.toNatClampNeg (wt_ga z193.2.2 275 (Int32.toNatClampNeg x1))))
                      have g223 : 0 ≤ (wt_ga σ 253 (Int32.toNatClampNeg (wt_ga z193.2.2 275 (Int32.toNatClampNeg x1)))).toInt ∧ (wt_ga σ 253 (Int32.toNatClampNeg (wt_ga z193.2.2 275 (Int32.toNatClampNeg x1)))).toInt ≤ 12 := wt_R_ga r0 9 rfl 253 (by decide) (by decide) (Int32.toNatClampNeg (wt_ga z193.2.2 275 (Int32.toNatClampNeg x1)))
                      refine wt_T_if (fun h224 => ?_) (fun h224 => ?_)
                      · skip
                        have c225 := wt_cle h224
                        refine wt_T_some ?_
                        exact ⟨(wt_fr.tr (wt_fr.tr (wt_fr.tr (wt_fr.tr wt_fr.rf fσ3 (fun i k h => by (try dsimp only at h); exact (by omega)) (fun i h => h.elim)) f21 (fun i k h => by (try dsimp only at h); exact (by omega)) (fun i h => h.elim)) f40 (fun i k h => by (try dsimp only at h); exact (by omega)) (fun i h => h.elim)) l195 (fun i k h => h.elim) (fun i h => by (try dsimp only at h); rcases h with h | h; exact Or.inl (by omega); exact Or.inr ((by omega)))), l197⟩
                      · skip
                        have c226 := wt_ncle h224
                        refine wt_T_if (fun h227 => ?_) (fun h227 => ?_)
                        · skip
                          have c228 := wt_ceq h227
                          refine wt_T_bi (wq_md_readOf n hn x1 z193.2.1 z193.2.2 l197 (by omega) (by omega) (by omega) (by omega) (by omega) (wt_PG_fr (F := fun i k => (i = 108 ∧ k = 0)) (A := fun i => i = 290 ∨ i = 289) r0 p0 (wt_fr.tr (wt_fr.tr (wt_fr.tr (wt_fr.tr wt_fr.rf fσ3 (fun i k h => by (try dsimp only at h); exact (by omega)) (fun i h => h.elim)) f21 (fun i k h => by (try dsimp only at h); exact (by omega)) (fun i h => h.elim)) f40 (fun i k h => by (try dsimp only at h); exact (by omega)) (fun i h => h.elim)) l195 (fun i k h => h.elim) (fun i h => by (try dsimp only at h); rcases h with h | h; exact Or.inl (by omega); exact Or.inr ((by omega)))) (by (try dsimp only); first | omega | exact fun h => h) (fun i hi => by (try dsimp only); unfold wt_PA at hi; omega))) (fun r229 h230 => ?_)
                          obtain ⟨f231, ri232⟩ := h230
                          have bb233 := wt_bd r229.1
                          refine wt_T_gd (wt_ix (by omega) (by omega)) ?_
                          have bb234 := wt_bd (wt_ga r229.2 275 (Int32.toNatClampNeg x1))
                          have g235 : -1 ≤ (wt_ga r229.2 275 (Int32.toNatClampNeg x1)).toInt ∧ (wt_ga r229.2 275 (Int32.toNatClampNeg x1)).toInt ≤ 7 := wt_R_ga ri232 12 rfl 275 (by decide) (by decide) (Int32.toNatClampNeg x1)
                          have tt236 : (wt_ga r229.2 275 (Int32.toNatClampNeg x1)).toInt = (wt_ga z193.2.2 275 (Int32.toNatClampNeg x1)).toInt := congrArg Int32.toInt (f231.2 275 (by (try dsimp only); omega) (Int32.toNatClampNeg x1))
                          refine wt_T_gd (wt_ix (by omega) (by omega)) ?_
                          refine wt_T_gd (wt_ix (by omega) (by omega)) ?_
                          have bb237 := wt_tn (wt_ga r229.2 275 (Int32.toNatClampNeg x1))
                          have bb238 := wt_tn z193.2.1
                          have bb239 := wt_bd (wt_ga r229.2 (255 + (Int32.toNatClampNeg (wt_ga r229.2 275 (Int32.toNatClampNeg x1)))) (Int32.toNatClampNeg z193.2.1))
                          have g240 : 0 ≤ (wt_ga r229.2 (255 + (Int32.toNatClampNeg (wt_ga r229.2 275 (Int32.toNatClampNeg x1)))) (Int32.toNatClampNeg z193.2.1)).toInt ∧ (wt_ga r229.2 (255 + (Int32.toNatClampNeg (wt_ga r229.2 275 (Int32.toNatClampNeg x1)))) (Int32.toNatClampNeg z193.2.1)).toInt ≤ 59 := wt_R_ga ri232 10 rfl (255 + (Int32.toNatClampNeg (wt_ga r229.2 275 (Int32.toNatClampNeg x1)))) (show 255 ≤ 255 + (Int32.toNatClampNeg (wt_ga r229.2 275 (Int32.toNatClampNeg x1))) by omega) (show 255 + (Int32.toNatClampNeg (wt_ga r229.2 275 (Int32.toNatClampNeg x1))) < 263 by omega) (Int32.toNatClampNeg z193.2.1)
                          have tt241 : (wt_ga r229.2 (255 + (Int32.toNatClampNeg (wt_ga r229.2 275 (Int32.toNatClampNeg x1)))) (Int32.toNatClampNeg z193.2.1)).toInt = (wt_ga z193.2.2 (255 + (Int32.toNatClampNeg (wt_ga r229.2 275 (Int32.toNatClampNeg x1)))) (Int32.toNatClampNeg z193.2.1)).toInt := congrArg Int32.toInt (f231.2 (255 + (Int32.toNatClampNeg (wt_ga r229.2 275 (Int32.toNatClampNeg x1)))) (by (try dsimp only); omega) (Int32.toNatClampNeg z193.2.1))
                          have bb242 := wt_bd (wt_ga z193.2.2 (255 + (Int32.toNatClampNeg (wt_ga r229.2 275 (Int32.toNatClampNeg x1)))) (Int32.toNatClampNeg z193.2.1))
                          have g243 : 0 ≤ (wt_ga z193.2.2 (255 + (Int32.toNatClampNeg (wt_ga r229.2 275 (Int32.toNatClampNeg x1)))) (Int32.toNatClampNeg z193.2.1)).toInt ∧ (wt_ga z193.2.2 (255 + (Int32.toNatClampNeg (wt_ga r229.2 275 (Int32.toNatClampNeg x1)))) (Int32.toNatClampNeg z193.2.1)).toInt ≤ 59 := wt_R_ga l197 10 rfl (255 + (Int32.toNatClampNeg (wt_ga r229.2 275 (Int32.toNatClampNeg x1)))) (show 255 ≤ 255 + (Int32.toNatClampNeg (wt_ga r229.2 275 (Int32.toNatClampNeg x1))) by omega) (show 255 + (Int32.toNatClampNeg (wt_ga r229.2 275 (Int32.toNatClampNeg x1))) < 263 by omega) (Int32.toNatClampNeg z193.2.1)
                          have tt244 : (wt_ga z193.2.2 (255 + (Int32.toNatClampNeg (wt_ga r229.2 275 (Int32.toNatClampNeg x1)))) (Int32.toNatClampNeg z193.2.1)).toInt = (wt_ga r38.2 (255 + (Int32.toNatClampNeg (wt_ga r229.2 275 (Int32.toNatClampNeg x1)))) (Int32.toNatClampNeg z193.2.1)).toInt := congrArg Int32.toInt (l195.2 (255 + (Int32.toNatClampNeg (wt_ga r229.2 275 (Int32.toNatClampNeg x1)))) (by (try dsimp only); omega) (Int32.toNatClampNeg z193.2.1))
                          have bb245 := wt_bd (wt_ga r38.2 (255 + (Int32.toNatClampNeg (wt_ga r229.2 275 (Int32.toNatClampNeg x1)))) (Int32.toNatClampNeg z193.2.1))
                          have g246 : 0 ≤ (wt_ga r38.2 (255 + (Int32.toNatClampNeg (wt_ga r229.2 275 (Int32.toNatClampNeg x1)))) (Int32.toNatClampNeg z193.2.1)).toInt ∧ (wt_ga r38.2 (255 + (Int32.toNatClampNeg (wt_ga r229.2 275 (Int32.toNatClampNeg x1)))) (Int32.toNatClampNeg z193.2.1)).toInt ≤ 59 := wt_R_ga ri41 10 rfl (255 + (Int32.toNatClampNeg (wt_ga r229.2 275 (Int32.toNatClampNeg x1)))) (show 255 ≤ 255 + (Int32.toNatClampNeg (wt_ga r229.2 275 (Int32.toNatClampNeg x1))) by omega) (show 255 + (Int32.toNatClampNeg (wt_ga r229.2 275 (Int32.toNatClampNeg x1))) < 263 by omega) (Int32.toNatClampNeg z193.2.1)
                          have tt247 : (wt_ga r38.2 (255 + (Int32.toNatClampNeg (wt_ga r229.2 275 (Int32.toNatClampNeg x1)))) (Int32.toNatClampNeg z193.2.1)).toInt = (wt_ga r19.2 (255 + (Int32.toNatClampNeg (wt_ga r229.2 275 (Int32.toNatClampNeg x1)))) (Int32.toNatClampNeg z193.2.1)).toInt := congrArg Int32.toInt (f40.2 (255 + (Int32.toNatClampNeg (wt_ga r229.2 275 (Int32.toNatClampNeg x1)))) (fun z => z) (Int32.toNatClampNeg z193.2.1))
                          have bb248 := wt_bd (wt_ga r19.2 (255 + (Int32.toNatClampNeg (wt_ga r229.2 275 (Int32.toNatClampNeg x1)))) (Int32.toNatClampNeg z193.2.1))
                          have g249 : 0 ≤ (wt_ga r19.2 (255 + (Int32.toNatClampNeg (wt_ga r229.2 275 (Int32.toNatClampNeg x1)))) (Int32.toNatClampNeg z193.2.1)).toInt ∧ (wt_ga r19.2 (255 + (Int32.toNatClampNeg (wt_ga r229.2 275 (Int32.toNatClampNeg x1)))) (Int32.toNatClampNeg z193.2.1)).toInt ≤ 59 := wt_R_ga ri22 10 rfl (255 + (Int32.toNatClampNeg (wt_ga r229.2 275 (Int32.toNatClampNeg x1)))) (show 255 ≤ 255 + (Int32.toNatClampNeg (wt_ga r229.2 275 (Int32.toNatClampNeg x1))) by omega) (show 255 + (Int32.toNatClampNeg (wt_ga r229.2 275 (Int32.toNatClampNeg x1))) < 263 by omega) (Int32.toNatClampNeg z193.2.1)
                          have tt250 : (wt_ga r19.2 (255 + (Int32.toNatClampNeg (wt_ga r229.2 275 (Int32.toNatClampNeg x1)))) (Int32.toNatClampNeg z193.2.1)).toInt = (wt_ga σ3 (255 + (Int32.toNatClampNeg (wt_ga r229.2 275 (Int32.toNatClampNeg x1)))) (Int32.toNatClampNeg z193.2.1)).toInt := congrArg Int32.toInt (f21.2 (255 + (Int32.toNatClampNeg (wt_ga r229.2 275 (Int32.toNatClampNeg x1)))) (fun z => z) (Int32.toNatClampNeg z193.2.1))
                          have bb251 := wt_bd (wt_ga σ3 (255 + (Int32.toNatClampNeg (wt_ga r229.2 275 (Int32.toNatClampNeg x1)))) (Int32.toNatClampNeg z193.2.1))
                          have g252 : 0 ≤ (wt_ga σ3 (255 + (Int32.toNatClampNeg (wt_ga r229.2 275 (Int32.toNatClampNeg x1)))) (Int32.toNatClampNeg z193.2.1)).toInt ∧ (wt_ga σ3 (255 + (Int32.toNatClampNeg (wt_ga r229.2 275 (Int32.toNatClampNeg x1)))) (Int32.toNatClampNeg z193.2.1)).toInt ≤ 59 := wt_R_ga rσ3 10 rfl (255 + (Int32.toNatClampNeg (wt_ga r229.2 275 (Int32.toNatClampNeg x1)))) (show 255 ≤ 255 + (Int32.toNatClampNeg (wt_ga r229.2 275 (Int32.toNatClampNeg x1))) by omega) (show 255 + (Int32.toNatClampNeg (wt_ga r229.2 275 (Int32.toNatClampNeg x1))) < 263 by omega) (Int32.toNatClampNeg z193.2.1)
                          have tt253 : (wt_ga σ3 (255 + (Int32.toNatClampNeg (wt_ga r229.2 275 (Int32.toNatClampNeg x1)))) (Int32.toNatClampNeg z193.2.1)).toInt = (wt_ga σ (255 + (Int32.toNatClampNeg (wt_ga r229.2 275 (Int32.toNatClampNeg x1)))) (Int32.toNatClampNeg z193.2.1)).toInt := congrArg Int32.toInt (fσ3.2 (255 + (Int32.toNatClampNeg (wt_ga r229.2 275 (Int32.toNatClampNeg x1)))) (fun z => z) (Int32.toNatClampNeg z193.2.1))
                          have bb254 := wt_bd (wt_ga σ (255 + (Int32.toNatClampNeg (wt_ga r229.2 275 (Int32.toNatClampNeg x1)))) (Int32.toNatClampNeg z193.2.1))
                          have g255 : 0 ≤ (wt_ga σ (255 + (Int32.toNatClampNeg (wt_ga r229.2 275 (Int32.toNatClampNeg x1)))) (Int32.toNatClampNeg z193.2.1)).toInt ∧ (wt_ga σ (255 + (Int32.toNatClampNeg (wt_ga r229.2 275 (Int32.toNatClampNeg x1)))) (Int32.toNatClampNeg z193.2.1)).toInt ≤ 59 := wt_R_ga r0 10 rfl (255 + (Int32.toNatClampNeg (wt_ga r229.2 275 (Int32.toNatClampNeg x1)))) (show 255 ≤ 255 + (Int32.toNatClampNeg (wt_ga r229.2 275 (Int32.toNatClampNeg x1))) by omega) (show 255 + (Int32.toNatClampNeg (wt_ga r229.2 275 (Int32.toNatClampNeg x1))) < 263 by omega) (Int32.toNatClampNeg z193.2.1)
                          refine wt_T_if (fun h256 => ?_) (fun h256 => ?_)
                          · skip
                            have c257 := wt_ceq h256
                            unfold wp_md_page_B196
                            have bb258 := wt_bd z193.1
                            obtain ⟨j259, j259a, j259b⟩ := wt_addI z193.1 (0 : Int32)
                            obtain ⟨j260, j260a, j260b⟩ := wt_addI z193.2.1 (1 : Int32)
                            refine hKK192 _ ⟨(wt_fr.tr (wt_fr.tr wt_fr.rf l195 (fun i k h => h.elim) (fun i h => by (try dsimp only at h); rcases h with h | h; exact Or.inl (by omega); exact Or.inr ((by omega)))) f231 (fun i k h => h.elim) (fun i h => by (try dsimp only at h); rcases h with h | h; exact Or.inl (by omega); exact Or.inr ((by omega)))), (show 0 ≤ ((z193.2.1 + (1 : Int32))).toInt by omega), ri232⟩ ?_
                            show (12 - (z193.2.1 + (1 : Int32)).toInt).toNat < (12 - z193.2.1.toInt).toNat
                            omega
                          · skip
                            have c261 := wt_nceq h256
                            unfold wp_md_page_B196
                            have bb262 := wt_bd z193.1
                            obtain ⟨j263, j263a, j263b⟩ := wt_addI z193.1 (1 : Int32)
                            obtain ⟨j264, j264a, j264b⟩ := wt_addI z193.2.1 (1 : Int32)
                            refine hKK192 _ ⟨(wt_fr.tr (wt_fr.tr wt_fr.rf l195 (fun i k h => h.elim) (fun i h => by (try dsimp only at h); rcases h with h | h; exact Or.inl (by omega); exact Or.inr ((by omega)))) f231 (fun i k h => h.elim) (fun i h => by (try dsimp only at h); rcases h with h | h; exact Or.inl (by omega); exact Or.inr ((by omega)))), (show 0 ≤ ((z193.2.1 + (1 : Int32))).toInt by omega), ri232⟩ ?_
                            show (12 - (z193.2.1 + (1 : Int32)).toInt).toNat < (12 - z193.2.1.toInt).toNat
                            omega
                        · skip
                          have c265 := wt_nceq h227
                          refine wt_T_some ?_
                          exact ⟨(wt_fr.tr (wt_fr.tr (wt_fr.tr (wt_fr.tr wt_fr.rf fσ3 (fun i k h => by (try dsimp only at h); exact (by omega)) (fun i h => h.elim)) f21 (fun i k h => by (try dsimp only at h); exact (by omega)) (fun i h => h.elim)) f40 (fun i k h => by (try dsimp only at h); exact (by omega)) (fun i h => h.elim)) l195 (fun i k h => h.elim) (fun i h => by (try dsimp only at h); rcases h with h | h; exact Or.inl (by omega); exact Or.inr ((by omega)))), l197⟩
                    · skip
                      exact ⟨wt_fr.rf, (show 0 ≤ ((0 : Int32)).toInt by omega), ri41⟩
                    · skip
                      show (12 - (0 : Int32).toInt).toNat < n
                      omega
              · skip
                have bb266 := wt_bd (wt_ga r38.2 276 (Int32.toNatClampNeg x1))
                have g267 : 0 ≤ (wt_ga r38.2 276 (Int32.toNatClampNeg x1)).toInt ∧ (wt_ga r38.2 276 (Int32.toNatClampNeg x1)).toInt ≤ 108 := wt_R_ga ri41 13 rfl 276 (by decide) (by decide) (Int32.toNatClampNeg x1)
                have tt268 : (wt_ga r38.2 276 (Int32.toNatClampNeg x1)).toInt = (wt_ga r19.2 276 (Int32.toNatClampNeg x1)).toInt := congrArg Int32.toInt (f40.2 276 (fun z => z) (Int32.toNatClampNeg x1))
                have bb269 := wt_bd (wt_ga r19.2 276 (Int32.toNatClampNeg x1))
                have g270 : 0 ≤ (wt_ga r19.2 276 (Int32.toNatClampNeg x1)).toInt ∧ (wt_ga r19.2 276 (Int32.toNatClampNeg x1)).toInt ≤ 108 := wt_R_ga ri22 13 rfl 276 (by decide) (by decide) (Int32.toNatClampNeg x1)
                have tt271 : (wt_ga r19.2 276 (Int32.toNatClampNeg x1)).toInt = (wt_ga σ3 276 (Int32.toNatClampNeg x1)).toInt := congrArg Int32.toInt (f21.2 276 (fun z => z) (Int32.toNatClampNeg x1))
                have bb272 := wt_bd (wt_ga σ3 276 (Int32.toNatClampNeg x1))
                have g273 : 0 ≤ (wt_ga σ3 276 (Int32.toNatClampNeg x1)).toInt ∧ (wt_ga σ3 276 (Int32.toNatClampNeg x1)).toInt ≤ 108 := wt_R_ga rσ3 13 rfl 276 (by decide) (by decide) (Int32.toNatClampNeg x1)
                have tt274 : (wt_ga σ3 276 (Int32.toNatClampNeg x1)).toInt = (wt_ga σ 276 (Int32.toNatClampNeg x1)).toInt := congrArg Int32.toInt (fσ3.2 276 (fun z => z) (Int32.toNatClampNeg x1))
                have bb275 := wt_bd (wt_ga σ 276 (Int32.toNatClampNeg x1))
                have g276 : 0 ≤ (wt_ga σ 276 (Int32.toNatClampNeg x1)).toInt ∧ (wt_ga σ 276 (Int32.toNatClampNeg x1)).toInt ≤ 108 := wt_R_ga r0 13 rfl 276 (by decide) (by decide) (Int32.toNatClampNeg x1)
                exact ⟨rfl, (show 0 ≤ ((0 : Int32)).toInt by omega)⟩
              · skip
                have bb277 := wt_bd (wt_ga r38.2 276 (Int32.toNatClampNeg x1))
                have g278 : 0 ≤ (wt_ga r38.2 276 (Int32.toNatClampNeg x1)).toInt ∧ (wt_ga r38.2 276 (Int32.toNatClampNeg x1)).toInt ≤ 108 := wt_R_ga ri41 13 rfl 276 (by decide) (by decide) (Int32.toNatClampNeg x1)
                have tt279 : (wt_ga r38.2 276 (Int32.toNatClampNeg x1)).toInt = (wt_ga r19.2 276 (Int32.toNatClampNeg x1)).toInt := congrArg Int32.toInt (f40.2 276 (fun z => z) (Int32.toNatClampNeg x1))
                have bb280 := wt_bd (wt_ga r19.2 276 (Int32.toNatClampNeg x1))
                have g281 : 0 ≤ (wt_ga r19.2 276 (Int32.toNatClampNeg x1)).toInt ∧ (wt_ga r19.2 276 (Int32.toNatClampNeg x1)).toInt ≤ 108 := wt_R_ga ri22 13 rfl 276 (by decide) (by decide) (Int32.toNatClampNeg x1)
                have tt282 : (wt_ga r19.2 276 (Int32.toNatClampNeg x1)).toInt = (wt_ga σ3 276 (Int32.toNatClampNeg x1)).toInt := congrArg Int32.toInt (f21.2 276 (fun z => z) (Int32.toNatClampNeg x1))
                have bb283 := wt_bd (wt_ga σ3 276 (Int32.toNatClampNeg x1))
                have g284 : 0 ≤ (wt_ga σ3 276 (Int32.toNatClampNeg x1)).toInt ∧ (wt_ga σ3 276 (Int32.toNatClampNeg x1)).toInt ≤ 108 := wt_R_ga rσ3 13 rfl 276 (by decide) (by decide) (Int32.toNatClampNeg x1)
                have tt285 : (wt_ga σ3 276 (Int32.toNatClampNeg x1)).toInt = (wt_ga σ 276 (Int32.toNatClampNeg x1)).toInt := congrArg Int32.toInt (fσ3.2 276 (fun z => z) (Int32.toNatClampNeg x1))
                have bb286 := wt_bd (wt_ga σ 276 (Int32.toNatClampNeg x1))
                have g287 : 0 ≤ (wt_ga σ 276 (Int32.toNatClampNeg x1)).toInt ∧ (wt_ga σ 276 (Int32.toNatClampNeg x1)).toInt ≤ 108 := wt_R_ga r0 13 rfl 276 (by decide) (by decide) (Int32.toNatClampNeg x1)
                show ((wt_ga r38.2 276 (Int32.toNatClampNeg x1)).toInt - (0 : Int32).toInt + 0).toNat < n
                omega
          · skip
            have c288 := wt_ncle h47
            refine wt_T_if (fun h289 => ?_) (fun h289 => ?_)
            · skip
              have c290 := wt_ceq h289
              refine wt_T_gd (wt_ix (by omega) (by omega)) ?_
              refine wt_T_some ?_
              exact ⟨(wt_fr.tr (wt_fr.tr (wt_fr.tr wt_fr.rf fσ3 (fun i k h => by (try dsimp only at h); exact (by omega)) (fun i h => h.elim)) f21 (fun i k h => by (try dsimp only at h); exact (by omega)) (fun i h => h.elim)) f40 (fun i k h => by (try dsimp only at h); exact (by omega)) (fun i h => h.elim)), ri41⟩
            · skip
              have c291 := wt_nceq h289
              refine wt_T_gd (wt_ix (by omega) (by omega)) ?_
              refine wt_T_some ?_
              exact ⟨(wt_fr.tr (wt_fr.tr (wt_fr.tr wt_fr.rf fσ3 (fun i k h => by (try dsimp only at h); exact (by omega)) (fun i h => h.elim)) f21 (fun i k h => by (try dsimp only at h); exact (by omega)) (fun i h => h.elim)) f40 (fun i k h => by (try dsimp only at h); exact (by omega)) (fun i h => h.elim)), ri41⟩
        · skip
          have c292 := wt_nceq h45
          refine wt_T_some ?_
          exact ⟨(wt_fr.tr (wt_fr.tr (wt_fr.tr wt_fr.rf fσ3 (fun i k h => by (try dsimp only at h); exact (by omega)) (fun i h => h.elim)) f21 (fun i k h => by (try dsimp only at h); exact (by omega)) (fun i h => h.elim)) f40 (fun i k h => by (try dsimp only at h); exact (by omega)) (fun i h => h.elim)), ri41⟩
      · skip
        have c293 := wt_nceq h35
        unfold wp_md_page_B41
        have k294 : (2 : Int32).toInt = 2 := by decide
        refine wt_T_bi (wq_md_bad n hn (0 : Int32) (2 : Int32) r19.2 ri22 (by omega)) (fun r295 h296 => ?_)
        obtain ⟨f297, ri298, pp299⟩ := h296
        have bb300 := wt_bd r295.1
        have bb301 := wt_bd (wt_gf r295.2 108 0)
        refine wt_T_if (fun h302 => ?_) (fun h302 => ?_)
        · skip
          have c303 := wt_ceq h302
          refine wt_T_if (fun h304 => ?_) (fun h304 => ?_)
          · skip
            have c305 := wt_cle h304
            have k306 : (3 : Int32).toInt = 3 := by decide
            refine wt_T_if (fun h307 => ?_) (fun h307 => ?_)
            · skip
              have c308 := wt_ceq h307
              refine wt_T_bi (wq_md_leastOf n hn x1 r295.2 ri298 (by omega) (by omega)) (fun r309 h310 => ?_)
              have e311 := h310
              have bb312 := wt_bd r309.1
              rw [e311]
              refine wt_T_some ?_
              exact ⟨(wt_fr.tr (wt_fr.tr (wt_fr.tr wt_fr.rf fσ3 (fun i k h => by (try dsimp only at h); exact (by omega)) (fun i h => h.elim)) f21 (fun i k h => by (try dsimp only at h); exact (by omega)) (fun i h => h.elim)) f297 (fun i k h => by (try dsimp only at h); exact (by omega)) (fun i h => h.elim)), ri298⟩
            · skip
              have c313 := wt_nceq h307
              refine wt_T_it (fun s : Int32 × Int32 × wt_St => s.2.2 = r295.2 ∧ 0 ≤ (s.2.1).toInt) (fun s : Int32 × Int32 × wt_St => ((wt_ga s.2.2 276 (Int32.toNatClampNeg x1)).toInt - s.2.1.toInt + 0).toNat) (fun KK314 z315 I316 hKK314 => ?_) _ _ ?_ ?_
              · skip
                obtain ⟨l317, l318⟩ := I316
                unfold wp_md_page_B91
                rw [l317]
                have bb319 := wt_bd (wt_ga r295.2 276 (Int32.toNatClampNeg x1))
                have g320 : 0 ≤ (wt_ga r295.2 276 (Int32.toNatClampNeg x1)).toInt ∧ (wt_ga r295.2 276 (Int32.toNatClampNeg x1)).toInt ≤ 108 := wt_R_ga ri298 13 rfl 276 (by decide) (by decide) (Int32.toNatClampNeg x1)
                have tt321 : (wt_ga r295.2 276 (Int32.toNatClampNeg x1)).toInt = (wt_ga r19.2 276 (Int32.toNatClampNeg x1)).toInt := congrArg Int32.toInt (f297.2 276 (fun z => z) (Int32.toNatClampNeg x1))
                have bb322 := wt_bd (wt_ga r19.2 276 (Int32.toNatClampNeg x1))
                have g323 : 0 ≤ (wt_ga r19.2 276 (Int32.toNatClampNeg x1)).toInt ∧ (wt_ga r19.2 276 (Int32.toNatClampNeg x1)).toInt ≤ 108 := wt_R_ga ri22 13 rfl 276 (by decide) (by decide) (Int32.toNatClampNeg x1)
                have tt324 : (wt_ga r19.2 276 (Int32.toNatClampNeg x1)).toInt = (wt_ga σ3 276 (Int32.toNatClampNeg x1)).toInt := congrArg Int32.toInt (f21.2 276 (fun z => z) (Int32.toNatClampNeg x1))
                have bb325 := wt_bd (wt_ga σ3 276 (Int32.toNatClampNeg x1))
                have g326 : 0 ≤ (wt_ga σ3 276 (Int32.toNatClampNeg x1)).toInt ∧ (wt_ga σ3 276 (Int32.toNatClampNeg x1)).toInt ≤ 108 := wt_R_ga rσ3 13 rfl 276 (by decide) (by decide) (Int32.toNatClampNeg x1)
                have tt327 : (wt_ga σ3 276 (Int32.toNatClampNeg x1)).toInt = (wt_ga σ 276 (Int32.toNatClampNeg x1)).toInt := congrArg Int32.toInt (fσ3.2 276 (fun z => z) (Int32.toNatClampNeg x1))
                have bb328 := wt_bd (wt_ga σ 276 (Int32.toNatClampNeg x1))
                have g329 : 0 ≤ (wt_ga σ 276 (Int32.toNatClampNeg x1)).toInt ∧ (wt_ga σ 276 (Int32.toNatClampNeg x1)).toInt ≤ 108 := wt_R_ga r0 13 rfl 276 (by decide) (by decide) (Int32.toNatClampNeg x1)
                have bb330 := wt_bd z315.2.1
                refine wt_T_gd (wt_ix (by omega) (by omega)) ?_
                refine wt_T_if (fun h331 => ?_) (fun h331 => ?_)
                · skip
                  have c332 := wt_cle h331
                  unfold wp_md_page_B142
                  have bb339 := wt_bd z315.1
                  refine wt_T_it (fun s : Int32 × Int32 × wt_St => wt_fr (fun i k => False) (fun i => i = 290 ∨ i = 289) r295.2 s.2.2 ∧ 0 ≤ (s.2.1).toInt ∧ wt_RI s.2.2) (fun s : Int32 × Int32 × wt_St => (12 - s.2.1.toInt).toNat) (fun KK333 z334 I335 hKK333 => ?_) _ _ ?_ ?_
                  · skip
                    obtain ⟨l336, l337, l338⟩ := I335
                    unfold wp_md_page_B145
                    have bb340 := wt_bd z334.2.1
                    refine wt_T_gd (wt_ix (by omega) (by omega)) ?_
                    have bb341 := wt_bd (wt_ga z334.2.2 275 (Int32.toNatClampNeg x1))
                    have g342 : -1 ≤ (wt_ga z334.2.2 275 (Int32.toNatClampNeg x1)).toInt ∧ (wt_ga z334.2.2 275 (Int32.toNatClampNeg x1)).toInt ≤ 7 := wt_R_ga l338 12 rfl 275 (by decide) (by decide) (Int32.toNatClampNeg x1)
                    have tt343 : (wt_ga z334.2.2 275 (Int32.toNatClampNeg x1)).toInt = (wt_ga r295.2 275 (Int32.toNatClampNeg x1)).toInt := congrArg Int32.toInt (l336.2 275 (by (try dsimp only); omega) (Int32.toNatClampNeg x1))
                    have bb344 := wt_bd (wt_ga r295.2 275 (Int32.toNatClampNeg x1))
                    have g345 : -1 ≤ (wt_ga r295.2 275 (Int32.toNatClampNeg x1)).toInt ∧ (wt_ga r295.2 275 (Int32.toNatClampNeg x1)).toInt ≤ 7 := wt_R_ga ri298 12 rfl 275 (by decide) (by decide) (Int32.toNatClampNeg x1)
                    have tt346 : (wt_ga r295.2 275 (Int32.toNatClampNeg x1)).toInt = (wt_ga r19.2 275 (Int32.toNatClampNeg x1)).toInt := congrArg Int32.toInt (f297.2 275 (fun z => z) (Int32.toNatClampNeg x1))
                    have bb347 := wt_bd (wt_ga r19.2 275 (Int32.toNatClampNeg x1))
                    have g348 : -1 ≤ (wt_ga r19.2 275 (Int32.toNatClampNeg x1)).toInt ∧ (wt_ga r19.2 275 (Int32.toNatClampNeg x1)).toInt ≤ 7 := wt_R_ga ri22 12 rfl 275 (by decide) (by decide) (Int32.toNatClampNeg x1)
                    have tt349 : (wt_ga r19.2 275 (Int32.toNatClampNeg x1)).toInt = (wt_ga σ3 275 (Int32.toNatClampNeg x1)).toInt := congrArg Int32.toInt (f21.2 275 (fun z => z) (Int32.toNatClampNeg x1))
                    refine wt_T_gd (wt_ix (by omega) (by omega)) ?_
                    have bb350 := wt_tn (wt_ga z334.2.2 275 (Int32.toNatClampNeg x1))
                    have bb351 := wt_bd (wt_ga z334.2.2 253 (Int32.toNatClampNeg (wt_ga z334.2.2 275 (Int32.toNatClampNeg x1))))
                    have g352 : 0 ≤ (wt_ga z334.2.2 253 (Int32.toNatClampNeg (wt_ga z334.2.2 275 (Int32.toNatClampNeg x1)))).toInt ∧ (wt_ga z334.2.2 253 (Int32.toNatClampNeg (wt_ga z334.2.2 275 (Int32.toNatClampNeg x1)))).toInt ≤ 12 := wt_R_ga l338 9 rfl 253 (by decide) (by decide) (Int32.toNatClampNeg (wt_ga z334.2.2 275 (Int32.toNatClampNeg x1)))
                    have tt353 : (wt_ga z334.2.2 253 (Int32.toNatClampNeg (wt_ga z334.2.2 275 (Int32.toNatClampNeg x1)))).toInt = (wt_ga r295.2 253 (Int32.toNatClampNeg (wt_ga z334.2.2 275 (Int32.toNatClampNeg x1)))).toInt := congrArg Int32.toInt (l336.2 253 (by (try dsimp only); omega) (Int32.toNatClampNeg (wt_ga z334.2.2 275 (Int32.toNatClampNeg x1))))
                    have bb354 := wt_bd (wt_ga r295.2 253 (Int32.toNatClampNeg (wt_ga z334.2.2 275 (Int32.toNatClampNeg x1))))
                    have g355 : 0 ≤ (wt_ga r295.2 253 (Int32.toNatClampNeg (wt_ga z334.2.2 275 (Int32.toNatClampNeg x1)))).toInt ∧ (wt_ga r295.2 253 (Int32.toNatClampNeg (wt_ga z334.2.2 275 (Int32.toNatClampNeg x1)))).toInt ≤ 12 := wt_R_ga ri298 9 rfl 253 (by decide) (by decide) (Int32.toNatClampNeg (wt_ga z334.2.2 275 (Int32.toNatClampNeg x1)))
                    have tt356 : (wt_ga r295.2 253 (Int32.toNatClampNeg (wt_ga z334.2.2 275 (Int32.toNatClampNeg x1)))).toInt = (wt_ga r19.2 253 (Int32.toNatClampNeg (wt_ga z334.2.2 275 (Int32.toNatClampNeg x1)))).toInt := congrArg Int32.toInt (f297.2 253 (fun z => z) (Int32.toNatClampNeg (wt_ga z334.2.2 275 (Int32.toNatClampNeg x1))))
                    have bb357 := wt_bd (wt_ga r19.2 253 (Int32.toNatClampNeg (wt_ga z334.2.2 275 (Int32.toNatClampNeg x1))))
                    have g358 : 0 ≤ (wt_ga r19.2 253 (Int32.toNatClampNeg (wt_ga z334.2.2 275 (Int32.toNatClampNeg x1)))).toInt ∧ (wt_ga r19.2 253 (Int32.toNatClampNeg (wt_ga z334.2.2 275 (Int32.toNatClampNeg x1)))).toInt ≤ 12 := wt_R_ga ri22 9 rfl 253 (by decide) (by decide) (Int32.toNatClampNeg (wt_ga z334.2.2 275 (Int32.toNatClampNeg x1)))
                    have tt359 : (wt_ga r19.2 253 (Int32.toNatClampNeg (wt_ga z334.2.2 275 (Int32.toNatClampNeg x1)))).toInt = (wt_ga σ3 253 (Int32.toNatClampNeg (wt_ga z334.2.2 275 (Int32.toNatClampNeg x1)))).toInt := congrArg Int32.toInt (f21.2 253 (fun z => z) (Int32.toNatClampNeg (wt_ga z334.2.2 275 (Int32.toNatClampNeg x1))))
                    have bb360 := wt_bd (wt_ga σ3 253 (Int32.toNatClampNeg (wt_ga z334.2.2 275 (Int32.toNatClampNeg x1))))
                    have g361 : 0 ≤ (wt_ga σ3 253 (Int32.toNatClampNeg (wt_ga z334.2.2 275 (Int32.toNatClampNeg x1)))).toInt ∧ (wt_ga σ3 253 (Int32.toNatClampNeg (wt_ga z334.2.2 275 (Int32.toNatClampNeg x1)))).toInt ≤ 12 := wt_R_ga rσ3 9 rfl 253 (by decide) (by decide) (Int32.toNatClampNeg (wt_ga z334.2.2 275 (Int32.toNatClampNeg x1)))
                    have tt362 : (wt_ga σ3 253 (Int32.toNatClampNeg (wt_ga z334.2.2 275 (Int32.toNatClampNeg x1)))).toInt = (wt_ga σ 253 (Int32.toNatClampNeg (wt_ga z334.2.2 275 (Int32.toNatClampNeg x1)))).toInt := congrArg Int32.toInt (fσ3.2 253 (fun z => z) (Int32.toNatClampNeg (wt_ga z334.2.2 275 (Int32.toNatClampNeg x1))))
                    have bb363 := wt_bd (wt_ga σ 253 (Int32.toNatClampNeg (wt_ga z334.2.2 275 (Int32.toNatClampNeg x1))))
                    have g364 : 0 ≤ (wt_ga σ 253 (Int32.toNatClampNeg (wt_ga z334.2.2 275 (Int32.toNatClampNeg x1)))).toInt ∧ (wt_ga σ 253 (Int32.toNatClampNeg (wt_ga z334.2.2 275 (Int32.toNatClampNeg x1)))).toInt ≤ 12 := wt_R_ga r0 9 rfl 253 (by decide) (by decide) (Int32.toNatClampNeg (wt_ga z334.2.2 275 (Int32.toNatClampNeg x1)))
                    refine wt_T_if (fun h365 => ?_) (fun h365 => ?_)
                    · skip
                      have c366 := wt_cle h365
                      refine wt_T_some ?_
                      exact ⟨(wt_fr.tr (wt_fr.tr (wt_fr.tr (wt_fr.tr wt_fr.rf fσ3 (fun i k h => by (try dsimp only at h); exact (by omega)) (fun i h => h.elim)) f21 (fun i k h => by (try dsimp only at h); exact (by omega)) (fun i h => h.elim)) f297 (fun i k h => by (try dsimp only at h); exact (by omega)) (fun i h => h.elim)) l336 (fun i k h => h.elim) (fun i h => by (try dsimp only at h); rcases h with h | h; exact Or.inl (by omega); exact Or.inr ((by omega)))), l338⟩
                    · skip
                      have c367 := wt_ncle h365
                      refine wt_T_if (fun h368 => ?_) (fun h368 => ?_)
                      · skip
                        have c369 := wt_ceq h368
                        refine wt_T_bi (wq_md_readOf n hn x1 z334.2.1 z334.2.2 l338 (by omega) (by omega) (by omega) (by omega) (by omega) (wt_PG_fr (F := fun i k => (i = 108 ∧ k = 0)) (A := fun i => i = 290 ∨ i = 289) r0 p0 (wt_fr.tr (wt_fr.tr (wt_fr.tr (wt_fr.tr wt_fr.rf fσ3 (fun i k h => by (try dsimp only at h); exact (by omega)) (fun i h => h.elim)) f21 (fun i k h => by (try dsimp only at h); exact (by omega)) (fun i h => h.elim)) f297 (fun i k h => by (try dsimp only at h); exact (by omega)) (fun i h => h.elim)) l336 (fun i k h => h.elim) (fun i h => by (try dsimp only at h); rcases h with h | h; exact Or.inl (by omega); exact Or.inr ((by omega)))) (by (try dsimp only); first | omega | exact fun h => h) (fun i hi => by (try dsimp only); unfold wt_PA at hi; omega))) (fun r370 h371 => ?_)
                        obtain ⟨f372, ri373⟩ := h371
                        have bb374 := wt_bd r370.1
                        refine wt_T_gd (wt_ix (by omega) (by omega)) ?_
                        have bb375 := wt_bd (wt_ga r370.2 275 (Int32.toNatClampNeg x1))
                        have g376 : -1 ≤ (wt_ga r370.2 275 (Int32.toNatClampNeg x1)).toInt ∧ (wt_ga r370.2 275 (Int32.toNatClampNeg x1)).toInt ≤ 7 := wt_R_ga ri373 12 rfl 275 (by decide) (by decide) (Int32.toNatClampNeg x1)
                        have tt377 : (wt_ga r370.2 275 (Int32.toNatClampNeg x1)).toInt = (wt_ga z334.2.2 275 (Int32.toNatClampNeg x1)).toInt := congrArg Int32.toInt (f372.2 275 (by (try dsimp only); omega) (Int32.toNatClampNeg x1))
                        refine wt_T_gd (wt_ix (by omega) (by omega)) ?_
                        refine wt_T_gd (wt_ix (by omega) (by omega)) ?_
                        have bb378 := wt_tn (wt_ga r370.2 275 (Int32.toNatClampNeg x1))
                        have bb379 := wt_tn z334.2.1
                        have bb380 := wt_bd (wt_ga r370.2 (255 + (Int32.toNatClampNeg (wt_ga r370.2 275 (Int32.toNatClampNeg x1)))) (Int32.toNatClampNeg z334.2.1))
                        have g381 : 0 ≤ (wt_ga r370.2 (255 + (Int32.toNatClampNeg (wt_ga r370.2 275 (Int32.toNatClampNeg x1)))) (Int32.toNatClampNeg z334.2.1)).toInt ∧ (wt_ga r370.2 (255 + (Int32.toNatClampNeg (wt_ga r370.2 275 (Int32.toNatClampNeg x1)))) (Int32.toNatClampNeg z334.2.1)).toInt ≤ 59 := wt_R_ga ri373 10 rfl (255 + (Int32.toNatClampNeg (wt_ga r370.2 275 (Int32.toNatClampNeg x1)))) (show 255 ≤ 255 + (Int32.toNatClampNeg (wt_ga r370.2 275 (Int32.toNatClampNeg x1))) by omega) (show 255 + (Int32.toNatClampNeg (wt_ga r370.2 275 (Int32.toNatClampNeg x1))) < 263 by omega) (Int32.toNatClampNeg z334.2.1)
                        have tt382 : (wt_ga r370.2 (255 + (Int32.toNatClampNeg (wt_ga r370.2 275 (Int32.toNatClampNeg x1)))) (Int32.toNatClampNeg z334.2.1)).toInt = (wt_ga z334.2.2 (255 + (Int32.toNatClampNeg (wt_ga r370.2 275 (Int32.toNatClampNeg x1)))) (Int32.toNatClampNeg z334.2.1)).toInt := congrArg Int32.toInt (f372.2 (255 + (Int32.toNatClampNeg (wt_ga r370.2 275 (Int32.toNatClampNeg x1)))) (by (try dsimp only); omega) (Int32.toNatClampNeg z334.2.1))
                        have bb383 := wt_bd (wt_ga z334.2.2 (255 + (Int32.toNatClampNeg (wt_ga r370.2 275 (Int32.toNatClampNeg x1)))) (Int32.toNatClampNeg z334.2.1))
                        have g384 : 0 ≤ (wt_ga z334.2.2 (255 + (Int32.toNatClampNeg (wt_ga r370.2 275 (Int32.toNatClampNeg x1)))) (Int32.toNatClampNeg z334.2.1)).toInt ∧ (wt_ga z334.2.2 (255 + (Int32.toNatClampNeg (wt_ga r370.2 275 (Int32.toNatClampNeg x1)))) (Int32.toNatClampNeg z334.2.1)).toInt ≤ 59 := wt_R_ga l338 10 rfl (255 + (Int32.toNatClampNeg (wt_ga r370.2 275 (Int32.toNatClampNeg x1)))) (show 255 ≤ 255 + (Int32.toNatClampNeg (wt_ga r370.2 275 (Int32.toNatClampNeg x1))) by omega) (show 255 + (Int32.toNatClampNeg (wt_ga r370.2 275 (Int32.toNatClampNeg x1))) < 263 by omega) (Int32.toNatClampNeg z334.2.1)
                        have tt385 : (wt_ga z334.2.2 (255 + (Int32.toNatClampNeg (wt_ga r370.2 275 (Int32.toNatClampNeg x1)))) (Int32.toNatClampNeg z334.2.1)).toInt = (wt_ga r295.2 (255 + (Int32.toNatClampNeg (wt_ga r370.2 275 (Int32.toNatClampNeg x1)))) (Int32.toNatClampNeg z334.2.1)).toInt := congrArg Int32.toInt (l336.2 (255 + (Int32.toNatClampNeg (wt_ga r370.2 275 (Int32.toNatClampNeg x1)))) (by (try dsimp only); omega) (Int32.toNatClampNeg z334.2.1))
                        have bb386 := wt_bd (wt_ga r295.2 (255 + (Int32.toNatClampNeg (wt_ga r370.2 275 (Int32.toNatClampNeg x1)))) (Int32.toNatClampNeg z334.2.1))
                        have g387 : 0 ≤ (wt_ga r295.2 (255 + (Int32.toNatClampNeg (wt_ga r370.2 275 (Int32.toNatClampNeg x1)))) (Int32.toNatClampNeg z334.2.1)).toInt ∧ (wt_ga r295.2 (255 + (Int32.toNatClampNeg (wt_ga r370.2 275 (Int32.toNatClampNeg x1)))) (Int32.toNatClampNeg z334.2.1)).toInt ≤ 59 := wt_R_ga ri298 10 rfl (255 + (Int32.toNatClampNeg (wt_ga r370.2 275 (Int32.toNatClampNeg x1)))) (show 255 ≤ 255 + (Int32.toNatClampNeg (wt_ga r370.2 275 (Int32.toNatClampNeg x1))) by omega) (show 255 + (Int32.toNatClampNeg (wt_ga r370.2 275 (Int32.toNatClampNeg x1))) < 263 by omega) (Int32.toNatClampNeg z334.2.1)
                        have tt388 : (wt_ga r295.2 (255 + (Int32.toNatClampNeg (wt_ga r370.2 275 (Int32.toNatClampNeg x1)))) (Int32.toNatClampNeg z334.2.1)).toInt = (wt_ga r19.2 (255 + (Int32.toNatClampNeg (wt_ga r370.2 275 (Int32.toNatClampNeg x1)))) (Int32.toNatClampNeg z334.2.1)).toInt := congrArg Int32.toInt (f297.2 (255 + (Int32.toNatClampNeg (wt_ga r370.2 275 (Int32.toNatClampNeg x1)))) (fun z => z) (Int32.toNatClampNeg z334.2.1))
                        have bb389 := wt_bd (wt_ga r19.2 (255 + (Int32.toNatClampNeg (wt_ga r370.2 275 (Int32.toNatClampNeg x1)))) (Int32.toNatClampNeg z334.2.1))
                        have g390 : 0 ≤ (wt_ga r19.2 (255 + (Int32.toNatClampNeg (wt_ga r370.2 275 (Int32.toNatClampNeg x1)))) (Int32.toNatClampNeg z334.2.1)).toInt ∧ (wt_ga r19.2 (255 + (Int32.toNatClampNeg (wt_ga r370.2 275 (Int32.toNatClampNeg x1)))) (Int32.toNatClampNeg z334.2.1)).toInt ≤ 59 := wt_R_ga ri22 10 rfl (255 + (Int32.toNatClampNeg (wt_ga r370.2 275 (Int32.toNatClampNeg x1)))) (show 255 ≤ 255 + (Int32.toNatClampNeg (wt_ga r370.2 275 (Int32.toNatClampNeg x1))) by omega) (show 255 + (Int32.toNatClampNeg (wt_ga r370.2 275 (Int32.toNatClampNeg x1))) < 263 by omega) (Int32.toNatClampNeg z334.2.1)
                        have tt391 : (wt_ga r19.2 (255 + (Int32.toNatClampNeg (wt_ga r370.2 275 (Int32.toNatClampNeg x1)))) (Int32.toNatClampNeg z334.2.1)).toInt = (wt_ga σ3 (255 + (Int32.toNatClampNeg (wt_ga r370.2 275 (Int32.toNatClampNeg x1)))) (Int32.toNatClampNeg z334.2.1)).toInt := congrArg Int32.toInt (f21.2 (255 + (Int32.toNatClampNeg (wt_ga r370.2 275 (Int32.toNatClampNeg x1)))) (fun z => z) (Int32.toNatClampNeg z334.2.1))
                        have bb392 := wt_bd (wt_ga σ3 (255 + (Int32.toNatClampNeg (wt_ga r370.2 275 (Int32.toNatClampNeg x1)))) (Int32.toNatClampNeg z334.2.1))
                        have g393 : 0 ≤ (wt_ga σ3 (255 + (Int32.toNatClampNeg (wt_ga r370.2 275 (Int32.toNatClampNeg x1)))) (Int32.toNatClampNeg z334.2.1)).toInt ∧ (wt_ga σ3 (255 + (Int32.toNatClampNeg (wt_ga r370.2 275 (Int32.toNatClampNeg x1)))) (Int32.toNatClampNeg z334.2.1)).toInt ≤ 59 := wt_R_ga rσ3 10 rfl (255 + (Int32.toNatClampNeg (wt_ga r370.2 275 (Int32.toNatClampNeg x1)))) (show 255 ≤ 255 + (Int32.toNatClampNeg (wt_ga r370.2 275 (Int32.toNatClampNeg x1))) by omega) (show 255 + (Int32.toNatClampNeg (wt_ga r370.2 275 (Int32.toNatClampNeg x1))) < 263 by omega) (Int32.toNatClampNeg z334.2.1)
                        have tt394 : (wt_ga σ3 (255 + (Int32.toNatClampNeg (wt_ga r370.2 275 (Int32.toNatClampNeg x1)))) (Int32.toNatClampNeg z334.2.1)).toInt = (wt_ga σ (255 + (Int32.toNatClampNeg (wt_ga r370.2 275 (Int32.toNatClampNeg x1)))) (Int32.toNatClampNeg z334.2.1)).toInt := congrArg Int32.toInt (fσ3.2 (255 + (Int32.toNatClampNeg (wt_ga r370.2 275 (Int32.toNatClampNeg x1)))) (fun z => z) (Int32.toNatClampNeg z334.2.1))
                        have bb395 := wt_bd (wt_ga σ (255 + (Int32.toNatClampNeg (wt_ga r370.2 275 (Int32.toNatClampNeg x1)))) (Int32.toNatClampNeg z334.2.1))
                        have g396 : 0 ≤ (wt_ga σ (255 + (Int32.toNatClampNeg (wt_ga r370.2 275 (Int32.toNatClampNeg x1)))) (Int32.toNatClampNeg z334.2.1)).toInt ∧ (wt_ga σ (255 + (Int32.toNatClampNeg (wt_ga r370.2 275 (Int32.toNatClampNeg x1)))) (Int32.toNatClampNeg z334.2.1)).toInt ≤ 59 := wt_R_ga r0 10 rfl (255 + (Int32.toNatClampNeg (wt_ga r370.2 275 (Int32.toNatClampNeg x1)))) (show 255 ≤ 255 + (Int32.toNatClampNeg (wt_ga r370.2 275 (Int32.toNatClampNeg x1))) by omega) (show 255 + (Int32.toNatClampNeg (wt_ga r370.2 275 (Int32.toNatClampNeg x1))) < 263 by omega) (Int32.toNatClampNeg z334.2.1)
                        refine wt_T_if (fun h397 => ?_) (fun h397 => ?_)
                        · skip
                          have c398 := wt_ceq h397
                          unfold wp_md_page_B196
                          have bb399 := wt_bd z334.1
                          obtain ⟨j400, j400a, j400b⟩ := wt_addI z334.1 (0 : Int32)
                          obtain ⟨j401, j401a, j401b⟩ := wt_addI z334.2.1 (1 : Int32)
                          refine hKK333 _ ⟨(wt_fr.tr (wt_fr.tr wt_fr.rf l336 (fun i k h => h.elim) (fun i h => by (try dsimp only at h); rcases h with h | h; exact Or.inl (by omega); exact Or.inr ((by omega)))) f372 (fun i k h => h.elim) (fun i h => by (try dsimp only at h); rcases h with h | h; exact Or.inl (by omega); exact Or.inr ((by omega)))), (show 0 ≤ ((z334.2.1 + (1 : Int32))).toInt by omega), ri373⟩ ?_
                          show (12 - (z334.2.1 + (1 : Int32)).toInt).toNat < (12 - z334.2.1.toInt).toNat
                          omega
                        · skip
                          have c402 := wt_nceq h397
                          unfold wp_md_page_B196
                          have bb403 := wt_bd z334.1
                          obtain ⟨j404, j404a, j404b⟩ := wt_addI z334.1 (1 : Int32)
                          obtain ⟨j405, j405a, j405b⟩ := wt_addI z334.2.1 (1 : Int32)
                          refine hKK333 _ ⟨(wt_fr.tr (wt_fr.tr wt_fr.rf l336 (fun i k h => h.elim) (fun i h => by (try dsimp only at h); rcases h with h | h; exact Or.inl (by omega); exact Or.inr ((by omega)))) f372 (fun i k h => h.elim) (fun i h => by (try dsimp only at h); rcases h with h | h; exact Or.inl (by omega); exact Or.inr ((by omega)))), (show 0 ≤ ((z334.2.1 + (1 : Int32))).toInt by omega), ri373⟩ ?_
                          show (12 - (z334.2.1 + (1 : Int32)).toInt).toNat < (12 - z334.2.1.toInt).toNat
                          omega
                      · skip
                        have c406 := wt_nceq h368
                        refine wt_T_some ?_
                        exact ⟨(wt_fr.tr (wt_fr.tr (wt_fr.tr (wt_fr.tr wt_fr.rf fσ3 (fun i k h => by (try dsimp only at h); exact (by omega)) (fun i h => h.elim)) f21 (fun i k h => by (try dsimp only at h); exact (by omega)) (fun i h => h.elim)) f297 (fun i k h => by (try dsimp only at h); exact (by omega)) (fun i h => h.elim)) l336 (fun i k h => h.elim) (fun i h => by (try dsimp only at h); rcases h with h | h; exact Or.inl (by omega); exact Or.inr ((by omega)))), l338⟩
                  · skip
                    exact ⟨wt_fr.rf, (show 0 ≤ ((0 : Int32)).toInt by omega), ri298⟩
                  · skip
                    show (12 - (0 : Int32).toInt).toNat < n
                    omega
                · skip
                  have c407 := wt_ncle h331
                  refine wt_T_if (fun h408 => ?_) (fun h408 => ?_)
                  · skip
                    have c409 := wt_ceq h408
                    refine wt_T_gd (wt_ix (by omega) (by omega)) ?_
                    refine wt_T_gd (wt_ix (by omega) (by omega)) ?_
                    have bb410 := wt_tn z315.2.1
                    have bb411 := wt_bd (wt_ga r295.2 (278 + (Int32.toNatClampNeg x1)) (Int32.toNatClampNeg z315.2.1))
                    have g412 : 0 ≤ (wt_ga r295.2 (278 + (Int32.toNatClampNeg x1)) (Int32.toNatClampNeg z315.2.1)).toInt ∧ (wt_ga r295.2 (278 + (Int32.toNatClampNeg x1)) (Int32.toNatClampNeg z315.2.1)).toInt ≤ 337 := wt_R_ga ri298 14 rfl (278 + (Int32.toNatClampNeg x1)) (show 278 ≤ 278 + (Int32.toNatClampNeg x1) by omega) (show 278 + (Int32.toNatClampNeg x1) < 282 by omega) (Int32.toNatClampNeg z315.2.1)
                    have tt413 : (wt_ga r295.2 (278 + (Int32.toNatClampNeg x1)) (Int32.toNatClampNeg z315.2.1)).toInt = (wt_ga r19.2 (278 + (Int32.toNatClampNeg x1)) (Int32.toNatClampNeg z315.2.1)).toInt := congrArg Int32.toInt (f297.2 (278 + (Int32.toNatClampNeg x1)) (fun z => z) (Int32.toNatClampNeg z315.2.1))
                    have bb414 := wt_bd (wt_ga r19.2 (278 + (Int32.toNatClampNeg x1)) (Int32.toNatClampNeg z315.2.1))
                    have g415 : 0 ≤ (wt_ga r19.2 (278 + (Int32.toNatClampNeg x1)) (Int32.toNatClampNeg z315.2.1)).toInt ∧ (wt_ga r19.2 (278 + (Int32.toNatClampNeg x1)) (Int32.toNatClampNeg z315.2.1)).toInt ≤ 337 := wt_R_ga ri22 14 rfl (278 + (Int32.toNatClampNeg x1)) (show 278 ≤ 278 + (Int32.toNatClampNeg x1) by omega) (show 278 + (Int32.toNatClampNeg x1) < 282 by omega) (Int32.toNatClampNeg z315.2.1)
                    have tt416 : (wt_ga r19.2 (278 + (Int32.toNatClampNeg x1)) (Int32.toNatClampNeg z315.2.1)).toInt = (wt_ga σ3 (278 + (Int32.toNatClampNeg x1)) (Int32.toNatClampNeg z315.2.1)).toInt := congrArg Int32.toInt (f21.2 (278 + (Int32.toNatClampNeg x1)) (fun z => z) (Int32.toNatClampNeg z315.2.1))
                    have bb417 := wt_bd (wt_ga σ3 (278 + (Int32.toNatClampNeg x1)) (Int32.toNatClampNeg z315.2.1))
                    have g418 : 0 ≤ (wt_ga σ3 (278 + (Int32.toNatClampNeg x1)) (Int32.toNatClampNeg z315.2.1)).toInt ∧ (wt_ga σ3 (278 + (Int32.toNatClampNeg x1)) (Int32.toNatClampNeg z315.2.1)).toInt ≤ 337 := wt_R_ga rσ3 14 rfl (278 + (Int32.toNatClampNeg x1)) (show 278 ≤ 278 + (Int32.toNatClampNeg x1) by omega) (show 278 + (Int32.toNatClampNeg x1) < 282 by omega) (Int32.toNatClampNeg z315.2.1)
                    have tt419 : (wt_ga σ3 (278 + (Int32.toNatClampNeg x1)) (Int32.toNatClampNeg z315.2.1)).toInt = (wt_ga σ (278 + (Int32.toNatClampNeg x1)) (Int32.toNatClampNeg z315.2.1)).toInt := congrArg Int32.toInt (fσ3.2 (278 + (Int32.toNatClampNeg x1)) (fun z => z) (Int32.toNatClampNeg z315.2.1))
                    have bb420 := wt_bd (wt_ga σ (278 + (Int32.toNatClampNeg x1)) (Int32.toNatClampNeg z315.2.1))
                    have g421 : 0 ≤ (wt_ga σ (278 + (Int32.toNatClampNeg x1)) (Int32.toNatClampNeg z315.2.1)).toInt ∧ (wt_ga σ (278 + (Int32.toNatClampNeg x1)) (Int32.toNatClampNeg z315.2.1)).toInt ≤ 337 := wt_R_ga r0 14 rfl (278 + (Int32.toNatClampNeg x1)) (show 278 ≤ 278 + (Int32.toNatClampNeg x1) by omega) (show 278 + (Int32.toNatClampNeg x1) < 282 by omega) (Int32.toNatClampNeg z315.2.1)
                    refine wt_T_gd (wt_ix (by omega) (by omega)) ?_
                    have bb422 := wt_bd (wt_gf r295.2 108 25)
                    have tt423 : (wt_gf r295.2 108 25).toInt = (wt_gf r19.2 108 25).toInt := congrArg Int32.toInt (f297.1 108 25 (by (try dsimp only); omega))
                    have bb424 := wt_bd (wt_gf r19.2 108 25)
                    have tt425 : (wt_gf r19.2 108 25).toInt = (wt_gf σ3 108 25).toInt := congrArg Int32.toInt (f21.1 108 25 (by (try dsimp only); omega))
                    have bb426 := wt_bd (wt_gf σ3 108 25)
                    have tt427 : (wt_gf σ3 108 25).toInt = (wt_gf σ 108 25).toInt := congrArg Int32.toInt (fσ3.1 108 25 (by (try dsimp only); omega))
                    have bb428 := wt_bd (wt_gf σ 108 25)
                    have bb429 := wt_tn (wt_ga r295.2 (278 + (Int32.toNatClampNeg x1)) (Int32.toNatClampNeg z315.2.1))
                    have bb430 := wt_bd (wt_ga r295.2 121 (Int32.toNatClampNeg (wt_ga r295.2 (278 + (Int32.toNatClampNeg x1)) (Int32.toNatClampNeg z315.2.1))))
                    have g431 : 0 ≤ (wt_ga r295.2 121 (Int32.toNatClampNeg (wt_ga r295.2 (278 + (Int32.toNatClampNeg x1)) (Int32.toNatClampNeg z315.2.1)))).toInt ∧ (wt_ga r295.2 121 (Int32.toNatClampNeg (wt_ga r295.2 (278 + (Int32.toNatClampNeg x1)) (Int32.toNatClampNeg z315.2.1)))).toInt ≤ 400 := wt_R_ga ri298 3 rfl 121 (by decide) (by decide) (Int32.toNatClampNeg (wt_ga r295.2 (278 + (Int32.toNatClampNeg x1)) (Int32.toNatClampNeg z315.2.1)))
                    have tt432 : (wt_ga r295.2 121 (Int32.toNatClampNeg (wt_ga r295.2 (278 + (Int32.toNatClampNeg x1)) (Int32.toNatClampNeg z315.2.1)))).toInt = (wt_ga r19.2 121 (Int32.toNatClampNeg (wt_ga r295.2 (278 + (Int32.toNatClampNeg x1)) (Int32.toNatClampNeg z315.2.1)))).toInt := congrArg Int32.toInt (f297.2 121 (fun z => z) (Int32.toNatClampNeg (wt_ga r295.2 (278 + (Int32.toNatClampNeg x1)) (Int32.toNatClampNeg z315.2.1))))
                    have bb433 := wt_bd (wt_ga r19.2 121 (Int32.toNatClampNeg (wt_ga r295.2 (278 + (Int32.toNatClampNeg x1)) (Int32.toNatClampNeg z315.2.1))))
                    have g434 : 0 ≤ (wt_ga r19.2 121 (Int32.toNatClampNeg (wt_ga r295.2 (278 + (Int32.toNatClampNeg x1)) (Int32.toNatClampNeg z315.2.1)))).toInt ∧ (wt_ga r19.2 121 (Int32.toNatClampNeg (wt_ga r295.2 (278 + (Int32.toNatClampNeg x1)) (Int32.toNatClampNeg z315.2.1)))).toInt ≤ 400 := wt_R_ga ri22 3 rfl 121 (by decide) (by decide) (Int32.toNatClampNeg (wt_ga r295.2 (278 + (Int32.toNatClampNeg x1)) (Int32.toNatClampNeg z315.2.1)))
                    have tt435 : (wt_ga r19.2 121 (Int32.toNatClampNeg (wt_ga r295.2 (278 + (Int32.toNatClampNeg x1)) (Int32.toNatClampNeg z315.2.1)))).toInt = (wt_ga σ3 121 (Int32.toNatClampNeg (wt_ga r295.2 (278 + (Int32.toNatClampNeg x1)) (Int32.toNatClampNeg z315.2.1)))).toInt := congrArg Int32.toInt (f21.2 121 (fun z => z) (Int32.toNatClampNeg (wt_ga r295.2 (278 + (Int32.toNatClampNeg x1)) (Int32.toNatClampNeg z315.2.1))))
                    have bb436 := wt_bd (wt_ga σ3 121 (Int32.toNatClampNeg (wt_ga r295.2 (278 + (Int32.toNatClampNeg x1)) (Int32.toNatClampNeg z315.2.1))))
                    have g437 : 0 ≤ (wt_ga σ3 121 (Int32.toNatClampNeg (wt_ga r295.2 (278 + (Int32.toNatClampNeg x1)) (Int32.toNatClampNeg z315.2.1)))).toInt ∧ (wt_ga σ3 121 (Int32.toNatClampNeg (wt_ga r295.2 (278 + (Int32.toNatClampNeg x1)) (Int32.toNatClampNeg z315.2.1)))).toInt ≤ 400 := wt_R_ga rσ3 3 rfl 121 (by decide) (by decide) (Int32.toNatClampNeg (wt_ga r295.2 (278 + (Int32.toNatClampNeg x1)) (Int32.toNatClampNeg z315.2.1)))
                    have tt438 : (wt_ga σ3 121 (Int32.toNatClampNeg (wt_ga r295.2 (278 + (Int32.toNatClampNeg x1)) (Int32.toNatClampNeg z315.2.1)))).toInt = (wt_ga σ 121 (Int32.toNatClampNeg (wt_ga r295.2 (278 + (Int32.toNatClampNeg x1)) (Int32.toNatClampNeg z315.2.1)))).toInt := congrArg Int32.toInt (fσ3.2 121 (fun z => z) (Int32.toNatClampNeg (wt_ga r295.2 (278 + (Int32.toNatClampNeg x1)) (Int32.toNatClampNeg z315.2.1))))
                    have bb439 := wt_bd (wt_ga σ 121 (Int32.toNatClampNeg (wt_ga r295.2 (278 + (Int32.toNatClampNeg x1)) (Int32.toNatClampNeg z315.2.1))))
                    have g440 : 0 ≤ (wt_ga σ 121 (Int32.toNatClampNeg (wt_ga r295.2 (278 + (Int32.toNatClampNeg x1)) (Int32.toNatClampNeg z315.2.1)))).toInt ∧ (wt_ga σ 121 (Int32.toNatClampNeg (wt_ga r295.2 (278 + (Int32.toNatClampNeg x1)) (Int32.toNatClampNeg z315.2.1)))).toInt ≤ 400 := wt_R_ga r0 3 rfl 121 (by decide) (by decide) (Int32.toNatClampNeg (wt_ga r295.2 (278 + (Int32.toNatClampNeg x1)) (Int32.toNatClampNeg z315.2.1)))
                    refine wt_T_if (fun h441 => ?_) (fun h441 => ?_)
                    · skip
                      have c442 := wt_cle h441
                      unfold wp_md_page_B134
                      have bb443 := wt_bd z315.1
                      obtain ⟨j444, j444a, j444b⟩ := wt_addI z315.1 (0 : Int32)
                      refine hKK314 _ ⟨rfl, (wt_nn (B := wt_ga z315.2.2 276 (Int32.toNatClampNeg x1)) (by omega) (by first | (rw [l317]; omega) | (rw [l317]; done) | omega))⟩ ?_
                      show ((wt_ga r295.2 276 (Int32.toNatClampNeg x1)).toInt - (z315.2.1 + (1 : Int32)).toInt + 0).toNat < ((wt_ga z315.2.2 276 (Int32.toNatClampNeg x1)).toInt - z315.2.1.toInt + 0).toNat
                      exact wt_mu (by first | (rw [l317]; omega) | (rw [l317]; done) | omega) (by first | (rw [l317]; omega) | (rw [l317]; done) | omega)
                    · skip
                      have c445 := wt_ncle h441
                      unfold wp_md_page_B134
                      have bb446 := wt_bd z315.1
                      obtain ⟨j447, j447a, j447b⟩ := wt_addI z315.1 (1 : Int32)
                      refine hKK314 _ ⟨rfl, (wt_nn (B := wt_ga z315.2.2 276 (Int32.toNatClampNeg x1)) (by omega) (by first | (rw [l317]; omega) | (rw [l317]; done) | omega))⟩ ?_
                      show ((wt_ga r295.2 276 (Int32.toNatClampNeg x1)).toInt - (z315.2.1 + (1 : Int32)).toInt + 0).toNat < ((wt_ga z315.2.2 276 (Int32.toNatClampNeg x1)).toInt - z315.2.1.toInt + 0).toNat
                      exact wt_mu (by first | (rw [l317]; omega) | (rw [l317]; done) | omega) (by first | (rw [l317]; omega) | (rw [l317]; done) | omega)
                  · skip
                    have c448 := wt_nceq h408
                    unfold wp_md_page_B142
                    have bb455 := wt_bd z315.1
                    refine wt_T_it (fun s : Int32 × Int32 × wt_St => wt_fr (fun i k => False) (fun i => i = 290 ∨ i = 289) r295.2 s.2.2 ∧ 0 ≤ (s.2.1).toInt ∧ wt_RI s.2.2) (fun s : Int32 × Int32 × wt_St => (12 - s.2.1.toInt).toNat) (fun KK449 z450 I451 hKK449 => ?_) _ _ ?_ ?_
                    · skip
                      obtain ⟨l452, l453, l454⟩ := I451
                      unfold wp_md_page_B145
                      have bb456 := wt_bd z450.2.1
                      refine wt_T_gd (wt_ix (by omega) (by omega)) ?_
                      have bb457 := wt_bd (wt_ga z450.2.2 275 (Int32.toNatClampNeg x1))
                      have g458 : -1 ≤ (wt_ga z450.2.2 275 (Int32.toNatClampNeg x1)).toInt ∧ (wt_ga z450.2.2 275 (Int32.toNatClampNeg x1)).toInt ≤ 7 := wt_R_ga l454 12 rfl 275 (by decide) (by decide) (Int32.toNatClampNeg x1)
                      have tt459 : (wt_ga z450.2.2 275 (Int32.toNatClampNeg x1)).toInt = (wt_ga r295.2 275 (Int32.toNatClampNeg x1)).toInt := congrArg Int32.toInt (l452.2 275 (by (try dsimp only); omega) (Int32.toNatClampNeg x1))
                      have bb460 := wt_bd (wt_ga r295.2 275 (Int32.toNatClampNeg x1))
                      have g461 : -1 ≤ (wt_ga r295.2 275 (Int32.toNatClampNeg x1)).toInt ∧ (wt_ga r295.2 275 (Int32.toNatClampNeg x1)).toInt ≤ 7 := wt_R_ga ri298 12 rfl 275 (by decide) (by decide) (Int32.toNatClampNeg x1)
                      have tt462 : (wt_ga r295.2 275 (Int32.toNatClampNeg x1)).toInt = (wt_ga r19.2 275 (Int32.toNatClampNeg x1)).toInt := congrArg Int32.toInt (f297.2 275 (fun z => z) (Int32.toNatClampNeg x1))
                      have bb463 := wt_bd (wt_ga r19.2 275 (Int32.toNatClampNeg x1))
                      have g464 : -1 ≤ (wt_ga r19.2 275 (Int32.toNatClampNeg x1)).toInt ∧ (wt_ga r19.2 275 (Int32.toNatClampNeg x1)).toInt ≤ 7 := wt_R_ga ri22 12 rfl 275 (by decide) (by decide) (Int32.toNatClampNeg x1)
                      have tt465 : (wt_ga r19.2 275 (Int32.toNatClampNeg x1)).toInt = (wt_ga σ3 275 (Int32.toNatClampNeg x1)).toInt := congrArg Int32.toInt (f21.2 275 (fun z => z) (Int32.toNatClampNeg x1))
                      refine wt_T_gd (wt_ix (by omega) (by omega)) ?_
                      have bb466 := wt_tn (wt_ga z450.2.2 275 (Int32.toNatClampNeg x1))
                      have bb467 := wt_bd (wt_ga z450.2.2 253 (Int32.toNatClampNeg (wt_ga z450.2.2 275 (Int32.toNatClampNeg x1))))
                      have g468 : 0 ≤ (wt_ga z450.2.2 253 (Int32.toNatClampNeg (wt_ga z450.2.2 275 (Int32.toNatClampNeg x1)))).toInt ∧ (wt_ga z450.2.2 253 (Int32.toNatClampNeg (wt_ga z450.2.2 275 (Int32.toNatClampNeg x1)))).toInt ≤ 12 := wt_R_ga l454 9 rfl 253 (by decide) (by decide) (Int32.toNatClampNeg (wt_ga z450.2.2 275 (Int32.toNatClampNeg x1)))
                      have tt469 : (wt_ga z450.2.2 253 (Int32.toNatClampNeg (wt_ga z450.2.2 275 (Int32.toNatClampNeg x1)))).toInt = (wt_ga r295.2 253 (Int32.toNatClampNeg (wt_ga z450.2.2 275 (Int32.toNatClampNeg x1)))).toInt := congrArg Int32.toInt (l452.2 253 (by (try dsimp only); omega) (Int32.toNatClampNeg (wt_ga z450.2.2 275 (Int32.toNatClampNeg x1))))
                      have bb470 := wt_bd (wt_ga r295.2 253 (Int32.toNatClampNeg (wt_ga z450.2.2 275 (Int32.toNatClampNeg x1))))
                      have g471 : 0 ≤ (wt_ga r295.2 253 (Int32.toNatClampNeg (wt_ga z450.2.2 275 (Int32.toNatClampNeg x1)))).toInt ∧ (wt_ga r295.2 253 (Int32.toNatClampNeg (wt_ga z450.2.2 275 (Int32.toNatClampNeg x1)))).toInt ≤ 12 := wt_R_ga ri298 9 rfl 253 (by decide) (by decide) (Int32.toNatClampNeg (wt_ga z450.2.2 275 (Int32.toNatClampNeg x1)))
                      have tt472 : (wt_ga r295.2 253 (Int32.toNatClampNeg (wt_ga z450.2.2 275 (Int32.toNatClampNeg x1)))).toInt = (wt_ga r19.2 253 (Int32.toNatClampNeg (wt_ga z450.2.2 275 (Int32.toNatClampNeg x1)))).toInt := congrArg Int32.toInt (f297.2 253 (fun z => z) (Int32.toNatClampNeg (wt_ga z450.2.2 275 (Int32.toNatClampNeg x1))))
                      have bb473 := wt_bd (wt_ga r19.2 253 (Int32.toNatClampNeg (wt_ga z450.2.2 275 (Int32.toNatClampNeg x1))))
                      have g474 : 0 ≤ (wt_ga r19.2 253 (Int32.toNatClampNeg (wt_ga z450.2.2 275 (Int32.toNatClampNeg x1)))).toInt ∧ (wt_ga r19.2 253 (Int32.toNatClampNeg (wt_ga z450.2.2 275 (Int32.toNatClampNeg x1)))).toInt ≤ 12 := wt_R_ga ri22 9 rfl 253 (by decide) (by decide) (Int32.toNatClampNeg (wt_ga z450.2.2 275 (Int32.toNatClampNeg x1)))
                      have tt475 : (wt_ga r19.2 253 (Int32.toNatClampNeg (wt_ga z450.2.2 275 (Int32.toNatClampNeg x1)))).toInt = (wt_ga σ3 253 (Int32.toNatClampNeg (wt_ga z450.2.2 275 (Int32.toNatClampNeg x1)))).toInt := congrArg Int32.toInt (f21.2 253 (fun z => z) (Int32.toNatClampNeg (wt_ga z450.2.2 275 (Int32.toNatClampNeg x1))))
                      have bb476 := wt_bd (wt_ga σ3 253 (Int32.toNatClampNeg (wt_ga z450.2.2 275 (Int32.toNatClampNeg x1))))
                      have g477 : 0 ≤ (wt_ga σ3 253 (Int32.toNatClampNeg (wt_ga z450.2.2 275 (Int32.toNatClampNeg x1)))).toInt ∧ (wt_ga σ3 253 (Int32.toNatClampNeg (wt_ga z450.2.2 275 (Int32.toNatClampNeg x1)))).toInt ≤ 12 := wt_R_ga rσ3 9 rfl 253 (by decide) (by decide) (Int32.toNatClampNeg (wt_ga z450.2.2 275 (Int32.toNatClampNeg x1)))
                      have tt478 : (wt_ga σ3 253 (Int32.toNatClampNeg (wt_ga z450.2.2 275 (Int32.toNatClampNeg x1)))).toInt = (wt_ga σ 253 (Int32.toNatClampNeg (wt_ga z450.2.2 275 (Int32.toNatClampNeg x1)))).toInt := congrArg Int32.toInt (fσ3.2 253 (fun z => z) (Int32.toNatClampNeg (wt_ga z450.2.2 275 (Int32.toNatClampNeg x1))))
                      have bb479 := wt_bd (wt_ga σ 253 (Int32.toNatClampNeg (wt_ga z450.2.2 275 (Int32.toNatClampNeg x1))))
                      have g480 : 0 ≤ (wt_ga σ 253 (Int32.toNatClampNeg (wt_ga z450.2.2 275 (Int32.toNatClampNeg x1)))).toInt ∧ (wt_ga σ 253 (Int32.toNatClampNeg (wt_ga z450.2.2 275 (Int32.toNatClampNeg x1)))).toInt ≤ 12 := wt_R_ga r0 9 rfl 253 (by decide) (by decide) (Int32.toNatClampNeg (wt_ga z450.2.2 275 (Int32.toNatClampNeg x1)))
                      refine wt_T_if (fun h481 => ?_) (fun h481 => ?_)
                      · skip
                        have c482 := wt_cle h481
                        refine wt_T_some ?_
                        exact ⟨(wt_fr.tr (wt_fr.tr (wt_fr.tr (wt_fr.tr wt_fr.rf fσ3 (fun i k h => by (try dsimp only at h); exact (by omega)) (fun i h => h.elim)) f21 (fun i k h => by (try dsimp only at h); exact (by omega)) (fun i h => h.elim)) f297 (fun i k h => by (try dsimp only at h); exact (by omega)) (fun i h => h.elim)) l452 (fun i k h => h.elim) (fun i h => by (try dsimp only at h); rcases h with h | h; exact Or.inl (by omega); exact Or.inr ((by omega)))), l454⟩
                      · skip
                        have c483 := wt_ncle h481
                        refine wt_T_if (fun h484 => ?_) (fun h484 => ?_)
                        · skip
                          have c485 := wt_ceq h484
                          refine wt_T_bi (wq_md_readOf n hn x1 z450.2.1 z450.2.2 l454 (by omega) (by omega) (by omega) (by omega) (by omega) (wt_PG_fr (F := fun i k => (i = 108 ∧ k = 0)) (A := fun i => i = 290 ∨ i = 289) r0 p0 (wt_fr.tr (wt_fr.tr (wt_fr.tr (wt_fr.tr wt_fr.rf fσ3 (fun i k h => by (try dsimp only at h); exact (by omega)) (fun i h => h.elim)) f21 (fun i k h => by (try dsimp only at h); exact (by omega)) (fun i h => h.elim)) f297 (fun i k h => by (try dsimp only at h); exact (by omega)) (fun i h => h.elim)) l452 (fun i k h => h.elim) (fun i h => by (try dsimp only at h); rcases h with h | h; exact Or.inl (by omega); exact Or.inr ((by omega)))) (by (try dsimp only); first | omega | exact fun h => h) (fun i hi => by (try dsimp only); unfold wt_PA at hi; omega))) (fun r486 h487 => ?_)
                          obtain ⟨f488, ri489⟩ := h487
                          have bb490 := wt_bd r486.1
                          refine wt_T_gd (wt_ix (by omega) (by omega)) ?_
                          have bb491 := wt_bd (wt_ga r486.2 275 (Int32.toNatClampNeg x1))
                          have g492 : -1 ≤ (wt_ga r486.2 275 (Int32.toNatClampNeg x1)).toInt ∧ (wt_ga r486.2 275 (Int32.toNatClampNeg x1)).toInt ≤ 7 := wt_R_ga ri489 12 rfl 275 (by decide) (by decide) (Int32.toNatClampNeg x1)
                          have tt493 : (wt_ga r486.2 275 (Int32.toNatClampNeg x1)).toInt = (wt_ga z450.2.2 275 (Int32.toNatClampNeg x1)).toInt := congrArg Int32.toInt (f488.2 275 (by (try dsimp only); omega) (Int32.toNatClampNeg x1))
                          refine wt_T_gd (wt_ix (by omega) (by omega)) ?_
                          refine wt_T_gd (wt_ix (by omega) (by omega)) ?_
                          have bb494 := wt_tn (wt_ga r486.2 275 (Int32.toNatClampNeg x1))
                          have bb495 := wt_tn z450.2.1
                          have bb496 := wt_bd (wt_ga r486.2 (255 + (Int32.toNatClampNeg (wt_ga r486.2 275 (Int32.toNatClampNeg x1)))) (Int32.toNatClampNeg z450.2.1))
                          have g497 : 0 ≤ (wt_ga r486.2 (255 + (Int32.toNatClampNeg (wt_ga r486.2 275 (Int32.toNatClampNeg x1)))) (Int32.toNatClampNeg z450.2.1)).toInt ∧ (wt_ga r486.2 (255 + (Int32.toNatClampNeg (wt_ga r486.2 275 (Int32.toNatClampNeg x1)))) (Int32.toNatClampNeg z450.2.1)).toInt ≤ 59 := wt_R_ga ri489 10 rfl (255 + (Int32.toNatClampNeg (wt_ga r486.2 275 (Int32.toNatClampNeg x1)))) (show 255 ≤ 255 + (Int32.toNatClampNeg (wt_ga r486.2 275 (Int32.toNatClampNeg x1))) by omega) (show 255 + (Int32.toNatClampNeg (wt_ga r486.2 275 (Int32.toNatClampNeg x1))) < 263 by omega) (Int32.toNatClampNeg z450.2.1)
                          have tt498 : (wt_ga r486.2 (255 + (Int32.toNatClampNeg (wt_ga r486.2 275 (Int32.toNatClampNeg x1)))) (Int32.toNatClampNeg z450.2.1)).toInt = (wt_ga z450.2.2 (255 + (Int32.toNatClampNeg (wt_ga r486.2 275 (Int32.toNatClampNeg x1)))) (Int32.toNatClampNeg z450.2.1)).toInt := congrArg Int32.toInt (f488.2 (255 + (Int32.toNatClampNeg (wt_ga r486.2 275 (Int32.toNatClampNeg x1)))) (by (try dsimp only); omega) (Int32.toNatClampNeg z450.2.1))
                          have bb499 := wt_bd (wt_ga z450.2.2 (255 + (Int32.toNatClampNeg (wt_ga r486.2 275 (Int32.toNatClampNeg x1)))) (Int32.toNatClampNeg z450.2.1))
                          have g500 : 0 ≤ (wt_ga z450.2.2 (255 + (Int32.toNatClampNeg (wt_ga r486.2 275 (Int32.toNatClampNeg x1)))) (Int32.toNatClampNeg z450.2.1)).toInt ∧ (wt_ga z450.2.2 (255 + (Int32.toNatClampNeg (wt_ga r486.2 275 (Int32.toNatClampNeg x1)))) (Int32.toNatClampNeg z450.2.1)).toInt ≤ 59 := wt_R_ga l454 10 rfl (255 + (Int32.toNatClampNeg (wt_ga r486.2 275 (Int32.toNatClampNeg x1)))) (show 255 ≤ 255 + (Int32.toNatClampNeg (wt_ga r486.2 275 (Int32.toNatClampNeg x1))) by omega) (show 255 + (Int32.toNatClampNeg (wt_ga r486.2 275 (Int32.toNatClampNeg x1))) < 263 by omega) (Int32.toNatClampNeg z450.2.1)
                          have tt501 : (wt_ga z450.2.2 (255 + (Int32.toNatClampNeg (wt_ga r486.2 275 (Int32.toNatClampNeg x1)))) (Int32.toNatClampNeg z450.2.1)).toInt = (wt_ga r295.2 (255 + (Int32.toNatClampNeg (wt_ga r486.2 275 (Int32.toNatClampNeg x1)))) (Int32.toNatClampNeg z450.2.1)).toInt := congrArg Int32.toInt (l452.2 (255 + (Int32.toNatClampNeg (wt_ga r486.2 275 (Int32.toNatClampNeg x1)))) (by (try dsimp only); omega) (Int32.toNatClampNeg z450.2.1))
                          have bb502 := wt_bd (wt_ga r295.2 (255 + (Int32.toNatClampNeg (wt_ga r486.2 275 (Int32.toNatClampNeg x1)))) (Int32.toNatClampNeg z450.2.1))
                          have g503 : 0 ≤ (wt_ga r295.2 (255 + (Int32.toNatClampNeg (wt_ga r486.2 275 (Int32.toNatClampNeg x1)))) (Int32.toNatClampNeg z450.2.1)).toInt ∧ (wt_ga r295.2 (255 + (Int32.toNatClampNeg (wt_ga r486.2 275 (Int32.toNatClampNeg x1)))) (Int32.toNatClampNeg z450.2.1)).toInt ≤ 59 := wt_R_ga ri298 10 rfl (255 + (Int32.toNatClampNeg (wt_ga r486.2 275 (Int32.toNatClampNeg x1)))) (show 255 ≤ 255 + (Int32.toNatClampNeg (wt_ga r486.2 275 (Int32.toNatClampNeg x1))) by omega) (show 255 + (Int32.toNatClampNeg (wt_ga r486.2 275 (Int32.toNatClampNeg x1))) < 263 by omega) (Int32.toNatClampNeg z450.2.1)
                          have tt504 : (wt_ga r295.2 (255 + (Int32.toNatClampNeg (wt_ga r486.2 275 (Int32.toNatClampNeg x1)))) (Int32.toNatClampNeg z450.2.1)).toInt = (wt_ga r19.2 (255 + (Int32.toNatClampNeg (wt_ga r486.2 275 (Int32.toNatClampNeg x1)))) (Int32.toNatClampNeg z450.2.1)).toInt := congrArg Int32.toInt (f297.2 (255 + (Int32.toNatClampNeg (wt_ga r486.2 275 (Int32.toNatClampNeg x1)))) (fun z => z) (Int32.toNatClampNeg z450.2.1))
                          have bb505 := wt_bd (wt_ga r19.2 (255 + (Int32.toNatClampNeg (wt_ga r486.2 275 (Int32.toNatClampNeg x1)))) (Int32.toNatClampNeg z450.2.1))
                          have g506 : 0 ≤ (wt_ga r19.2 (255 + (Int32.toNatClampNeg (wt_ga r486.2 275 (Int32.toNatClampNeg x1)))) (Int32.toNatClampNeg z450.2.1)).toInt ∧ (wt_ga r19.2 (255 + (Int32.toNatClampNeg (wt_ga r486.2 275 (Int32.toNatClampNeg x1)))) (Int32.toNatClampNeg z450.2.1)).toInt ≤ 59 := wt_R_ga ri22 10 rfl (255 + (Int32.toNatClampNeg (wt_ga r486.2 275 (Int32.toNatClampNeg x1)))) (show 255 ≤ 255 + (Int32.toNatClampNeg (wt_ga r486.2 275 (Int32.toNatClampNeg x1))) by omega) (show 255 + (Int32.toNatClampNeg (wt_ga r486.2 275 (Int32.toNatClampNeg x1))) < 263 by omega) (Int32.toNatClampNeg z450.2.1)
                          have tt507 : (wt_ga r19.2 (255 + (Int32.toNatClampNeg (wt_ga r486.2 275 (Int32.toNatClampNeg x1)))) (Int32.toNatClampNeg z450.2.1)).toInt = (wt_ga σ3 (255 + (Int32.toNatClampNeg (wt_ga r486.2 275 (Int32.toNatClampNeg x1)))) (Int32.toNatClampNeg z450.2.1)).toInt := congrArg Int32.toInt (f21.2 (255 + (Int32.toNatClampNeg (wt_ga r486.2 275 (Int32.toNatClampNeg x1)))) (fun z => z) (Int32.toNatClampNeg z450.2.1))
                          have bb508 := wt_bd (wt_ga σ3 (255 + (Int32.toNatClampNeg (wt_ga r486.2 275 (Int32.toNatClampNeg x1)))) (Int32.toNatClampNeg z450.2.1))
                          have g509 : 0 ≤ (wt_ga σ3 (255 + (Int32.toNatClampNeg (wt_ga r486.2 275 (Int32.toNatClampNeg x1)))) (Int32.toNatClampNeg z450.2.1)).toInt ∧ (wt_ga σ3 (255 + (Int32.toNatClampNeg (wt_ga r486.2 275 (Int32.toNatClampNeg x1)))) (Int32.toNatClampNeg z450.2.1)).toInt ≤ 59 := wt_R_ga rσ3 10 rfl (255 + (Int32.toNatClampNeg (wt_ga r486.2 275 (Int32.toNatClampNeg x1)))) (show 255 ≤ 255 + (Int32.toNatClampNeg (wt_ga r486.2 275 (Int32.toNatClampNeg x1))) by omega) (show 255 + (Int32.toNatClampNeg (wt_ga r486.2 275 (Int32.toNatClampNeg x1))) < 263 by omega) (Int32.toNatClampNeg z450.2.1)
                          have tt510 : (wt_ga σ3 (255 + (Int32.toNatClampNeg (wt_ga r486.2 275 (Int32.toNatClampNeg x1)))) (Int32.toNatClampNeg z450.2.1)).toInt = (wt_ga σ (255 + (Int32.toNatClampNeg (wt_ga r486.2 275 (Int32.toNatClampNeg x1)))) (Int32.toNatClampNeg z450.2.1)).toInt := congrArg Int32.toInt (fσ3.2 (255 + (Int32.toNatClampNeg (wt_ga r486.2 275 (Int32.toNatClampNeg x1)))) (fun z => z) (Int32.toNatClampNeg z450.2.1))
                          have bb511 := wt_bd (wt_ga σ (255 + (Int32.toNatClampNeg (wt_ga r486.2 275 (Int32.toNatClampNeg x1)))) (Int32.toNatClampNeg z450.2.1))
                          have g512 : 0 ≤ (wt_ga σ (255 + (Int32.toNatClampNeg (wt_ga r486.2 275 (Int32.toNatClampNeg x1)))) (Int32.toNatClampNeg z450.2.1)).toInt ∧ (wt_ga σ (255 + (Int32.toNatClampNeg (wt_ga r486.2 275 (Int32.toNatClampNeg x1)))) (Int32.toNatClampNeg z450.2.1)).toInt ≤ 59 := wt_R_ga r0 10 rfl (255 + (Int32.toNatClampNeg (wt_ga r486.2 275 (Int32.toNatClampNeg x1)))) (show 255 ≤ 255 + (Int32.toNatClampNeg (wt_ga r486.2 275 (Int32.toNatClampNeg x1))) by omega) (show 255 + (Int32.toNatClampNeg (wt_ga r486.2 275 (Int32.toNatClampNeg x1))) < 263 by omega) (Int32.toNatClampNeg z450.2.1)
                          refine wt_T_if (fun h513 => ?_) (fun h513 => ?_)
                          · skip
                            have c514 := wt_ceq h513
                            unfold wp_md_page_B196
                            have bb515 := wt_bd z450.1
                            obtain ⟨j516, j516a, j516b⟩ := wt_addI z450.1 (0 : Int32)
                            obtain ⟨j517, j517a, j517b⟩ := wt_addI z450.2.1 (1 : Int32)
                            refine hKK449 _ ⟨(wt_fr.tr (wt_fr.tr wt_fr.rf l452 (fun i k h => h.elim) (fun i h => by (try dsimp only at h); rcases h with h | h; exact Or.inl (by omega); exact Or.inr ((by omega)))) f488 (fun i k h => h.elim) (fun i h => by (try dsimp only at h); rcases h with h | h; exact Or.inl (by omega); exact Or.inr ((by omega)))), (show 0 ≤ ((z450.2.1 + (1 : Int32))).toInt by omega), ri489⟩ ?_
                            show (12 - (z450.2.1 + (1 : Int32)).toInt).toNat < (12 - z450.2.1.toInt).toNat
                            omega
                          · skip
                            have c518 := wt_nceq h513
                            unfold wp_md_page_B196
                            have bb519 := wt_bd z450.1
                            obtain ⟨j520, j520a, j520b⟩ := wt_addI z450.1 (1 : Int32)
                            obtain ⟨j521, j521a, j521b⟩ := wt_addI z450.2.1 (1 : Int32)
                            refine hKK449 _ ⟨(wt_fr.tr (wt_fr.tr wt_fr.rf l452 (fun i k h => h.elim) (fun i h => by (try dsimp only at h); rcases h with h | h; exact Or.inl (by omega); exact Or.inr ((by omega)))) f488 (fun i k h => h.elim) (fun i h => by (try dsimp only at h); rcases h with h | h; exact Or.inl (by omega); exact Or.inr ((by omega)))), (show 0 ≤ ((z450.2.1 + (1 : Int32))).toInt by omega), ri489⟩ ?_
                            show (12 - (z450.2.1 + (1 : Int32)).toInt).toNat < (12 - z450.2.1.toInt).toNat
                            omega
                        · skip
                          have c522 := wt_nceq h484
                          refine wt_T_some ?_
                          exact ⟨(wt_fr.tr (wt_fr.tr (wt_fr.tr (wt_fr.tr wt_fr.rf fσ3 (fun i k h => by (try dsimp only at h); exact (by omega)) (fun i h => h.elim)) f21 (fun i k h => by (try dsimp only at h); exact (by omega)) (fun i h => h.elim)) f297 (fun i k h => by (try dsimp only at h); exact (by omega)) (fun i h => h.elim)) l452 (fun i k h => h.elim) (fun i h => by (try dsimp only at h); rcases h with h | h; exact Or.inl (by omega); exact Or.inr ((by omega)))), l454⟩
                    · skip
                      exact ⟨wt_fr.rf, (show 0 ≤ ((0 : Int32)).toInt by omega), ri298⟩
                    · skip
                      show (12 - (0 : Int32).toInt).toNat < n
                      omega
              · skip
                have bb523 := wt_bd (wt_ga r295.2 276 (Int32.toNatClampNeg x1))
                have g524 : 0 ≤ (wt_ga r295.2 276 (Int32.toNatClampNeg x1)).toInt ∧ (wt_ga r295.2 276 (Int32.toNatClampNeg x1)).toInt ≤ 108 := wt_R_ga ri298 13 rfl 276 (by decide) (by decide) (Int32.toNatClampNeg x1)
                have tt525 : (wt_ga r295.2 276 (Int32.toNatClampNeg x1)).toInt = (wt_ga r19.2 276 (Int32.toNatClampNeg x1)).toInt := congrArg Int32.toInt (f297.2 276 (fun z => z) (Int32.toNatClampNeg x1))
                have bb526 := wt_bd (wt_ga r19.2 276 (Int32.toNatClampNeg x1))
                have g527 : 0 ≤ (wt_ga r19.2 276 (Int32.toNatClampNeg x1)).toInt ∧ (wt_ga r19.2 276 (Int32.toNatClampNeg x1)).toInt ≤ 108 := wt_R_ga ri22 13 rfl 276 (by decide) (by decide) (Int32.toNatClampNeg x1)
                have tt528 : (wt_ga r19.2 276 (Int32.toNatClampNeg x1)).toInt = (wt_ga σ3 276 (Int32.toNatClampNeg x1)).toInt := congrArg Int32.toInt (f21.2 276 (fun z => z) (Int32.toNatClampNeg x1))
                have bb529 := wt_bd (wt_ga σ3 276 (Int32.toNatClampNeg x1))
                have g530 : 0 ≤ (wt_ga σ3 276 (Int32.toNatClampNeg x1)).toInt ∧ (wt_ga σ3 276 (Int32.toNatClampNeg x1)).toInt ≤ 108 := wt_R_ga rσ3 13 rfl 276 (by decide) (by decide) (Int32.toNatClampNeg x1)
                have tt531 : (wt_ga σ3 276 (Int32.toNatClampNeg x1)).toInt = (wt_ga σ 276 (Int32.toNatClampNeg x1)).toInt := congrArg Int32.toInt (fσ3.2 276 (fun z => z) (Int32.toNatClampNeg x1))
                have bb532 := wt_bd (wt_ga σ 276 (Int32.toNatClampNeg x1))
                have g533 : 0 ≤ (wt_ga σ 276 (Int32.toNatClampNeg x1)).toInt ∧ (wt_ga σ 276 (Int32.toNatClampNeg x1)).toInt ≤ 108 := wt_R_ga r0 13 rfl 276 (by decide) (by decide) (Int32.toNatClampNeg x1)
                exact ⟨rfl, (show 0 ≤ ((0 : Int32)).toInt by omega)⟩
              · skip
                have bb534 := wt_bd (wt_ga r295.2 276 (Int32.toNatClampNeg x1))
                have g535 : 0 ≤ (wt_ga r295.2 276 (Int32.toNatClampNeg x1)).toInt ∧ (wt_ga r295.2 276 (Int32.toNatClampNeg x1)).toInt ≤ 108 := wt_R_ga ri298 13 rfl 276 (by decide) (by decide) (Int32.toNatClampNeg x1)
                have tt536 : (wt_ga r295.2 276 (Int32.toNatClampNeg x1)).toInt = (wt_ga r19.2 276 (Int32.toNatClampNeg x1)).toInt := congrArg Int32.toInt (f297.2 276 (fun z => z) (Int32.toNatClampNeg x1))
                have bb537 := wt_bd (wt_ga r19.2 276 (Int32.toNatClampNeg x1))
                have g538 : 0 ≤ (wt_ga r19.2 276 (Int32.toNatClampNeg x1)).toInt ∧ (wt_ga r19.2 276 (Int32.toNatClampNeg x1)).toInt ≤ 108 := wt_R_ga ri22 13 rfl 276 (by decide) (by decide) (Int32.toNatClampNeg x1)
                have tt539 : (wt_ga r19.2 276 (Int32.toNatClampNeg x1)).toInt = (wt_ga σ3 276 (Int32.toNatClampNeg x1)).toInt := congrArg Int32.toInt (f21.2 276 (fun z => z) (Int32.toNatClampNeg x1))
                have bb540 := wt_bd (wt_ga σ3 276 (Int32.toNatClampNeg x1))
                have g541 : 0 ≤ (wt_ga σ3 276 (Int32.toNatClampNeg x1)).toInt ∧ (wt_ga σ3 276 (Int32.toNatClampNeg x1)).toInt ≤ 108 := wt_R_ga rσ3 13 rfl 276 (by decide) (by decide) (Int32.toNatClampNeg x1)
                have tt542 : (wt_ga σ3 276 (Int32.toNatClampNeg x1)).toInt = (wt_ga σ 276 (Int32.toNatClampNeg x1)).toInt := congrArg Int32.toInt (fσ3.2 276 (fun z => z) (Int32.toNatClampNeg x1))
                have bb543 := wt_bd (wt_ga σ 276 (Int32.toNatClampNeg x1))
                have g544 : 0 ≤ (wt_ga σ 276 (Int32.toNatClampNeg x1)).toInt ∧ (wt_ga σ 276 (Int32.toNatClampNeg x1)).toInt ≤ 108 := wt_R_ga r0 13 rfl 276 (by decide) (by decide) (Int32.toNatClampNeg x1)
                show ((wt_ga r295.2 276 (Int32.toNatClampNeg x1)).toInt - (0 : Int32).toInt + 0).toNat < n
                omega
          · skip
            have c545 := wt_ncle h304
            refine wt_T_if (fun h546 => ?_) (fun h546 => ?_)
            · skip
              have c547 := wt_ceq h546
              refine wt_T_gd (wt_ix (by omega) (by omega)) ?_
              refine wt_T_some ?_
              exact ⟨(wt_fr.tr (wt_fr.tr (wt_fr.tr wt_fr.rf fσ3 (fun i k h => by (try dsimp only at h); exact (by omega)) (fun i h => h.elim)) f21 (fun i k h => by (try dsimp only at h); exact (by omega)) (fun i h => h.elim)) f297 (fun i k h => by (try dsimp only at h); exact (by omega)) (fun i h => h.elim)), ri298⟩
            · skip
              have c548 := wt_nceq h546
              refine wt_T_gd (wt_ix (by omega) (by omega)) ?_
              refine wt_T_some ?_
              exact ⟨(wt_fr.tr (wt_fr.tr (wt_fr.tr wt_fr.rf fσ3 (fun i k h => by (try dsimp only at h); exact (by omega)) (fun i h => h.elim)) f21 (fun i k h => by (try dsimp only at h); exact (by omega)) (fun i h => h.elim)) f297 (fun i k h => by (try dsimp only at h); exact (by omega)) (fun i h => h.elim)), ri298⟩
        · skip
          have c549 := wt_nceq h302
          refine wt_T_some ?_
          exact ⟨(wt_fr.tr (wt_fr.tr (wt_fr.tr wt_fr.rf fσ3 (fun i k h => by (try dsimp only at h); exact (by omega)) (fun i h => h.elim)) f21 (fun i k h => by (try dsimp only at h); exact (by omega)) (fun i h => h.elim)) f297 (fun i k h => by (try dsimp only at h); exact (by omega)) (fun i h => h.elim)), ri298⟩
    · skip
      have c550 := wt_nceq h27
      refine wt_T_some ?_
      exact ⟨(wt_fr.tr (wt_fr.tr wt_fr.rf fσ3 (fun i k h => by (try dsimp only at h); exact (by omega)) (fun i h => h.elim)) f21 (fun i k h => by (try dsimp only at h); exact (by omega)) (fun i h => h.elim)), ri22⟩
  · skip
    have c551 := wt_nceq h16
    unfold wp_md_page_B19
    have k552 : (1 : Int32).toInt = 1 := by decide
    refine wt_T_bi (wq_md_bad n hn (0 : Int32) (1 : Int32) σ3 rσ3 (by omega)) (fun r553 h554 => ?_)
    obtain ⟨f555, ri556, pp557⟩ := h554
    have bb558 := wt_bd r553.1
    have bb559 := wt_bd (wt_gf r553.2 108 0)
    have bb560 := wt_bd (wt_gf σ3 108 0)
    refine wt_T_if (fun h561 => ?_) (fun h561 => ?_)
    · skip
      have c562 := wt_ceq h561
      have k563 : (4 : Int32).toInt = 4 := by decide
      refine wt_T_bi (wq_md_in n hn x2 (0 : Int32) (4 : Int32) r553.2 ri556) (fun r564 h565 => ?_)
      obtain ⟨e566, pp567⟩ := h565
      have bb568 := wt_bd r564.1
      rw [e566]
      refine wt_T_if (fun h569 => ?_) (fun h569 => ?_)
      · skip
        have c570 := wt_ceq h569
        unfold wp_md_page_B41
        have k571 : (2 : Int32).toInt = 2 := by decide
        refine wt_T_bi (wq_md_bad n hn (1 : Int32) (2 : Int32) r553.2 ri556 (by omega)) (fun r572 h573 => ?_)
        obtain ⟨f574, ri575, pp576⟩ := h573
        have bb577 := wt_bd r572.1
        have bb578 := wt_bd (wt_gf r572.2 108 0)
        refine wt_T_if (fun h579 => ?_) (fun h579 => ?_)
        · skip
          have c580 := wt_ceq h579
          refine wt_T_if (fun h581 => ?_) (fun h581 => ?_)
          · skip
            have c582 := wt_cle h581
            have k583 : (3 : Int32).toInt = 3 := by decide
            refine wt_T_if (fun h584 => ?_) (fun h584 => ?_)
            · skip
              have c585 := wt_ceq h584
              refine wt_T_bi (wq_md_leastOf n hn x1 r572.2 ri575 (by omega) (by omega)) (fun r586 h587 => ?_)
              have e588 := h587
              have bb589 := wt_bd r586.1
              rw [e588]
              refine wt_T_some ?_
              exact ⟨(wt_fr.tr (wt_fr.tr (wt_fr.tr wt_fr.rf fσ3 (fun i k h => by (try dsimp only at h); exact (by omega)) (fun i h => h.elim)) f555 (fun i k h => by (try dsimp only at h); exact (by omega)) (fun i h => h.elim)) f574 (fun i k h => by (try dsimp only at h); exact (by omega)) (fun i h => h.elim)), ri575⟩
            · skip
              have c590 := wt_nceq h584
              refine wt_T_it (fun s : Int32 × Int32 × wt_St => s.2.2 = r572.2 ∧ 0 ≤ (s.2.1).toInt) (fun s : Int32 × Int32 × wt_St => ((wt_ga s.2.2 276 (Int32.toNatClampNeg x1)).toInt - s.2.1.toInt + 0).toNat) (fun KK591 z592 I593 hKK591 => ?_) _ _ ?_ ?_
              · skip
                obtain ⟨l594, l595⟩ := I593
                unfold wp_md_page_B91
                rw [l594]
                have bb596 := wt_bd (wt_ga r572.2 276 (Int32.toNatClampNeg x1))
                have g597 : 0 ≤ (wt_ga r572.2 276 (Int32.toNatClampNeg x1)).toInt ∧ (wt_ga r572.2 276 (Int32.toNatClampNeg x1)).toInt ≤ 108 := wt_R_ga ri575 13 rfl 276 (by decide) (by decide) (Int32.toNatClampNeg x1)
                have tt598 : (wt_ga r572.2 276 (Int32.toNatClampNeg x1)).toInt = (wt_ga r553.2 276 (Int32.toNatClampNeg x1)).toInt := congrArg Int32.toInt (f574.2 276 (fun z => z) (Int32.toNatClampNeg x1))
                have bb599 := wt_bd (wt_ga r553.2 276 (Int32.toNatClampNeg x1))
                have g600 : 0 ≤ (wt_ga r553.2 276 (Int32.toNatClampNeg x1)).toInt ∧ (wt_ga r553.2 276 (Int32.toNatClampNeg x1)).toInt ≤ 108 := wt_R_ga ri556 13 rfl 276 (by decide) (by decide) (Int32.toNatClampNeg x1)
                have tt601 : (wt_ga r553.2 276 (Int32.toNatClampNeg x1)).toInt = (wt_ga σ3 276 (Int32.toNatClampNeg x1)).toInt := congrArg Int32.toInt (f555.2 276 (fun z => z) (Int32.toNatClampNeg x1))
                have bb602 := wt_bd (wt_ga σ3 276 (Int32.toNatClampNeg x1))
                have g603 : 0 ≤ (wt_ga σ3 276 (Int32.toNatClampNeg x1)).toInt ∧ (wt_ga σ3 276 (Int32.toNatClampNeg x1)).toInt ≤ 108 := wt_R_ga rσ3 13 rfl 276 (by decide) (by decide) (Int32.toNatClampNeg x1)
                have tt604 : (wt_ga σ3 276 (Int32.toNatClampNeg x1)).toInt = (wt_ga σ 276 (Int32.toNatClampNeg x1)).toInt := congrArg Int32.toInt (fσ3.2 276 (fun z => z) (Int32.toNatClampNeg x1))
                have bb605 := wt_bd (wt_ga σ 276 (Int32.toNatClampNeg x1))
                have g606 : 0 ≤ (wt_ga σ 276 (Int32.toNatClampNeg x1)).toInt ∧ (wt_ga σ 276 (Int32.toNatClampNeg x1)).toInt ≤ 108 := wt_R_ga r0 13 rfl 276 (by decide) (by decide) (Int32.toNatClampNeg x1)
                have bb607 := wt_bd z592.2.1
                refine wt_T_gd (wt_ix (by omega) (by omega)) ?_
                refine wt_T_if (fun h608 => ?_) (fun h608 => ?_)
                · skip
                  have c609 := wt_cle h608
                  unfold wp_md_page_B142
                  have bb616 := wt_bd z592.1
                  refine wt_T_it (fun s : Int32 × Int32 × wt_St => wt_fr (fun i k => False) (fun i => i = 290 ∨ i = 289) r572.2 s.2.2 ∧ 0 ≤ (s.2.1).toInt ∧ wt_RI s.2.2) (fun s : Int32 × Int32 × wt_St => (12 - s.2.1.toInt).toNat) (fun KK610 z611 I612 hKK610 => ?_) _ _ ?_ ?_
                  · skip
                    obtain ⟨l613, l614, l615⟩ := I612
                    unfold wp_md_page_B145
                    have bb617 := wt_bd z611.2.1
                    refine wt_T_gd (wt_ix (by omega) (by omega)) ?_
                    have bb618 := wt_bd (wt_ga z611.2.2 275 (Int32.toNatClampNeg x1))
                    have g619 : -1 ≤ (wt_ga z611.2.2 275 (Int32.toNatClampNeg x1)).toInt ∧ (wt_ga z611.2.2 275 (Int32.toNatClampNeg x1)).toInt ≤ 7 := wt_R_ga l615 12 rfl 275 (by decide) (by decide) (Int32.toNatClampNeg x1)
                    have tt620 : (wt_ga z611.2.2 275 (Int32.toNatClampNeg x1)).toInt = (wt_ga r572.2 275 (Int32.toNatClampNeg x1)).toInt := congrArg Int32.toInt (l613.2 275 (by (try dsimp only); omega) (Int32.toNatClampNeg x1))
                    have bb621 := wt_bd (wt_ga r572.2 275 (Int32.toNatClampNeg x1))
                    have g622 : -1 ≤ (wt_ga r572.2 275 (Int32.toNatClampNeg x1)).toInt ∧ (wt_ga r572.2 275 (Int32.toNatClampNeg x1)).toInt ≤ 7 := wt_R_ga ri575 12 rfl 275 (by decide) (by decide) (Int32.toNatClampNeg x1)
                    have tt623 : (wt_ga r572.2 275 (Int32.toNatClampNeg x1)).toInt = (wt_ga r553.2 275 (Int32.toNatClampNeg x1)).toInt := congrArg Int32.toInt (f574.2 275 (fun z => z) (Int32.toNatClampNeg x1))
                    have bb624 := wt_bd (wt_ga r553.2 275 (Int32.toNatClampNeg x1))
                    have g625 : -1 ≤ (wt_ga r553.2 275 (Int32.toNatClampNeg x1)).toInt ∧ (wt_ga r553.2 275 (Int32.toNatClampNeg x1)).toInt ≤ 7 := wt_R_ga ri556 12 rfl 275 (by decide) (by decide) (Int32.toNatClampNeg x1)
                    have tt626 : (wt_ga r553.2 275 (Int32.toNatClampNeg x1)).toInt = (wt_ga σ3 275 (Int32.toNatClampNeg x1)).toInt := congrArg Int32.toInt (f555.2 275 (fun z => z) (Int32.toNatClampNeg x1))
                    refine wt_T_gd (wt_ix (by omega) (by omega)) ?_
                    have bb627 := wt_tn (wt_ga z611.2.2 275 (Int32.toNatClampNeg x1))
                    have bb628 := wt_bd (wt_ga z611.2.2 253 (Int32.toNatClampNeg (wt_ga z611.2.2 275 (Int32.toNatClampNeg x1))))
                    have g629 : 0 ≤ (wt_ga z611.2.2 253 (Int32.toNatClampNeg (wt_ga z611.2.2 275 (Int32.toNatClampNeg x1)))).toInt ∧ (wt_ga z611.2.2 253 (Int32.toNatClampNeg (wt_ga z611.2.2 275 (Int32.toNatClampNeg x1)))).toInt ≤ 12 := wt_R_ga l615 9 rfl 253 (by decide) (by decide) (Int32.toNatClampNeg (wt_ga z611.2.2 275 (Int32.toNatClampNeg x1)))
                    have tt630 : (wt_ga z611.2.2 253 (Int32.toNatClampNeg (wt_ga z611.2.2 275 (Int32.toNatClampNeg x1)))).toInt = (wt_ga r572.2 253 (Int32.toNatClampNeg (wt_ga z611.2.2 275 (Int32.toNatClampNeg x1)))).toInt := congrArg Int32.toInt (l613.2 253 (by (try dsimp only); omega) (Int32.toNatClampNeg (wt_ga z611.2.2 275 (Int32.toNatClampNeg x1))))
                    have bb631 := wt_bd (wt_ga r572.2 253 (Int32.toNatClampNeg (wt_ga z611.2.2 275 (Int32.toNatClampNeg x1))))
                    have g632 : 0 ≤ (wt_ga r572.2 253 (Int32.toNatClampNeg (wt_ga z611.2.2 275 (Int32.toNatClampNeg x1)))).toInt ∧ (wt_ga r572.2 253 (Int32.toNatClampNeg (wt_ga z611.2.2 275 (Int32.toNatClampNeg x1)))).toInt ≤ 12 := wt_R_ga ri575 9 rfl 253 (by decide) (by decide) (Int32.toNatClampNeg (wt_ga z611.2.2 275 (Int32.toNatClampNeg x1)))
                    have tt633 : (wt_ga r572.2 253 (Int32.toNatClampNeg (wt_ga z611.2.2 275 (Int32.toNatClampNeg x1)))).toInt = (wt_ga r553.2 253 (Int32.toNatClampNeg (wt_ga z611.2.2 275 (Int32.toNatClampNeg x1)))).toInt := congrArg Int32.toInt (f574.2 253 (fun z => z) (Int32.toNatClampNeg (wt_ga z611.2.2 275 (Int32.toNatClampNeg x1))))
                    have bb634 := wt_bd (wt_ga r553.2 253 (Int32.toNatClampNeg (wt_ga z611.2.2 275 (Int32.toNatClampNeg x1))))
                    have g635 : 0 ≤ (wt_ga r553.2 253 (Int32.toNatClampNeg (wt_ga z611.2.2 275 (Int32.toNatClampNeg x1)))).toInt ∧ (wt_ga r553.2 253 (Int32.toNatClampNeg (wt_ga z611.2.2 275 (Int32.toNatClampNeg x1)))).toInt ≤ 12 := wt_R_ga ri556 9 rfl 253 (by decide) (by decide) (Int32.toNatClampNeg (wt_ga z611.2.2 275 (Int32.toNatClampNeg x1)))
                    have tt636 : (wt_ga r553.2 253 (Int32.toNatClampNeg (wt_ga z611.2.2 275 (Int32.toNatClampNeg x1)))).toInt = (wt_ga σ3 253 (Int32.toNatClampNeg (wt_ga z611.2.2 275 (Int32.toNatClampNeg x1)))).toInt := congrArg Int32.toInt (f555.2 253 (fun z => z) (Int32.toNatClampNeg (wt_ga z611.2.2 275 (Int32.toNatClampNeg x1))))
                    have bb637 := wt_bd (wt_ga σ3 253 (Int32.toNatClampNeg (wt_ga z611.2.2 275 (Int32.toNatClampNeg x1))))
                    have g638 : 0 ≤ (wt_ga σ3 253 (Int32.toNatClampNeg (wt_ga z611.2.2 275 (Int32.toNatClampNeg x1)))).toInt ∧ (wt_ga σ3 253 (Int32.toNatClampNeg (wt_ga z611.2.2 275 (Int32.toNatClampNeg x1)))).toInt ≤ 12 := wt_R_ga rσ3 9 rfl 253 (by decide) (by decide) (Int32.toNatClampNeg (wt_ga z611.2.2 275 (Int32.toNatClampNeg x1)))
                    have tt639 : (wt_ga σ3 253 (Int32.toNatClampNeg (wt_ga z611.2.2 275 (Int32.toNatClampNeg x1)))).toInt = (wt_ga σ 253 (Int32.toNatClampNeg (wt_ga z611.2.2 275 (Int32.toNatClampNeg x1)))).toInt := congrArg Int32.toInt (fσ3.2 253 (fun z => z) (Int32.toNatClampNeg (wt_ga z611.2.2 275 (Int32.toNatClampNeg x1))))
                    have bb640 := wt_bd (wt_ga σ 253 (Int32.toNatClampNeg (wt_ga z611.2.2 275 (Int32.toNatClampNeg x1))))
                    have g641 : 0 ≤ (wt_ga σ 253 (Int32.toNatClampNeg (wt_ga z611.2.2 275 (Int32.toNatClampNeg x1)))).toInt ∧ (wt_ga σ 253 (Int32.toNatClampNeg (wt_ga z611.2.2 275 (Int32.toNatClampNeg x1)))).toInt ≤ 12 := wt_R_ga r0 9 rfl 253 (by decide) (by decide) (Int32.toNatClampNeg (wt_ga z611.2.2 275 (Int32.toNatClampNeg x1)))
                    refine wt_T_if (fun h642 => ?_) (fun h642 => ?_)
                    · skip
                      have c643 := wt_cle h642
                      refine wt_T_some ?_
                      exact ⟨(wt_fr.tr (wt_fr.tr (wt_fr.tr (wt_fr.tr wt_fr.rf fσ3 (fun i k h => by (try dsimp only at h); exact (by omega)) (fun i h => h.elim)) f555 (fun i k h => by (try dsimp only at h); exact (by omega)) (fun i h => h.elim)) f574 (fun i k h => by (try dsimp only at h); exact (by omega)) (fun i h => h.elim)) l613 (fun i k h => h.elim) (fun i h => by (try dsimp only at h); rcases h with h | h; exact Or.inl (by omega); exact Or.inr ((by omega)))), l615⟩
                    · skip
                      have c644 := wt_ncle h642
                      refine wt_T_if (fun h645 => ?_) (fun h645 => ?_)
                      · skip
                        have c646 := wt_ceq h645
                        refine wt_T_bi (wq_md_readOf n hn x1 z611.2.1 z611.2.2 l615 (by omega) (by omega) (by omega) (by omega) (by omega) (wt_PG_fr (F := fun i k => (i = 108 ∧ k = 0)) (A := fun i => i = 290 ∨ i = 289) r0 p0 (wt_fr.tr (wt_fr.tr (wt_fr.tr (wt_fr.tr wt_fr.rf fσ3 (fun i k h => by (try dsimp only at h); exact (by omega)) (fun i h => h.elim)) f555 (fun i k h => by (try dsimp only at h); exact (by omega)) (fun i h => h.elim)) f574 (fun i k h => by (try dsimp only at h); exact (by omega)) (fun i h => h.elim)) l613 (fun i k h => h.elim) (fun i h => by (try dsimp only at h); rcases h with h | h; exact Or.inl (by omega); exact Or.inr ((by omega)))) (by (try dsimp only); first | omega | exact fun h => h) (fun i hi => by (try dsimp only); unfold wt_PA at hi; omega))) (fun r647 h648 => ?_)
                        obtain ⟨f649, ri650⟩ := h648
                        have bb651 := wt_bd r647.1
                        refine wt_T_gd (wt_ix (by omega) (by omega)) ?_
                        have bb652 := wt_bd (wt_ga r647.2 275 (Int32.toNatClampNeg x1))
                        have g653 : -1 ≤ (wt_ga r647.2 275 (Int32.toNatClampNeg x1)).toInt ∧ (wt_ga r647.2 275 (Int32.toNatClampNeg x1)).toInt ≤ 7 := wt_R_ga ri650 12 rfl 275 (by decide) (by decide) (Int32.toNatClampNeg x1)
                        have tt654 : (wt_ga r647.2 275 (Int32.toNatClampNeg x1)).toInt = (wt_ga z611.2.2 275 (Int32.toNatClampNeg x1)).toInt := congrArg Int32.toInt (f649.2 275 (by (try dsimp only); omega) (Int32.toNatClampNeg x1))
                        refine wt_T_gd (wt_ix (by omega) (by omega)) ?_
                        refine wt_T_gd (wt_ix (by omega) (by omega)) ?_
                        have bb655 := wt_tn (wt_ga r647.2 275 (Int32.toNatClampNeg x1))
                        have bb656 := wt_tn z611.2.1
                        have bb657 := wt_bd (wt_ga r647.2 (255 + (Int32.toNatClampNeg (wt_ga r647.2 275 (Int32.toNatClampNeg x1)))) (Int32.toNatClampNeg z611.2.1))
                        have g658 : 0 ≤ (wt_ga r647.2 (255 + (Int32.toNatClampNeg (wt_ga r647.2 275 (Int32.toNatClampNeg x1)))) (Int32.toNatClampNeg z611.2.1)).toInt ∧ (wt_ga r647.2 (255 + (Int32.toNatClampNeg (wt_ga r647.2 275 (Int32.toNatClampNeg x1)))) (Int32.toNatClampNeg z611.2.1)).toInt ≤ 59 := wt_R_ga ri650 10 rfl (255 + (Int32.toNatClampNeg (wt_ga r647.2 275 (Int32.toNatClampNeg x1)))) (show 255 ≤ 255 + (Int32.toNatClampNeg (wt_ga r647.2 275 (Int32.toNatClampNeg x1))) by omega) (show 255 + (Int32.toNatClampNeg (wt_ga r647.2 275 (Int32.toNatClampNeg x1))) < 263 by omega) (Int32.toNatClampNeg z611.2.1)
                        have tt659 : (wt_ga r647.2 (255 + (Int32.toNatClampNeg (wt_ga r647.2 275 (Int32.toNatClampNeg x1)))) (Int32.toNatClampNeg z611.2.1)).toInt = (wt_ga z611.2.2 (255 + (Int32.toNatClampNeg (wt_ga r647.2 275 (Int32.toNatClampNeg x1)))) (Int32.toNatClampNeg z611.2.1)).toInt := congrArg Int32.toInt (f649.2 (255 + (Int32.toNatClampNeg (wt_ga r647.2 275 (Int32.toNatClampNeg x1)))) (by (try dsimp only); omega) (Int32.toNatClampNeg z611.2.1))
                        have bb660 := wt_bd (wt_ga z611.2.2 (255 + (Int32.toNatClampNeg (wt_ga r647.2 275 (Int32.toNatClampNeg x1)))) (Int32.toNatClampNeg z611.2.1))
                        have g661 : 0 ≤ (wt_ga z611.2.2 (255 + (Int32.toNatClampNeg (wt_ga r647.2 275 (Int32.toNatClampNeg x1)))) (Int32.toNatClampNeg z611.2.1)).toInt ∧ (wt_ga z611.2.2 (255 + (Int32.toNatClampNeg (wt_ga r647.2 275 (Int32.toNatClampNeg x1)))) (Int32.toNatClampNeg z611.2.1)).toInt ≤ 59 := wt_R_ga l615 10 rfl (255 + (Int32.toNatClampNeg (wt_ga r647.2 275 (Int32.toNatClampNeg x1)))) (show 255 ≤ 255 + (Int32.toNatClampNeg (wt_ga r647.2 275 (Int32.toNatClampNeg x1))) by omega) (show 255 + (Int32.toNatClampNeg (wt_ga r647.2 275 (Int32.toNatClampNeg x1))) < 263 by omega) (Int32.toNatClampNeg z611.2.1)
                        have tt662 : (wt_ga z611.2.2 (255 + (Int32.toNatClampNeg (wt_ga r647.2 275 (Int32.toNatClampNeg x1)))) (Int32.toNatClampNeg z611.2.1)).toInt = (wt_ga r572.2 (255 + (Int32.toNatClampNeg (wt_ga r647.2 275 (Int32.toNatClampNeg x1)))) (Int32.toNatClampNeg z611.2.1)).toInt := congrArg Int32.toInt (l613.2 (255 + (Int32.toNatClampNeg (wt_ga r647.2 275 (Int32.toNatClampNeg x1)))) (by (try dsimp only); omega) (Int32.toNatClampNeg z611.2.1))
                        have bb663 := wt_bd (wt_ga r572.2 (255 + (Int32.toNatClampNeg (wt_ga r647.2 275 (Int32.toNatClampNeg x1)))) (Int32.toNatClampNeg z611.2.1))
                        have g664 : 0 ≤ (wt_ga r572.2 (255 + (Int32.toNatClampNeg (wt_ga r647.2 275 (Int32.toNatClampNeg x1)))) (Int32.toNatClampNeg z611.2.1)).toInt ∧ (wt_ga r572.2 (255 + (Int32.toNatClampNeg (wt_ga r647.2 275 (Int32.toNatClampNeg x1)))) (Int32.toNatClampNeg z611.2.1)).toInt ≤ 59 := wt_R_ga ri575 10 rfl (255 + (Int32.toNatClampNeg (wt_ga r647.2 275 (Int32.toNatClampNeg x1)))) (show 255 ≤ 255 + (Int32.toNatClampNeg (wt_ga r647.2 275 (Int32.toNatClampNeg x1))) by omega) (show 255 + (Int32.toNatClampNeg (wt_ga r647.2 275 (Int32.toNatClampNeg x1))) < 263 by omega) (Int32.toNatClampNeg z611.2.1)
                        have tt665 : (wt_ga r572.2 (255 + (Int32.toNatClampNeg (wt_ga r647.2 275 (Int32.toNatClampNeg x1)))) (Int32.toNatClampNeg z611.2.1)).toInt = (wt_ga r553.2 (255 + (Int32.toNatClampNeg (wt_ga r647.2 275 (Int32.toNatClampNeg x1)))) (Int32.toNatClampNeg z611.2.1)).toInt := congrArg Int32.toInt (f574.2 (255 + (Int32.toNatClampNeg (wt_ga r647.2 275 (Int32.toNatClampNeg x1)))) (fun z => z) (Int32.toNatClampNeg z611.2.1))
                        have bb666 := wt_bd (wt_ga r553.2 (255 + (Int32.toNatClampNeg (wt_ga r647.2 275 (Int32.toNatClampNeg x1)))) (Int32.toNatClampNeg z611.2.1))
                        have g667 : 0 ≤ (wt_ga r553.2 (255 + (Int32.toNatClampNeg (wt_ga r647.2 275 (Int32.toNatClampNeg x1)))) (Int32.toNatClampNeg z611.2.1)).toInt ∧ (wt_ga r553.2 (255 + (Int32.toNatClampNeg (wt_ga r647.2 275 (Int32.toNatClampNeg x1)))) (Int32.toNatClampNeg z611.2.1)).toInt ≤ 59 := wt_R_ga ri556 10 rfl (255 + (Int32.toNatClampNeg (wt_ga r647.2 275 (Int32.toNatClampNeg x1)))) (show 255 ≤ 255 + (Int32.toNatClampNeg (wt_ga r647.2 275 (Int32.toNatClampNeg x1))) by omega) (show 255 + (Int32.toNatClampNeg (wt_ga r647.2 275 (Int32.toNatClampNeg x1))) < 263 by omega) (Int32.toNatClampNeg z611.2.1)
                        have tt668 : (wt_ga r553.2 (255 + (Int32.toNatClampNeg (wt_ga r647.2 275 (Int32.toNatClampNeg x1)))) (Int32.toNatClampNeg z611.2.1)).toInt = (wt_ga σ3 (255 + (Int32.toNatClampNeg (wt_ga r647.2 275 (Int32.toNatClampNeg x1)))) (Int32.toNatClampNeg z611.2.1)).toInt := congrArg Int32.toInt (f555.2 (255 + (Int32.toNatClampNeg (wt_ga r647.2 275 (Int32.toNatClampNeg x1)))) (fun z => z) (Int32.toNatClampNeg z611.2.1))
                        have bb669 := wt_bd (wt_ga σ3 (255 + (Int32.toNatClampNeg (wt_ga r647.2 275 (Int32.toNatClampNeg x1)))) (Int32.toNatClampNeg z611.2.1))
                        have g670 : 0 ≤ (wt_ga σ3 (255 + (Int32.toNatClampNeg (wt_ga r647.2 275 (Int32.toNatClampNeg x1)))) (Int32.toNatClampNeg z611.2.1)).toInt ∧ (wt_ga σ3 (255 + (Int32.toNatClampNeg (wt_ga r647.2 275 (Int32.toNatClampNeg x1)))) (Int32.toNatClampNeg z611.2.1)).toInt ≤ 59 := wt_R_ga rσ3 10 rfl (255 + (Int32.toNatClampNeg (wt_ga r647.2 275 (Int32.toNatClampNeg x1)))) (show 255 ≤ 255 + (Int32.toNatClampNeg (wt_ga r647.2 275 (Int32.toNatClampNeg x1))) by omega) (show 255 + (Int32.toNatClampNeg (wt_ga r647.2 275 (Int32.toNatClampNeg x1))) < 263 by omega) (Int32.toNatClampNeg z611.2.1)
                        have tt671 : (wt_ga σ3 (255 + (Int32.toNatClampNeg (wt_ga r647.2 275 (Int32.toNatClampNeg x1)))) (Int32.toNatClampNeg z611.2.1)).toInt = (wt_ga σ (255 + (Int32.toNatClampNeg (wt_ga r647.2 275 (Int32.toNatClampNeg x1)))) (Int32.toNatClampNeg z611.2.1)).toInt := congrArg Int32.toInt (fσ3.2 (255 + (Int32.toNatClampNeg (wt_ga r647.2 275 (Int32.toNatClampNeg x1)))) (fun z => z) (Int32.toNatClampNeg z611.2.1))
                        have bb672 := wt_bd (wt_ga σ (255 + (Int32.toNatClampNeg (wt_ga r647.2 275 (Int32.toNatClampNeg x1)))) (Int32.toNatClampNeg z611.2.1))
                        have g673 : 0 ≤ (wt_ga σ (255 + (Int32.toNatClampNeg (wt_ga r647.2 275 (Int32.toNatClampNeg x1)))) (Int32.toNatClampNeg z611.2.1)).toInt ∧ (wt_ga σ (255 + (Int32.toNatClampNeg (wt_ga r647.2 275 (Int32.toNatClampNeg x1)))) (Int32.toNatClampNeg z611.2.1)).toInt ≤ 59 := wt_R_ga r0 10 rfl (255 + (Int32.toNatClampNeg (wt_ga r647.2 275 (Int32.toNatClampNeg x1)))) (show 255 ≤ 255 + (Int32.toNatClampNeg (wt_ga r647.2 275 (Int32.toNatClampNeg x1))) by omega) (show 255 + (Int32.toNatClampNeg (wt_ga r647.2 275 (Int32.toNatClampNeg x1))) < 263 by omega) (Int32.toNatClampNeg z611.2.1)
                        refine wt_T_if (fun h674 => ?_) (fun h674 => ?_)
                        · skip
                          have c675 := wt_ceq h674
                          unfold wp_md_page_B196
                          have bb676 := wt_bd z611.1
                          obtain ⟨j677, j677a, j677b⟩ := wt_addI z611.1 (0 : Int32)
                          obtain ⟨j678, j678a, j678b⟩ := wt_addI z611.2.1 (1 : Int32)
                          refine hKK610 _ ⟨(wt_fr.tr (wt_fr.tr wt_fr.rf l613 (fun i k h => h.elim) (fun i h => by (try dsimp only at h); rcases h with h | h; exact Or.inl (by omega); exact Or.inr ((by omega)))) f649 (fun i k h => h.elim) (fun i h => by (try dsimp only at h); rcases h with h | h; exact Or.inl (by omega); exact Or.inr ((by omega)))), (show 0 ≤ ((z611.2.1 + (1 : Int32))).toInt by omega), ri650⟩ ?_
                          show (12 - (z611.2.1 + (1 : Int32)).toInt).toNat < (12 - z611.2.1.toInt).toNat
                          omega
                        · skip
                          have c679 := wt_nceq h674
                          unfold wp_md_page_B196
                          have bb680 := wt_bd z611.1
                          obtain ⟨j681, j681a, j681b⟩ := wt_addI z611.1 (1 : Int32)
                          obtain ⟨j682, j682a, j682b⟩ := wt_addI z611.2.1 (1 : Int32)
                          refine hKK610 _ ⟨(wt_fr.tr (wt_fr.tr wt_fr.rf l613 (fun i k h => h.elim) (fun i h => by (try dsimp only at h); rcases h with h | h; exact Or.inl (by omega); exact Or.inr ((by omega)))) f649 (fun i k h => h.elim) (fun i h => by (try dsimp only at h); rcases h with h | h; exact Or.inl (by omega); exact Or.inr ((by omega)))), (show 0 ≤ ((z611.2.1 + (1 : Int32))).toInt by omega), ri650⟩ ?_
                          show (12 - (z611.2.1 + (1 : Int32)).toInt).toNat < (12 - z611.2.1.toInt).toNat
                          omega
                      · skip
                        have c683 := wt_nceq h645
                        refine wt_T_some ?_
                        exact ⟨(wt_fr.tr (wt_fr.tr (wt_fr.tr (wt_fr.tr wt_fr.rf fσ3 (fun i k h => by (try dsimp only at h); exact (by omega)) (fun i h => h.elim)) f555 (fun i k h => by (try dsimp only at h); exact (by omega)) (fun i h => h.elim)) f574 (fun i k h => by (try dsimp only at h); exact (by omega)) (fun i h => h.elim)) l613 (fun i k h => h.elim) (fun i h => by (try dsimp only at h); rcases h with h | h; exact Or.inl (by omega); exact Or.inr ((by omega)))), l615⟩
                  · skip
                    exact ⟨wt_fr.rf, (show 0 ≤ ((0 : Int32)).toInt by omega), ri575⟩
                  · skip
                    show (12 - (0 : Int32).toInt).toNat < n
                    omega
                · skip
                  have c684 := wt_ncle h608
                  refine wt_T_if (fun h685 => ?_) (fun h685 => ?_)
                  · skip
                    have c686 := wt_ceq h685
                    refine wt_T_gd (wt_ix (by omega) (by omega)) ?_
                    refine wt_T_gd (wt_ix (by omega) (by omega)) ?_
                    have bb687 := wt_tn z592.2.1
                    have bb688 := wt_bd (wt_ga r572.2 (278 + (Int32.toNatClampNeg x1)) (Int32.toNatClampNeg z592.2.1))
                    have g689 : 0 ≤ (wt_ga r572.2 (278 + (Int32.toNatClampNeg x1)) (Int32.toNatClampNeg z592.2.1)).toInt ∧ (wt_ga r572.2 (278 + (Int32.toNatClampNeg x1)) (Int32.toNatClampNeg z592.2.1)).toInt ≤ 337 := wt_R_ga ri575 14 rfl (278 + (Int32.toNatClampNeg x1)) (show 278 ≤ 278 + (Int32.toNatClampNeg x1) by omega) (show 278 + (Int32.toNatClampNeg x1) < 282 by omega) (Int32.toNatClampNeg z592.2.1)
                    have tt690 : (wt_ga r572.2 (278 + (Int32.toNatClampNeg x1)) (Int32.toNatClampNeg z592.2.1)).toInt = (wt_ga r553.2 (278 + (Int32.toNatClampNeg x1)) (Int32.toNatClampNeg z592.2.1)).toInt := congrArg Int32.toInt (f574.2 (278 + (Int32.toNatClampNeg x1)) (fun z => z) (Int32.toNatClampNeg z592.2.1))
                    have bb691 := wt_bd (wt_ga r553.2 (278 + (Int32.toNatClampNeg x1)) (Int32.toNatClampNeg z592.2.1))
                    have g692 : 0 ≤ (wt_ga r553.2 (278 + (Int32.toNatClampNeg x1)) (Int32.toNatClampNeg z592.2.1)).toInt ∧ (wt_ga r553.2 (278 + (Int32.toNatClampNeg x1)) (Int32.toNatClampNeg z592.2.1)).toInt ≤ 337 := wt_R_ga ri556 14 rfl (278 + (Int32.toNatClampNeg x1)) (show 278 ≤ 278 + (Int32.toNatClampNeg x1) by omega) (show 278 + (Int32.toNatClampNeg x1) < 282 by omega) (Int32.toNatClampNeg z592.2.1)
                    have tt693 : (wt_ga r553.2 (278 + (Int32.toNatClampNeg x1)) (Int32.toNatClampNeg z592.2.1)).toInt = (wt_ga σ3 (278 + (Int32.toNatClampNeg x1)) (Int32.toNatClampNeg z592.2.1)).toInt := congrArg Int32.toInt (f555.2 (278 + (Int32.toNatClampNeg x1)) (fun z => z) (Int32.toNatClampNeg z592.2.1))
                    have bb694 := wt_bd (wt_ga σ3 (278 + (Int32.toNatClampNeg x1)) (Int32.toNatClampNeg z592.2.1))
                    have g695 : 0 ≤ (wt_ga σ3 (278 + (Int32.toNatClampNeg x1)) (Int32.toNatClampNeg z592.2.1)).toInt ∧ (wt_ga σ3 (278 + (Int32.toNatClampNeg x1)) (Int32.toNatClampNeg z592.2.1)).toInt ≤ 337 := wt_R_ga rσ3 14 rfl (278 + (Int32.toNatClampNeg x1)) (show 278 ≤ 278 + (Int32.toNatClampNeg x1) by omega) (show 278 + (Int32.toNatClampNeg x1) < 282 by omega) (Int32.toNatClampNeg z592.2.1)
                    have tt696 : (wt_ga σ3 (278 + (Int32.toNatClampNeg x1)) (Int32.toNatClampNeg z592.2.1)).toInt = (wt_ga σ (278 + (Int32.toNatClampNeg x1)) (Int32.toNatClampNeg z592.2.1)).toInt := congrArg Int32.toInt (fσ3.2 (278 + (Int32.toNatClampNeg x1)) (fun z => z) (Int32.toNatClampNeg z592.2.1))
                    have bb697 := wt_bd (wt_ga σ (278 + (Int32.toNatClampNeg x1)) (Int32.toNatClampNeg z592.2.1))
                    have g698 : 0 ≤ (wt_ga σ (278 + (Int32.toNatClampNeg x1)) (Int32.toNatClampNeg z592.2.1)).toInt ∧ (wt_ga σ (278 + (Int32.toNatClampNeg x1)) (Int32.toNatClampNeg z592.2.1)).toInt ≤ 337 := wt_R_ga r0 14 rfl (278 + (Int32.toNatClampNeg x1)) (show 278 ≤ 278 + (Int32.toNatClampNeg x1) by omega) (show 278 + (Int32.toNatClampNeg x1) < 282 by omega) (Int32.toNatClampNeg z592.2.1)
                    refine wt_T_gd (wt_ix (by omega) (by omega)) ?_
                    have bb699 := wt_bd (wt_gf r572.2 108 25)
                    have tt700 : (wt_gf r572.2 108 25).toInt = (wt_gf r553.2 108 25).toInt := congrArg Int32.toInt (f574.1 108 25 (by (try dsimp only); omega))
                    have bb701 := wt_bd (wt_gf r553.2 108 25)
                    have tt702 : (wt_gf r553.2 108 25).toInt = (wt_gf σ3 108 25).toInt := congrArg Int32.toInt (f555.1 108 25 (by (try dsimp only); omega))
                    have bb703 := wt_bd (wt_gf σ3 108 25)
                    have tt704 : (wt_gf σ3 108 25).toInt = (wt_gf σ 108 25).toInt := congrArg Int32.toInt (fσ3.1 108 25 (by (try dsimp only); omega))
                    have bb705 := wt_bd (wt_gf σ 108 25)
                    have bb706 := wt_tn (wt_ga r572.2 (278 + (Int32.toNatClampNeg x1)) (Int32.toNatClampNeg z592.2.1))
                    have bb707 := wt_bd (wt_ga r572.2 121 (Int32.toNatClampNeg (wt_ga r572.2 (278 + (Int32.toNatClampNeg x1)) (Int32.toNatClampNeg z592.2.1))))
                    have g708 : 0 ≤ (wt_ga r572.2 121 (Int32.toNatClampNeg (wt_ga r572.2 (278 + (Int32.toNatClampNeg x1)) (Int32.toNatClampNeg z592.2.1)))).toInt ∧ (wt_ga r572.2 121 (Int32.toNatClampNeg (wt_ga r572.2 (278 + (Int32.toNatClampNeg x1)) (Int32.toNatClampNeg z592.2.1)))).toInt ≤ 400 := wt_R_ga ri575 3 rfl 121 (by decide) (by decide) (Int32.toNatClampNeg (wt_ga r572.2 (278 + (Int32.toNatClampNeg x1)) (Int32.toNatClampNeg z592.2.1)))
                    have tt709 : (wt_ga r572.2 121 (Int32.toNatClampNeg (wt_ga r572.2 (278 + (Int32.toNatClampNeg x1)) (Int32.toNatClampNeg z592.2.1)))).toInt = (wt_ga r553.2 121 (Int32.toNatClampNeg (wt_ga r572.2 (278 + (Int32.toNatClampNeg x1)) (Int32.toNatClampNeg z592.2.1)))).toInt := congrArg Int32.toInt (f574.2 121 (fun z => z) (Int32.toNatClampNeg (wt_ga r572.2 (278 + (Int32.toNatClampNeg x1)) (Int32.toNatClampNeg z592.2.1))))
                    have bb710 := wt_bd (wt_ga r553.2 121 (Int32.toNatClampNeg (wt_ga r572.2 (278 + (Int32.toNatClampNeg x1)) (Int32.toNatClampNeg z592.2.1))))
                    have g711 : 0 ≤ (wt_ga r553.2 121 (Int32.toNatClampNeg (wt_ga r572.2 (278 + (Int32.toNatClampNeg x1)) (Int32.toNatClampNeg z592.2.1)))).toInt ∧ (wt_ga r553.2 121 (Int32.toNatClampNeg (wt_ga r572.2 (278 + (Int32.toNatClampNeg x1)) (Int32.toNatClampNeg z592.2.1)))).toInt ≤ 400 := wt_R_ga ri556 3 rfl 121 (by decide) (by decide) (Int32.toNatClampNeg (wt_ga r572.2 (278 + (Int32.toNatClampNeg x1)) (Int32.toNatClampNeg z592.2.1)))
                    have tt712 : (wt_ga r553.2 121 (Int32.toNatClampNeg (wt_ga r572.2 (278 + (Int32.toNatClampNeg x1)) (Int32.toNatClampNeg z592.2.1)))).toInt = (wt_ga σ3 121 (Int32.toNatClampNeg (wt_ga r572.2 (278 + (Int32.toNatClampNeg x1)) (Int32.toNatClampNeg z592.2.1)))).toInt := congrArg Int32.toInt (f555.2 121 (fun z => z) (Int32.toNatClampNeg (wt_ga r572.2 (278 + (Int32.toNatClampNeg x1)) (Int32.toNatClampNeg z592.2.1))))
                    have bb713 := wt_bd (wt_ga σ3 121 (Int32.toNatClampNeg (wt_ga r572.2 (278 + (Int32.toNatClampNeg x1)) (Int32.toNatClampNeg z592.2.1))))
                    have g714 : 0 ≤ (wt_ga σ3 121 (Int32.toNatClampNeg (wt_ga r572.2 (278 + (Int32.toNatClampNeg x1)) (Int32.toNatClampNeg z592.2.1)))).toInt ∧ (wt_ga σ3 121 (Int32.toNatClampNeg (wt_ga r572.2 (278 + (Int32.toNatClampNeg x1)) (Int32.toNatClampNeg z592.2.1)))).toInt ≤ 400 := wt_R_ga rσ3 3 rfl 121 (by decide) (by decide) (Int32.toNatClampNeg (wt_ga r572.2 (278 + (Int32.toNatClampNeg x1)) (Int32.toNatClampNeg z592.2.1)))
                    have tt715 : (wt_ga σ3 121 (Int32.toNatClampNeg (wt_ga r572.2 (278 + (Int32.toNatClampNeg x1)) (Int32.toNatClampNeg z592.2.1)))).toInt = (wt_ga σ 121 (Int32.toNatClampNeg (wt_ga r572.2 (278 + (Int32.toNatClampNeg x1)) (Int32.toNatClampNeg z592.2.1)))).toInt := congrArg Int32.toInt (fσ3.2 121 (fun z => z) (Int32.toNatClampNeg (wt_ga r572.2 (278 + (Int32.toNatClampNeg x1)) (Int32.toNatClampNeg z592.2.1))))
                    have bb716 := wt_bd (wt_ga σ 121 (Int32.toNatClampNeg (wt_ga r572.2 (278 + (Int32.toNatClampNeg x1)) (Int32.toNatClampNeg z592.2.1))))
                    have g717 : 0 ≤ (wt_ga σ 121 (Int32.toNatClampNeg (wt_ga r572.2 (278 + (Int32.toNatClampNeg x1)) (Int32.toNatClampNeg z592.2.1)))).toInt ∧ (wt_ga σ 121 (Int32.toNatClampNeg (wt_ga r572.2 (278 + (Int32.toNatClampNeg x1)) (Int32.toNatClampNeg z592.2.1)))).toInt ≤ 400 := wt_R_ga r0 3 rfl 121 (by decide) (by decide) (Int32.toNatClampNeg (wt_ga r572.2 (278 + (Int32.toNatClampNeg x1)) (Int32.toNatClampNeg z592.2.1)))
                    refine wt_T_if (fun h718 => ?_) (fun h718 => ?_)
                    · skip
                      have c719 := wt_cle h718
                      unfold wp_md_page_B134
                      have bb720 := wt_bd z592.1
                      obtain ⟨j721, j721a, j721b⟩ := wt_addI z592.1 (0 : Int32)
                      refine hKK591 _ ⟨rfl, (wt_nn (B := wt_ga z592.2.2 276 (Int32.toNatClampNeg x1)) (by omega) (by first | (rw [l594]; omega) | (rw [l594]; done) | omega))⟩ ?_
                      show ((wt_ga r572.2 276 (Int32.toNatClampNeg x1)).toInt - (z592.2.1 + (1 : Int32)).toInt + 0).toNat < ((wt_ga z592.2.2 276 (Int32.toNatClampNeg x1)).toInt - z592.2.1.toInt + 0).toNat
                      exact wt_mu (by first | (rw [l594]; omega) | (rw [l594]; done) | omega) (by first | (rw [l594]; omega) | (rw [l594]; done) | omega)
                    · skip
                      have c722 := wt_ncle h718
                      unfold wp_md_page_B134
                      have bb723 := wt_bd z592.1
                      obtain ⟨j724, j724a, j724b⟩ := wt_addI z592.1 (1 : Int32)
                      refine hKK591 _ ⟨rfl, (wt_nn (B := wt_ga z592.2.2 276 (Int32.toNatClampNeg x1)) (by omega) (by first | (rw [l594]; omega) | (rw [l594]; done) | omega))⟩ ?_
                      show ((wt_ga r572.2 276 (Int32.toNatClampNeg x1)).toInt - (z592.2.1 + (1 : Int32)).toInt + 0).toNat < ((wt_ga z592.2.2 276 (Int32.toNatClampNeg x1)).toInt - z592.2.1.toInt + 0).toNat
                      exact wt_mu (by first | (rw [l594]; omega) | (rw [l594]; done) | omega) (by first | (rw [l594]; omega) | (rw [l594]; done) | omega)
                  · skip
                    have c725 := wt_nceq h685
                    unfold wp_md_page_B142
                    have bb732 := wt_bd z592.1
                    refine wt_T_it (fun s : Int32 × Int32 × wt_St => wt_fr (fun i k => False) (fun i => i = 290 ∨ i = 289) r572.2 s.2.2 ∧ 0 ≤ (s.2.1).toInt ∧ wt_RI s.2.2) (fun s : Int32 × Int32 × wt_St => (12 - s.2.1.toInt).toNat) (fun KK726 z727 I728 hKK726 => ?_) _ _ ?_ ?_
                    · skip
                      obtain ⟨l729, l730, l731⟩ := I728
                      unfold wp_md_page_B145
                      have bb733 := wt_bd z727.2.1
                      refine wt_T_gd (wt_ix (by omega) (by omega)) ?_
                      have bb734 := wt_bd (wt_ga z727.2.2 275 (Int32.toNatClampNeg x1))
                      have g735 : -1 ≤ (wt_ga z727.2.2 275 (Int32.toNatClampNeg x1)).toInt ∧ (wt_ga z727.2.2 275 (Int32.toNatClampNeg x1)).toInt ≤ 7 := wt_R_ga l731 12 rfl 275 (by decide) (by decide) (Int32.toNatClampNeg x1)
                      have tt736 : (wt_ga z727.2.2 275 (Int32.toNatClampNeg x1)).toInt = (wt_ga r572.2 275 (Int32.toNatClampNeg x1)).toInt := congrArg Int32.toInt (l729.2 275 (by (try dsimp only); omega) (Int32.toNatClampNeg x1))
                      have bb737 := wt_bd (wt_ga r572.2 275 (Int32.toNatClampNeg x1))
                      have g738 : -1 ≤ (wt_ga r572.2 275 (Int32.toNatClampNeg x1)).toInt ∧ (wt_ga r572.2 275 (Int32.toNatClampNeg x1)).toInt ≤ 7 := wt_R_ga ri575 12 rfl 275 (by decide) (by decide) (Int32.toNatClampNeg x1)
                      have tt739 : (wt_ga r572.2 275 (Int32.toNatClampNeg x1)).toInt = (wt_ga r553.2 275 (Int32.toNatClampNeg x1)).toInt := congrArg Int32.toInt (f574.2 275 (fun z => z) (Int32.toNatClampNeg x1))
                      have bb740 := wt_bd (wt_ga r553.2 275 (Int32.toNatClampNeg x1))
                      have g741 : -1 ≤ (wt_ga r553.2 275 (Int32.toNatClampNeg x1)).toInt ∧ (wt_ga r553.2 275 (Int32.toNatClampNeg x1)).toInt ≤ 7 := wt_R_ga ri556 12 rfl 275 (by decide) (by decide) (Int32.toNatClampNeg x1)
                      have tt742 : (wt_ga r553.2 275 (Int32.toNatClampNeg x1)).toInt = (wt_ga σ3 275 (Int32.toNatClampNeg x1)).toInt := congrArg Int32.toInt (f555.2 275 (fun z => z) (Int32.toNatClampNeg x1))
                      refine wt_T_gd (wt_ix (by omega) (by omega)) ?_
                      have bb743 := wt_tn (wt_ga z727.2.2 275 (Int32.toNatClampNeg x1))
                      have bb744 := wt_bd (wt_ga z727.2.2 253 (Int32.toNatClampNeg (wt_ga z727.2.2 275 (Int32.toNatClampNeg x1))))
                      have g745 : 0 ≤ (wt_ga z727.2.2 253 (Int32.toNatClampNeg (wt_ga z727.2.2 275 (Int32.toNatClampNeg x1)))).toInt ∧ (wt_ga z727.2.2 253 (Int32.toNatClampNeg (wt_ga z727.2.2 275 (Int32.toNatClampNeg x1)))).toInt ≤ 12 := wt_R_ga l731 9 rfl 253 (by decide) (by decide) (Int32.toNatClampNeg (wt_ga z727.2.2 275 (Int32.toNatClampNeg x1)))
                      have tt746 : (wt_ga z727.2.2 253 (Int32.toNatClampNeg (wt_ga z727.2.2 275 (Int32.toNatClampNeg x1)))).toInt = (wt_ga r572.2 253 (Int32.toNatClampNeg (wt_ga z727.2.2 275 (Int32.toNatClampNeg x1)))).toInt := congrArg Int32.toInt (l729.2 253 (by (try dsimp only); omega) (Int32.toNatClampNeg (wt_ga z727.2.2 275 (Int32.toNatClampNeg x1))))
                      have bb747 := wt_bd (wt_ga r572.2 253 (Int32.toNatClampNeg (wt_ga z727.2.2 275 (Int32.toNatClampNeg x1))))
                      have g748 : 0 ≤ (wt_ga r572.2 253 (Int32.toNatClampNeg (wt_ga z727.2.2 275 (Int32.toNatClampNeg x1)))).toInt ∧ (wt_ga r572.2 253 (Int32.toNatClampNeg (wt_ga z727.2.2 275 (Int32.toNatClampNeg x1)))).toInt ≤ 12 := wt_R_ga ri575 9 rfl 253 (by decide) (by decide) (Int32.toNatClampNeg (wt_ga z727.2.2 275 (Int32.toNatClampNeg x1)))
                      have tt749 : (wt_ga r572.2 253 (Int32.toNatClampNeg (wt_ga z727.2.2 275 (Int32.toNatClampNeg x1)))).toInt = (wt_ga r553.2 253 (Int32.toNatClampNeg (wt_ga z727.2.2 275 (Int32.toNatClampNeg x1)))).toInt := congrArg Int32.toInt (f574.2 253 (fun z => z) (Int32.toNatClampNeg (wt_ga z727.2.2 275 (Int32.toNatClampNeg x1))))
                      have bb750 := wt_bd (wt_ga r553.2 253 (Int32.toNatClampNeg (wt_ga z727.2.2 275 (Int32.toNatClampNeg x1))))
                      have g751 : 0 ≤ (wt_ga r553.2 253 (Int32.toNatClampNeg (wt_ga z727.2.2 275 (Int32.toNatClampNeg x1)))).toInt ∧ (wt_ga r553.2 253 (Int32.toNatClampNeg (wt_ga z727.2.2 275 (Int32.toNatClampNeg x1)))).toInt ≤ 12 := wt_R_ga ri556 9 rfl 253 (by decide) (by decide) (Int32.toNatClampNeg (wt_ga z727.2.2 275 (Int32.toNatClampNeg x1)))
                      have tt752 : (wt_ga r553.2 253 (Int32.toNatClampNeg (wt_ga z727.2.2 275 (Int32.toNatClampNeg x1)))).toInt = (wt_ga σ3 253 (Int32.toNatClampNeg (wt_ga z727.2.2 275 (Int32.toNatClampNeg x1)))).toInt := congrArg Int32.toInt (f555.2 253 (fun z => z) (Int32.toNatClampNeg (wt_ga z727.2.2 275 (Int32.toNatClampNeg x1))))
                      have bb753 := wt_bd (wt_ga σ3 253 (Int32.toNatClampNeg (wt_ga z727.2.2 275 (Int32.toNatClampNeg x1))))
                      have g754 : 0 ≤ (wt_ga σ3 253 (Int32.toNatClampNeg (wt_ga z727.2.2 275 (Int32.toNatClampNeg x1)))).toInt ∧ (wt_ga σ3 253 (Int32.toNatClampNeg (wt_ga z727.2.2 275 (Int32.toNatClampNeg x1)))).toInt ≤ 12 := wt_R_ga rσ3 9 rfl 253 (by decide) (by decide) (Int32.toNatClampNeg (wt_ga z727.2.2 275 (Int32.toNatClampNeg x1)))
                      have tt755 : (wt_ga σ3 253 (Int32.toNatClampNeg (wt_ga z727.2.2 275 (Int32.toNatClampNeg x1)))).toInt = (wt_ga σ 253 (Int32.toNatClampNeg (wt_ga z727.2.2 275 (Int32.toNatClampNeg x1)))).toInt := congrArg Int32.toInt (fσ3.2 253 (fun z => z) (Int32.toNatClampNeg (wt_ga z727.2.2 275 (Int32.toNatClampNeg x1))))
                      have bb756 := wt_bd (wt_ga σ 253 (Int32.toNatClampNeg (wt_ga z727.2.2 275 (Int32.toNatClampNeg x1))))
                      have g757 : 0 ≤ (wt_ga σ 253 (Int32.toNatClampNeg (wt_ga z727.2.2 275 (Int32.toNatClampNeg x1)))).toInt ∧ (wt_ga σ 253 (Int32.toNatClampNeg (wt_ga z727.2.2 275 (Int32.toNatClampNeg x1)))).toInt ≤ 12 := wt_R_ga r0 9 rfl 253 (by decide) (by decide) (Int32.toNatClampNeg (wt_ga z727.2.2 275 (Int32.toNatClampNeg x1)))
                      refine wt_T_if (fun h758 => ?_) (fun h758 => ?_)
                      · skip
                        have c759 := wt_cle h758
                        refine wt_T_some ?_
                        exact ⟨(wt_fr.tr (wt_fr.tr (wt_fr.tr (wt_fr.tr wt_fr.rf fσ3 (fun i k h => by (try dsimp only at h); exact (by omega)) (fun i h => h.elim)) f555 (fun i k h => by (try dsimp only at h); exact (by omega)) (fun i h => h.elim)) f574 (fun i k h => by (try dsimp only at h); exact (by omega)) (fun i h => h.elim)) l729 (fun i k h => h.elim) (fun i h => by (try dsimp only at h); rcases h with h | h; exact Or.inl (by omega); exact Or.inr ((by omega)))), l731⟩
                      · skip
                        have c760 := wt_ncle h758
                        refine wt_T_if (fun h761 => ?_) (fun h761 => ?_)
                        · skip
                          have c762 := wt_ceq h761
                          refine wt_T_bi (wq_md_readOf n hn x1 z727.2.1 z727.2.2 l731 (by omega) (by omega) (by omega) (by omega) (by omega) (wt_PG_fr (F := fun i k => (i = 108 ∧ k = 0)) (A := fun i => i = 290 ∨ i = 289) r0 p0 (wt_fr.tr (wt_fr.tr (wt_fr.tr (wt_fr.tr wt_fr.rf fσ3 (fun i k h => by (try dsimp only at h); exact (by omega)) (fun i h => h.elim)) f555 (fun i k h => by (try dsimp only at h); exact (by omega)) (fun i h => h.elim)) f574 (fun i k h => by (try dsimp only at h); exact (by omega)) (fun i h => h.elim)) l729 (fun i k h => h.elim) (fun i h => by (try dsimp only at h); rcases h with h | h; exact Or.inl (by omega); exact Or.inr ((by omega)))) (by (try dsimp only); first | omega | exact fun h => h) (fun i hi => by (try dsimp only); unfold wt_PA at hi; omega))) (fun r763 h764 => ?_)
                          obtain ⟨f765, ri766⟩ := h764
                          have bb767 := wt_bd r763.1
                          refine wt_T_gd (wt_ix (by omega) (by omega)) ?_
                          have bb768 := wt_bd (wt_ga r763.2 275 (Int32.toNatClampNeg x1))
                          have g769 : -1 ≤ (wt_ga r763.2 275 (Int32.toNatClampNeg x1)).toInt ∧ (wt_ga r763.2 275 (Int32.toNatClampNeg x1)).toInt ≤ 7 := wt_R_ga ri766 12 rfl 275 (by decide) (by decide) (Int32.toNatClampNeg x1)
                          have tt770 : (wt_ga r763.2 275 (Int32.toNatClampNeg x1)).toInt = (wt_ga z727.2.2 275 (Int32.toNatClampNeg x1)).toInt := congrArg Int32.toInt (f765.2 275 (by (try dsimp only); omega) (Int32.toNatClampNeg x1))
                          refine wt_T_gd (wt_ix (by omega) (by omega)) ?_
                          refine wt_T_gd (wt_ix (by omega) (by omega)) ?_
                          have bb771 := wt_tn (wt_ga r763.2 275 (Int32.toNatClampNeg x1))
                          have bb772 := wt_tn z727.2.1
                          have bb773 := wt_bd (wt_ga r763.2 (255 + (Int32.toNatClampNeg (wt_ga r763.2 275 (Int32.toNatClampNeg x1)))) (Int32.toNatClampNeg z727.2.1))
                          have g774 : 0 ≤ (wt_ga r763.2 (255 + (Int32.toNatClampNeg (wt_ga r763.2 275 (Int32.toNatClampNeg x1)))) (Int32.toNatClampNeg z727.2.1)).toInt ∧ (wt_ga r763.2 (255 + (Int32.toNatClampNeg (wt_ga r763.2 275 (Int32.toNatClampNeg x1)))) (Int32.toNatClampNeg z727.2.1)).toInt ≤ 59 := wt_R_ga ri766 10 rfl (255 + (Int32.toNatClampNeg (wt_ga r763.2 275 (Int32.toNatClampNeg x1)))) (show 255 ≤ 255 + (Int32.toNatClampNeg (wt_ga r763.2 275 (Int32.toNatClampNeg x1))) by omega) (show 255 + (Int32.toNatClampNeg (wt_ga r763.2 275 (Int32.toNatClampNeg x1))) < 263 by omega) (Int32.toNatClampNeg z727.2.1)
                          have tt775 : (wt_ga r763.2 (255 + (Int32.toNatClampNeg (wt_ga r763.2 275 (Int32.toNatClampNeg x1)))) (Int32.toNatClampNeg z727.2.1)).toInt = (wt_ga z727.2.2 (255 + (Int32.toNatClampNeg (wt_ga r763.2 275 (Int32.toNatClampNeg x1)))) (Int32.toNatClampNeg z727.2.1)).toInt := congrArg Int32.toInt (f765.2 (255 + (Int32.toNatClampNeg (wt_ga r763.2 275 (Int32.toNatClampNeg x1)))) (by (try dsimp only); omega) (Int32.toNatClampNeg z727.2.1))
                          have bb776 := wt_bd (wt_ga z727.2.2 (255 + (Int32.toNatClampNeg (wt_ga r763.2 275 (Int32.toNatClampNeg x1)))) (Int32.toNatClampNeg z727.2.1))
                          have g777 : 0 ≤ (wt_ga z727.2.2 (255 + (Int32.toNatClampNeg (wt_ga r763.2 275 (Int32.toNatClampNeg x1)))) (Int32.toNatClampNeg z727.2.1)).toInt ∧ (wt_ga z727.2.2 (255 + (Int32.toNatClampNeg (wt_ga r763.2 275 (Int32.toNatClampNeg x1)))) (Int32.toNatClampNeg z727.2.1)).toInt ≤ 59 := wt_R_ga l731 10 rfl (255 + (Int32.toNatClampNeg (wt_ga r763.2 275 (Int32.toNatClampNeg x1)))) (show 255 ≤ 255 + (Int32.toNatClampNeg (wt_ga r763.2 275 (Int32.toNatClampNeg x1))) by omega) (show 255 + (Int32.toNatClampNeg (wt_ga r763.2 275 (Int32.toNatClampNeg x1))) < 263 by omega) (Int32.toNatClampNeg z727.2.1)
                          have tt778 : (wt_ga z727.2.2 (255 + (Int32.toNatClampNeg (wt_ga r763.2 275 (Int32.toNatClampNeg x1)))) (Int32.toNatClampNeg z727.2.1)).toInt = (wt_ga r572.2 (255 + (Int32.toNatClampNeg (wt_ga r763.2 275 (Int32.toNatClampNeg x1)))) (Int32.toNatClampNeg z727.2.1)).toInt := congrArg Int32.toInt (l729.2 (255 + (Int32.toNatClampNeg (wt_ga r763.2 275 (Int32.toNatClampNeg x1)))) (by (try dsimp only); omega) (Int32.toNatClampNeg z727.2.1))
                          have bb779 := wt_bd (wt_ga r572.2 (255 + (Int32.toNatClampNeg (wt_ga r763.2 275 (Int32.toNatClampNeg x1)))) (Int32.toNatClampNeg z727.2.1))
                          have g780 : 0 ≤ (wt_ga r572.2 (255 + (Int32.toNatClampNeg (wt_ga r763.2 275 (Int32.toNatClampNeg x1)))) (Int32.toNatClampNeg z727.2.1)).toInt ∧ (wt_ga r572.2 (255 + (Int32.toNatClampNeg (wt_ga r763.2 275 (Int32.toNatClampNeg x1)))) (Int32.toNatClampNeg z727.2.1)).toInt ≤ 59 := wt_R_ga ri575 10 rfl (255 + (Int32.toNatClampNeg (wt_ga r763.2 275 (Int32.toNatClampNeg x1)))) (show 255 ≤ 255 + (Int32.toNatClampNeg (wt_ga r763.2 275 (Int32.toNatClampNeg x1))) by omega) (show 255 + (Int32.toNatClampNeg (wt_ga r763.2 275 (Int32.toNatClampNeg x1))) < 263 by omega) (Int32.toNatClampNeg z727.2.1)
                          have tt781 : (wt_ga r572.2 (255 + (Int32.toNatClampNeg (wt_ga r763.2 275 (Int32.toNatClampNeg x1)))) (Int32.toNatClampNeg z727.2.1)).toInt = (wt_ga r553.2 (255 + (Int32.toNatClampNeg (wt_ga r763.2 275 (Int32.toNatClampNeg x1)))) (Int32.toNatClampNeg z727.2.1)).toInt := congrArg Int32.toInt (f574.2 (255 + (Int32.toNatClampNeg (wt_ga r763.2 275 (Int32.toNatClampNeg x1)))) (fun z => z) (Int32.toNatClampNeg z727.2.1))
                          have bb782 := wt_bd (wt_ga r553.2 (255 + (Int32.toNatClampNeg (wt_ga r763.2 275 (Int32.toNatClampNeg x1)))) (Int32.toNatClampNeg z727.2.1))
                          have g783 : 0 ≤ (wt_ga r553.2 (255 + (Int32.toNatClampNeg (wt_ga r763.2 275 (Int32.toNatClampNeg x1)))) (Int32.toNatClampNeg z727.2.1)).toInt ∧ (wt_ga r553.2 (255 + (Int32.toNatClampNeg (wt_ga r763.2 275 (Int32.toNatClampNeg x1)))) (Int32.toNatClampNeg z727.2.1)).toInt ≤ 59 := wt_R_ga ri556 10 rfl (255 + (Int32.toNatClampNeg (wt_ga r763.2 275 (Int32.toNatClampNeg x1)))) (show 255 ≤ 255 + (Int32.toNatClampNeg (wt_ga r763.2 275 (Int32.toNatClampNeg x1))) by omega) (show 255 + (Int32.toNatClampNeg (wt_ga r763.2 275 (Int32.toNatClampNeg x1))) < 263 by omega) (Int32.toNatClampNeg z727.2.1)
                          have tt784 : (wt_ga r553.2 (255 + (Int32.toNatClampNeg (wt_ga r763.2 275 (Int32.toNatClampNeg x1)))) (Int32.toNatClampNeg z727.2.1)).toInt = (wt_ga σ3 (255 + (Int32.toNatClampNeg (wt_ga r763.2 275 (Int32.toNatClampNeg x1)))) (Int32.toNatClampNeg z727.2.1)).toInt := congrArg Int32.toInt (f555.2 (255 + (Int32.toNatClampNeg (wt_ga r763.2 275 (Int32.toNatClampNeg x1)))) (fun z => z) (Int32.toNatClampNeg z727.2.1))
                          have bb785 := wt_bd (wt_ga σ3 (255 + (Int32.toNatClampNeg (wt_ga r763.2 275 (Int32.toNatClampNeg x1)))) (Int32.toNatClampNeg z727.2.1))
                          have g786 : 0 ≤ (wt_ga σ3 (255 + (Int32.toNatClampNeg (wt_ga r763.2 275 (Int32.toNatClampNeg x1)))) (Int32.toNatClampNeg z727.2.1)).toInt ∧ (wt_ga σ3 (255 + (Int32.toNatClampNeg (wt_ga r763.2 275 (Int32.toNatClampNeg x1)))) (Int32.toNatClampNeg z727.2.1)).toInt ≤ 59 := wt_R_ga rσ3 10 rfl (255 + (Int32.toNatClampNeg (wt_ga r763.2 275 (Int32.toNatClampNeg x1)))) (show 255 ≤ 255 + (Int32.toNatClampNeg (wt_ga r763.2 275 (Int32.toNatClampNeg x1))) by omega) (show 255 + (Int32.toNatClampNeg (wt_ga r763.2 275 (Int32.toNatClampNeg x1))) < 263 by omega) (Int32.toNatClampNeg z727.2.1)
                          have tt787 : (wt_ga σ3 (255 + (Int32.toNatClampNeg (wt_ga r763.2 275 (Int32.toNatClampNeg x1)))) (Int32.toNatClampNeg z727.2.1)).toInt = (wt_ga σ (255 + (Int32.toNatClampNeg (wt_ga r763.2 275 (Int32.toNatClampNeg x1)))) (Int32.toNatClampNeg z727.2.1)).toInt := congrArg Int32.toInt (fσ3.2 (255 + (Int32.toNatClampNeg (wt_ga r763.2 275 (Int32.toNatClampNeg x1)))) (fun z => z) (Int32.toNatClampNeg z727.2.1))
                          have bb788 := wt_bd (wt_ga σ (255 + (Int32.toNatClampNeg (wt_ga r763.2 275 (Int32.toNatClampNeg x1)))) (Int32.toNatClampNeg z727.2.1))
                          have g789 : 0 ≤ (wt_ga σ (255 + (Int32.toNatClampNeg (wt_ga r763.2 275 (Int32.toNatClampNeg x1)))) (Int32.toNatClampNeg z727.2.1)).toInt ∧ (wt_ga σ (255 + (Int32.toNatClampNeg (wt_ga r763.2 275 (Int32.toNatClampNeg x1)))) (Int32.toNatClampNeg z727.2.1)).toInt ≤ 59 := wt_R_ga r0 10 rfl (255 + (Int32.toNatClampNeg (wt_ga r763.2 275 (Int32.toNatClampNeg x1)))) (show 255 ≤ 255 + (Int32.toNatClampNeg (wt_ga r763.2 275 (Int32.toNatClampNeg x1))) by omega) (show 255 + (Int32.toNatClampNeg (wt_ga r763.2 275 (Int32.toNatClampNeg x1))) < 263 by omega) (Int32.toNatClampNeg z727.2.1)
                          refine wt_T_if (fun h790 => ?_) (fun h790 => ?_)
                          · skip
                            have c791 := wt_ceq h790
                            unfold wp_md_page_B196
                            have bb792 := wt_bd z727.1
                            obtain ⟨j793, j793a, j793b⟩ := wt_addI z727.1 (0 : Int32)
                            obtain ⟨j794, j794a, j794b⟩ := wt_addI z727.2.1 (1 : Int32)
                            refine hKK726 _ ⟨(wt_fr.tr (wt_fr.tr wt_fr.rf l729 (fun i k h => h.elim) (fun i h => by (try dsimp only at h); rcases h with h | h; exact Or.inl (by omega); exact Or.inr ((by omega)))) f765 (fun i k h => h.elim) (fun i h => by (try dsimp only at h); rcases h with h | h; exact Or.inl (by omega); exact Or.inr ((by omega)))), (show 0 ≤ ((z727.2.1 + (1 : Int32))).toInt by omega), ri766⟩ ?_
                            show (12 - (z727.2.1 + (1 : Int32)).toInt).toNat < (12 - z727.2.1.toInt).toNat
                            omega
                          · skip
                            have c795 := wt_nceq h790
                            unfold wp_md_page_B196
                            have bb796 := wt_bd z727.1
                            obtain ⟨j797, j797a, j797b⟩ := wt_addI z727.1 (1 : Int32)
                            obtain ⟨j798, j798a, j798b⟩ := wt_addI z727.2.1 (1 : Int32)
                            refine hKK726 _ ⟨(wt_fr.tr (wt_fr.tr wt_fr.rf l729 (fun i k h => h.elim) (fun i h => by (try dsimp only at h); rcases h with h | h; exact Or.inl (by omega); exact Or.inr ((by omega)))) f765 (fun i k h => h.elim) (fun i h => by (try dsimp only at h); rcases h with h | h; exact Or.inl (by omega); exact Or.inr ((by omega)))), (show 0 ≤ ((z727.2.1 + (1 : Int32))).toInt by omega), ri766⟩ ?_
                            show (12 - (z727.2.1 + (1 : Int32)).toInt).toNat < (12 - z727.2.1.toInt).toNat
                            omega
                        · skip
                          have c799 := wt_nceq h761
                          refine wt_T_some ?_
                          exact ⟨(wt_fr.tr (wt_fr.tr (wt_fr.tr (wt_fr.tr wt_fr.rf fσ3 (fun i k h => by (try dsimp only at h); exact (by omega)) (fun i h => h.elim)) f555 (fun i k h => by (try dsimp only at h); exact (by omega)) (fun i h => h.elim)) f574 (fun i k h => by (try dsimp only at h); exact (by omega)) (fun i h => h.elim)) l729 (fun i k h => h.elim) (fun i h => by (try dsimp only at h); rcases h with h | h; exact Or.inl (by omega); exact Or.inr ((by omega)))), l731⟩
                    · skip
                      exact ⟨wt_fr.rf, (show 0 ≤ ((0 : Int32)).toInt by omega), ri575⟩
                    · skip
                      show (12 - (0 : Int32).toInt).toNat < n
                      omega
              · skip
                have bb800 := wt_bd (wt_ga r572.2 276 (Int32.toNatClampNeg x1))
                have g801 : 0 ≤ (wt_ga r572.2 276 (Int32.toNatClampNeg x1)).toInt ∧ (wt_ga r572.2 276 (Int32.toNatClampNeg x1)).toInt ≤ 108 := wt_R_ga ri575 13 rfl 276 (by decide) (by decide) (Int32.toNatClampNeg x1)
                have tt802 : (wt_ga r572.2 276 (Int32.toNatClampNeg x1)).toInt = (wt_ga r553.2 276 (Int32.toNatClampNeg x1)).toInt := congrArg Int32.toInt (f574.2 276 (fun z => z) (Int32.toNatClampNeg x1))
                have bb803 := wt_bd (wt_ga r553.2 276 (Int32.toNatClampNeg x1))
                have g804 : 0 ≤ (wt_ga r553.2 276 (Int32.toNatClampNeg x1)).toInt ∧ (wt_ga r553.2 276 (Int32.toNatClampNeg x1)).toInt ≤ 108 := wt_R_ga ri556 13 rfl 276 (by decide) (by decide) (Int32.toNatClampNeg x1)
                have tt805 : (wt_ga r553.2 276 (Int32.toNatClampNeg x1)).toInt = (wt_ga σ3 276 (Int32.toNatClampNeg x1)).toInt := congrArg Int32.toInt (f555.2 276 (fun z => z) (Int32.toNatClampNeg x1))
                have bb806 := wt_bd (wt_ga σ3 276 (Int32.toNatClampNeg x1))
                have g807 : 0 ≤ (wt_ga σ3 276 (Int32.toNatClampNeg x1)).toInt ∧ (wt_ga σ3 276 (Int32.toNatClampNeg x1)).toInt ≤ 108 := wt_R_ga rσ3 13 rfl 276 (by decide) (by decide) (Int32.toNatClampNeg x1)
                have tt808 : (wt_ga σ3 276 (Int32.toNatClampNeg x1)).toInt = (wt_ga σ 276 (Int32.toNatClampNeg x1)).toInt := congrArg Int32.toInt (fσ3.2 276 (fun z => z) (Int32.toNatClampNeg x1))
                have bb809 := wt_bd (wt_ga σ 276 (Int32.toNatClampNeg x1))
                have g810 : 0 ≤ (wt_ga σ 276 (Int32.toNatClampNeg x1)).toInt ∧ (wt_ga σ 276 (Int32.toNatClampNeg x1)).toInt ≤ 108 := wt_R_ga r0 13 rfl 276 (by decide) (by decide) (Int32.toNatClampNeg x1)
                exact ⟨rfl, (show 0 ≤ ((0 : Int32)).toInt by omega)⟩
              · skip
                have bb811 := wt_bd (wt_ga r572.2 276 (Int32.toNatClampNeg x1))
                have g812 : 0 ≤ (wt_ga r572.2 276 (Int32.toNatClampNeg x1)).toInt ∧ (wt_ga r572.2 276 (Int32.toNatClampNeg x1)).toInt ≤ 108 := wt_R_ga ri575 13 rfl 276 (by decide) (by decide) (Int32.toNatClampNeg x1)
                have tt813 : (wt_ga r572.2 276 (Int32.toNatClampNeg x1)).toInt = (wt_ga r553.2 276 (Int32.toNatClampNeg x1)).toInt := congrArg Int32.toInt (f574.2 276 (fun z => z) (Int32.toNatClampNeg x1))
                have bb814 := wt_bd (wt_ga r553.2 276 (Int32.toNatClampNeg x1))
                have g815 : 0 ≤ (wt_ga r553.2 276 (Int32.toNatClampNeg x1)).toInt ∧ (wt_ga r553.2 276 (Int32.toNatClampNeg x1)).toInt ≤ 108 := wt_R_ga ri556 13 rfl 276 (by decide) (by decide) (Int32.toNatClampNeg x1)
                have tt816 : (wt_ga r553.2 276 (Int32.toNatClampNeg x1)).toInt = (wt_ga σ3 276 (Int32.toNatClampNeg x1)).toInt := congrArg Int32.toInt (f555.2 276 (fun z => z) (Int32.toNatClampNeg x1))
                have bb817 := wt_bd (wt_ga σ3 276 (Int32.toNatClampNeg x1))
                have g818 : 0 ≤ (wt_ga σ3 276 (Int32.toNatClampNeg x1)).toInt ∧ (wt_ga σ3 276 (Int32.toNatClampNeg x1)).toInt ≤ 108 := wt_R_ga rσ3 13 rfl 276 (by decide) (by decide) (Int32.toNatClampNeg x1)
                have tt819 : (wt_ga σ3 276 (Int32.toNatClampNeg x1)).toInt = (wt_ga σ 276 (Int32.toNatClampNeg x1)).toInt := congrArg Int32.toInt (fσ3.2 276 (fun z => z) (Int32.toNatClampNeg x1))
                have bb820 := wt_bd (wt_ga σ 276 (Int32.toNatClampNeg x1))
                have g821 : 0 ≤ (wt_ga σ 276 (Int32.toNatClampNeg x1)).toInt ∧ (wt_ga σ 276 (Int32.toNatClampNeg x1)).toInt ≤ 108 := wt_R_ga r0 13 rfl 276 (by decide) (by decide) (Int32.toNatClampNeg x1)
                show ((wt_ga r572.2 276 (Int32.toNatClampNeg x1)).toInt - (0 : Int32).toInt + 0).toNat < n
                omega
          · skip
            have c822 := wt_ncle h581
            refine wt_T_if (fun h823 => ?_) (fun h823 => ?_)
            · skip
              have c824 := wt_ceq h823
              refine wt_T_gd (wt_ix (by omega) (by omega)) ?_
              refine wt_T_some ?_
              exact ⟨(wt_fr.tr (wt_fr.tr (wt_fr.tr wt_fr.rf fσ3 (fun i k h => by (try dsimp only at h); exact (by omega)) (fun i h => h.elim)) f555 (fun i k h => by (try dsimp only at h); exact (by omega)) (fun i h => h.elim)) f574 (fun i k h => by (try dsimp only at h); exact (by omega)) (fun i h => h.elim)), ri575⟩
            · skip
              have c825 := wt_nceq h823
              refine wt_T_gd (wt_ix (by omega) (by omega)) ?_
              refine wt_T_some ?_
              exact ⟨(wt_fr.tr (wt_fr.tr (wt_fr.tr wt_fr.rf fσ3 (fun i k h => by (try dsimp only at h); exact (by omega)) (fun i h => h.elim)) f555 (fun i k h => by (try dsimp only at h); exact (by omega)) (fun i h => h.elim)) f574 (fun i k h => by (try dsimp only at h); exact (by omega)) (fun i h => h.elim)), ri575⟩
        · skip
          have c826 := wt_nceq h579
          refine wt_T_some ?_
          exact ⟨(wt_fr.tr (wt_fr.tr (wt_fr.tr wt_fr.rf fσ3 (fun i k h => by (try dsimp only at h); exact (by omega)) (fun i h => h.elim)) f555 (fun i k h => by (try dsimp only at h); exact (by omega)) (fun i h => h.elim)) f574 (fun i k h => by (try dsimp only at h); exact (by omega)) (fun i h => h.elim)), ri575⟩
      · skip
        have c827 := wt_nceq h569
        unfold wp_md_page_B41
        have k828 : (2 : Int32).toInt = 2 := by decide
        refine wt_T_bi (wq_md_bad n hn (0 : Int32) (2 : Int32) r553.2 ri556 (by omega)) (fun r829 h830 => ?_)
        obtain ⟨f831, ri832, pp833⟩ := h830
        have bb834 := wt_bd r829.1
        have bb835 := wt_bd (wt_gf r829.2 108 0)
        refine wt_T_if (fun h836 => ?_) (fun h836 => ?_)
        · skip
          have c837 := wt_ceq h836
          refine wt_T_if (fun h838 => ?_) (fun h838 => ?_)
          · skip
            have c839 := wt_cle h838
            have k840 : (3 : Int32).toInt = 3 := by decide
            refine wt_T_if (fun h841 => ?_) (fun h841 => ?_)
            · skip
              have c842 := wt_ceq h841
              refine wt_T_bi (wq_md_leastOf n hn x1 r829.2 ri832 (by omega) (by omega)) (fun r843 h844 => ?_)
              have e845 := h844
              have bb846 := wt_bd r843.1
              rw [e845]
              refine wt_T_some ?_
              exact ⟨(wt_fr.tr (wt_fr.tr (wt_fr.tr wt_fr.rf fσ3 (fun i k h => by (try dsimp only at h); exact (by omega)) (fun i h => h.elim)) f555 (fun i k h => by (try dsimp only at h); exact (by omega)) (fun i h => h.elim)) f831 (fun i k h => by (try dsimp only at h); exact (by omega)) (fun i h => h.elim)), ri832⟩
            · skip
              have c847 := wt_nceq h841
              refine wt_T_it (fun s : Int32 × Int32 × wt_St => s.2.2 = r829.2 ∧ 0 ≤ (s.2.1).toInt) (fun s : Int32 × Int32 × wt_St => ((wt_ga s.2.2 276 (Int32.toNatClampNeg x1)).toInt - s.2.1.toInt + 0).toNat) (fun KK848 z849 I850 hKK848 => ?_) _ _ ?_ ?_
              · skip
                obtain ⟨l851, l852⟩ := I850
                unfold wp_md_page_B91
                rw [l851]
                have bb853 := wt_bd (wt_ga r829.2 276 (Int32.toNatClampNeg x1))
                have g854 : 0 ≤ (wt_ga r829.2 276 (Int32.toNatClampNeg x1)).toInt ∧ (wt_ga r829.2 276 (Int32.toNatClampNeg x1)).toInt ≤ 108 := wt_R_ga ri832 13 rfl 276 (by decide) (by decide) (Int32.toNatClampNeg x1)
                have tt855 : (wt_ga r829.2 276 (Int32.toNatClampNeg x1)).toInt = (wt_ga r553.2 276 (Int32.toNatClampNeg x1)).toInt := congrArg Int32.toInt (f831.2 276 (fun z => z) (Int32.toNatClampNeg x1))
                have bb856 := wt_bd (wt_ga r553.2 276 (Int32.toNatClampNeg x1))
                have g857 : 0 ≤ (wt_ga r553.2 276 (Int32.toNatClampNeg x1)).toInt ∧ (wt_ga r553.2 276 (Int32.toNatClampNeg x1)).toInt ≤ 108 := wt_R_ga ri556 13 rfl 276 (by decide) (by decide) (Int32.toNatClampNeg x1)
                have tt858 : (wt_ga r553.2 276 (Int32.toNatClampNeg x1)).toInt = (wt_ga σ3 276 (Int32.toNatClampNeg x1)).toInt := congrArg Int32.toInt (f555.2 276 (fun z => z) (Int32.toNatClampNeg x1))
                have bb859 := wt_bd (wt_ga σ3 276 (Int32.toNatClampNeg x1))
                have g860 : 0 ≤ (wt_ga σ3 276 (Int32.toNatClampNeg x1)).toInt ∧ (wt_ga σ3 276 (Int32.toNatClampNeg x1)).toInt ≤ 108 := wt_R_ga rσ3 13 rfl 276 (by decide) (by decide) (Int32.toNatClampNeg x1)
                have tt861 : (wt_ga σ3 276 (Int32.toNatClampNeg x1)).toInt = (wt_ga σ 276 (Int32.toNatClampNeg x1)).toInt := congrArg Int32.toInt (fσ3.2 276 (fun z => z) (Int32.toNatClampNeg x1))
                have bb862 := wt_bd (wt_ga σ 276 (Int32.toNatClampNeg x1))
                have g863 : 0 ≤ (wt_ga σ 276 (Int32.toNatClampNeg x1)).toInt ∧ (wt_ga σ 276 (Int32.toNatClampNeg x1)).toInt ≤ 108 := wt_R_ga r0 13 rfl 276 (by decide) (by decide) (Int32.toNatClampNeg x1)
                have bb864 := wt_bd z849.2.1
                refine wt_T_gd (wt_ix (by omega) (by omega)) ?_
                refine wt_T_if (fun h865 => ?_) (fun h865 => ?_)
                · skip
                  have c866 := wt_cle h865
                  unfold wp_md_page_B142
                  have bb873 := wt_bd z849.1
                  refine wt_T_it (fun s : Int32 × Int32 × wt_St => wt_fr (fun i k => False) (fun i => i = 290 ∨ i = 289) r829.2 s.2.2 ∧ 0 ≤ (s.2.1).toInt ∧ wt_RI s.2.2) (fun s : Int32 × Int32 × wt_St => (12 - s.2.1.toInt).toNat) (fun KK867 z868 I869 hKK867 => ?_) _ _ ?_ ?_
                  · skip
                    obtain ⟨l870, l871, l872⟩ := I869
                    unfold wp_md_page_B145
                    have bb874 := wt_bd z868.2.1
                    refine wt_T_gd (wt_ix (by omega) (by omega)) ?_
                    have bb875 := wt_bd (wt_ga z868.2.2 275 (Int32.toNatClampNeg x1))
                    have g876 : -1 ≤ (wt_ga z868.2.2 275 (Int32.toNatClampNeg x1)).toInt ∧ (wt_ga z868.2.2 275 (Int32.toNatClampNeg x1)).toInt ≤ 7 := wt_R_ga l872 12 rfl 275 (by decide) (by decide) (Int32.toNatClampNeg x1)
                    have tt877 : (wt_ga z868.2.2 275 (Int32.toNatClampNeg x1)).toInt = (wt_ga r829.2 275 (Int32.toNatClampNeg x1)).toInt := congrArg Int32.toInt (l870.2 275 (by (try dsimp only); omega) (Int32.toNatClampNeg x1))
                    have bb878 := wt_bd (wt_ga r829.2 275 (Int32.toNatClampNeg x1))
                    have g879 : -1 ≤ (wt_ga r829.2 275 (Int32.toNatClampNeg x1)).toInt ∧ (wt_ga r829.2 275 (Int32.toNatClampNeg x1)).toInt ≤ 7 := wt_R_ga ri832 12 rfl 275 (by decide) (by decide) (Int32.toNatClampNeg x1)
                    have tt880 : (wt_ga r829.2 275 (Int32.toNatClampNeg x1)).toInt = (wt_ga r553.2 275 (Int32.toNatClampNeg x1)).toInt := congrArg Int32.toInt (f831.2 275 (fun z => z) (Int32.toNatClampNeg x1))
                    have bb881 := wt_bd (wt_ga r553.2 275 (Int32.toNatClampNeg x1))
                    have g882 : -1 ≤ (wt_ga r553.2 275 (Int32.toNatClampNeg x1)).toInt ∧ (wt_ga r553.2 275 (Int32.toNatClampNeg x1)).toInt ≤ 7 := wt_R_ga ri556 12 rfl 275 (by decide) (by decide) (Int32.toNatClampNeg x1)
                    have tt883 : (wt_ga r553.2 275 (Int32.toNatClampNeg x1)).toInt = (wt_ga σ3 275 (Int32.toNatClampNeg x1)).toInt := congrArg Int32.toInt (f555.2 275 (fun z => z) (Int32.toNatClampNeg x1))
                    refine wt_T_gd (wt_ix (by omega) (by omega)) ?_
                    have bb884 := wt_tn (wt_ga z868.2.2 275 (Int32.toNatClampNeg x1))
                    have bb885 := wt_bd (wt_ga z868.2.2 253 (Int32.toNatClampNeg (wt_ga z868.2.2 275 (Int32.toNatClampNeg x1))))
                    have g886 : 0 ≤ (wt_ga z868.2.2 253 (Int32.toNatClampNeg (wt_ga z868.2.2 275 (Int32.toNatClampNeg x1)))).toInt ∧ (wt_ga z868.2.2 253 (Int32.toNatClampNeg (wt_ga z868.2.2 275 (Int32.toNatClampNeg x1)))).toInt ≤ 12 := wt_R_ga l872 9 rfl 253 (by decide) (by decide) (Int32.toNatClampNeg (wt_ga z868.2.2 275 (Int32.toNatClampNeg x1)))
                    have tt887 : (wt_ga z868.2.2 253 (Int32.toNatClampNeg (wt_ga z868.2.2 275 (Int32.toNatClampNeg x1)))).toInt = (wt_ga r829.2 253 (Int32.toNatClampNeg (wt_ga z868.2.2 275 (Int32.toNatClampNeg x1)))).toInt := congrArg Int32.toInt (l870.2 253 (by (try dsimp only); omega) (Int32.toNatClampNeg (wt_ga z868.2.2 275 (Int32.toNatClampNeg x1))))
                    have bb888 := wt_bd (wt_ga r829.2 253 (Int32.toNatClampNeg (wt_ga z868.2.2 275 (Int32.toNatClampNeg x1))))
                    have g889 : 0 ≤ (wt_ga r829.2 253 (Int32.toNatClampNeg (wt_ga z868.2.2 275 (Int32.toNatClampNeg x1)))).toInt ∧ (wt_ga r829.2 253 (Int32.toNatClampNeg (wt_ga z868.2.2 275 (Int32.toNatClampNeg x1)))).toInt ≤ 12 := wt_R_ga ri832 9 rfl 253 (by decide) (by decide) (Int32.toNatClampNeg (wt_ga z868.2.2 275 (Int32.toNatClampNeg x1)))
                    have tt890 : (wt_ga r829.2 253 (Int32.toNatClampNeg (wt_ga z868.2.2 275 (Int32.toNatClampNeg x1)))).toInt = (wt_ga r553.2 253 (Int32.toNatClampNeg (wt_ga z868.2.2 275 (Int32.toNatClampNeg x1)))).toInt := congrArg Int32.toInt (f831.2 253 (fun z => z) (Int32.toNatClampNeg (wt_ga z868.2.2 275 (Int32.toNatClampNeg x1))))
                    have bb891 := wt_bd (wt_ga r553.2 253 (Int32.toNatClampNeg (wt_ga z868.2.2 275 (Int32.toNatClampNeg x1))))
                    have g892 : 0 ≤ (wt_ga r553.2 253 (Int32.toNatClampNeg (wt_ga z868.2.2 275 (Int32.toNatClampNeg x1)))).toInt ∧ (wt_ga r553.2 253 (Int32.toNatClampNeg (wt_ga z868.2.2 275 (Int32.toNatClampNeg x1)))).toInt ≤ 12 := wt_R_ga ri556 9 rfl 253 (by decide) (by decide) (Int32.toNatClampNeg (wt_ga z868.2.2 275 (Int32.toNatClampNeg x1)))
                    have tt893 : (wt_ga r553.2 253 (Int32.toNatClampNeg (wt_ga z868.2.2 275 (Int32.toNatClampNeg x1)))).toInt = (wt_ga σ3 253 (Int32.toNatClampNeg (wt_ga z868.2.2 275 (Int32.toNatClampNeg x1)))).toInt := congrArg Int32.toInt (f555.2 253 (fun z => z) (Int32.toNatClampNeg (wt_ga z868.2.2 275 (Int32.toNatClampNeg x1))))
                    have bb894 := wt_bd (wt_ga σ3 253 (Int32.toNatClampNeg (wt_ga z868.2.2 275 (Int32.toNatClampNeg x1))))
                    have g895 : 0 ≤ (wt_ga σ3 253 (Int32.toNatClampNeg (wt_ga z868.2.2 275 (Int32.toNatClampNeg x1)))).toInt ∧ (wt_ga σ3 253 (Int32.toNatClampNeg (wt_ga z868.2.2 275 (Int32.toNatClampNeg x1)))).toInt ≤ 12 := wt_R_ga rσ3 9 rfl 253 (by decide) (by decide) (Int32.toNatClampNeg (wt_ga z868.2.2 275 (Int32.toNatClampNeg x1)))
                    have tt896 : (wt_ga σ3 253 (Int32.toNatClampNeg (wt_ga z868.2.2 275 (Int32.toNatClampNeg x1)))).toInt = (wt_ga σ 253 (Int32.toNatClampNeg (wt_ga z868.2.2 275 (Int32.toNatClampNeg x1)))).toInt := congrArg Int32.toInt (fσ3.2 253 (fun z => z) (Int32.toNatClampNeg (wt_ga z868.2.2 275 (Int32.toNatClampNeg x1))))
                    have bb897 := wt_bd (wt_ga σ 253 (Int32.toNatClampNeg (wt_ga z868.2.2 275 (Int32.toNatClampNeg x1))))
                    have g898 : 0 ≤ (wt_ga σ 253 (Int32.toNatClampNeg (wt_ga z868.2.2 275 (Int32.toNatClampNeg x1)))).toInt ∧ (wt_ga σ 253 (Int32.toNatClampNeg (wt_ga z868.2.2 275 (Int32.toNatClampNeg x1)))).toInt ≤ 12 := wt_R_ga r0 9 rfl 253 (by decide) (by decide) (Int32.toNatClampNeg (wt_ga z868.2.2 275 (Int32.toNatClampNeg x1)))
                    refine wt_T_if (fun h899 => ?_) (fun h899 => ?_)
                    · skip
                      have c900 := wt_cle h899
                      refine wt_T_some ?_
                      exact ⟨(wt_fr.tr (wt_fr.tr (wt_fr.tr (wt_fr.tr wt_fr.rf fσ3 (fun i k h => by (try dsimp only at h); exact (by omega)) (fun i h => h.elim)) f555 (fun i k h => by (try dsimp only at h); exact (by omega)) (fun i h => h.elim)) f831 (fun i k h => by (try dsimp only at h); exact (by omega)) (fun i h => h.elim)) l870 (fun i k h => h.elim) (fun i h => by (try dsimp only at h); rcases h with h | h; exact Or.inl (by omega); exact Or.inr ((by omega)))), l872⟩
                    · skip
                      have c901 := wt_ncle h899
                      refine wt_T_if (fun h902 => ?_) (fun h902 => ?_)
                      · skip
                        have c903 := wt_ceq h902
                        refine wt_T_bi (wq_md_readOf n hn x1 z868.2.1 z868.2.2 l872 (by omega) (by omega) (by omega) (by omega) (by omega) (wt_PG_fr (F := fun i k => (i = 108 ∧ k = 0)) (A := fun i => i = 290 ∨ i = 289) r0 p0 (wt_fr.tr (wt_fr.tr (wt_fr.tr (wt_fr.tr wt_fr.rf fσ3 (fun i k h => by (try dsimp only at h); exact (by omega)) (fun i h => h.elim)) f555 (fun i k h => by (try dsimp only at h); exact (by omega)) (fun i h => h.elim)) f831 (fun i k h => by (try dsimp only at h); exact (by omega)) (fun i h => h.elim)) l870 (fun i k h => h.elim) (fun i h => by (try dsimp only at h); rcases h with h | h; exact Or.inl (by omega); exact Or.inr ((by omega)))) (by (try dsimp only); first | omega | exact fun h => h) (fun i hi => by (try dsimp only); unfold wt_PA at hi; omega))) (fun r904 h905 => ?_)
                        obtain ⟨f906, ri907⟩ := h905
                        have bb908 := wt_bd r904.1
                        refine wt_T_gd (wt_ix (by omega) (by omega)) ?_
                        have bb909 := wt_bd (wt_ga r904.2 275 (Int32.toNatClampNeg x1))
                        have g910 : -1 ≤ (wt_ga r904.2 275 (Int32.toNatClampNeg x1)).toInt ∧ (wt_ga r904.2 275 (Int32.toNatClampNeg x1)).toInt ≤ 7 := wt_R_ga ri907 12 rfl 275 (by decide) (by decide) (Int32.toNatClampNeg x1)
                        have tt911 : (wt_ga r904.2 275 (Int32.toNatClampNeg x1)).toInt = (wt_ga z868.2.2 275 (Int32.toNatClampNeg x1)).toInt := congrArg Int32.toInt (f906.2 275 (by (try dsimp only); omega) (Int32.toNatClampNeg x1))
                        refine wt_T_gd (wt_ix (by omega) (by omega)) ?_
                        refine wt_T_gd (wt_ix (by omega) (by omega)) ?_
                        have bb912 := wt_tn (wt_ga r904.2 275 (Int32.toNatClampNeg x1))
                        have bb913 := wt_tn z868.2.1
                        have bb914 := wt_bd (wt_ga r904.2 (255 + (Int32.toNatClampNeg (wt_ga r904.2 275 (Int32.toNatClampNeg x1)))) (Int32.toNatClampNeg z868.2.1))
                        have g915 : 0 ≤ (wt_ga r904.2 (255 + (Int32.toNatClampNeg (wt_ga r904.2 275 (Int32.toNatClampNeg x1)))) (Int32.toNatClampNeg z868.2.1)).toInt ∧ (wt_ga r904.2 (255 + (Int32.toNatClampNeg (wt_ga r904.2 275 (Int32.toNatClampNeg x1)))) (Int32.toNatClampNeg z868.2.1)).toInt ≤ 59 := wt_R_ga ri907 10 rfl (255 + (Int32.toNatClampNeg (wt_ga r904.2 275 (Int32.toNatClampNeg x1)))) (show 255 ≤ 255 + (Int32.toNatClampNeg (wt_ga r904.2 275 (Int32.toNatClampNeg x1))) by omega) (show 255 + (Int32.toNatClampNeg (wt_ga r904.2 275 (Int32.toNatClampNeg x1))) < 263 by omega) (Int32.toNatClampNeg z868.2.1)
                        have tt916 : (wt_ga r904.2 (255 + (Int32.toNatClampNeg (wt_ga r904.2 275 (Int32.toNatClampNeg x1)))) (Int32.toNatClampNeg z868.2.1)).toInt = (wt_ga z868.2.2 (255 + (Int32.toNatClampNeg (wt_ga r904.2 275 (Int32.toNatClampNeg x1)))) (Int32.toNatClampNeg z868.2.1)).toInt := congrArg Int32.toInt (f906.2 (255 + (Int32.toNatClampNeg (wt_ga r904.2 275 (Int32.toNatClampNeg x1)))) (by (try dsimp only); omega) (Int32.toNatClampNeg z868.2.1))
                        have bb917 := wt_bd (wt_ga z868.2.2 (255 + (Int32.toNatClampNeg (wt_ga r904.2 275 (Int32.toNatClampNeg x1)))) (Int32.toNatClampNeg z868.2.1))
                        have g918 : 0 ≤ (wt_ga z868.2.2 (255 + (Int32.toNatClampNeg (wt_ga r904.2 275 (Int32.toNatClampNeg x1)))) (Int32.toNatClampNeg z868.2.1)).toInt ∧ (wt_ga z868.2.2 (255 + (Int32.toNatClampNeg (wt_ga r904.2 275 (Int32.toNatClampNeg x1)))) (Int32.toNatClampNeg z868.2.1)).toInt ≤ 59 := wt_R_ga l872 10 rfl (255 + (Int32.toNatClampNeg (wt_ga r904.2 275 (Int32.toNatClampNeg x1)))) (show 255 ≤ 255 + (Int32.toNatClampNeg (wt_ga r904.2 275 (Int32.toNatClampNeg x1))) by omega) (show 255 + (Int32.toNatClampNeg (wt_ga r904.2 275 (Int32.toNatClampNeg x1))) < 263 by omega) (Int32.toNatClampNeg z868.2.1)
                        have tt919 : (wt_ga z868.2.2 (255 + (Int32.toNatClampNeg (wt_ga r904.2 275 (Int32.toNatClampNeg x1)))) (Int32.toNatClampNeg z868.2.1)).toInt = (wt_ga r829.2 (255 + (Int32.toNatClampNeg (wt_ga r904.2 275 (Int32.toNatClampNeg x1)))) (Int32.toNatClampNeg z868.2.1)).toInt := congrArg Int32.toInt (l870.2 (255 + (Int32.toNatClampNeg (wt_ga r904.2 275 (Int32.toNatClampNeg x1)))) (by (try dsimp only); omega) (Int32.toNatClampNeg z868.2.1))
                        have bb920 := wt_bd (wt_ga r829.2 (255 + (Int32.toNatClampNeg (wt_ga r904.2 275 (Int32.toNatClampNeg x1)))) (Int32.toNatClampNeg z868.2.1))
                        have g921 : 0 ≤ (wt_ga r829.2 (255 + (Int32.toNatClampNeg (wt_ga r904.2 275 (Int32.toNatClampNeg x1)))) (Int32.toNatClampNeg z868.2.1)).toInt ∧ (wt_ga r829.2 (255 + (Int32.toNatClampNeg (wt_ga r904.2 275 (Int32.toNatClampNeg x1)))) (Int32.toNatClampNeg z868.2.1)).toInt ≤ 59 := wt_R_ga ri832 10 rfl (255 + (Int32.toNatClampNeg (wt_ga r904.2 275 (Int32.toNatClampNeg x1)))) (show 255 ≤ 255 + (Int32.toNatClampNeg (wt_ga r904.2 275 (Int32.toNatClampNeg x1))) by omega) (show 255 + (Int32.toNatClampNeg (wt_ga r904.2 275 (Int32.toNatClampNeg x1))) < 263 by omega) (Int32.toNatClampNeg z868.2.1)
                        have tt922 : (wt_ga r829.2 (255 + (Int32.toNatClampNeg (wt_ga r904.2 275 (Int32.toNatClampNeg x1)))) (Int32.toNatClampNeg z868.2.1)).toInt = (wt_ga r553.2 (255 + (Int32.toNatClampNeg (wt_ga r904.2 275 (Int32.toNatClampNeg x1)))) (Int32.toNatClampNeg z868.2.1)).toInt := congrArg Int32.toInt (f831.2 (255 + (Int32.toNatClampNeg (wt_ga r904.2 275 (Int32.toNatClampNeg x1)))) (fun z => z) (Int32.toNatClampNeg z868.2.1))
                        have bb923 := wt_bd (wt_ga r553.2 (255 + (Int32.toNatClampNeg (wt_ga r904.2 275 (Int32.toNatClampNeg x1)))) (Int32.toNatClampNeg z868.2.1))
                        have g924 : 0 ≤ (wt_ga r553.2 (255 + (Int32.toNatClampNeg (wt_ga r904.2 275 (Int32.toNatClampNeg x1)))) (Int32.toNatClampNeg z868.2.1)).toInt ∧ (wt_ga r553.2 (255 + (Int32.toNatClampNeg (wt_ga r904.2 275 (Int32.toNatClampNeg x1)))) (Int32.toNatClampNeg z868.2.1)).toInt ≤ 59 := wt_R_ga ri556 10 rfl (255 + (Int32.toNatClampNeg (wt_ga r904.2 275 (Int32.toNatClampNeg x1)))) (show 255 ≤ 255 + (Int32.toNatClampNeg (wt_ga r904.2 275 (Int32.toNatClampNeg x1))) by omega) (show 255 + (Int32.toNatClampNeg (wt_ga r904.2 275 (Int32.toNatClampNeg x1))) < 263 by omega) (Int32.toNatClampNeg z868.2.1)
                        have tt925 : (wt_ga r553.2 (255 + (Int32.toNatClampNeg (wt_ga r904.2 275 (Int32.toNatClampNeg x1)))) (Int32.toNatClampNeg z868.2.1)).toInt = (wt_ga σ3 (255 + (Int32.toNatClampNeg (wt_ga r904.2 275 (Int32.toNatClampNeg x1)))) (Int32.toNatClampNeg z868.2.1)).toInt := congrArg Int32.toInt (f555.2 (255 + (Int32.toNatClampNeg (wt_ga r904.2 275 (Int32.toNatClampNeg x1)))) (fun z => z) (Int32.toNatClampNeg z868.2.1))
                        have bb926 := wt_bd (wt_ga σ3 (255 + (Int32.toNatClampNeg (wt_ga r904.2 275 (Int32.toNatClampNeg x1)))) (Int32.toNatClampNeg z868.2.1))
                        have g927 : 0 ≤ (wt_ga σ3 (255 + (Int32.toNatClampNeg (wt_ga r904.2 275 (Int32.toNatClampNeg x1)))) (Int32.toNatClampNeg z868.2.1)).toInt ∧ (wt_ga σ3 (255 + (Int32.toNatClampNeg (wt_ga r904.2 275 (Int32.toNatClampNeg x1)))) (Int32.toNatClampNeg z868.2.1)).toInt ≤ 59 := wt_R_ga rσ3 10 rfl (255 + (Int32.toNatClampNeg (wt_ga r904.2 275 (Int32.toNatClampNeg x1)))) (show 255 ≤ 255 + (Int32.toNatClampNeg (wt_ga r904.2 275 (Int32.toNatClampNeg x1))) by omega) (show 255 + (Int32.toNatClampNeg (wt_ga r904.2 275 (Int32.toNatClampNeg x1))) < 263 by omega) (Int32.toNatClampNeg z868.2.1)
                        have tt928 : (wt_ga σ3 (255 + (Int32.toNatClampNeg (wt_ga r904.2 275 (Int32.toNatClampNeg x1)))) (Int32.toNatClampNeg z868.2.1)).toInt = (wt_ga σ (255 + (Int32.toNatClampNeg (wt_ga r904.2 275 (Int32.toNatClampNeg x1)))) (Int32.toNatClampNeg z868.2.1)).toInt := congrArg Int32.toInt (fσ3.2 (255 + (Int32.toNatClampNeg (wt_ga r904.2 275 (Int32.toNatClampNeg x1)))) (fun z => z) (Int32.toNatClampNeg z868.2.1))
                        have bb929 := wt_bd (wt_ga σ (255 + (Int32.toNatClampNeg (wt_ga r904.2 275 (Int32.toNatClampNeg x1)))) (Int32.toNatClampNeg z868.2.1))
                        have g930 : 0 ≤ (wt_ga σ (255 + (Int32.toNatClampNeg (wt_ga r904.2 275 (Int32.toNatClampNeg x1)))) (Int32.toNatClampNeg z868.2.1)).toInt ∧ (wt_ga σ (255 + (Int32.toNatClampNeg (wt_ga r904.2 275 (Int32.toNatClampNeg x1)))) (Int32.toNatClampNeg z868.2.1)).toInt ≤ 59 := wt_R_ga r0 10 rfl (255 + (Int32.toNatClampNeg (wt_ga r904.2 275 (Int32.toNatClampNeg x1)))) (show 255 ≤ 255 + (Int32.toNatClampNeg (wt_ga r904.2 275 (Int32.toNatClampNeg x1))) by omega) (show 255 + (Int32.toNatClampNeg (wt_ga r904.2 275 (Int32.toNatClampNeg x1))) < 263 by omega) (Int32.toNatClampNeg z868.2.1)
                        refine wt_T_if (fun h931 => ?_) (fun h931 => ?_)
                        · skip
                          have c932 := wt_ceq h931
                          unfold wp_md_page_B196
                          have bb933 := wt_bd z868.1
                          obtain ⟨j934, j934a, j934b⟩ := wt_addI z868.1 (0 : Int32)
                          obtain ⟨j935, j935a, j935b⟩ := wt_addI z868.2.1 (1 : Int32)
                          refine hKK867 _ ⟨(wt_fr.tr (wt_fr.tr wt_fr.rf l870 (fun i k h => h.elim) (fun i h => by (try dsimp only at h); rcases h with h | h; exact Or.inl (by omega); exact Or.inr ((by omega)))) f906 (fun i k h => h.elim) (fun i h => by (try dsimp only at h); rcases h with h | h; exact Or.inl (by omega); exact Or.inr ((by omega)))), (show 0 ≤ ((z868.2.1 + (1 : Int32))).toInt by omega), ri907⟩ ?_
                          show (12 - (z868.2.1 + (1 : Int32)).toInt).toNat < (12 - z868.2.1.toInt).toNat
                          omega
                        · skip
                          have c936 := wt_nceq h931
                          unfold wp_md_page_B196
                          have bb937 := wt_bd z868.1
                          obtain ⟨j938, j938a, j938b⟩ := wt_addI z868.1 (1 : Int32)
                          obtain ⟨j939, j939a, j939b⟩ := wt_addI z868.2.1 (1 : Int32)
                          refine hKK867 _ ⟨(wt_fr.tr (wt_fr.tr wt_fr.rf l870 (fun i k h => h.elim) (fun i h => by (try dsimp only at h); rcases h with h | h; exact Or.inl (by omega); exact Or.inr ((by omega)))) f906 (fun i k h => h.elim) (fun i h => by (try dsimp only at h); rcases h with h | h; exact Or.inl (by omega); exact Or.inr ((by omega)))), (show 0 ≤ ((z868.2.1 + (1 : Int32))).toInt by omega), ri907⟩ ?_
                          show (12 - (z868.2.1 + (1 : Int32)).toInt).toNat < (12 - z868.2.1.toInt).toNat
                          omega
                      · skip
                        have c940 := wt_nceq h902
                        refine wt_T_some ?_
                        exact ⟨(wt_fr.tr (wt_fr.tr (wt_fr.tr (wt_fr.tr wt_fr.rf fσ3 (fun i k h => by (try dsimp only at h); exact (by omega)) (fun i h => h.elim)) f555 (fun i k h => by (try dsimp only at h); exact (by omega)) (fun i h => h.elim)) f831 (fun i k h => by (try dsimp only at h); exact (by omega)) (fun i h => h.elim)) l870 (fun i k h => h.elim) (fun i h => by (try dsimp only at h); rcases h with h | h; exact Or.inl (by omega); exact Or.inr ((by omega)))), l872⟩
                  · skip
                    exact ⟨wt_fr.rf, (show 0 ≤ ((0 : Int32)).toInt by omega), ri832⟩
                  · skip
                    show (12 - (0 : Int32).toInt).toNat < n
                    omega
                · skip
                  have c941 := wt_ncle h865
                  refine wt_T_if (fun h942 => ?_) (fun h942 => ?_)
                  · skip
                    have c943 := wt_ceq h942
                    refine wt_T_gd (wt_ix (by omega) (by omega)) ?_
                    refine wt_T_gd (wt_ix (by omega) (by omega)) ?_
                    have bb944 := wt_tn z849.2.1
                    have bb945 := wt_bd (wt_ga r829.2 (278 + (Int32.toNatClampNeg x1)) (Int32.toNatClampNeg z849.2.1))
                    have g946 : 0 ≤ (wt_ga r829.2 (278 + (Int32.toNatClampNeg x1)) (Int32.toNatClampNeg z849.2.1)).toInt ∧ (wt_ga r829.2 (278 + (Int32.toNatClampNeg x1)) (Int32.toNatClampNeg z849.2.1)).toInt ≤ 337 := wt_R_ga ri832 14 rfl (278 + (Int32.toNatClampNeg x1)) (show 278 ≤ 278 + (Int32.toNatClampNeg x1) by omega) (show 278 + (Int32.toNatClampNeg x1) < 282 by omega) (Int32.toNatClampNeg z849.2.1)
                    have tt947 : (wt_ga r829.2 (278 + (Int32.toNatClampNeg x1)) (Int32.toNatClampNeg z849.2.1)).toInt = (wt_ga r553.2 (278 + (Int32.toNatClampNeg x1)) (Int32.toNatClampNeg z849.2.1)).toInt := congrArg Int32.toInt (f831.2 (278 + (Int32.toNatClampNeg x1)) (fun z => z) (Int32.toNatClampNeg z849.2.1))
                    have bb948 := wt_bd (wt_ga r553.2 (278 + (Int32.toNatClampNeg x1)) (Int32.toNatClampNeg z849.2.1))
                    have g949 : 0 ≤ (wt_ga r553.2 (278 + (Int32.toNatClampNeg x1)) (Int32.toNatClampNeg z849.2.1)).toInt ∧ (wt_ga r553.2 (278 + (Int32.toNatClampNeg x1)) (Int32.toNatClampNeg z849.2.1)).toInt ≤ 337 := wt_R_ga ri556 14 rfl (278 + (Int32.toNatClampNeg x1)) (show 278 ≤ 278 + (Int32.toNatClampNeg x1) by omega) (show 278 + (Int32.toNatClampNeg x1) < 282 by omega) (Int32.toNatClampNeg z849.2.1)
                    have tt950 : (wt_ga r553.2 (278 + (Int32.toNatClampNeg x1)) (Int32.toNatClampNeg z849.2.1)).toInt = (wt_ga σ3 (278 + (Int32.toNatClampNeg x1)) (Int32.toNatClampNeg z849.2.1)).toInt := congrArg Int32.toInt (f555.2 (278 + (Int32.toNatClampNeg x1)) (fun z => z) (Int32.toNatClampNeg z849.2.1))
                    have bb951 := wt_bd (wt_ga σ3 (278 + (Int32.toNatClampNeg x1)) (Int32.toNatClampNeg z849.2.1))
                    have g952 : 0 ≤ (wt_ga σ3 (278 + (Int32.toNatClampNeg x1)) (Int32.toNatClampNeg z849.2.1)).toInt ∧ (wt_ga σ3 (278 + (Int32.toNatClampNeg x1)) (Int32.toNatClampNeg z849.2.1)).toInt ≤ 337 := wt_R_ga rσ3 14 rfl (278 + (Int32.toNatClampNeg x1)) (show 278 ≤ 278 + (Int32.toNatClampNeg x1) by omega) (show 278 + (Int32.toNatClampNeg x1) < 282 by omega) (Int32.toNatClampNeg z849.2.1)
                    have tt953 : (wt_ga σ3 (278 + (Int32.toNatClampNeg x1)) (Int32.toNatClampNeg z849.2.1)).toInt = (wt_ga σ (278 + (Int32.toNatClampNeg x1)) (Int32.toNatClampNeg z849.2.1)).toInt := congrArg Int32.toInt (fσ3.2 (278 + (Int32.toNatClampNeg x1)) (fun z => z) (Int32.toNatClampNeg z849.2.1))
                    have bb954 := wt_bd (wt_ga σ (278 + (Int32.toNatClampNeg x1)) (Int32.toNatClampNeg z849.2.1))
                    have g955 : 0 ≤ (wt_ga σ (278 + (Int32.toNatClampNeg x1)) (Int32.toNatClampNeg z849.2.1)).toInt ∧ (wt_ga σ (278 + (Int32.toNatClampNeg x1)) (Int32.toNatClampNeg z849.2.1)).toInt ≤ 337 := wt_R_ga r0 14 rfl (278 + (Int32.toNatClampNeg x1)) (show 278 ≤ 278 + (Int32.toNatClampNeg x1) by omega) (show 278 + (Int32.toNatClampNeg x1) < 282 by omega) (Int32.toNatClampNeg z849.2.1)
                    refine wt_T_gd (wt_ix (by omega) (by omega)) ?_
                    have bb956 := wt_bd (wt_gf r829.2 108 25)
                    have tt957 : (wt_gf r829.2 108 25).toInt = (wt_gf r553.2 108 25).toInt := congrArg Int32.toInt (f831.1 108 25 (by (try dsimp only); omega))
                    have bb958 := wt_bd (wt_gf r553.2 108 25)
                    have tt959 : (wt_gf r553.2 108 25).toInt = (wt_gf σ3 108 25).toInt := congrArg Int32.toInt (f555.1 108 25 (by (try dsimp only); omega))
                    have bb960 := wt_bd (wt_gf σ3 108 25)
                    have tt961 : (wt_gf σ3 108 25).toInt = (wt_gf σ 108 25).toInt := congrArg Int32.toInt (fσ3.1 108 25 (by (try dsimp only); omega))
                    have bb962 := wt_bd (wt_gf σ 108 25)
                    have bb963 := wt_tn (wt_ga r829.2 (278 + (Int32.toNatClampNeg x1)) (Int32.toNatClampNeg z849.2.1))
                    have bb964 := wt_bd (wt_ga r829.2 121 (Int32.toNatClampNeg (wt_ga r829.2 (278 + (Int32.toNatClampNeg x1)) (Int32.toNatClampNeg z849.2.1))))
                    have g965 : 0 ≤ (wt_ga r829.2 121 (Int32.toNatClampNeg (wt_ga r829.2 (278 + (Int32.toNatClampNeg x1)) (Int32.toNatClampNeg z849.2.1)))).toInt ∧ (wt_ga r829.2 121 (Int32.toNatClampNeg (wt_ga r829.2 (278 + (Int32.toNatClampNeg x1)) (Int32.toNatClampNeg z849.2.1)))).toInt ≤ 400 := wt_R_ga ri832 3 rfl 121 (by decide) (by decide) (Int32.toNatClampNeg (wt_ga r829.2 (278 + (Int32.toNatClampNeg x1)) (Int32.toNatClampNeg z849.2.1)))
                    have tt966 : (wt_ga r829.2 121 (Int32.toNatClampNeg (wt_ga r829.2 (278 + (Int32.toNatClampNeg x1)) (Int32.toNatClampNeg z849.2.1)))).toInt = (wt_ga r553.2 121 (Int32.toNatClampNeg (wt_ga r829.2 (278 + (Int32.toNatClampNeg x1)) (Int32.toNatClampNeg z849.2.1)))).toInt := congrArg Int32.toInt (f831.2 121 (fun z => z) (Int32.toNatClampNeg (wt_ga r829.2 (278 + (Int32.toNatClampNeg x1)) (Int32.toNatClampNeg z849.2.1))))
                    have bb967 := wt_bd (wt_ga r553.2 121 (Int32.toNatClampNeg (wt_ga r829.2 (278 + (Int32.toNatClampNeg x1)) (Int32.toNatClampNeg z849.2.1))))
                    have g968 : 0 ≤ (wt_ga r553.2 121 (Int32.toNatClampNeg (wt_ga r829.2 (278 + (Int32.toNatClampNeg x1)) (Int32.toNatClampNeg z849.2.1)))).toInt ∧ (wt_ga r553.2 121 (Int32.toNatClampNeg (wt_ga r829.2 (278 + (Int32.toNatClampNeg x1)) (Int32.toNatClampNeg z849.2.1)))).toInt ≤ 400 := wt_R_ga ri556 3 rfl 121 (by decide) (by decide) (Int32.toNatClampNeg (wt_ga r829.2 (278 + (Int32.toNatClampNeg x1)) (Int32.toNatClampNeg z849.2.1)))
                    have tt969 : (wt_ga r553.2 121 (Int32.toNatClampNeg (wt_ga r829.2 (278 + (Int32.toNatClampNeg x1)) (Int32.toNatClampNeg z849.2.1)))).toInt = (wt_ga σ3 121 (Int32.toNatClampNeg (wt_ga r829.2 (278 + (Int32.toNatClampNeg x1)) (Int32.toNatClampNeg z849.2.1)))).toInt := congrArg Int32.toInt (f555.2 121 (fun z => z) (Int32.toNatClampNeg (wt_ga r829.2 (278 + (Int32.toNatClampNeg x1)) (Int32.toNatClampNeg z849.2.1))))
                    have bb970 := wt_bd (wt_ga σ3 121 (Int32.toNatClampNeg (wt_ga r829.2 (278 + (Int32.toNatClampNeg x1)) (Int32.toNatClampNeg z849.2.1))))
                    have g971 : 0 ≤ (wt_ga σ3 121 (Int32.toNatClampNeg (wt_ga r829.2 (278 + (Int32.toNatClampNeg x1)) (Int32.toNatClampNeg z849.2.1)))).toInt ∧ (wt_ga σ3 121 (Int32.toNatClampNeg (wt_ga r829.2 (278 + (Int32.toNatClampNeg x1)) (Int32.toNatClampNeg z849.2.1)))).toInt ≤ 400 := wt_R_ga rσ3 3 rfl 121 (by decide) (by decide) (Int32.toNatClampNeg (wt_ga r829.2 (278 + (Int32.toNatClampNeg x1)) (Int32.toNatClampNeg z849.2.1)))
                    have tt972 : (wt_ga σ3 121 (Int32.toNatClampNeg (wt_ga r829.2 (278 + (Int32.toNatClampNeg x1)) (Int32.toNatClampNeg z849.2.1)))).toInt = (wt_ga σ 121 (Int32.toNatClampNeg (wt_ga r829.2 (278 + (Int32.toNatClampNeg x1)) (Int32.toNatClampNeg z849.2.1)))).toInt := congrArg Int32.toInt (fσ3.2 121 (fun z => z) (Int32.toNatClampNeg (wt_ga r829.2 (278 + (Int32.toNatClampNeg x1)) (Int32.toNatClampNeg z849.2.1))))
                    have bb973 := wt_bd (wt_ga σ 121 (Int32.toNatClampNeg (wt_ga r829.2 (278 + (Int32.toNatClampNeg x1)) (Int32.toNatClampNeg z849.2.1))))
                    have g974 : 0 ≤ (wt_ga σ 121 (Int32.toNatClampNeg (wt_ga r829.2 (278 + (Int32.toNatClampNeg x1)) (Int32.toNatClampNeg z849.2.1)))).toInt ∧ (wt_ga σ 121 (Int32.toNatClampNeg (wt_ga r829.2 (278 + (Int32.toNatClampNeg x1)) (Int32.toNatClampNeg z849.2.1)))).toInt ≤ 400 := wt_R_ga r0 3 rfl 121 (by decide) (by decide) (Int32.toNatClampNeg (wt_ga r829.2 (278 + (Int32.toNatClampNeg x1)) (Int32.toNatClampNeg z849.2.1)))
                    refine wt_T_if (fun h975 => ?_) (fun h975 => ?_)
                    · skip
                      have c976 := wt_cle h975
                      unfold wp_md_page_B134
                      have bb977 := wt_bd z849.1
                      obtain ⟨j978, j978a, j978b⟩ := wt_addI z849.1 (0 : Int32)
                      refine hKK848 _ ⟨rfl, (wt_nn (B := wt_ga z849.2.2 276 (Int32.toNatClampNeg x1)) (by omega) (by first | (rw [l851]; omega) | (rw [l851]; done) | omega))⟩ ?_
                      show ((wt_ga r829.2 276 (Int32.toNatClampNeg x1)).toInt - (z849.2.1 + (1 : Int32)).toInt + 0).toNat < ((wt_ga z849.2.2 276 (Int32.toNatClampNeg x1)).toInt - z849.2.1.toInt + 0).toNat
                      exact wt_mu (by first | (rw [l851]; omega) | (rw [l851]; done) | omega) (by first | (rw [l851]; omega) | (rw [l851]; done) | omega)
                    · skip
                      have c979 := wt_ncle h975
                      unfold wp_md_page_B134
                      have bb980 := wt_bd z849.1
                      obtain ⟨j981, j981a, j981b⟩ := wt_addI z849.1 (1 : Int32)
                      refine hKK848 _ ⟨rfl, (wt_nn (B := wt_ga z849.2.2 276 (Int32.toNatClampNeg x1)) (by omega) (by first | (rw [l851]; omega) | (rw [l851]; done) | omega))⟩ ?_
                      show ((wt_ga r829.2 276 (Int32.toNatClampNeg x1)).toInt - (z849.2.1 + (1 : Int32)).toInt + 0).toNat < ((wt_ga z849.2.2 276 (Int32.toNatClampNeg x1)).toInt - z849.2.1.toInt + 0).toNat
                      exact wt_mu (by first | (rw [l851]; omega) | (rw [l851]; done) | omega) (by first | (rw [l851]; omega) | (rw [l851]; done) | omega)
                  · skip
                    have c982 := wt_nceq h942
                    unfold wp_md_page_B142
                    have bb989 := wt_bd z849.1
                    refine wt_T_it (fun s : Int32 × Int32 × wt_St => wt_fr (fun i k => False) (fun i => i = 290 ∨ i = 289) r829.2 s.2.2 ∧ 0 ≤ (s.2.1).toInt ∧ wt_RI s.2.2) (fun s : Int32 × Int32 × wt_St => (12 - s.2.1.toInt).toNat) (fun KK983 z984 I985 hKK983 => ?_) _ _ ?_ ?_
                    · skip
                      obtain ⟨l986, l987, l988⟩ := I985
                      unfold wp_md_page_B145
                      have bb990 := wt_bd z984.2.1
                      refine wt_T_gd (wt_ix (by omega) (by omega)) ?_
                      have bb991 := wt_bd (wt_ga z984.2.2 275 (Int32.toNatClampNeg x1))
                      have g992 : -1 ≤ (wt_ga z984.2.2 275 (Int32.toNatClampNeg x1)).toInt ∧ (wt_ga z984.2.2 275 (Int32.toNatClampNeg x1)).toInt ≤ 7 := wt_R_ga l988 12 rfl 275 (by decide) (by decide) (Int32.toNatClampNeg x1)
                      have tt993 : (wt_ga z984.2.2 275 (Int32.toNatClampNeg x1)).toInt = (wt_ga r829.2 275 (Int32.toNatClampNeg x1)).toInt := congrArg Int32.toInt (l986.2 275 (by (try dsimp only); omega) (Int32.toNatClampNeg x1))
                      have bb994 := wt_bd (wt_ga r829.2 275 (Int32.toNatClampNeg x1))
                      have g995 : -1 ≤ (wt_ga r829.2 275 (Int32.toNatClampNeg x1)).toInt ∧ (wt_ga r829.2 275 (Int32.toNatClampNeg x1)).toInt ≤ 7 := wt_R_ga ri832 12 rfl 275 (by decide) (by decide) (Int32.toNatClampNeg x1)
                      have tt996 : (wt_ga r829.2 275 (Int32.toNatClampNeg x1)).toInt = (wt_ga r553.2 275 (Int32.toNatClampNeg x1)).toInt := congrArg Int32.toInt (f831.2 275 (fun z => z) (Int32.toNatClampNeg x1))
                      have bb997 := wt_bd (wt_ga r553.2 275 (Int32.toNatClampNeg x1))
                      have g998 : -1 ≤ (wt_ga r553.2 275 (Int32.toNatClampNeg x1)).toInt ∧ (wt_ga r553.2 275 (Int32.toNatClampNeg x1)).toInt ≤ 7 := wt_R_ga ri556 12 rfl 275 (by decide) (by decide) (Int32.toNatClampNeg x1)
                      have tt999 : (wt_ga r553.2 275 (Int32.toNatClampNeg x1)).toInt = (wt_ga σ3 275 (Int32.toNatClampNeg x1)).toInt := congrArg Int32.toInt (f555.2 275 (fun z => z) (Int32.toNatClampNeg x1))
                      refine wt_T_gd (wt_ix (by omega) (by omega)) ?_
                      have bb1000 := wt_tn (wt_ga z984.2.2 275 (Int32.toNatClampNeg x1))
                      have bb1001 := wt_bd (wt_ga z984.2.2 253 (Int32.toNatClampNeg (wt_ga z984.2.2 275 (Int32.toNatClampNeg x1))))
                      have g1002 : 0 ≤ (wt_ga z984.2.2 253 (Int32.toNatClampNeg (wt_ga z984.2.2 275 (Int32.toNatClampNeg x1)))).toInt ∧ (wt_ga z984.2.2 253 (Int32.toNatClampNeg (wt_ga z984.2.2 275 (Int32.toNatClampNeg x1)))).toInt ≤ 12 := wt_R_ga l988 9 rfl 253 (by decide) (by decide) (Int32.toNatClampNeg (wt_ga z984.2.2 275 (Int32.toNatClampNeg x1)))
                      have tt1003 : (wt_ga z984.2.2 253 (Int32.toNatClampNeg (wt_ga z984.2.2 275 (Int32.toNatClampNeg x1)))).toInt = (wt_ga r829.2 253 (Int32.toNatClampNeg (wt_ga z984.2.2 275 (Int32.toNatClampNeg x1)))).toInt := congrArg Int32.toInt (l986.2 253 (by (try dsimp only); omega) (Int32.toNatClampNeg (wt_ga z984.2.2 275 (Int32.toNatClampNeg x1))))
                      have bb1004 := wt_bd (wt_ga r829.2 253 (Int32.toNatClampNeg (wt_ga z984.2.2 275 (Int32.toNatClampNeg x1))))
                      have g1005 : 0 ≤ (wt_ga r829.2 253 (Int32.toNatClampNeg (wt_ga z984.2.2 275 (Int32.toNatClampNeg x1)))).toInt ∧ (wt_ga r829.2 253 (Int32.toNatClampNeg (wt_ga z984.2.2 275 (Int32.toNatClampNeg x1)))).toInt ≤ 12 := wt_R_ga ri832 9 rfl 253 (by decide) (by decide) (Int32.toNatClampNeg (wt_ga z984.2.2 275 (Int32.toNatClampNeg x1)))
                      have tt1006 : (wt_ga r829.2 253 (Int32.toNatClampNeg (wt_ga z984.2.2 275 (Int32.toNatClampNeg x1)))).toInt = (wt_ga r553.2 253 (Int32.toNatClampNeg (wt_ga z984.2.2 275 (Int32.toNatClampNeg x1)))).toInt := congrArg Int32.toInt (f831.2 253 (fun z => z) (Int32.toNatClampNeg (wt_ga z984.2.2 275 (Int32.toNatClampNeg x1))))
                      have bb1007 := wt_bd (wt_ga r553.2 253 (Int32.toNatClampNeg (wt_ga z984.2.2 275 (Int32.toNatClampNeg x1))))
                      have g1008 : 0 ≤ (wt_ga r553.2 253 (Int32.toNatClampNeg (wt_ga z984.2.2 275 (Int32.toNatClampNeg x1)))).toInt ∧ (wt_ga r553.2 253 (Int32.toNatClampNeg (wt_ga z984.2.2 275 (Int32.toNatClampNeg x1)))).toInt ≤ 12 := wt_R_ga ri556 9 rfl 253 (by decide) (by decide) (Int32.toNatClampNeg (wt_ga z984.2.2 275 (Int32.toNatClampNeg x1)))
                      have tt1009 : (wt_ga r553.2 253 (Int32.toNatClampNeg (wt_ga z984.2.2 275 (Int32.toNatClampNeg x1)))).toInt = (wt_ga σ3 253 (Int32.toNatClampNeg (wt_ga z984.2.2 275 (Int32.toNatClampNeg x1)))).toInt := congrArg Int32.toInt (f555.2 253 (fun z => z) (Int32.toNatClampNeg (wt_ga z984.2.2 275 (Int32.toNatClampNeg x1))))
                      have bb1010 := wt_bd (wt_ga σ3 253 (Int32.toNatClampNeg (wt_ga z984.2.2 275 (Int32.toNatClampNeg x1))))
                      have g1011 : 0 ≤ (wt_ga σ3 253 (Int32.toNatClampNeg (wt_ga z984.2.2 275 (Int32.toNatClampNeg x1)))).toInt ∧ (wt_ga σ3 253 (Int32.toNatClampNeg (wt_ga z984.2.2 275 (Int32.toNatClampNeg x1)))).toInt ≤ 12 := wt_R_ga rσ3 9 rfl 253 (by decide) (by decide) (Int32.toNatClampNeg (wt_ga z984.2.2 275 (Int32.toNatClampNeg x1)))
                      have tt1012 : (wt_ga σ3 253 (Int32.toNatClampNeg (wt_ga z984.2.2 275 (Int32.toNatClampNeg x1)))).toInt = (wt_ga σ 253 (Int32.toNatClampNeg (wt_ga z984.2.2 275 (Int32.toNatClampNeg x1)))).toInt := congrArg Int32.toInt (fσ3.2 253 (fun z => z) (Int32.toNatClampNeg (wt_ga z984.2.2 275 (Int32.toNatClampNeg x1))))
                      have bb1013 := wt_bd (wt_ga σ 253 (Int32.toNatClampNeg (wt_ga z984.2.2 275 (Int32.toNatClampNeg x1))))
                      have g1014 : 0 ≤ (wt_ga σ 253 (Int32.toNatClampNeg (wt_ga z984.2.2 275 (Int32.toNatClampNeg x1)))).toInt ∧ (wt_ga σ 253 (Int32.toNatClampNeg (wt_ga z984.2.2 275 (Int32.toNatClampNeg x1)))).toInt ≤ 12 := wt_R_ga r0 9 rfl 253 (by decide) (by decide) (Int32.toNatClampNeg (wt_ga z984.2.2 275 (Int32.toNatClampNeg x1)))
                      refine wt_T_if (fun h1015 => ?_) (fun h1015 => ?_)
                      · skip
                        have c1016 := wt_cle h1015
                        refine wt_T_some ?_
                        exact ⟨(wt_fr.tr (wt_fr.tr (wt_fr.tr (wt_fr.tr wt_fr.rf fσ3 (fun i k h => by (try dsimp only at h); exact (by omega)) (fun i h => h.elim)) f555 (fun i k h => by (try dsimp only at h); exact (by omega)) (fun i h => h.elim)) f831 (fun i k h => by (try dsimp only at h); exact (by omega)) (fun i h => h.elim)) l986 (fun i k h => h.elim) (fun i h => by (try dsimp only at h); rcases h with h | h; exact Or.inl (by omega); exact Or.inr ((by omega)))), l988⟩
                      · skip
                        have c1017 := wt_ncle h1015
                        refine wt_T_if (fun h1018 => ?_) (fun h1018 => ?_)
                        · skip
                          have c1019 := wt_ceq h1018
                          refine wt_T_bi (wq_md_readOf n hn x1 z984.2.1 z984.2.2 l988 (by omega) (by omega) (by omega) (by omega) (by omega) (wt_PG_fr (F := fun i k => (i = 108 ∧ k = 0)) (A := fun i => i = 290 ∨ i = 289) r0 p0 (wt_fr.tr (wt_fr.tr (wt_fr.tr (wt_fr.tr wt_fr.rf fσ3 (fun i k h => by (try dsimp only at h); exact (by omega)) (fun i h => h.elim)) f555 (fun i k h => by (try dsimp only at h); exact (by omega)) (fun i h => h.elim)) f831 (fun i k h => by (try dsimp only at h); exact (by omega)) (fun i h => h.elim)) l986 (fun i k h => h.elim) (fun i h => by (try dsimp only at h); rcases h with h | h; exact Or.inl (by omega); exact Or.inr ((by omega)))) (by (try dsimp only); first | omega | exact fun h => h) (fun i hi => by (try dsimp only); unfold wt_PA at hi; omega))) (fun r1020 h1021 => ?_)
                          obtain ⟨f1022, ri1023⟩ := h1021
                          have bb1024 := wt_bd r1020.1
                          refine wt_T_gd (wt_ix (by omega) (by omega)) ?_
                          have bb1025 := wt_bd (wt_ga r1020.2 275 (Int32.toNatClampNeg x1))
                          have g1026 : -1 ≤ (wt_ga r1020.2 275 (Int32.toNatClampNeg x1)).toInt ∧ (wt_ga r1020.2 275 (Int32.toNatClampNeg x1)).toInt ≤ 7 := wt_R_ga ri1023 12 rfl 275 (by decide) (by decide) (Int32.toNatClampNeg x1)
                          have tt1027 : (wt_ga r1020.2 275 (Int32.toNatClampNeg x1)).toInt = (wt_ga z984.2.2 275 (Int32.toNatClampNeg x1)).toInt := congrArg Int32.toInt (f1022.2 275 (by (try dsimp only); omega) (Int32.toNatClampNeg x1))
                          refine wt_T_gd (wt_ix (by omega) (by omega)) ?_
                          refine wt_T_gd (wt_ix (by omega) (by omega)) ?_
                          have bb1028 := wt_tn (wt_ga r1020.2 275 (Int32.toNatClampNeg x1))
                          have bb1029 := wt_tn z984.2.1
                          have bb1030 := wt_bd (wt_ga r1020.2 (255 + (Int32.toNatClampNeg (wt_ga r1020.2 275 (Int32.toNatClampNeg x1)))) (Int32.toNatClampNeg z984.2.1))
                          have g1031 : 0 ≤ (wt_ga r1020.2 (255 + (Int32.toNatClampNeg (wt_ga r1020.2 275 (Int32.toNatClampNeg x1)))) (Int32.toNatClampNeg z984.2.1)).toInt ∧ (wt_ga r1020.2 (255 + (Int32.toNatClampNeg (wt_ga r1020.2 275 (Int32.toNatClampNeg x1)))) (Int32.toNatClampNeg z984.2.1)).toInt ≤ 59 := wt_R_ga ri1023 10 rfl (255 + (Int32.toNatClampNeg (wt_ga r1020.2 275 (Int32.toNatClampNeg x1)))) (show 255 ≤ 255 + (Int32.toNatClampNeg (wt_ga r1020.2 275 (Int32.toNatClampNeg x1))) by omega) (show 255 + (Int32.toNatClampNeg (wt_ga r1020.2 275 (Int32.toNatClampNeg x1))) < 263 by omega) (Int32.toNatClampNeg z984.2.1)
                          have tt1032 : (wt_ga r1020.2 (255 + (Int32.toNatClampNeg (wt_ga r1020.2 275 (Int32.toNatClampNeg x1)))) (Int32.toNatClampNeg z984.2.1)).toInt = (wt_ga z984.2.2 (255 + (Int32.toNatClampNeg (wt_ga r1020.2 275 (Int32.toNatClampNeg x1)))) (Int32.toNatClampNeg z984.2.1)).toInt := congrArg Int32.toInt (f1022.2 (255 + (Int32.toNatClampNeg (wt_ga r1020.2 275 (Int32.toNatClampNeg x1)))) (by (try dsimp only); omega) (Int32.toNatClampNeg z984.2.1))
                          have bb1033 := wt_bd (wt_ga z984.2.2 (255 + (Int32.toNatClampNeg (wt_ga r1020.2 275 (Int32.toNatClampNeg x1)))) (Int32.toNatClampNeg z984.2.1))
                          have g1034 : 0 ≤ (wt_ga z984.2.2 (255 + (Int32.toNatClampNeg (wt_ga r1020.2 275 (Int32.toNatClampNeg x1)))) (Int32.toNatClampNeg z984.2.1)).toInt ∧ (wt_ga z984.2.2 (255 + (Int32.toNatClampNeg (wt_ga r1020.2 275 (Int32.toNatClampNeg x1)))) (Int32.toNatClampNeg z984.2.1)).toInt ≤ 59 := wt_R_ga l988 10 rfl (255 + (Int32.toNatClampNeg (wt_ga r1020.2 275 (Int32.toNatClampNeg x1)))) (show 255 ≤ 255 + (Int32.toNatClampNeg (wt_ga r1020.2 275 (Int32.toNatClampNeg x1))) by omega) (show 255 + (Int32.toNatClampNeg (wt_ga r1020.2 275 (Int32.toNatClampNeg x1))) < 263 by omega) (Int32.toNatClampNeg z984.2.1)
                          have tt1035 : (wt_ga z984.2.2 (255 + (Int32.toNatClampNeg (wt_ga r1020.2 275 (Int32.toNatClampNeg x1)))) (Int32.toNatClampNeg z984.2.1)).toInt = (wt_ga r829.2 (255 + (Int32.toNatClampNeg (wt_ga r1020.2 275 (Int32.toNatClampNeg x1)))) (Int32.toNatClampNeg z984.2.1)).toInt := congrArg Int32.toInt (l986.2 (255 + (Int32.toNatClampNeg (wt_ga r1020.2 275 (Int32.toNatClampNeg x1)))) (by (try dsimp only); omega) (Int32.toNatClampNeg z984.2.1))
                          have bb1036 := wt_bd (wt_ga r829.2 (255 + (Int32.toNatClampNeg (wt_ga r1020.2 275 (Int32.toNatClampNeg x1)))) (Int32.toNatClampNeg z984.2.1))
                          have g1037 : 0 ≤ (wt_ga r829.2 (255 + (Int32.toNatClampNeg (wt_ga r1020.2 275 (Int32.toNatClampNeg x1)))) (Int32.toNatClampNeg z984.2.1)).toInt ∧ (wt_ga r829.2 (255 + (Int32.toNatClampNeg (wt_ga r1020.2 275 (Int32.toNatClampNeg x1)))) (Int32.toNatClampNeg z984.2.1)).toInt ≤ 59 := wt_R_ga ri832 10 rfl (255 + (Int32.toNatClampNeg (wt_ga r1020.2 275 (Int32.toNatClampNeg x1)))) (show 255 ≤ 255 + (Int32.toNatClampNeg (wt_ga r1020.2 275 (Int32.toNatClampNeg x1))) by omega) (show 255 + (Int32.toNatClampNeg (wt_ga r1020.2 275 (Int32.toNatClampNeg x1))) < 263 by omega) (Int32.toNatClampNeg z984.2.1)
                          have tt1038 : (wt_ga r829.2 (255 + (Int32.toNatClampNeg (wt_ga r1020.2 275 (Int32.toNatClampNeg x1)))) (Int32.toNatClampNeg z984.2.1)).toInt = (wt_ga r553.2 (255 + (Int32.toNatClampNeg (wt_ga r1020.2 275 (Int32.toNatClampNeg x1)))) (Int32.toNatClampNeg z984.2.1)).toInt := congrArg Int32.toInt (f831.2 (255 + (Int32.toNatClampNeg (wt_ga r1020.2 275 (Int32.toNatClampNeg x1)))) (fun z => z) (Int32.toNatClampNeg z984.2.1))
                          have bb1039 := wt_bd (wt_ga r553.2 (255 + (Int32.toNatClampNeg (wt_ga r1020.2 275 (Int32.toNatClampNeg x1)))) (Int32.toNatClampNeg z984.2.1))
                          have g1040 : 0 ≤ (wt_ga r553.2 (255 + (Int32.toNatClampNeg (wt_ga r1020.2 275 (Int32.toNatClampNeg x1)))) (Int32.toNatClampNeg z984.2.1)).toInt ∧ (wt_ga r553.2 (255 + (Int32.toNatClampNeg (wt_ga r1020.2 275 (Int32.toNatClampNeg x1)))) (Int32.toNatClampNeg z984.2.1)).toInt ≤ 59 := wt_R_ga ri556 10 rfl (255 + (Int32.toNatClampNeg (wt_ga r1020.2 275 (Int32.toNatClampNeg x1)))) (show 255 ≤ 255 + (Int32.toNatClampNeg (wt_ga r1020.2 275 (Int32.toNatClampNeg x1))) by omega) (show 255 + (Int32.toNatClampNeg (wt_ga r1020.2 275 (Int32.toNatClampNeg x1))) < 263 by omega) (Int32.toNatClampNeg z984.2.1)
                          have tt1041 : (wt_ga r553.2 (255 + (Int32.toNatClampNeg (wt_ga r1020.2 275 (Int32.toNatClampNeg x1)))) (Int32.toNatClampNeg z984.2.1)).toInt = (wt_ga σ3 (255 + (Int32.toNatClampNeg (wt_ga r1020.2 275 (Int32.toNatClampNeg x1)))) (Int32.toNatClampNeg z984.2.1)).toInt := congrArg Int32.toInt (f555.2 (255 + (Int32.toNatClampNeg (wt_ga r1020.2 275 (Int32.toNatClampNeg x1)))) (fun z => z) (Int32.toNatClampNeg z984.2.1))
                          have bb1042 := wt_bd (wt_ga σ3 (255 + (Int32.toNatClampNeg (wt_ga r1020.2 275 (Int32.toNatClampNeg x1)))) (Int32.toNatClampNeg z984.2.1))
                          have g1043 : 0 ≤ (wt_ga σ3 (255 + (Int32.toNatClampNeg (wt_ga r1020.2 275 (Int32.toNatClampNeg x1)))) (Int32.toNatClampNeg z984.2.1)).toInt ∧ (wt_ga σ3 (255 + (Int32.toNatClampNeg (wt_ga r1020.2 275 (Int32.toNatClampNeg x1)))) (Int32.toNatClampNeg z984.2.1)).toInt ≤ 59 := wt_R_ga rσ3 10 rfl (255 + (Int32.toNatClampNeg (wt_ga r1020.2 275 (Int32.toNatClampNeg x1)))) (show 255 ≤ 255 + (Int32.toNatClampNeg (wt_ga r1020.2 275 (Int32.toNatClampNeg x1))) by omega) (show 255 + (Int32.toNatClampNeg (wt_ga r1020.2 275 (Int32.toNatClampNeg x1))) < 263 by omega) (Int32.toNatClampNeg z984.2.1)
                          have tt1044 : (wt_ga σ3 (255 + (Int32.toNatClampNeg (wt_ga r1020.2 275 (Int32.toNatClampNeg x1)))) (Int32.toNatClampNeg z984.2.1)).toInt = (wt_ga σ (255 + (Int32.toNatClampNeg (wt_ga r1020.2 275 (Int32.toNatClampNeg x1)))) (Int32.toNatClampNeg z984.2.1)).toInt := congrArg Int32.toInt (fσ3.2 (255 + (Int32.toNatClampNeg (wt_ga r1020.2 275 (Int32.toNatClampNeg x1)))) (fun z => z) (Int32.toNatClampNeg z984.2.1))
                          have bb1045 := wt_bd (wt_ga σ (255 + (Int32.toNatClampNeg (wt_ga r1020.2 275 (Int32.toNatClampNeg x1)))) (Int32.toNatClampNeg z984.2.1))
                          have g1046 : 0 ≤ (wt_ga σ (255 + (Int32.toNatClampNeg (wt_ga r1020.2 275 (Int32.toNatClampNeg x1)))) (Int32.toNatClampNeg z984.2.1)).toInt ∧ (wt_ga σ (255 + (Int32.toNatClampNeg (wt_ga r1020.2 275 (Int32.toNatClampNeg x1)))) (Int32.toNatClampNeg z984.2.1)).toInt ≤ 59 := wt_R_ga r0 10 rfl (255 + (Int32.toNatClampNeg (wt_ga r1020.2 275 (Int32.toNatClampNeg x1)))) (show 255 ≤ 255 + (Int32.toNatClampNeg (wt_ga r1020.2 275 (Int32.toNatClampNeg x1))) by omega) (show 255 + (Int32.toNatClampNeg (wt_ga r1020.2 275 (Int32.toNatClampNeg x1))) < 263 by omega) (Int32.toNatClampNeg z984.2.1)
                          refine wt_T_if (fun h1047 => ?_) (fun h1047 => ?_)
                          · skip
                            have c1048 := wt_ceq h1047
                            unfold wp_md_page_B196
                            have bb1049 := wt_bd z984.1
                            obtain ⟨j1050, j1050a, j1050b⟩ := wt_addI z984.1 (0 : Int32)
                            obtain ⟨j1051, j1051a, j1051b⟩ := wt_addI z984.2.1 (1 : Int32)
                            refine hKK983 _ ⟨(wt_fr.tr (wt_fr.tr wt_fr.rf l986 (fun i k h => h.elim) (fun i h => by (try dsimp only at h); rcases h with h | h; exact Or.inl (by omega); exact Or.inr ((by omega)))) f1022 (fun i k h => h.elim) (fun i h => by (try dsimp only at h); rcases h with h | h; exact Or.inl (by omega); exact Or.inr ((by omega)))), (show 0 ≤ ((z984.2.1 + (1 : Int32))).toInt by omega), ri1023⟩ ?_
                            show (12 - (z984.2.1 + (1 : Int32)).toInt).toNat < (12 - z984.2.1.toInt).toNat
                            omega
                          · skip
                            have c1052 := wt_nceq h1047
                            unfold wp_md_page_B196
                            have bb1053 := wt_bd z984.1
                            obtain ⟨j1054, j1054a, j1054b⟩ := wt_addI z984.1 (1 : Int32)
                            obtain ⟨j1055, j1055a, j1055b⟩ := wt_addI z984.2.1 (1 : Int32)
                            refine hKK983 _ ⟨(wt_fr.tr (wt_fr.tr wt_fr.rf l986 (fun i k h => h.elim) (fun i h => by (try dsimp only at h); rcases h with h | h; exact Or.inl (by omega); exact Or.inr ((by omega)))) f1022 (fun i k h => h.elim) (fun i h => by (try dsimp only at h); rcases h with h | h; exact Or.inl (by omega); exact Or.inr ((by omega)))), (show 0 ≤ ((z984.2.1 + (1 : Int32))).toInt by omega), ri1023⟩ ?_
                            show (12 - (z984.2.1 + (1 : Int32)).toInt).toNat < (12 - z984.2.1.toInt).toNat
                            omega
                        · skip
                          have c1056 := wt_nceq h1018
                          refine wt_T_some ?_
                          exact ⟨(wt_fr.tr (wt_fr.tr (wt_fr.tr (wt_fr.tr wt_fr.rf fσ3 (fun i k h => by (try dsimp only at h); exact (by omega)) (fun i h => h.elim)) f555 (fun i k h => by (try dsimp only at h); exact (by omega)) (fun i h => h.elim)) f831 (fun i k h => by (try dsimp only at h); exact (by omega)) (fun i h => h.elim)) l986 (fun i k h => h.elim) (fun i h => by (try dsimp only at h); rcases h with h | h; exact Or.inl (by omega); exact Or.inr ((by omega)))), l988⟩
                    · skip
                      exact ⟨wt_fr.rf, (show 0 ≤ ((0 : Int32)).toInt by omega), ri832⟩
                    · skip
                      show (12 - (0 : Int32).toInt).toNat < n
                      omega
              · skip
                have bb1057 := wt_bd (wt_ga r829.2 276 (Int32.toNatClampNeg x1))
                have g1058 : 0 ≤ (wt_ga r829.2 276 (Int32.toNatClampNeg x1)).toInt ∧ (wt_ga r829.2 276 (Int32.toNatClampNeg x1)).toInt ≤ 108 := wt_R_ga ri832 13 rfl 276 (by decide) (by decide) (Int32.toNatClampNeg x1)
                have tt1059 : (wt_ga r829.2 276 (Int32.toNatClampNeg x1)).toInt = (wt_ga r553.2 276 (Int32.toNatClampNeg x1)).toInt := congrArg Int32.toInt (f831.2 276 (fun z => z) (Int32.toNatClampNeg x1))
                have bb1060 := wt_bd (wt_ga r553.2 276 (Int32.toNatClampNeg x1))
                have g1061 : 0 ≤ (wt_ga r553.2 276 (Int32.toNatClampNeg x1)).toInt ∧ (wt_ga r553.2 276 (Int32.toNatClampNeg x1)).toInt ≤ 108 := wt_R_ga ri556 13 rfl 276 (by decide) (by decide) (Int32.toNatClampNeg x1)
                have tt1062 : (wt_ga r553.2 276 (Int32.toNatClampNeg x1)).toInt = (wt_ga σ3 276 (Int32.toNatClampNeg x1)).toInt := congrArg Int32.toInt (f555.2 276 (fun z => z) (Int32.toNatClampNeg x1))
                have bb1063 := wt_bd (wt_ga σ3 276 (Int32.toNatClampNeg x1))
                have g1064 : 0 ≤ (wt_ga σ3 276 (Int32.toNatClampNeg x1)).toInt ∧ (wt_ga σ3 276 (Int32.toNatClampNeg x1)).toInt ≤ 108 := wt_R_ga rσ3 13 rfl 276 (by decide) (by decide) (Int32.toNatClampNeg x1)
                have tt1065 : (wt_ga σ3 276 (Int32.toNatClampNeg x1)).toInt = (wt_ga σ 276 (Int32.toNatClampNeg x1)).toInt := congrArg Int32.toInt (fσ3.2 276 (fun z => z) (Int32.toNatClampNeg x1))
                have bb1066 := wt_bd (wt_ga σ 276 (Int32.toNatClampNeg x1))
                have g1067 : 0 ≤ (wt_ga σ 276 (Int32.toNatClampNeg x1)).toInt ∧ (wt_ga σ 276 (Int32.toNatClampNeg x1)).toInt ≤ 108 := wt_R_ga r0 13 rfl 276 (by decide) (by decide) (Int32.toNatClampNeg x1)
                exact ⟨rfl, (show 0 ≤ ((0 : Int32)).toInt by omega)⟩
              · skip
                have bb1068 := wt_bd (wt_ga r829.2 276 (Int32.toNatClampNeg x1))
                have g1069 : 0 ≤ (wt_ga r829.2 276 (Int32.toNatClampNeg x1)).toInt ∧ (wt_ga r829.2 276 (Int32.toNatClampNeg x1)).toInt ≤ 108 := wt_R_ga ri832 13 rfl 276 (by decide) (by decide) (Int32.toNatClampNeg x1)
                have tt1070 : (wt_ga r829.2 276 (Int32.toNatClampNeg x1)).toInt = (wt_ga r553.2 276 (Int32.toNatClampNeg x1)).toInt := congrArg Int32.toInt (f831.2 276 (fun z => z) (Int32.toNatClampNeg x1))
                have bb1071 := wt_bd (wt_ga r553.2 276 (Int32.toNatClampNeg x1))
                have g1072 : 0 ≤ (wt_ga r553.2 276 (Int32.toNatClampNeg x1)).toInt ∧ (wt_ga r553.2 276 (Int32.toNatClampNeg x1)).toInt ≤ 108 := wt_R_ga ri556 13 rfl 276 (by decide) (by decide) (Int32.toNatClampNeg x1)
                have tt1073 : (wt_ga r553.2 276 (Int32.toNatClampNeg x1)).toInt = (wt_ga σ3 276 (Int32.toNatClampNeg x1)).toInt := congrArg Int32.toInt (f555.2 276 (fun z => z) (Int32.toNatClampNeg x1))
                have bb1074 := wt_bd (wt_ga σ3 276 (Int32.toNatClampNeg x1))
                have g1075 : 0 ≤ (wt_ga σ3 276 (Int32.toNatClampNeg x1)).toInt ∧ (wt_ga σ3 276 (Int32.toNatClampNeg x1)).toInt ≤ 108 := wt_R_ga rσ3 13 rfl 276 (by decide) (by decide) (Int32.toNatClampNeg x1)
                have tt1076 : (wt_ga σ3 276 (Int32.toNatClampNeg x1)).toInt = (wt_ga σ 276 (Int32.toNatClampNeg x1)).toInt := congrArg Int32.toInt (fσ3.2 276 (fun z => z) (Int32.toNatClampNeg x1))
                have bb1077 := wt_bd (wt_ga σ 276 (Int32.toNatClampNeg x1))
                have g1078 : 0 ≤ (wt_ga σ 276 (Int32.toNatClampNeg x1)).toInt ∧ (wt_ga σ 276 (Int32.toNatClampNeg x1)).toInt ≤ 108 := wt_R_ga r0 13 rfl 276 (by decide) (by decide) (Int32.toNatClampNeg x1)
                show ((wt_ga r829.2 276 (Int32.toNatClampNeg x1)).toInt - (0 : Int32).toInt + 0).toNat < n
                omega
          · skip
            have c1079 := wt_ncle h838
            refine wt_T_if (fun h1080 => ?_) (fun h1080 => ?_)
            · skip
              have c1081 := wt_ceq h1080
              refine wt_T_gd (wt_ix (by omega) (by omega)) ?_
              refine wt_T_some ?_
              exact ⟨(wt_fr.tr (wt_fr.tr (wt_fr.tr wt_fr.rf fσ3 (fun i k h => by (try dsimp only at h); exact (by omega)) (fun i h => h.elim)) f555 (fun i k h => by (try dsimp only at h); exact (by omega)) (fun i h => h.elim)) f831 (fun i k h => by (try dsimp only at h); exact (by omega)) (fun i h => h.elim)), ri832⟩
            · skip
              have c1082 := wt_nceq h1080
              refine wt_T_gd (wt_ix (by omega) (by omega)) ?_
              refine wt_T_some ?_
              exact ⟨(wt_fr.tr (wt_fr.tr (wt_fr.tr wt_fr.rf fσ3 (fun i k h => by (try dsimp only at h); exact (by omega)) (fun i h => h.elim)) f555 (fun i k h => by (try dsimp only at h); exact (by omega)) (fun i h => h.elim)) f831 (fun i k h => by (try dsimp only at h); exact (by omega)) (fun i h => h.elim)), ri832⟩
        · skip
          have c1083 := wt_nceq h836
          refine wt_T_some ?_
          exact ⟨(wt_fr.tr (wt_fr.tr (wt_fr.tr wt_fr.rf fσ3 (fun i k h => by (try dsimp only at h); exact (by omega)) (fun i h => h.elim)) f555 (fun i k h => by (try dsimp only at h); exact (by omega)) (fun i h => h.elim)) f831 (fun i k h => by (try dsimp only at h); exact (by omega)) (fun i h => h.elim)), ri832⟩
    · skip
      have c1084 := wt_nceq h561
      refine wt_T_some ?_
      exact ⟨(wt_fr.tr (wt_fr.tr wt_fr.rf fσ3 (fun i k h => by (try dsimp only at h); exact (by omega)) (fun i h => h.elim)) f555 (fun i k h => by (try dsimp only at h); exact (by omega)) (fun i h => h.elim)), ri556⟩
set_option maxRecDepth 100000 in
set_option maxHeartbeats 4000000 in
theorem wq_md_piece (n : Nat) (hn : 4294967297 < n) (x1 : Int32) (x2 : Int32) (x3 : Int32) (σ : wt_St) (r0 : wt_RI σ) : wt_T (wp_md_piece n x1 x2 x3 σ) (fun q => wt_fr (fun i k => (i = 108 ∧ k = 0)) (fun i => False) σ q.2 ∧ wt_RI q.2) := by
  have bb1 := wt_bd x1
  have bb2 := wt_bd x2
  have bb3 := wt_bd x3
  unfold wp_md_piece
  obtain ⟨σ4, eσ4⟩ : ∃ z : wt_St, z = wt_sf σ 108 0 (0 : Int32) := ⟨_, rfl⟩
  rw [← eσ4]
  have fσ4 := wt_fr_sf eσ4
  have vσ4 := wt_ceq (wt_v_sf eσ4)
  have k5 : (0 : Int32).toInt = 0 := by decide
  have rσ4 := wt_RI_fno r0 eσ4 (Or.inr (by decide))
  refine wt_T_bi (wq_md_isLetter n hn x1 σ4 rσ4) (fun r6 h7 => ?_)
  obtain ⟨e8, pp9⟩ := h7
  have bb10 := wt_bd r6.1
  rw [e8]
  refine wt_T_if (fun h11 => ?_) (fun h11 => ?_)
  · skip
    have c12 := wt_ceq h11
    unfold wp_md_piece_B18
    have k13 : (1 : Int32).toInt = 1 := by decide
    have k14 : (2 : Int32).toInt = 2 := by decide
    refine wt_T_bi (wq_md_bad n hn (1 : Int32) (2 : Int32) σ4 rσ4 (by omega)) (fun r15 h16 => ?_)
    obtain ⟨f17, ri18, pp19⟩ := h16
    have bb20 := wt_bd r15.1
    have bb21 := wt_bd (wt_gf r15.2 108 0)
    have bb22 := wt_bd (wt_gf σ4 108 0)
    refine wt_T_if (fun h23 => ?_) (fun h23 => ?_)
    · skip
      have c24 := wt_ceq h23
      refine wt_T_gd (wt_ix (by omega) (by omega)) ?_
      have bb25 := wt_tn x1
      have bb26 := wt_bd (wt_ga r15.2 111 (Int32.toNatClampNeg x1))
      have g27 : 0 ≤ (wt_ga r15.2 111 (Int32.toNatClampNeg x1)).toInt ∧ (wt_ga r15.2 111 (Int32.toNatClampNeg x1)).toInt ≤ 13 := wt_R_ga ri18 1 rfl 111 (by decide) (by decide) (Int32.toNatClampNeg x1)
      have tt28 : (wt_ga r15.2 111 (Int32.toNatClampNeg x1)).toInt = (wt_ga σ4 111 (Int32.toNatClampNeg x1)).toInt := congrArg Int32.toInt (f17.2 111 (fun z => z) (Int32.toNatClampNeg x1))
      have bb29 := wt_bd (wt_ga σ4 111 (Int32.toNatClampNeg x1))
      have g30 : 0 ≤ (wt_ga σ4 111 (Int32.toNatClampNeg x1)).toInt ∧ (wt_ga σ4 111 (Int32.toNatClampNeg x1)).toInt ≤ 13 := wt_R_ga rσ4 1 rfl 111 (by decide) (by decide) (Int32.toNatClampNeg x1)
      have tt31 : (wt_ga σ4 111 (Int32.toNatClampNeg x1)).toInt = (wt_ga σ 111 (Int32.toNatClampNeg x1)).toInt := congrArg Int32.toInt (fσ4.2 111 (fun z => z) (Int32.toNatClampNeg x1))
      have bb32 := wt_bd (wt_ga σ 111 (Int32.toNatClampNeg x1))
      have g33 : 0 ≤ (wt_ga σ 111 (Int32.toNatClampNeg x1)).toInt ∧ (wt_ga σ 111 (Int32.toNatClampNeg x1)).toInt ≤ 13 := wt_R_ga r0 1 rfl 111 (by decide) (by decide) (Int32.toNatClampNeg x1)
      obtain ⟨j34, j34a, j34b⟩ := wt_subI (wt_ga r15.2 111 (Int32.toNatClampNeg x1)) (1 : Int32)
      refine wt_T_bi (wq_md_in n hn x2 (0 : Int32) ((wt_ga r15.2 111 (Int32.toNatClampNeg x1)) - (1 : Int32)) r15.2 ri18) (fun r35 h36 => ?_)
      obtain ⟨e37, pp38⟩ := h36
      have bb39 := wt_bd r35.1
      rw [e37]
      refine wt_T_if (fun h40 => ?_) (fun h40 => ?_)
      · skip
        have c41 := wt_ceq h40
        unfold wp_md_piece_B47
        refine wt_T_bi (wq_md_bad n hn (1 : Int32) (1 : Int32) r15.2 ri18 (by omega)) (fun r42 h43 => ?_)
        obtain ⟨f44, ri45, pp46⟩ := h43
        have bb47 := wt_bd r42.1
        have bb48 := wt_bd (wt_gf r42.2 108 0)
        refine wt_T_if (fun h49 => ?_) (fun h49 => ?_)
        · skip
          have c50 := wt_ceq h49
          refine wt_T_bi (wq_md_in n hn x3 (0 : Int32) (1 : Int32) r42.2 ri45) (fun r51 h52 => ?_)
          obtain ⟨e53, pp54⟩ := h52
          have bb55 := wt_bd r51.1
          rw [e53]
          refine wt_T_if (fun h56 => ?_) (fun h56 => ?_)
          · skip
            have c57 := wt_ceq h56
            unfold wp_md_piece_B69
            refine wt_T_bi (wq_md_bad n hn (1 : Int32) (2 : Int32) r42.2 ri45 (by omega)) (fun r58 h59 => ?_)
            obtain ⟨f60, ri61, pp62⟩ := h59
            have bb63 := wt_bd r58.1
            have bb64 := wt_bd (wt_gf r58.2 108 0)
            refine wt_T_if (fun h65 => ?_) (fun h65 => ?_)
            · skip
              have c66 := wt_ceq h65
              refine wt_T_if (fun h67 => ?_) (fun h67 => ?_)
              · skip
                have c68 := wt_ceq h67
                refine wt_T_bi (wq_md_cell n hn x1 x2 r58.2 ri61 (by omega) (by omega) (by omega) (by omega)) (fun r69 h70 => ?_)
                obtain ⟨e71, pp72⟩ := h70
                have bb73 := wt_bd r69.1
                rw [e71]
                refine wt_T_gd (wt_ix (by omega) (by omega)) ?_
                refine wt_T_some ?_
                exact ⟨(wt_fr.tr (wt_fr.tr (wt_fr.tr (wt_fr.tr wt_fr.rf fσ4 (fun i k h => by (try dsimp only at h); exact (by omega)) (fun i h => h.elim)) f17 (fun i k h => by (try dsimp only at h); exact (by omega)) (fun i h => h.elim)) f44 (fun i k h => by (try dsimp only at h); exact (by omega)) (fun i h => h.elim)) f60 (fun i k h => by (try dsimp only at h); exact (by omega)) (fun i h => h.elim)), ri61⟩
              · skip
                have c74 := wt_nceq h67
                refine wt_T_bi (wq_md_cell n hn x1 x2 r58.2 ri61 (by omega) (by omega) (by omega) (by omega)) (fun r75 h76 => ?_)
                obtain ⟨e77, pp78⟩ := h76
                have bb79 := wt_bd r75.1
                rw [e77]
                refine wt_T_gd (wt_ix (by omega) (by omega)) ?_
                refine wt_T_some ?_
                exact ⟨(wt_fr.tr (wt_fr.tr (wt_fr.tr (wt_fr.tr wt_fr.rf fσ4 (fun i k h => by (try dsimp only at h); exact (by omega)) (fun i h => h.elim)) f17 (fun i k h => by (try dsimp only at h); exact (by omega)) (fun i h => h.elim)) f44 (fun i k h => by (try dsimp only at h); exact (by omega)) (fun i h => h.elim)) f60 (fun i k h => by (try dsimp only at h); exact (by omega)) (fun i h => h.elim)), ri61⟩
            · skip
              have c80 := wt_nceq h65
              refine wt_T_some ?_
              exact ⟨(wt_fr.tr (wt_fr.tr (wt_fr.tr (wt_fr.tr wt_fr.rf fσ4 (fun i k h => by (try dsimp only at h); exact (by omega)) (fun i h => h.elim)) f17 (fun i k h => by (try dsimp only at h); exact (by omega)) (fun i h => h.elim)) f44 (fun i k h => by (try dsimp only at h); exact (by omega)) (fun i h => h.elim)) f60 (fun i k h => by (try dsimp only at h); exact (by omega)) (fun i h => h.elim)), ri61⟩
          · skip
            have c81 := wt_nceq h56
            unfold wp_md_piece_B69
            refine wt_T_bi (wq_md_bad n hn (0 : Int32) (2 : Int32) r42.2 ri45 (by omega)) (fun r82 h83 => ?_)
            obtain ⟨f84, ri85, pp86⟩ := h83
            have bb87 := wt_bd r82.1
            have bb88 := wt_bd (wt_gf r82.2 108 0)
            refine wt_T_if (fun h89 => ?_) (fun h89 => ?_)
            · skip
              have c90 := wt_ceq h89
              refine wt_T_if (fun h91 => ?_) (fun h91 => ?_)
              · skip
                have c92 := wt_ceq h91
                refine wt_T_bi (wq_md_cell n hn x1 x2 r82.2 ri85 (by omega) (by omega) (by omega) (by omega)) (fun r93 h94 => ?_)
                obtain ⟨e95, pp96⟩ := h94
                have bb97 := wt_bd r93.1
                rw [e95]
                refine wt_T_gd (wt_ix (by omega) (by omega)) ?_
                refine wt_T_some ?_
                exact ⟨(wt_fr.tr (wt_fr.tr (wt_fr.tr (wt_fr.tr wt_fr.rf fσ4 (fun i k h => by (try dsimp only at h); exact (by omega)) (fun i h => h.elim)) f17 (fun i k h => by (try dsimp only at h); exact (by omega)) (fun i h => h.elim)) f44 (fun i k h => by (try dsimp only at h); exact (by omega)) (fun i h => h.elim)) f84 (fun i k h => by (try dsimp only at h); exact (by omega)) (fun i h => h.elim)), ri85⟩
              · skip
                have c98 := wt_nceq h91
                refine wt_T_bi (wq_md_cell n hn x1 x2 r82.2 ri85 (by omega) (by omega) (by omega) (by omega)) (fun r99 h100 => ?_)
                obtain ⟨e101, pp102⟩ := h100
                have bb103 := wt_bd r99.1
                rw [e101]
                refine wt_T_gd (wt_ix (by omega) (by omega)) ?_
                refine wt_T_some ?_
                exact ⟨(wt_fr.tr (wt_fr.tr (wt_fr.tr (wt_fr.tr wt_fr.rf fσ4 (fun i k h => by (try dsimp only at h); exact (by omega)) (fun i h => h.elim)) f17 (fun i k h => by (try dsimp only at h); exact (by omega)) (fun i h => h.elim)) f44 (fun i k h => by (try dsimp only at h); exact (by omega)) (fun i h => h.elim)) f84 (fun i k h => by (try dsimp only at h); exact (by omega)) (fun i h => h.elim)), ri85⟩
            · skip
              have c104 := wt_nceq h89
              refine wt_T_some ?_
              exact ⟨(wt_fr.tr (wt_fr.tr (wt_fr.tr (wt_fr.tr wt_fr.rf fσ4 (fun i k h => by (try dsimp only at h); exact (by omega)) (fun i h => h.elim)) f17 (fun i k h => by (try dsimp only at h); exact (by omega)) (fun i h => h.elim)) f44 (fun i k h => by (try dsimp only at h); exact (by omega)) (fun i h => h.elim)) f84 (fun i k h => by (try dsimp only at h); exact (by omega)) (fun i h => h.elim)), ri85⟩
        · skip
          have c105 := wt_nceq h49
          refine wt_T_some ?_
          exact ⟨(wt_fr.tr (wt_fr.tr (wt_fr.tr wt_fr.rf fσ4 (fun i k h => by (try dsimp only at h); exact (by omega)) (fun i h => h.elim)) f17 (fun i k h => by (try dsimp only at h); exact (by omega)) (fun i h => h.elim)) f44 (fun i k h => by (try dsimp only at h); exact (by omega)) (fun i h => h.elim)), ri45⟩
      · skip
        have c106 := wt_nceq h40
        unfold wp_md_piece_B47
        refine wt_T_bi (wq_md_bad n hn (0 : Int32) (1 : Int32) r15.2 ri18 (by omega)) (fun r107 h108 => ?_)
        obtain ⟨f109, ri110, pp111⟩ := h108
        have bb112 := wt_bd r107.1
        have bb113 := wt_bd (wt_gf r107.2 108 0)
        refine wt_T_if (fun h114 => ?_) (fun h114 => ?_)
        · skip
          have c115 := wt_ceq h114
          refine wt_T_bi (wq_md_in n hn x3 (0 : Int32) (1 : Int32) r107.2 ri110) (fun r116 h117 => ?_)
          obtain ⟨e118, pp119⟩ := h117
          have bb120 := wt_bd r116.1
          rw [e118]
          refine wt_T_if (fun h121 => ?_) (fun h121 => ?_)
          · skip
            have c122 := wt_ceq h121
            unfold wp_md_piece_B69
            refine wt_T_bi (wq_md_bad n hn (1 : Int32) (2 : Int32) r107.2 ri110 (by omega)) (fun r123 h124 => ?_)
            obtain ⟨f125, ri126, pp127⟩ := h124
            have bb128 := wt_bd r123.1
            have bb129 := wt_bd (wt_gf r123.2 108 0)
            refine wt_T_if (fun h130 => ?_) (fun h130 => ?_)
            · skip
              have c131 := wt_ceq h130
              refine wt_T_if (fun h132 => ?_) (fun h132 => ?_)
              · skip
                have c133 := wt_ceq h132
                refine wt_T_bi (wq_md_cell n hn x1 x2 r123.2 ri126 (by omega) (by omega) (by omega) (by omega)) (fun r134 h135 => ?_)
                obtain ⟨e136, pp137⟩ := h135
                have bb138 := wt_bd r134.1
                rw [e136]
                refine wt_T_gd (wt_ix (by omega) (by omega)) ?_
                refine wt_T_some ?_
                exact ⟨(wt_fr.tr (wt_fr.tr (wt_fr.tr (wt_fr.tr wt_fr.rf fσ4 (fun i k h => by (try dsimp only at h); exact (by omega)) (fun i h => h.elim)) f17 (fun i k h => by (try dsimp only at h); exact (by omega)) (fun i h => h.elim)) f109 (fun i k h => by (try dsimp only at h); exact (by omega)) (fun i h => h.elim)) f125 (fun i k h => by (try dsimp only at h); exact (by omega)) (fun i h => h.elim)), ri126⟩
              · skip
                have c139 := wt_nceq h132
                refine wt_T_bi (wq_md_cell n hn x1 x2 r123.2 ri126 (by omega) (by omega) (by omega) (by omega)) (fun r140 h141 => ?_)
                obtain ⟨e142, pp143⟩ := h141
                have bb144 := wt_bd r140.1
                rw [e142]
                refine wt_T_gd (wt_ix (by omega) (by omega)) ?_
                refine wt_T_some ?_
                exact ⟨(wt_fr.tr (wt_fr.tr (wt_fr.tr (wt_fr.tr wt_fr.rf fσ4 (fun i k h => by (try dsimp only at h); exact (by omega)) (fun i h => h.elim)) f17 (fun i k h => by (try dsimp only at h); exact (by omega)) (fun i h => h.elim)) f109 (fun i k h => by (try dsimp only at h); exact (by omega)) (fun i h => h.elim)) f125 (fun i k h => by (try dsimp only at h); exact (by omega)) (fun i h => h.elim)), ri126⟩
            · skip
              have c145 := wt_nceq h130
              refine wt_T_some ?_
              exact ⟨(wt_fr.tr (wt_fr.tr (wt_fr.tr (wt_fr.tr wt_fr.rf fσ4 (fun i k h => by (try dsimp only at h); exact (by omega)) (fun i h => h.elim)) f17 (fun i k h => by (try dsimp only at h); exact (by omega)) (fun i h => h.elim)) f109 (fun i k h => by (try dsimp only at h); exact (by omega)) (fun i h => h.elim)) f125 (fun i k h => by (try dsimp only at h); exact (by omega)) (fun i h => h.elim)), ri126⟩
          · skip
            have c146 := wt_nceq h121
            unfold wp_md_piece_B69
            refine wt_T_bi (wq_md_bad n hn (0 : Int32) (2 : Int32) r107.2 ri110 (by omega)) (fun r147 h148 => ?_)
            obtain ⟨f149, ri150, pp151⟩ := h148
            have bb152 := wt_bd r147.1
            have bb153 := wt_bd (wt_gf r147.2 108 0)
            refine wt_T_if (fun h154 => ?_) (fun h154 => ?_)
            · skip
              have c155 := wt_ceq h154
              refine wt_T_if (fun h156 => ?_) (fun h156 => ?_)
              · skip
                have c157 := wt_ceq h156
                refine wt_T_bi (wq_md_cell n hn x1 x2 r147.2 ri150 (by omega) (by omega) (by omega) (by omega)) (fun r158 h159 => ?_)
                obtain ⟨e160, pp161⟩ := h159
                have bb162 := wt_bd r158.1
                rw [e160]
                refine wt_T_gd (wt_ix (by omega) (by omega)) ?_
                refine wt_T_some ?_
                exact ⟨(wt_fr.tr (wt_fr.tr (wt_fr.tr (wt_fr.tr wt_fr.rf fσ4 (fun i k h => by (try dsimp only at h); exact (by omega)) (fun i h => h.elim)) f17 (fun i k h => by (try dsimp only at h); exact (by omega)) (fun i h => h.elim)) f109 (fun i k h => by (try dsimp only at h); exact (by omega)) (fun i h => h.elim)) f149 (fun i k h => by (try dsimp only at h); exact (by omega)) (fun i h => h.elim)), ri150⟩
              · skip
                have c163 := wt_nceq h156
                refine wt_T_bi (wq_md_cell n hn x1 x2 r147.2 ri150 (by omega) (by omega) (by omega) (by omega)) (fun r164 h165 => ?_)
                obtain ⟨e166, pp167⟩ := h165
                have bb168 := wt_bd r164.1
                rw [e166]
                refine wt_T_gd (wt_ix (by omega) (by omega)) ?_
                refine wt_T_some ?_
                exact ⟨(wt_fr.tr (wt_fr.tr (wt_fr.tr (wt_fr.tr wt_fr.rf fσ4 (fun i k h => by (try dsimp only at h); exact (by omega)) (fun i h => h.elim)) f17 (fun i k h => by (try dsimp only at h); exact (by omega)) (fun i h => h.elim)) f109 (fun i k h => by (try dsimp only at h); exact (by omega)) (fun i h => h.elim)) f149 (fun i k h => by (try dsimp only at h); exact (by omega)) (fun i h => h.elim)), ri150⟩
            · skip
              have c169 := wt_nceq h154
              refine wt_T_some ?_
              exact ⟨(wt_fr.tr (wt_fr.tr (wt_fr.tr (wt_fr.tr wt_fr.rf fσ4 (fun i k h => by (try dsimp only at h); exact (by omega)) (fun i h => h.elim)) f17 (fun i k h => by (try dsimp only at h); exact (by omega)) (fun i h => h.elim)) f109 (fun i k h => by (try dsimp only at h); exact (by omega)) (fun i h => h.elim)) f149 (fun i k h => by (try dsimp only at h); exact (by omega)) (fun i h => h.elim)), ri150⟩
        · skip
          have c170 := wt_nceq h114
          refine wt_T_some ?_
          exact ⟨(wt_fr.tr (wt_fr.tr (wt_fr.tr wt_fr.rf fσ4 (fun i k h => by (try dsimp only at h); exact (by omega)) (fun i h => h.elim)) f17 (fun i k h => by (try dsimp only at h); exact (by omega)) (fun i h => h.elim)) f109 (fun i k h => by (try dsimp only at h); exact (by omega)) (fun i h => h.elim)), ri110⟩
    · skip
      have c171 := wt_nceq h23
      refine wt_T_some ?_
      exact ⟨(wt_fr.tr (wt_fr.tr wt_fr.rf fσ4 (fun i k h => by (try dsimp only at h); exact (by omega)) (fun i h => h.elim)) f17 (fun i k h => by (try dsimp only at h); exact (by omega)) (fun i h => h.elim)), ri18⟩
  · skip
    have c172 := wt_nceq h11
    unfold wp_md_piece_B18
    have k173 : (2 : Int32).toInt = 2 := by decide
    refine wt_T_bi (wq_md_bad n hn (0 : Int32) (2 : Int32) σ4 rσ4 (by omega)) (fun r174 h175 => ?_)
    obtain ⟨f176, ri177, pp178⟩ := h175
    have bb179 := wt_bd r174.1
    have bb180 := wt_bd (wt_gf r174.2 108 0)
    have bb181 := wt_bd (wt_gf σ4 108 0)
    refine wt_T_if (fun h182 => ?_) (fun h182 => ?_)
    · skip
      have c183 := wt_ceq h182
      refine wt_T_gd (wt_ix (by omega) (by omega)) ?_
      have bb184 := wt_tn x1
      have bb185 := wt_bd (wt_ga r174.2 111 (Int32.toNatClampNeg x1))
      have g186 : 0 ≤ (wt_ga r174.2 111 (Int32.toNatClampNeg x1)).toInt ∧ (wt_ga r174.2 111 (Int32.toNatClampNeg x1)).toInt ≤ 13 := wt_R_ga ri177 1 rfl 111 (by decide) (by decide) (Int32.toNatClampNeg x1)
      have tt187 : (wt_ga r174.2 111 (Int32.toNatClampNeg x1)).toInt = (wt_ga σ4 111 (Int32.toNatClampNeg x1)).toInt := congrArg Int32.toInt (f176.2 111 (fun z => z) (Int32.toNatClampNeg x1))
      have bb188 := wt_bd (wt_ga σ4 111 (Int32.toNatClampNeg x1))
      have g189 : 0 ≤ (wt_ga σ4 111 (Int32.toNatClampNeg x1)).toInt ∧ (wt_ga σ4 111 (Int32.toNatClampNeg x1)).toInt ≤ 13 := wt_R_ga rσ4 1 rfl 111 (by decide) (by decide) (Int32.toNatClampNeg x1)
      have tt190 : (wt_ga σ4 111 (Int32.toNatClampNeg x1)).toInt = (wt_ga σ 111 (Int32.toNatClampNeg x1)).toInt := congrArg Int32.toInt (fσ4.2 111 (fun z => z) (Int32.toNatClampNeg x1))
      have bb191 := wt_bd (wt_ga σ 111 (Int32.toNatClampNeg x1))
      have g192 : 0 ≤ (wt_ga σ 111 (Int32.toNatClampNeg x1)).toInt ∧ (wt_ga σ 111 (Int32.toNatClampNeg x1)).toInt ≤ 13 := wt_R_ga r0 1 rfl 111 (by decide) (by decide) (Int32.toNatClampNeg x1)
      have k193 : (1 : Int32).toInt = 1 := by decide
      obtain ⟨j194, j194a, j194b⟩ := wt_subI (wt_ga r174.2 111 (Int32.toNatClampNeg x1)) (1 : Int32)
      refine wt_T_bi (wq_md_in n hn x2 (0 : Int32) ((wt_ga r174.2 111 (Int32.toNatClampNeg x1)) - (1 : Int32)) r174.2 ri177) (fun r195 h196 => ?_)
      obtain ⟨e197, pp198⟩ := h196
      have bb199 := wt_bd r195.1
      rw [e197]
      refine wt_T_if (fun h200 => ?_) (fun h200 => ?_)
      · skip
        have c201 := wt_ceq h200
        unfold wp_md_piece_B47
        refine wt_T_bi (wq_md_bad n hn (1 : Int32) (1 : Int32) r174.2 ri177 (by omega)) (fun r202 h203 => ?_)
        obtain ⟨f204, ri205, pp206⟩ := h203
        have bb207 := wt_bd r202.1
        have bb208 := wt_bd (wt_gf r202.2 108 0)
        refine wt_T_if (fun h209 => ?_) (fun h209 => ?_)
        · skip
          have c210 := wt_ceq h209
          refine wt_T_bi (wq_md_in n hn x3 (0 : Int32) (1 : Int32) r202.2 ri205) (fun r211 h212 => ?_)
          obtain ⟨e213, pp214⟩ := h212
          have bb215 := wt_bd r211.1
          rw [e213]
          refine wt_T_if (fun h216 => ?_) (fun h216 => ?_)
          · skip
            have c217 := wt_ceq h216
            unfold wp_md_piece_B69
            refine wt_T_bi (wq_md_bad n hn (1 : Int32) (2 : Int32) r202.2 ri205 (by omega)) (fun r218 h219 => ?_)
            obtain ⟨f220, ri221, pp222⟩ := h219
            have bb223 := wt_bd r218.1
            have bb224 := wt_bd (wt_gf r218.2 108 0)
            refine wt_T_if (fun h225 => ?_) (fun h225 => ?_)
            · skip
              have c226 := wt_ceq h225
              refine wt_T_if (fun h227 => ?_) (fun h227 => ?_)
              · skip
                have c228 := wt_ceq h227
                refine wt_T_bi (wq_md_cell n hn x1 x2 r218.2 ri221 (by omega) (by omega) (by omega) (by omega)) (fun r229 h230 => ?_)
                obtain ⟨e231, pp232⟩ := h230
                have bb233 := wt_bd r229.1
                rw [e231]
                refine wt_T_gd (wt_ix (by omega) (by omega)) ?_
                refine wt_T_some ?_
                exact ⟨(wt_fr.tr (wt_fr.tr (wt_fr.tr (wt_fr.tr wt_fr.rf fσ4 (fun i k h => by (try dsimp only at h); exact (by omega)) (fun i h => h.elim)) f176 (fun i k h => by (try dsimp only at h); exact (by omega)) (fun i h => h.elim)) f204 (fun i k h => by (try dsimp only at h); exact (by omega)) (fun i h => h.elim)) f220 (fun i k h => by (try dsimp only at h); exact (by omega)) (fun i h => h.elim)), ri221⟩
              · skip
                have c234 := wt_nceq h227
                refine wt_T_bi (wq_md_cell n hn x1 x2 r218.2 ri221 (by omega) (by omega) (by omega) (by omega)) (fun r235 h236 => ?_)
                obtain ⟨e237, pp238⟩ := h236
                have bb239 := wt_bd r235.1
                rw [e237]
                refine wt_T_gd (wt_ix (by omega) (by omega)) ?_
                refine wt_T_some ?_
                exact ⟨(wt_fr.tr (wt_fr.tr (wt_fr.tr (wt_fr.tr wt_fr.rf fσ4 (fun i k h => by (try dsimp only at h); exact (by omega)) (fun i h => h.elim)) f176 (fun i k h => by (try dsimp only at h); exact (by omega)) (fun i h => h.elim)) f204 (fun i k h => by (try dsimp only at h); exact (by omega)) (fun i h => h.elim)) f220 (fun i k h => by (try dsimp only at h); exact (by omega)) (fun i h => h.elim)), ri221⟩
            · skip
              have c240 := wt_nceq h225
              refine wt_T_some ?_
              exact ⟨(wt_fr.tr (wt_fr.tr (wt_fr.tr (wt_fr.tr wt_fr.rf fσ4 (fun i k h => by (try dsimp only at h); exact (by omega)) (fun i h => h.elim)) f176 (fun i k h => by (try dsimp only at h); exact (by omega)) (fun i h => h.elim)) f204 (fun i k h => by (try dsimp only at h); exact (by omega)) (fun i h => h.elim)) f220 (fun i k h => by (try dsimp only at h); exact (by omega)) (fun i h => h.elim)), ri221⟩
          · skip
            have c241 := wt_nceq h216
            unfold wp_md_piece_B69
            refine wt_T_bi (wq_md_bad n hn (0 : Int32) (2 : Int32) r202.2 ri205 (by omega)) (fun r242 h243 => ?_)
            obtain ⟨f244, ri245, pp246⟩ := h243
            have bb247 := wt_bd r242.1
            have bb248 := wt_bd (wt_gf r242.2 108 0)
            refine wt_T_if (fun h249 => ?_) (fun h249 => ?_)
            · skip
              have c250 := wt_ceq h249
              refine wt_T_if (fun h251 => ?_) (fun h251 => ?_)
              · skip
                have c252 := wt_ceq h251
                refine wt_T_bi (wq_md_cell n hn x1 x2 r242.2 ri245 (by omega) (by omega) (by omega) (by omega)) (fun r253 h254 => ?_)
                obtain ⟨e255, pp256⟩ := h254
                have bb257 := wt_bd r253.1
                rw [e255]
                refine wt_T_gd (wt_ix (by omega) (by omega)) ?_
                refine wt_T_some ?_
                exact ⟨(wt_fr.tr (wt_fr.tr (wt_fr.tr (wt_fr.tr wt_fr.rf fσ4 (fun i k h => by (try dsimp only at h); exact (by omega)) (fun i h => h.elim)) f176 (fun i k h => by (try dsimp only at h); exact (by omega)) (fun i h => h.elim)) f204 (fun i k h => by (try dsimp only at h); exact (by omega)) (fun i h => h.elim)) f244 (fun i k h => by (try dsimp only at h); exact (by omega)) (fun i h => h.elim)), ri245⟩
              · skip
                have c258 := wt_nceq h251
                refine wt_T_bi (wq_md_cell n hn x1 x2 r242.2 ri245 (by omega) (by omega) (by omega) (by omega)) (fun r259 h260 => ?_)
                obtain ⟨e261, pp262⟩ := h260
                have bb263 := wt_bd r259.1
                rw [e261]
                refine wt_T_gd (wt_ix (by omega) (by omega)) ?_
                refine wt_T_some ?_
                exact ⟨(wt_fr.tr (wt_fr.tr (wt_fr.tr (wt_fr.tr wt_fr.rf fσ4 (fun i k h => by (try dsimp only at h); exact (by omega)) (fun i h => h.elim)) f176 (fun i k h => by (try dsimp only at h); exact (by omega)) (fun i h => h.elim)) f204 (fun i k h => by (try dsimp only at h); exact (by omega)) (fun i h => h.elim)) f244 (fun i k h => by (try dsimp only at h); exact (by omega)) (fun i h => h.elim)), ri245⟩
            · skip
              have c264 := wt_nceq h249
              refine wt_T_some ?_
              exact ⟨(wt_fr.tr (wt_fr.tr (wt_fr.tr (wt_fr.tr wt_fr.rf fσ4 (fun i k h => by (try dsimp only at h); exact (by omega)) (fun i h => h.elim)) f176 (fun i k h => by (try dsimp only at h); exact (by omega)) (fun i h => h.elim)) f204 (fun i k h => by (try dsimp only at h); exact (by omega)) (fun i h => h.elim)) f244 (fun i k h => by (try dsimp only at h); exact (by omega)) (fun i h => h.elim)), ri245⟩
        · skip
          have c265 := wt_nceq h209
          refine wt_T_some ?_
          exact ⟨(wt_fr.tr (wt_fr.tr (wt_fr.tr wt_fr.rf fσ4 (fun i k h => by (try dsimp only at h); exact (by omega)) (fun i h => h.elim)) f176 (fun i k h => by (try dsimp only at h); exact (by omega)) (fun i h => h.elim)) f204 (fun i k h => by (try dsimp only at h); exact (by omega)) (fun i h => h.elim)), ri205⟩
      · skip
        have c266 := wt_nceq h200
        unfold wp_md_piece_B47
        refine wt_T_bi (wq_md_bad n hn (0 : Int32) (1 : Int32) r174.2 ri177 (by omega)) (fun r267 h268 => ?_)
        obtain ⟨f269, ri270, pp271⟩ := h268
        have bb272 := wt_bd r267.1
        have bb273 := wt_bd (wt_gf r267.2 108 0)
        refine wt_T_if (fun h274 => ?_) (fun h274 => ?_)
        · skip
          have c275 := wt_ceq h274
          refine wt_T_bi (wq_md_in n hn x3 (0 : Int32) (1 : Int32) r267.2 ri270) (fun r276 h277 => ?_)
          obtain ⟨e278, pp279⟩ := h277
          have bb280 := wt_bd r276.1
          rw [e278]
          refine wt_T_if (fun h281 => ?_) (fun h281 => ?_)
          · skip
            have c282 := wt_ceq h281
            unfold wp_md_piece_B69
            refine wt_T_bi (wq_md_bad n hn (1 : Int32) (2 : Int32) r267.2 ri270 (by omega)) (fun r283 h284 => ?_)
            obtain ⟨f285, ri286, pp287⟩ := h284
            have bb288 := wt_bd r283.1
            have bb289 := wt_bd (wt_gf r283.2 108 0)
            refine wt_T_if (fun h290 => ?_) (fun h290 => ?_)
            · skip
              have c291 := wt_ceq h290
              refine wt_T_if (fun h292 => ?_) (fun h292 => ?_)
              · skip
                have c293 := wt_ceq h292
                refine wt_T_bi (wq_md_cell n hn x1 x2 r283.2 ri286 (by omega) (by omega) (by omega) (by omega)) (fun r294 h295 => ?_)
                obtain ⟨e296, pp297⟩ := h295
                have bb298 := wt_bd r294.1
                rw [e296]
                refine wt_T_gd (wt_ix (by omega) (by omega)) ?_
                refine wt_T_some ?_
                exact ⟨(wt_fr.tr (wt_fr.tr (wt_fr.tr (wt_fr.tr wt_fr.rf fσ4 (fun i k h => by (try dsimp only at h); exact (by omega)) (fun i h => h.elim)) f176 (fun i k h => by (try dsimp only at h); exact (by omega)) (fun i h => h.elim)) f269 (fun i k h => by (try dsimp only at h); exact (by omega)) (fun i h => h.elim)) f285 (fun i k h => by (try dsimp only at h); exact (by omega)) (fun i h => h.elim)), ri286⟩
              · skip
                have c299 := wt_nceq h292
                refine wt_T_bi (wq_md_cell n hn x1 x2 r283.2 ri286 (by omega) (by omega) (by omega) (by omega)) (fun r300 h301 => ?_)
                obtain ⟨e302, pp303⟩ := h301
                have bb304 := wt_bd r300.1
                rw [e302]
                refine wt_T_gd (wt_ix (by omega) (by omega)) ?_
                refine wt_T_some ?_
                exact ⟨(wt_fr.tr (wt_fr.tr (wt_fr.tr (wt_fr.tr wt_fr.rf fσ4 (fun i k h => by (try dsimp only at h); exact (by omega)) (fun i h => h.elim)) f176 (fun i k h => by (try dsimp only at h); exact (by omega)) (fun i h => h.elim)) f269 (fun i k h => by (try dsimp only at h); exact (by omega)) (fun i h => h.elim)) f285 (fun i k h => by (try dsimp only at h); exact (by omega)) (fun i h => h.elim)), ri286⟩
            · skip
              have c305 := wt_nceq h290
              refine wt_T_some ?_
              exact ⟨(wt_fr.tr (wt_fr.tr (wt_fr.tr (wt_fr.tr wt_fr.rf fσ4 (fun i k h => by (try dsimp only at h); exact (by omega)) (fun i h => h.elim)) f176 (fun i k h => by (try dsimp only at h); exact (by omega)) (fun i h => h.elim)) f269 (fun i k h => by (try dsimp only at h); exact (by omega)) (fun i h => h.elim)) f285 (fun i k h => by (try dsimp only at h); exact (by omega)) (fun i h => h.elim)), ri286⟩
          · skip
            have c306 := wt_nceq h281
            unfold wp_md_piece_B69
            refine wt_T_bi (wq_md_bad n hn (0 : Int32) (2 : Int32) r267.2 ri270 (by omega)) (fun r307 h308 => ?_)
            obtain ⟨f309, ri310, pp311⟩ := h308
            have bb312 := wt_bd r307.1
            have bb313 := wt_bd (wt_gf r307.2 108 0)
            refine wt_T_if (fun h314 => ?_) (fun h314 => ?_)
            · skip
              have c315 := wt_ceq h314
              refine wt_T_if (fun h316 => ?_) (fun h316 => ?_)
              · skip
                have c317 := wt_ceq h316
                refine wt_T_bi (wq_md_cell n hn x1 x2 r307.2 ri310 (by omega) (by omega) (by omega) (by omega)) (fun r318 h319 => ?_)
                obtain ⟨e320, pp321⟩ := h319
                have bb322 := wt_bd r318.1
                rw [e320]
                refine wt_T_gd (wt_ix (by omega) (by omega)) ?_
                refine wt_T_some ?_
                exact ⟨(wt_fr.tr (wt_fr.tr (wt_fr.tr (wt_fr.tr wt_fr.rf fσ4 (fun i k h => by (try dsimp only at h); exact (by omega)) (fun i h => h.elim)) f176 (fun i k h => by (try dsimp only at h); exact (by omega)) (fun i h => h.elim)) f269 (fun i k h => by (try dsimp only at h); exact (by omega)) (fun i h => h.elim)) f309 (fun i k h => by (try dsimp only at h); exact (by omega)) (fun i h => h.elim)), ri310⟩
              · skip
                have c323 := wt_nceq h316
                refine wt_T_bi (wq_md_cell n hn x1 x2 r307.2 ri310 (by omega) (by omega) (by omega) (by omega)) (fun r324 h325 => ?_)
                obtain ⟨e326, pp327⟩ := h325
                have bb328 := wt_bd r324.1
                rw [e326]
                refine wt_T_gd (wt_ix (by omega) (by omega)) ?_
                refine wt_T_some ?_
                exact ⟨(wt_fr.tr (wt_fr.tr (wt_fr.tr (wt_fr.tr wt_fr.rf fσ4 (fun i k h => by (try dsimp only at h); exact (by omega)) (fun i h => h.elim)) f176 (fun i k h => by (try dsimp only at h); exact (by omega)) (fun i h => h.elim)) f269 (fun i k h => by (try dsimp only at h); exact (by omega)) (fun i h => h.elim)) f309 (fun i k h => by (try dsimp only at h); exact (by omega)) (fun i h => h.elim)), ri310⟩
            · skip
              have c329 := wt_nceq h314
              refine wt_T_some ?_
              exact ⟨(wt_fr.tr (wt_fr.tr (wt_fr.tr (wt_fr.tr wt_fr.rf fσ4 (fun i k h => by (try dsimp only at h); exact (by omega)) (fun i h => h.elim)) f176 (fun i k h => by (try dsimp only at h); exact (by omega)) (fun i h => h.elim)) f269 (fun i k h => by (try dsimp only at h); exact (by omega)) (fun i h => h.elim)) f309 (fun i k h => by (try dsimp only at h); exact (by omega)) (fun i h => h.elim)), ri310⟩
        · skip
          have c330 := wt_nceq h274
          refine wt_T_some ?_
          exact ⟨(wt_fr.tr (wt_fr.tr (wt_fr.tr wt_fr.rf fσ4 (fun i k h => by (try dsimp only at h); exact (by omega)) (fun i h => h.elim)) f176 (fun i k h => by (try dsimp only at h); exact (by omega)) (fun i h => h.elim)) f269 (fun i k h => by (try dsimp only at h); exact (by omega)) (fun i h => h.elim)), ri270⟩
    · skip
      have c331 := wt_nceq h182
      refine wt_T_some ?_
      exact ⟨(wt_fr.tr (wt_fr.tr wt_fr.rf fσ4 (fun i k h => by (try dsimp only at h); exact (by omega)) (fun i h => h.elim)) f176 (fun i k h => by (try dsimp only at h); exact (by omega)) (fun i h => h.elim)), ri177⟩
set_option maxRecDepth 100000 in
set_option maxHeartbeats 4000000 in
theorem wq_md_leastOfP (n : Nat) (hn : 4294967297 < n) (x1 : Int32) (σ : wt_St) (r0 : wt_RI σ) (p0 : 0 ≤ x1.toInt) (p1 : x1.toInt ≤ 3) : wt_T (wp_md_leastOf n x1 σ) (fun q => q.2 = σ ∧ ∀ k : Nat, (k : Int) < (wt_ga σ 276 (Int32.toNatClampNeg x1)).toInt → q.1.toInt ≤ (wt_ga σ 121 (Int32.toNatClampNeg (wt_ga σ (278 + Int32.toNatClampNeg x1) k))).toInt) := by
  unfold wp_md_leastOf
  have k0 : (0 : Int32).toInt = 0 := by decide
  have hx := wt_tnI p0
  have gm : 0 ≤ (wt_ga σ 276 (Int32.toNatClampNeg x1)).toInt ∧ (wt_ga σ 276 (Int32.toNatClampNeg x1)).toInt ≤ 108 := wt_R_ga r0 13 rfl 276 (by decide) (by decide) _
  refine wt_T_it (fun s : Int32 × Int32 × wt_St => s.2.2 = σ ∧ 0 ≤ s.2.1.toInt ∧ ∀ k : Nat, (k : Int) < s.2.1.toInt → s.1.toInt ≤ (wt_ga σ 121 (Int32.toNatClampNeg (wt_ga σ (278 + Int32.toNatClampNeg x1) k))).toInt) (fun s => ((wt_ga σ 276 (Int32.toNatClampNeg x1)).toInt - s.2.1.toInt).toNat) (fun K z hI hK => ?_) n _ ?_ ?_
  · obtain ⟨e, l1, l2⟩ := hI
    have et := wt_tnI l1
    unfold wp_md_leastOf_B6
    rw [e]
    refine wt_T_gd (wt_ix (by omega) (by omega)) ?_
    refine wt_T_if (fun h => ?_) (fun h => ?_)
    · have c := wt_cle h
      exact wt_T_some ⟨rfl, fun k hk => l2 k (by omega)⟩
    · have c := wt_ncle h
      have gc : 0 ≤ (wt_ga σ (278 + Int32.toNatClampNeg x1) (Int32.toNatClampNeg z.2.1)).toInt ∧ (wt_ga σ (278 + Int32.toNatClampNeg x1) (Int32.toNatClampNeg z.2.1)).toInt ≤ 337 := wt_R_ga r0 14 rfl (278 + Int32.toNatClampNeg x1) (show 278 ≤ 278 + Int32.toNatClampNeg x1 by omega) (show 278 + Int32.toNatClampNeg x1 < 282 by omega) _
      have ei := wt_i1 (c := z.2.1) (by omega)
      have step : ∀ v : Int32, v.toInt ≤ z.1.toInt → v.toInt ≤ (wt_ga σ 121 (Int32.toNatClampNeg (wt_ga σ (278 + Int32.toNatClampNeg x1) (Int32.toNatClampNeg z.2.1)))).toInt → wt_T (wp_md_leastOf_B50 n x1 z.2.1 K v σ) (fun q => q.2 = σ ∧ ∀ k : Nat, (k : Int) < (wt_ga σ 276 (Int32.toNatClampNeg x1)).toInt → q.1.toInt ≤ (wt_ga σ 121 (Int32.toNatClampNeg (wt_ga σ (278 + Int32.toNatClampNeg x1) k))).toInt) := by
        intro v h1 h2
        unfold wp_md_leastOf_B50
        refine hK _ ⟨rfl, (show 0 ≤ (z.2.1 + (1 : Int32)).toInt by omega), fun k hk => ?_⟩ (show ((wt_ga σ 276 (Int32.toNatClampNeg x1)).toInt - (z.2.1 + (1 : Int32)).toInt).toNat < ((wt_ga σ 276 (Int32.toNatClampNeg x1)).toInt - z.2.1.toInt).toNat by omega)
        have hk' : (k : Int) < (z.2.1 + (1 : Int32)).toInt := hk
        show v.toInt ≤ _
        by_cases hc : k = Int32.toNatClampNeg z.2.1
        · rw [hc]
          exact h2
        · have := l2 k (by omega)
          omega
      refine wt_T_gd (wt_ix (by omega) (by omega)) ?_
      refine wt_T_gd (wt_ix (by omega) (by omega)) ?_
      refine wt_T_gd (wt_ix (by omega) (by omega)) ?_
      refine wt_T_if (fun h2 => ?_) (fun h2 => ?_)
      · have c2 := wt_cle h2
        exact step _ (Int.le_refl _) c2
      · have c2 := wt_ncle h2
        refine wt_T_gd (wt_ix (by omega) (by omega)) ?_
        refine wt_T_gd (wt_ix (by omega) (by omega)) ?_
        refine wt_T_gd (wt_ix (by omega) (by omega)) ?_
        exact step _ (by omega) (Int.le_refl _)
  · refine ⟨rfl, (show 0 ≤ (0 : Int32).toInt by omega), fun k hk => ?_⟩
    have hk' : (k : Int) < (0 : Int32).toInt := hk
    omega
  · show ((wt_ga σ 276 (Int32.toNatClampNeg x1)).toInt - (0 : Int32).toInt).toNat < n
    omega
set_option maxRecDepth 100000 in
set_option maxHeartbeats 4000000 in
theorem wq_md_print_B39 (n : Nat) (hn : 4294967297 < n) (x1 : Int32) (x2 : Int32) (y1 : Int32) (σ : wt_St) (r0 : wt_RI σ) (p0 : y1.toInt ≠ 0 ∨ (0 ≤ x1.toInt ∧ x1.toInt ≤ 3 ∧ 1 ≤ x2.toInt ∧ x2.toInt ≤ 400)) (p1 : wt_PD σ) : wt_T (wp_md_print_B39 n x1 x2 y1 σ) (fun q => wt_fr (fun i k => (i = 108 ∧ k = 0)) (fun i => i = 121) σ q.2 ∧ wt_RI q.2) := by
  unfold wp_md_print_B39
  have k0 : (0 : Int32).toInt = 0 := by decide
  have k2 : (2 : Int32).toInt = 2 := by decide
  refine wt_T_bi (wq_md_bad n hn y1 (2 : Int32) σ r0 (by omega)) (fun b hb => ?_)
  obtain ⟨fb, rb, vb⟩ := hb
  have fb' : wt_fr (fun i k => (i = 108 ∧ k = 0)) (fun i => i = 121) σ b.2 := wt_fr.tr wt_fr.rf fb (fun i k h => h) (fun i h => h.elim)
  refine wt_T_if (fun h => ?_) (fun h => wt_T_some ⟨fb', rb⟩)
  have c := wt_ceq h
  have hp : 0 ≤ x1.toInt ∧ x1.toInt ≤ 3 ∧ 1 ≤ x2.toInt ∧ x2.toInt ≤ 400 := by
    rcases p0 with p0 | p0
    · exfalso; omega
    · exact p0
  have hx := wt_tnI hp.1
  refine wt_T_bi (wq_md_leastOfP n hn x1 b.2 rb hp.1 hp.2.1) (fun m hm => ?_)
  obtain ⟨em, vm⟩ := hm
  rw [em]
  refine wt_T_if (fun h2 => ?_) (fun h2 => wt_T_some ⟨fb', rb⟩)
  have c2 := wt_cle h2
  have gm : 0 ≤ (wt_ga b.2 276 (Int32.toNatClampNeg x1)).toInt ∧ (wt_ga b.2 276 (Int32.toNatClampNeg x1)).toInt ≤ 108 := wt_R_ga rb 13 rfl 276 (by decide) (by decide) _
  have gcell : ∀ k, 0 ≤ (wt_ga b.2 (278 + Int32.toNatClampNeg x1) k).toInt ∧ (wt_ga b.2 (278 + Int32.toNatClampNeg x1) k).toInt ≤ 337 := fun k => wt_R_ga rb 14 rfl (278 + Int32.toNatClampNeg x1) (show 278 ≤ 278 + Int32.toNatClampNeg x1 by omega) (show 278 + Int32.toNatClampNeg x1 < 282 by omega) k
  have pd : ∀ k k' : Nat, k' < k → (k : Int) < (wt_ga b.2 276 (Int32.toNatClampNeg x1)).toInt → wt_ga b.2 (278 + Int32.toNatClampNeg x1) k' ≠ wt_ga b.2 (278 + Int32.toNatClampNeg x1) k := fun k k' h1 h2 => by
    rw [fb.2 276 (fun h => h)] at h2
    rw [fb.2 _ (fun h => h), fb.2 _ (fun h => h)]
    exact p1 (Int32.toNatClampNeg x1) (by omega) k k' h1 h2
  refine wt_T_it (fun s : Int32 × Int32 × wt_St => wt_fr (fun _ _ => False) (fun i => i = 121) b.2 s.2.2 ∧ wt_RI s.2.2 ∧ 0 ≤ s.2.1.toInt ∧ ∀ k : Nat, s.2.1.toInt ≤ (k : Int) → (k : Int) < (wt_ga b.2 276 (Int32.toNatClampNeg x1)).toInt → x2.toInt ≤ (wt_ga s.2.2 121 (Int32.toNatClampNeg (wt_ga b.2 (278 + Int32.toNatClampNeg x1) k))).toInt) (fun s => ((wt_ga b.2 276 (Int32.toNatClampNeg x1)).toInt - s.2.1.toInt).toNat) (fun K y hJ hK => ?_) n _ ?_ ?_
  · obtain ⟨fy, ry, m1, m2⟩ := hJ
    have ey := wt_tnI m1
    have tc : wt_ga y.2.2 (278 + Int32.toNatClampNeg x1) (Int32.toNatClampNeg y.2.1) = wt_ga b.2 (278 + Int32.toNatClampNeg x1) (Int32.toNatClampNeg y.2.1) := fy.2 _ (by omega) _
    unfold wp_md_print_B64
    rw [fy.2 276 (by decide), tc]
    refine wt_T_gd (wt_ix (by omega) (by omega)) ?_
    refine wt_T_if (fun h3 => wt_T_some ⟨wt_fr.tr fb' fy (fun i k (h : False) => h.elim) (fun i h => h), ry⟩) (fun h3 => ?_)
    · have c3 := wt_ncle h3
      have gc := gcell (Int32.toNatClampNeg y.2.1)
      have hge := m2 (Int32.toNatClampNeg y.2.1) (by omega) (by omega)
      have gl : 0 ≤ (wt_ga y.2.2 121 (Int32.toNatClampNeg (wt_ga b.2 (278 + Int32.toNatClampNeg x1) (Int32.toNatClampNeg y.2.1)))).toInt ∧ (wt_ga y.2.2 121 (Int32.toNatClampNeg (wt_ga b.2 (278 + Int32.toNatClampNeg x1) (Int32.toNatClampNeg y.2.1)))).toInt ≤ 400 := wt_R_ga ry 3 rfl 121 (by decide) (by decide) _
      refine wt_T_gd (wt_ix (by omega) (by omega)) ?_
      refine wt_T_gd (wt_ix (by omega) (by omega)) ?_
      refine wt_T_gd (wt_ix (by omega) (by omega)) ?_
      refine wt_T_gd (wt_ix (by omega) (by omega)) ?_
      refine wt_T_gd (wt_ix (by omega) (by omega)) ?_
      refine wt_T_gd (wt_ix (by omega) (by omega)) ?_
      have es := wt_subE (x := wt_ga y.2.2 121 (Int32.toNatClampNeg (wt_ga b.2 (278 + Int32.toNatClampNeg x1) (Int32.toNatClampNeg y.2.1)))) (y := x2) (by omega) (by omega)
      obtain ⟨σ1, ε1⟩ : ∃ o : wt_St, o = wt_sa y.2.2 121 (Int32.toNatClampNeg (wt_ga b.2 (278 + Int32.toNatClampNeg x1) (Int32.toNatClampNeg y.2.1))) ((wt_ga y.2.2 121 (Int32.toNatClampNeg (wt_ga b.2 (278 + Int32.toNatClampNeg x1) (Int32.toNatClampNeg y.2.1)))) - x2) := ⟨_, rfl⟩
      rw [← ε1]
      have f1 := wt_fr_sa ε1
      have r1 := wt_RI_in ry ε1 3 rfl (by decide) (by decide) (show 0 ≤ ((wt_ga y.2.2 121 (Int32.toNatClampNeg (wt_ga b.2 (278 + Int32.toNatClampNeg x1) (Int32.toNatClampNeg y.2.1)))) - x2).toInt by omega) (show ((wt_ga y.2.2 121 (Int32.toNatClampNeg (wt_ga b.2 (278 + Int32.toNatClampNeg x1) (Int32.toNatClampNeg y.2.1)))) - x2).toInt ≤ 400 by omega)
      rw [f1.2 (278 + Int32.toNatClampNeg x1) (by omega) (Int32.toNatClampNeg y.2.1), tc]
      refine wt_T_gd (wt_ix (by omega) (by omega)) ?_
      have ei := wt_i1 (c := y.2.1) (by omega)
      have step : ∀ v : Int32, wt_T (wp_md_print_B116 n x1 x2 y.2.1 K y.1 v σ1) (fun q => wt_fr (fun i k => (i = 108 ∧ k = 0)) (fun i => i = 121) σ q.2 ∧ wt_RI q.2) := by
        intro v
        unfold wp_md_print_B116
        refine hK _ ⟨wt_fr.tr fy f1 (fun i k h => h) (fun i h => h), r1, (show 0 ≤ (y.2.1 + (1 : Int32)).toInt by omega), fun k hk hk2 => ?_⟩ (show ((wt_ga b.2 276 (Int32.toNatClampNeg x1)).toInt - (y.2.1 + (1 : Int32)).toInt).toNat < ((wt_ga b.2 276 (Int32.toNatClampNeg x1)).toInt - y.2.1.toInt).toNat by omega)
        have hk' : (y.2.1 + (1 : Int32)).toInt ≤ (k : Int) := hk
        show x2.toInt ≤ (wt_ga σ1 121 (Int32.toNatClampNeg (wt_ga b.2 (278 + Int32.toNatClampNeg x1) k))).toInt
        have gk := gcell k
        have hd := pd k (Int32.toNatClampNeg y.2.1) (by omega) hk2
        rw [wt_w_sa ε1 _ (fun w => hd (wt_eqI (by have := wt_tnI gk.1; have := wt_tnI gc.1; omega)))]
        exact m2 k (by omega) hk2
      exact wt_T_if (fun _ => step _) (fun _ => step _)
  · refine ⟨wt_fr.rf, rb, (show 0 ≤ (0 : Int32).toInt by omega), fun k _ hk2 => ?_⟩
    exact Int.le_trans c2 (vm k hk2)
  · show ((wt_ga b.2 276 (Int32.toNatClampNeg x1)).toInt - (0 : Int32).toInt).toNat < n
    omega

set_option maxRecDepth 100000 in
set_option maxHeartbeats 4000000 in
theorem wq_md_print (n : Nat) (hn : 4294967297 < n) (x1 : Int32) (x2 : Int32) (σ : wt_St) (r0 : wt_RI σ) (p0 : wt_PD σ) : wt_T (wp_md_print n x1 x2 σ) (fun q => wt_fr (fun i k => (i = 108 ∧ k = 0)) (fun i => i = 121) σ q.2 ∧ wt_RI q.2) := by
  have bb1 := wt_bd x1
  have bb2 := wt_bd x2
  unfold wp_md_print
  obtain ⟨σ3, eσ3⟩ : ∃ z : wt_St, z = wt_sf σ 108 0 (0 : Int32) := ⟨_, rfl⟩
  rw [← eσ3]
  have fσ3 := wt_fr_sf eσ3
  have vσ3 := wt_ceq (wt_v_sf eσ3)
  have k4 : (0 : Int32).toInt = 0 := by decide
  have rσ3 := wt_RI_fno r0 eσ3 (Or.inr (by decide))
  refine wt_T_bi (wq_md_isPage n hn x1 σ3 rσ3) (fun r5 h6 => ?_)
  obtain ⟨e7, pp8⟩ := h6
  have bb9 := wt_bd r5.1
  rw [e7]
  have bb10 := wt_tn x1
  have bb11 := wt_bd (wt_ga σ3 275 (Int32.toNatClampNeg x1))
  have g12 : -1 ≤ (wt_ga σ3 275 (Int32.toNatClampNeg x1)).toInt ∧ (wt_ga σ3 275 (Int32.toNatClampNeg x1)).toInt ≤ 7 := wt_R_ga rσ3 12 rfl 275 (by decide) (by decide) (Int32.toNatClampNeg x1)
  have tt13 : (wt_ga σ3 275 (Int32.toNatClampNeg x1)).toInt = (wt_ga σ 275 (Int32.toNatClampNeg x1)).toInt := congrArg Int32.toInt (fσ3.2 275 (fun z => z) (Int32.toNatClampNeg x1))
  have bb14 := wt_bd (wt_ga σ 275 (Int32.toNatClampNeg x1))
  have g15 : -1 ≤ (wt_ga σ 275 (Int32.toNatClampNeg x1)).toInt ∧ (wt_ga σ 275 (Int32.toNatClampNeg x1)).toInt ≤ 7 := wt_R_ga r0 12 rfl 275 (by decide) (by decide) (Int32.toNatClampNeg x1)
  refine wt_T_if (fun h16 => ?_) (fun h16 => ?_)
  · skip
    have c17 := wt_ceq h16
    unfold wp_md_print_B19
    have k18 : (1 : Int32).toInt = 1 := by decide
    refine wt_T_bi (wq_md_bad n hn (1 : Int32) (1 : Int32) σ3 rσ3 (by omega)) (fun r19 h20 => ?_)
    obtain ⟨f21, ri22, pp23⟩ := h20
    have bb24 := wt_bd r19.1
    have bb25 := wt_bd (wt_gf r19.2 108 0)
    have bb26 := wt_bd (wt_gf σ3 108 0)
    refine wt_T_if (fun h27 => ?_) (fun h27 => ?_)
    · skip
      have c28 := wt_ceq h27
      refine wt_T_bi (wq_md_isCopies n hn x2 r19.2 ri22) (fun r29 h30 => ?_)
      obtain ⟨e31, pp32⟩ := h30
      have bb33 := wt_bd r29.1
      rw [e31]
      refine wt_T_if (fun h34 => ?_) (fun h34 => ?_)
      · skip
        have c35 := wt_ceq h34
        refine wt_T.imp (wq_md_print_B39 n hn x1 x2 (1 : Int32) r19.2 ri22 (by omega) (wt_PD_fr (F := fun i k => (i = 108 ∧ k = 0)) (A := fun i => i = 121) p0 (wt_fr.tr (wt_fr.tr wt_fr.rf fσ3 (fun i k h => by (try dsimp only at h); exact (by omega)) (fun i h => h.elim)) f21 (fun i k h => by (try dsimp only at h); exact (by omega)) (fun i h => h.elim)) (fun i hi => by (try dsimp only); omega))) (fun r36 h37 => ?_)
        have bb38 := wt_bd r36.1
        obtain ⟨f39, ri40⟩ := h37
        exact ⟨(wt_fr.tr (wt_fr.tr (wt_fr.tr wt_fr.rf fσ3 (fun i k h => by (try dsimp only at h); exact (by omega)) (fun i h => h.elim)) f21 (fun i k h => by (try dsimp only at h); exact (by omega)) (fun i h => h.elim)) f39 (fun i k h => by (try dsimp only at h); exact (by omega)) (fun i h => by (try dsimp only at h); exact (by omega))), ri40⟩
      · skip
        have c41 := wt_nceq h34
        refine wt_T.imp (wq_md_print_B39 n hn x1 x2 (0 : Int32) r19.2 ri22 (by omega) (wt_PD_fr (F := fun i k => (i = 108 ∧ k = 0)) (A := fun i => i = 121) p0 (wt_fr.tr (wt_fr.tr wt_fr.rf fσ3 (fun i k h => by (try dsimp only at h); exact (by omega)) (fun i h => h.elim)) f21 (fun i k h => by (try dsimp only at h); exact (by omega)) (fun i h => h.elim)) (fun i hi => by (try dsimp only); omega))) (fun r42 h43 => ?_)
        have bb44 := wt_bd r42.1
        obtain ⟨f45, ri46⟩ := h43
        exact ⟨(wt_fr.tr (wt_fr.tr (wt_fr.tr wt_fr.rf fσ3 (fun i k h => by (try dsimp only at h); exact (by omega)) (fun i h => h.elim)) f21 (fun i k h => by (try dsimp only at h); exact (by omega)) (fun i h => h.elim)) f45 (fun i k h => by (try dsimp only at h); exact (by omega)) (fun i h => by (try dsimp only at h); exact (by omega))), ri46⟩
    · skip
      have c47 := wt_nceq h27
      refine wt_T_some ?_
      exact ⟨(wt_fr.tr (wt_fr.tr wt_fr.rf fσ3 (fun i k h => by (try dsimp only at h); exact (by omega)) (fun i h => h.elim)) f21 (fun i k h => by (try dsimp only at h); exact (by omega)) (fun i h => h.elim)), ri22⟩
  · skip
    have c48 := wt_nceq h16
    unfold wp_md_print_B19
    have k49 : (1 : Int32).toInt = 1 := by decide
    refine wt_T_bi (wq_md_bad n hn (0 : Int32) (1 : Int32) σ3 rσ3 (by omega)) (fun r50 h51 => ?_)
    obtain ⟨f52, ri53, pp54⟩ := h51
    have bb55 := wt_bd r50.1
    have bb56 := wt_bd (wt_gf r50.2 108 0)
    have bb57 := wt_bd (wt_gf σ3 108 0)
    refine wt_T_if (fun h58 => ?_) (fun h58 => ?_)
    · skip
      have c59 := wt_ceq h58
      refine wt_T_bi (wq_md_isCopies n hn x2 r50.2 ri53) (fun r60 h61 => ?_)
      obtain ⟨e62, pp63⟩ := h61
      have bb64 := wt_bd r60.1
      rw [e62]
      refine wt_T_if (fun h65 => ?_) (fun h65 => ?_)
      · skip
        have c66 := wt_ceq h65
        refine wt_T.imp (wq_md_print_B39 n hn x1 x2 (1 : Int32) r50.2 ri53 (by omega) (wt_PD_fr (F := fun i k => (i = 108 ∧ k = 0)) (A := fun i => i = 121) p0 (wt_fr.tr (wt_fr.tr wt_fr.rf fσ3 (fun i k h => by (try dsimp only at h); exact (by omega)) (fun i h => h.elim)) f52 (fun i k h => by (try dsimp only at h); exact (by omega)) (fun i h => h.elim)) (fun i hi => by (try dsimp only); omega))) (fun r67 h68 => ?_)
        have bb69 := wt_bd r67.1
        obtain ⟨f70, ri71⟩ := h68
        exact ⟨(wt_fr.tr (wt_fr.tr (wt_fr.tr wt_fr.rf fσ3 (fun i k h => by (try dsimp only at h); exact (by omega)) (fun i h => h.elim)) f52 (fun i k h => by (try dsimp only at h); exact (by omega)) (fun i h => h.elim)) f70 (fun i k h => by (try dsimp only at h); exact (by omega)) (fun i h => by (try dsimp only at h); exact (by omega))), ri71⟩
      · skip
        have c72 := wt_nceq h65
        refine wt_T.imp (wq_md_print_B39 n hn x1 x2 (0 : Int32) r50.2 ri53 (by omega) (wt_PD_fr (F := fun i k => (i = 108 ∧ k = 0)) (A := fun i => i = 121) p0 (wt_fr.tr (wt_fr.tr wt_fr.rf fσ3 (fun i k h => by (try dsimp only at h); exact (by omega)) (fun i h => h.elim)) f52 (fun i k h => by (try dsimp only at h); exact (by omega)) (fun i h => h.elim)) (fun i hi => by (try dsimp only); omega))) (fun r73 h74 => ?_)
        have bb75 := wt_bd r73.1
        obtain ⟨f76, ri77⟩ := h74
        exact ⟨(wt_fr.tr (wt_fr.tr (wt_fr.tr wt_fr.rf fσ3 (fun i k h => by (try dsimp only at h); exact (by omega)) (fun i h => h.elim)) f52 (fun i k h => by (try dsimp only at h); exact (by omega)) (fun i h => h.elim)) f76 (fun i k h => by (try dsimp only at h); exact (by omega)) (fun i h => by (try dsimp only at h); exact (by omega))), ri77⟩
    · skip
      have c78 := wt_nceq h58
      refine wt_T_some ?_
      exact ⟨(wt_fr.tr (wt_fr.tr wt_fr.rf fσ3 (fun i k h => by (try dsimp only at h); exact (by omega)) (fun i h => h.elim)) f52 (fun i k h => by (try dsimp only at h); exact (by omega)) (fun i h => h.elim)), ri53⟩
set_option maxRecDepth 100000 in
set_option maxHeartbeats 4000000 in
theorem wq_md_read (n : Nat) (hn : 4294967297 < n) (x1 : Int32) (x2 : Int32) (σ : wt_St) (r0 : wt_RI σ) (p0 : wt_PG σ) : wt_T (wp_md_read n x1 x2 σ) (fun q => wt_fr (fun i k => (i = 108 ∧ k = 0)) (fun i => i = 290 ∨ i = 289) σ q.2 ∧ wt_RI q.2) := by
  have bb1 := wt_bd x1
  have bb2 := wt_bd x2
  unfold wp_md_read
  obtain ⟨σ3, eσ3⟩ : ∃ z : wt_St, z = wt_sf σ 108 0 (0 : Int32) := ⟨_, rfl⟩
  rw [← eσ3]
  have fσ3 := wt_fr_sf eσ3
  have vσ3 := wt_ceq (wt_v_sf eσ3)
  have k4 : (0 : Int32).toInt = 0 := by decide
  have rσ3 := wt_RI_fno r0 eσ3 (Or.inr (by decide))
  refine wt_T_bi (wq_md_isPage n hn x1 σ3 rσ3) (fun r5 h6 => ?_)
  obtain ⟨e7, pp8⟩ := h6
  have bb9 := wt_bd r5.1
  rw [e7]
  have bb10 := wt_tn x1
  have bb11 := wt_bd (wt_ga σ3 275 (Int32.toNatClampNeg x1))
  have g12 : -1 ≤ (wt_ga σ3 275 (Int32.toNatClampNeg x1)).toInt ∧ (wt_ga σ3 275 (Int32.toNatClampNeg x1)).toInt ≤ 7 := wt_R_ga rσ3 12 rfl 275 (by decide) (by decide) (Int32.toNatClampNeg x1)
  have tt13 : (wt_ga σ3 275 (Int32.toNatClampNeg x1)).toInt = (wt_ga σ 275 (Int32.toNatClampNeg x1)).toInt := congrArg Int32.toInt (fσ3.2 275 (fun z => z) (Int32.toNatClampNeg x1))
  have bb14 := wt_bd (wt_ga σ 275 (Int32.toNatClampNeg x1))
  have g15 : -1 ≤ (wt_ga σ 275 (Int32.toNatClampNeg x1)).toInt ∧ (wt_ga σ 275 (Int32.toNatClampNeg x1)).toInt ≤ 7 := wt_R_ga r0 12 rfl 275 (by decide) (by decide) (Int32.toNatClampNeg x1)
  refine wt_T_if (fun h16 => ?_) (fun h16 => ?_)
  · skip
    have c17 := wt_ceq h16
    unfold wp_md_read_B19
    have k18 : (1 : Int32).toInt = 1 := by decide
    refine wt_T_bi (wq_md_bad n hn (1 : Int32) (1 : Int32) σ3 rσ3 (by omega)) (fun r19 h20 => ?_)
    obtain ⟨f21, ri22, pp23⟩ := h20
    have bb24 := wt_bd r19.1
    have bb25 := wt_bd (wt_gf r19.2 108 0)
    have bb26 := wt_bd (wt_gf σ3 108 0)
    refine wt_T_if (fun h27 => ?_) (fun h27 => ?_)
    · skip
      have c28 := wt_ceq h27
      refine wt_T_gd (wt_ix (by omega) (by omega)) ?_
      have bb29 := wt_bd (wt_ga r19.2 275 (Int32.toNatClampNeg x1))
      have g30 : -1 ≤ (wt_ga r19.2 275 (Int32.toNatClampNeg x1)).toInt ∧ (wt_ga r19.2 275 (Int32.toNatClampNeg x1)).toInt ≤ 7 := wt_R_ga ri22 12 rfl 275 (by decide) (by decide) (Int32.toNatClampNeg x1)
      have tt31 : (wt_ga r19.2 275 (Int32.toNatClampNeg x1)).toInt = (wt_ga σ3 275 (Int32.toNatClampNeg x1)).toInt := congrArg Int32.toInt (f21.2 275 (fun z => z) (Int32.toNatClampNeg x1))
      refine wt_T_gd (wt_ix (by omega) (by omega)) ?_
      have bb32 := wt_tn (wt_ga r19.2 275 (Int32.toNatClampNeg x1))
      have bb33 := wt_bd (wt_ga r19.2 253 (Int32.toNatClampNeg (wt_ga r19.2 275 (Int32.toNatClampNeg x1))))
      have g34 : 0 ≤ (wt_ga r19.2 253 (Int32.toNatClampNeg (wt_ga r19.2 275 (Int32.toNatClampNeg x1)))).toInt ∧ (wt_ga r19.2 253 (Int32.toNatClampNeg (wt_ga r19.2 275 (Int32.toNatClampNeg x1)))).toInt ≤ 12 := wt_R_ga ri22 9 rfl 253 (by decide) (by decide) (Int32.toNatClampNeg (wt_ga r19.2 275 (Int32.toNatClampNeg x1)))
      have tt35 : (wt_ga r19.2 253 (Int32.toNatClampNeg (wt_ga r19.2 275 (Int32.toNatClampNeg x1)))).toInt = (wt_ga σ3 253 (Int32.toNatClampNeg (wt_ga r19.2 275 (Int32.toNatClampNeg x1)))).toInt := congrArg Int32.toInt (f21.2 253 (fun z => z) (Int32.toNatClampNeg (wt_ga r19.2 275 (Int32.toNatClampNeg x1))))
      have bb36 := wt_bd (wt_ga σ3 253 (Int32.toNatClampNeg (wt_ga r19.2 275 (Int32.toNatClampNeg x1))))
      have g37 : 0 ≤ (wt_ga σ3 253 (Int32.toNatClampNeg (wt_ga r19.2 275 (Int32.toNatClampNeg x1)))).toInt ∧ (wt_ga σ3 253 (Int32.toNatClampNeg (wt_ga r19.2 275 (Int32.toNatClampNeg x1)))).toInt ≤ 12 := wt_R_ga rσ3 9 rfl 253 (by decide) (by decide) (Int32.toNatClampNeg (wt_ga r19.2 275 (Int32.toNatClampNeg x1)))
      have tt38 : (wt_ga σ3 253 (Int32.toNatClampNeg (wt_ga r19.2 275 (Int32.toNatClampNeg x1)))).toInt = (wt_ga σ 253 (Int32.toNatClampNeg (wt_ga r19.2 275 (Int32.toNatClampNeg x1)))).toInt := congrArg Int32.toInt (fσ3.2 253 (fun z => z) (Int32.toNatClampNeg (wt_ga r19.2 275 (Int32.toNatClampNeg x1))))
      have bb39 := wt_bd (wt_ga σ 253 (Int32.toNatClampNeg (wt_ga r19.2 275 (Int32.toNatClampNeg x1))))
      have g40 : 0 ≤ (wt_ga σ 253 (Int32.toNatClampNeg (wt_ga r19.2 275 (Int32.toNatClampNeg x1)))).toInt ∧ (wt_ga σ 253 (Int32.toNatClampNeg (wt_ga r19.2 275 (Int32.toNatClampNeg x1)))).toInt ≤ 12 := wt_R_ga r0 9 rfl 253 (by decide) (by decide) (Int32.toNatClampNeg (wt_ga r19.2 275 (Int32.toNatClampNeg x1)))
      obtain ⟨j41, j41a, j41b⟩ := wt_subI (wt_ga r19.2 253 (Int32.toNatClampNeg (wt_ga r19.2 275 (Int32.toNatClampNeg x1)))) (1 : Int32)
      refine wt_T_bi (wq_md_in n hn x2 (0 : Int32) ((wt_ga r19.2 253 (Int32.toNatClampNeg (wt_ga r19.2 275 (Int32.toNatClampNeg x1)))) - (1 : Int32)) r19.2 ri22) (fun r42 h43 => ?_)
      obtain ⟨e44, pp45⟩ := h43
      have bb46 := wt_bd r42.1
      rw [e44]
      refine wt_T_if (fun h47 => ?_) (fun h47 => ?_)
      · skip
        have c48 := wt_ceq h47
        refine wt_T_some ?_
        exact ⟨(wt_fr.tr (wt_fr.tr wt_fr.rf fσ3 (fun i k h => by (try dsimp only at h); exact (by omega)) (fun i h => h.elim)) f21 (fun i k h => by (try dsimp only at h); exact (by omega)) (fun i h => h.elim)), ri22⟩
      · skip
        have c49 := wt_nceq h47
        refine wt_T_bi (wq_md_readOf n hn x1 x2 r19.2 ri22 (by omega) (by omega) (by omega) (by omega) (by omega) (wt_PG_fr (F := fun i k => (i = 108 ∧ k = 0)) (A := fun i => i = 290 ∨ i = 289) r0 p0 (wt_fr.tr (wt_fr.tr wt_fr.rf fσ3 (fun i k h => by (try dsimp only at h); exact (by omega)) (fun i h => h.elim)) f21 (fun i k h => by (try dsimp only at h); exact (by omega)) (fun i h => h.elim)) (by (try dsimp only); first | omega | exact fun h => h) (fun i hi => by (try dsimp only); unfold wt_PA at hi; omega))) (fun r50 h51 => ?_)
        obtain ⟨f52, ri53⟩ := h51
        have bb54 := wt_bd r50.1
        refine wt_T_some ?_
        exact ⟨(wt_fr.tr (wt_fr.tr (wt_fr.tr wt_fr.rf fσ3 (fun i k h => by (try dsimp only at h); exact (by omega)) (fun i h => h.elim)) f21 (fun i k h => by (try dsimp only at h); exact (by omega)) (fun i h => h.elim)) f52 (fun i k h => h.elim) (fun i h => by (try dsimp only at h); rcases h with h | h; exact Or.inl (by omega); exact Or.inr ((by omega)))), ri53⟩
    · skip
      have c55 := wt_nceq h27
      refine wt_T_some ?_
      exact ⟨(wt_fr.tr (wt_fr.tr wt_fr.rf fσ3 (fun i k h => by (try dsimp only at h); exact (by omega)) (fun i h => h.elim)) f21 (fun i k h => by (try dsimp only at h); exact (by omega)) (fun i h => h.elim)), ri22⟩
  · skip
    have c56 := wt_nceq h16
    unfold wp_md_read_B19
    have k57 : (1 : Int32).toInt = 1 := by decide
    refine wt_T_bi (wq_md_bad n hn (0 : Int32) (1 : Int32) σ3 rσ3 (by omega)) (fun r58 h59 => ?_)
    obtain ⟨f60, ri61, pp62⟩ := h59
    have bb63 := wt_bd r58.1
    have bb64 := wt_bd (wt_gf r58.2 108 0)
    have bb65 := wt_bd (wt_gf σ3 108 0)
    refine wt_T_if (fun h66 => ?_) (fun h66 => ?_)
    · skip
      have c67 := wt_ceq h66
      refine wt_T_gd (wt_ix (by omega) (by omega)) ?_
      have bb68 := wt_bd (wt_ga r58.2 275 (Int32.toNatClampNeg x1))
      have g69 : -1 ≤ (wt_ga r58.2 275 (Int32.toNatClampNeg x1)).toInt ∧ (wt_ga r58.2 275 (Int32.toNatClampNeg x1)).toInt ≤ 7 := wt_R_ga ri61 12 rfl 275 (by decide) (by decide) (Int32.toNatClampNeg x1)
      have tt70 : (wt_ga r58.2 275 (Int32.toNatClampNeg x1)).toInt = (wt_ga σ3 275 (Int32.toNatClampNeg x1)).toInt := congrArg Int32.toInt (f60.2 275 (fun z => z) (Int32.toNatClampNeg x1))
      refine wt_T_gd (wt_ix (by omega) (by omega)) ?_
      have bb71 := wt_tn (wt_ga r58.2 275 (Int32.toNatClampNeg x1))
      have bb72 := wt_bd (wt_ga r58.2 253 (Int32.toNatClampNeg (wt_ga r58.2 275 (Int32.toNatClampNeg x1))))
      have g73 : 0 ≤ (wt_ga r58.2 253 (Int32.toNatClampNeg (wt_ga r58.2 275 (Int32.toNatClampNeg x1)))).toInt ∧ (wt_ga r58.2 253 (Int32.toNatClampNeg (wt_ga r58.2 275 (Int32.toNatClampNeg x1)))).toInt ≤ 12 := wt_R_ga ri61 9 rfl 253 (by decide) (by decide) (Int32.toNatClampNeg (wt_ga r58.2 275 (Int32.toNatClampNeg x1)))
      have tt74 : (wt_ga r58.2 253 (Int32.toNatClampNeg (wt_ga r58.2 275 (Int32.toNatClampNeg x1)))).toInt = (wt_ga σ3 253 (Int32.toNatClampNeg (wt_ga r58.2 275 (Int32.toNatClampNeg x1)))).toInt := congrArg Int32.toInt (f60.2 253 (fun z => z) (Int32.toNatClampNeg (wt_ga r58.2 275 (Int32.toNatClampNeg x1))))
      have bb75 := wt_bd (wt_ga σ3 253 (Int32.toNatClampNeg (wt_ga r58.2 275 (Int32.toNatClampNeg x1))))
      have g76 : 0 ≤ (wt_ga σ3 253 (Int32.toNatClampNeg (wt_ga r58.2 275 (Int32.toNatClampNeg x1)))).toInt ∧ (wt_ga σ3 253 (Int32.toNatClampNeg (wt_ga r58.2 275 (Int32.toNatClampNeg x1)))).toInt ≤ 12 := wt_R_ga rσ3 9 rfl 253 (by decide) (by decide) (Int32.toNatClampNeg (wt_ga r58.2 275 (Int32.toNatClampNeg x1)))
      have tt77 : (wt_ga σ3 253 (Int32.toNatClampNeg (wt_ga r58.2 275 (Int32.toNatClampNeg x1)))).toInt = (wt_ga σ 253 (Int32.toNatClampNeg (wt_ga r58.2 275 (Int32.toNatClampNeg x1)))).toInt := congrArg Int32.toInt (fσ3.2 253 (fun z => z) (Int32.toNatClampNeg (wt_ga r58.2 275 (Int32.toNatClampNeg x1))))
      have bb78 := wt_bd (wt_ga σ 253 (Int32.toNatClampNeg (wt_ga r58.2 275 (Int32.toNatClampNeg x1))))
      have g79 : 0 ≤ (wt_ga σ 253 (Int32.toNatClampNeg (wt_ga r58.2 275 (Int32.toNatClampNeg x1)))).toInt ∧ (wt_ga σ 253 (Int32.toNatClampNeg (wt_ga r58.2 275 (Int32.toNatClampNeg x1)))).toInt ≤ 12 := wt_R_ga r0 9 rfl 253 (by decide) (by decide) (Int32.toNatClampNeg (wt_ga r58.2 275 (Int32.toNatClampNeg x1)))
      obtain ⟨j80, j80a, j80b⟩ := wt_subI (wt_ga r58.2 253 (Int32.toNatClampNeg (wt_ga r58.2 275 (Int32.toNatClampNeg x1)))) (1 : Int32)
      refine wt_T_bi (wq_md_in n hn x2 (0 : Int32) ((wt_ga r58.2 253 (Int32.toNatClampNeg (wt_ga r58.2 275 (Int32.toNatClampNeg x1)))) - (1 : Int32)) r58.2 ri61) (fun r81 h82 => ?_)
      obtain ⟨e83, pp84⟩ := h82
      have bb85 := wt_bd r81.1
      rw [e83]
      refine wt_T_if (fun h86 => ?_) (fun h86 => ?_)
      · skip
        have c87 := wt_ceq h86
        refine wt_T_some ?_
        exact ⟨(wt_fr.tr (wt_fr.tr wt_fr.rf fσ3 (fun i k h => by (try dsimp only at h); exact (by omega)) (fun i h => h.elim)) f60 (fun i k h => by (try dsimp only at h); exact (by omega)) (fun i h => h.elim)), ri61⟩
      · skip
        have c88 := wt_nceq h86
        refine wt_T_bi (wq_md_readOf n hn x1 x2 r58.2 ri61 (by omega) (by omega) (by omega) (by omega) (by omega) (wt_PG_fr (F := fun i k => (i = 108 ∧ k = 0)) (A := fun i => i = 290 ∨ i = 289) r0 p0 (wt_fr.tr (wt_fr.tr wt_fr.rf fσ3 (fun i k h => by (try dsimp only at h); exact (by omega)) (fun i h => h.elim)) f60 (fun i k h => by (try dsimp only at h); exact (by omega)) (fun i h => h.elim)) (by (try dsimp only); first | omega | exact fun h => h) (fun i hi => by (try dsimp only); unfold wt_PA at hi; omega))) (fun r89 h90 => ?_)
        obtain ⟨f91, ri92⟩ := h90
        have bb93 := wt_bd r89.1
        refine wt_T_some ?_
        exact ⟨(wt_fr.tr (wt_fr.tr (wt_fr.tr wt_fr.rf fσ3 (fun i k h => by (try dsimp only at h); exact (by omega)) (fun i h => h.elim)) f60 (fun i k h => by (try dsimp only at h); exact (by omega)) (fun i h => h.elim)) f91 (fun i k h => h.elim) (fun i h => by (try dsimp only at h); rcases h with h | h; exact Or.inl (by omega); exact Or.inr ((by omega)))), ri92⟩
    · skip
      have c94 := wt_nceq h66
      refine wt_T_some ?_
      exact ⟨(wt_fr.tr (wt_fr.tr wt_fr.rf fσ3 (fun i k h => by (try dsimp only at h); exact (by omega)) (fun i h => h.elim)) f60 (fun i k h => by (try dsimp only at h); exact (by omega)) (fun i h => h.elim)), ri61⟩
set_option maxRecDepth 100000 in
set_option maxHeartbeats 4000000 in
theorem wq_md_wordOf_131_125 (n : Nat) (hn : 4294967297 < n) (x1 : Int32) (x4 : Int32) (σ : wt_St) (r0 : wt_RI σ) (p0 : x4.toInt ≤ 60) : wt_T (wp_md_wordOf_131 n 125 x1 x4 σ) (fun q => q.2 = σ ∧ (q.1.toInt = -1 ∨ (0 ≤ q.1.toInt ∧ q.1.toInt < x4.toInt))) := by
  have hl125 : wt_ln 125 = 60 := by decide
  have hl126 : wt_ln 126 = 60 := by decide
  have bb1 := wt_bd x1
  have bb2 := wt_bd x4
  unfold wp_md_wordOf_131
  have k8 : (0 : Int32).toInt = 0 := by decide
  refine wt_T_it (fun s : Int32 × wt_St => s.2 = σ ∧ 0 ≤ (s.1).toInt) (fun s : Int32 × wt_St => (x4.toInt - s.1.toInt + 0).toNat) (fun KK3 z4 I5 hKK3 => ?_) _ _ ?_ ?_
  · skip
    obtain ⟨l6, l7⟩ := I5
    unfold wp_md_wordOf_131_B3
    rw [l6]
    have bb9 := wt_bd z4.1
    refine wt_T_if (fun h10 => ?_) (fun h10 => ?_)
    · skip
      have c11 := wt_cle h10
      refine wt_T_some ?_
      have k12 := wt_lm1
      exact ⟨rfl, (show ((-1 : Int32).toInt = -1 ∨ (0 ≤ (-1 : Int32).toInt ∧ (-1 : Int32).toInt < x4.toInt)) from by omega)⟩
    · skip
      have c13 := wt_ncle h10
      have bb14 := wt_ln_bd 125
      refine wt_T_gd (wt_ix (by omega) (by omega)) ?_
      have bb15 := wt_tn z4.1
      have bb16 := wt_bd (wt_ga σ 125 (Int32.toNatClampNeg z4.1))
      have g17 : 0 ≤ (wt_ga σ 125 (Int32.toNatClampNeg z4.1)).toInt ∧ (wt_ga σ 125 (Int32.toNatClampNeg z4.1)).toInt ≤ 9 := wt_R_ga r0 5 rfl 125 (by decide) (by decide) (Int32.toNatClampNeg z4.1)
      refine wt_T_if (fun h18 => ?_) (fun h18 => ?_)
      · skip
        have c19 := wt_ceq h18
        unfold wp_md_wordOf_131_B23
        have k26 : (1 : Int32).toInt = 1 := by decide
        refine wt_T_it (fun s : Int32 × Int32 × wt_St => s.2.2 = σ ∧ 0 ≤ (s.2.1).toInt ∧ (s.1.toInt = 0 ∨ x1.toInt ≤ 9)) (fun s : Int32 × Int32 × wt_St => (x1.toInt - s.2.1.toInt + 0).toNat) (fun KK20 z21 I22 hKK20 => ?_) _ _ ?_ ?_
        · skip
          obtain ⟨l23, l24, l25⟩ := I22
          unfold wp_md_wordOf_131_B28
          rw [l23]
          have bb27 := wt_bd z21.2.1
          refine wt_T_if (fun h28 => ?_) (fun h28 => ?_)
          · skip
            have c29 := wt_cle h28
            unfold wp_md_wordOf_131_B76
            have bb30 := wt_bd z21.1
            refine wt_T_if (fun h31 => ?_) (fun h31 => ?_)
            · skip
              have c32 := wt_ceq h31
              refine hKK3 _ ⟨rfl, (wt_nn (B := x4) (by omega) (by first | (rw [l6]; omega) | (rw [l6]; done) | omega))⟩ ?_
              show (x4.toInt - (z4.1 + (1 : Int32)).toInt + 0).toNat < (x4.toInt - z4.1.toInt + 0).toNat
              exact wt_mu (by first | (rw [l6]; omega) | (rw [l6]; done) | omega) (by first | (rw [l6]; omega) | (rw [l6]; done) | omega)
            · skip
              have c33 := wt_nceq h31
              refine wt_T_some ?_
              exact ⟨rfl, (show (z4.1.toInt = -1 ∨ (0 ≤ z4.1.toInt ∧ z4.1.toInt < x4.toInt)) from by omega)⟩
          · skip
            have c34 := wt_ncle h28
            have bb35 := wt_bd z21.1
            refine wt_T_if (fun h36 => ?_) (fun h36 => ?_)
            · skip
              have c37 := wt_ceq h36
              unfold wp_md_wordOf_131_B76
              refine wt_T_if (fun h38 => ?_) (fun h38 => ?_)
              · skip
                have c39 := wt_ceq h38
                refine hKK3 _ ⟨rfl, (wt_nn (B := x4) (by omega) (by first | (rw [l6]; omega) | (rw [l6]; done) | omega))⟩ ?_
                show (x4.toInt - (z4.1 + (1 : Int32)).toInt + 0).toNat < (x4.toInt - z4.1.toInt + 0).toNat
                exact wt_mu (by first | (rw [l6]; omega) | (rw [l6]; done) | omega) (by first | (rw [l6]; omega) | (rw [l6]; done) | omega)
              · skip
                have c40 := wt_nceq h38
                refine wt_T_some ?_
                exact ⟨rfl, (show (z4.1.toInt = -1 ∨ (0 ≤ z4.1.toInt ∧ z4.1.toInt < x4.toInt)) from by omega)⟩
            · skip
              have c41 := wt_nceq h36
              refine wt_T_gd (wt_ix (by omega) (by omega)) ?_
              refine wt_T_gd (wt_ix (by omega) (by omega)) ?_
              have bb42 := wt_bd (wt_gf σ 108 4)
              have g43 : 0 ≤ (wt_gf σ 108 4).toInt ∧ (wt_gf σ 108 4).toInt ≤ 500 := wt_R_gf r0 2 rfl
              obtain ⟨j44, j44a, j44b⟩ := wt_addI (wt_gf σ 108 4) z21.2.1
              refine wt_T_bi (wq_md_byteAt n hn ((wt_gf σ 108 4) + z21.2.1) σ r0 (by omega)) (fun r45 h46 => ?_)
              obtain ⟨e47, pp48⟩ := h46
              have bb49 := wt_bd r45.1
              rw [e47]
              have bb50 := wt_bd (wt_gf σ 108 2)
              have g51 : 0 ≤ (wt_gf σ 108 2).toInt ∧ (wt_gf σ 108 2).toInt ≤ 500 := wt_R_gf r0 1 rfl
              have bb52 := wt_tn ((wt_gf σ 108 4) + z21.2.1)
              have bb53 := wt_bd (wt_ga σ 109 (Int32.toNatClampNeg ((wt_gf σ 108 4) + z21.2.1)))
              have bb54 := wt_tn z21.2.1
              have bb55 := wt_bd (wt_ga σ (132 + (Int32.toNatClampNeg z4.1)) (Int32.toNatClampNeg z21.2.1))
              have g56 : 0 ≤ (wt_ga σ (132 + (Int32.toNatClampNeg z4.1)) (Int32.toNatClampNeg z21.2.1)).toInt ∧ (wt_ga σ (132 + (Int32.toNatClampNeg z4.1)) (Int32.toNatClampNeg z21.2.1)).toInt ≤ 25 := wt_R_ga r0 7 rfl (132 + (Int32.toNatClampNeg z4.1)) (show 132 ≤ 132 + (Int32.toNatClampNeg z4.1) by omega) (show 132 + (Int32.toNatClampNeg z4.1) < 192 by omega) (Int32.toNatClampNeg z21.2.1)
              have k57 : (97 : Int32).toInt = 97 := by decide
              obtain ⟨j58, j58a, j58b⟩ := wt_subI r45.1 (97 : Int32)
              refine wt_T_if (fun h59 => ?_) (fun h59 => ?_)
              · skip
                have c60 := wt_ceq h59
                unfold wp_md_wordOf_131_B68
                obtain ⟨j61, j61a, j61b⟩ := wt_addI z21.2.1 (1 : Int32)
                refine hKK20 _ ⟨rfl, (wt_nn (B := x1) (by omega) (by first | (rw [l23]; omega) | (rw [l23]; done) | omega)), (show ((1 : Int32).toInt = 0 ∨ x1.toInt ≤ 9) by omega)⟩ ?_
                show (x1.toInt - (z21.2.1 + (1 : Int32)).toInt + 0).toNat < (x1.toInt - z21.2.1.toInt + 0).toNat
                exact wt_mu (by first | (rw [l23]; omega) | (rw [l23]; done) | omega) (by first | (rw [l23]; omega) | (rw [l23]; done) | omega)
              · skip
                have c62 := wt_nceq h59
                unfold wp_md_wordOf_131_B68
                obtain ⟨j63, j63a, j63b⟩ := wt_addI z21.2.1 (1 : Int32)
                refine hKK20 _ ⟨rfl, (wt_nn (B := x1) (by omega) (by first | (rw [l23]; omega) | (rw [l23]; done) | omega)), (show ((0 : Int32).toInt = 0 ∨ x1.toInt ≤ 9) by omega)⟩ ?_
                show (x1.toInt - (z21.2.1 + (1 : Int32)).toInt + 0).toNat < (x1.toInt - z21.2.1.toInt + 0).toNat
                exact wt_mu (by first | (rw [l23]; omega) | (rw [l23]; done) | omega) (by first | (rw [l23]; omega) | (rw [l23]; done) | omega)
        · skip
          exact ⟨rfl, (show 0 ≤ ((0 : Int32)).toInt by omega), (show ((1 : Int32).toInt = 0 ∨ x1.toInt ≤ 9) by omega)⟩
        · skip
          show (x1.toInt - (0 : Int32).toInt + 0).toNat < n
          omega
      · skip
        have c64 := wt_nceq h18
        unfold wp_md_wordOf_131_B23
        refine wt_T_it (fun s : Int32 × Int32 × wt_St => s.2.2 = σ ∧ 0 ≤ (s.2.1).toInt ∧ (s.1.toInt = 0 ∨ x1.toInt ≤ 9)) (fun s : Int32 × Int32 × wt_St => (x1.toInt - s.2.1.toInt + 0).toNat) (fun KK65 z66 I67 hKK65 => ?_) _ _ ?_ ?_
        · skip
          obtain ⟨l68, l69, l70⟩ := I67
          unfold wp_md_wordOf_131_B28
          rw [l68]
          have bb71 := wt_bd z66.2.1
          refine wt_T_if (fun h72 => ?_) (fun h72 => ?_)
          · skip
            have c73 := wt_cle h72
            unfold wp_md_wordOf_131_B76
            have bb74 := wt_bd z66.1
            refine wt_T_if (fun h75 => ?_) (fun h75 => ?_)
            · skip
              have c76 := wt_ceq h75
              refine hKK3 _ ⟨rfl, (wt_nn (B := x4) (by omega) (by first | (rw [l6]; omega) | (rw [l6]; done) | omega))⟩ ?_
              show (x4.toInt - (z4.1 + (1 : Int32)).toInt + 0).toNat < (x4.toInt - z4.1.toInt + 0).toNat
              exact wt_mu (by first | (rw [l6]; omega) | (rw [l6]; done) | omega) (by first | (rw [l6]; omega) | (rw [l6]; done) | omega)
            · skip
              have c77 := wt_nceq h75
              refine wt_T_some ?_
              exact ⟨rfl, (show (z4.1.toInt = -1 ∨ (0 ≤ z4.1.toInt ∧ z4.1.toInt < x4.toInt)) from by omega)⟩
          · skip
            have c78 := wt_ncle h72
            have bb79 := wt_bd z66.1
            refine wt_T_if (fun h80 => ?_) (fun h80 => ?_)
            · skip
              have c81 := wt_ceq h80
              unfold wp_md_wordOf_131_B76
              refine wt_T_if (fun h82 => ?_) (fun h82 => ?_)
              · skip
                have c83 := wt_ceq h82
                refine hKK3 _ ⟨rfl, (wt_nn (B := x4) (by omega) (by first | (rw [l6]; omega) | (rw [l6]; done) | omega))⟩ ?_
                show (x4.toInt - (z4.1 + (1 : Int32)).toInt + 0).toNat < (x4.toInt - z4.1.toInt + 0).toNat
                exact wt_mu (by first | (rw [l6]; omega) | (rw [l6]; done) | omega) (by first | (rw [l6]; omega) | (rw [l6]; done) | omega)
              · skip
                have c84 := wt_nceq h82
                refine wt_T_some ?_
                exact ⟨rfl, (show (z4.1.toInt = -1 ∨ (0 ≤ z4.1.toInt ∧ z4.1.toInt < x4.toInt)) from by omega)⟩
            · skip
              have c85 := wt_nceq h80
              refine wt_T_gd (wt_ix (by omega) (by omega)) ?_
              refine wt_T_gd (wt_ix (by omega) (by omega)) ?_
              have bb86 := wt_bd (wt_gf σ 108 4)
              have g87 : 0 ≤ (wt_gf σ 108 4).toInt ∧ (wt_gf σ 108 4).toInt ≤ 500 := wt_R_gf r0 2 rfl
              obtain ⟨j88, j88a, j88b⟩ := wt_addI (wt_gf σ 108 4) z66.2.1
              refine wt_T_bi (wq_md_byteAt n hn ((wt_gf σ 108 4) + z66.2.1) σ r0 (by omega)) (fun r89 h90 => ?_)
              obtain ⟨e91, pp92⟩ := h90
              have bb93 := wt_bd r89.1
              rw [e91]
              have bb94 := wt_bd (wt_gf σ 108 2)
              have g95 : 0 ≤ (wt_gf σ 108 2).toInt ∧ (wt_gf σ 108 2).toInt ≤ 500 := wt_R_gf r0 1 rfl
              have bb96 := wt_tn ((wt_gf σ 108 4) + z66.2.1)
              have bb97 := wt_bd (wt_ga σ 109 (Int32.toNatClampNeg ((wt_gf σ 108 4) + z66.2.1)))
              have bb98 := wt_tn z66.2.1
              have bb99 := wt_bd (wt_ga σ (132 + (Int32.toNatClampNeg z4.1)) (Int32.toNatClampNeg z66.2.1))
              have g100 : 0 ≤ (wt_ga σ (132 + (Int32.toNatClampNeg z4.1)) (Int32.toNatClampNeg z66.2.1)).toInt ∧ (wt_ga σ (132 + (Int32.toNatClampNeg z4.1)) (Int32.toNatClampNeg z66.2.1)).toInt ≤ 25 := wt_R_ga r0 7 rfl (132 + (Int32.toNatClampNeg z4.1)) (show 132 ≤ 132 + (Int32.toNatClampNeg z4.1) by omega) (show 132 + (Int32.toNatClampNeg z4.1) < 192 by omega) (Int32.toNatClampNeg z66.2.1)
              have k101 : (97 : Int32).toInt = 97 := by decide
              obtain ⟨j102, j102a, j102b⟩ := wt_subI r89.1 (97 : Int32)
              refine wt_T_if (fun h103 => ?_) (fun h103 => ?_)
              · skip
                have c104 := wt_ceq h103
                unfold wp_md_wordOf_131_B68
                have k105 : (1 : Int32).toInt = 1 := by decide
                obtain ⟨j106, j106a, j106b⟩ := wt_addI z66.2.1 (1 : Int32)
                refine hKK65 _ ⟨rfl, (wt_nn (B := x1) (by omega) (by first | (rw [l68]; omega) | (rw [l68]; done) | omega)), (show ((1 : Int32).toInt = 0 ∨ x1.toInt ≤ 9) by omega)⟩ ?_
                show (x1.toInt - (z66.2.1 + (1 : Int32)).toInt + 0).toNat < (x1.toInt - z66.2.1.toInt + 0).toNat
                exact wt_mu (by first | (rw [l68]; omega) | (rw [l68]; done) | omega) (by first | (rw [l68]; omega) | (rw [l68]; done) | omega)
              · skip
                have c107 := wt_nceq h103
                unfold wp_md_wordOf_131_B68
                have k108 : (1 : Int32).toInt = 1 := by decide
                obtain ⟨j109, j109a, j109b⟩ := wt_addI z66.2.1 (1 : Int32)
                refine hKK65 _ ⟨rfl, (wt_nn (B := x1) (by omega) (by first | (rw [l68]; omega) | (rw [l68]; done) | omega)), (show ((0 : Int32).toInt = 0 ∨ x1.toInt ≤ 9) by omega)⟩ ?_
                show (x1.toInt - (z66.2.1 + (1 : Int32)).toInt + 0).toNat < (x1.toInt - z66.2.1.toInt + 0).toNat
                exact wt_mu (by first | (rw [l68]; omega) | (rw [l68]; done) | omega) (by first | (rw [l68]; omega) | (rw [l68]; done) | omega)
        · skip
          exact ⟨rfl, (show 0 ≤ ((0 : Int32)).toInt by omega), (show ((0 : Int32).toInt = 0 ∨ x1.toInt ≤ 9) by omega)⟩
        · skip
          show (x1.toInt - (0 : Int32).toInt + 0).toNat < n
          omega
  · skip
    exact ⟨rfl, (show 0 ≤ ((0 : Int32)).toInt by omega)⟩
  · skip
    show (x4.toInt - (0 : Int32).toInt + 0).toNat < n
    omega
set_option maxRecDepth 100000 in
set_option maxHeartbeats 4000000 in
theorem wq_md_wordOf_192_126 (n : Nat) (hn : 4294967297 < n) (x1 : Int32) (x4 : Int32) (σ : wt_St) (r0 : wt_RI σ) (p0 : x4.toInt ≤ 60) : wt_T (wp_md_wordOf_192 n 126 x1 x4 σ) (fun q => q.2 = σ ∧ (q.1.toInt = -1 ∨ (0 ≤ q.1.toInt ∧ q.1.toInt < x4.toInt))) := by
  have hl125 : wt_ln 125 = 60 := by decide
  have hl126 : wt_ln 126 = 60 := by decide
  have bb1 := wt_bd x1
  have bb2 := wt_bd x4
  unfold wp_md_wordOf_192
  have k8 : (0 : Int32).toInt = 0 := by decide
  refine wt_T_it (fun s : Int32 × wt_St => s.2 = σ ∧ 0 ≤ (s.1).toInt) (fun s : Int32 × wt_St => (x4.toInt - s.1.toInt + 0).toNat) (fun KK3 z4 I5 hKK3 => ?_) _ _ ?_ ?_
  · skip
    obtain ⟨l6, l7⟩ := I5
    unfold wp_md_wordOf_192_B3
    rw [l6]
    have bb9 := wt_bd z4.1
    refine wt_T_if (fun h10 => ?_) (fun h10 => ?_)
    · skip
      have c11 := wt_cle h10
      refine wt_T_some ?_
      have k12 := wt_lm1
      exact ⟨rfl, (show ((-1 : Int32).toInt = -1 ∨ (0 ≤ (-1 : Int32).toInt ∧ (-1 : Int32).toInt < x4.toInt)) from by omega)⟩
    · skip
      have c13 := wt_ncle h10
      have bb14 := wt_ln_bd 126
      refine wt_T_gd (wt_ix (by omega) (by omega)) ?_
      have bb15 := wt_tn z4.1
      have bb16 := wt_bd (wt_ga σ 126 (Int32.toNatClampNeg z4.1))
      have g17 : 0 ≤ (wt_ga σ 126 (Int32.toNatClampNeg z4.1)).toInt ∧ (wt_ga σ 126 (Int32.toNatClampNeg z4.1)).toInt ≤ 9 := wt_R_ga r0 5 rfl 126 (by decide) (by decide) (Int32.toNatClampNeg z4.1)
      refine wt_T_if (fun h18 => ?_) (fun h18 => ?_)
      · skip
        have c19 := wt_ceq h18
        unfold wp_md_wordOf_192_B23
        have k26 : (1 : Int32).toInt = 1 := by decide
        refine wt_T_it (fun s : Int32 × Int32 × wt_St => s.2.2 = σ ∧ 0 ≤ (s.2.1).toInt ∧ (s.1.toInt = 0 ∨ x1.toInt ≤ 9)) (fun s : Int32 × Int32 × wt_St => (x1.toInt - s.2.1.toInt + 0).toNat) (fun KK20 z21 I22 hKK20 => ?_) _ _ ?_ ?_
        · skip
          obtain ⟨l23, l24, l25⟩ := I22
          unfold wp_md_wordOf_192_B28
          rw [l23]
          have bb27 := wt_bd z21.2.1
          refine wt_T_if (fun h28 => ?_) (fun h28 => ?_)
          · skip
            have c29 := wt_cle h28
            unfold wp_md_wordOf_192_B76
            have bb30 := wt_bd z21.1
            refine wt_T_if (fun h31 => ?_) (fun h31 => ?_)
            · skip
              have c32 := wt_ceq h31
              refine hKK3 _ ⟨rfl, (wt_nn (B := x4) (by omega) (by first | (rw [l6]; omega) | (rw [l6]; done) | omega))⟩ ?_
              show (x4.toInt - (z4.1 + (1 : Int32)).toInt + 0).toNat < (x4.toInt - z4.1.toInt + 0).toNat
              exact wt_mu (by first | (rw [l6]; omega) | (rw [l6]; done) | omega) (by first | (rw [l6]; omega) | (rw [l6]; done) | omega)
            · skip
              have c33 := wt_nceq h31
              refine wt_T_some ?_
              exact ⟨rfl, (show (z4.1.toInt = -1 ∨ (0 ≤ z4.1.toInt ∧ z4.1.toInt < x4.toInt)) from by omega)⟩
          · skip
            have c34 := wt_ncle h28
            have bb35 := wt_bd z21.1
            refine wt_T_if (fun h36 => ?_) (fun h36 => ?_)
            · skip
              have c37 := wt_ceq h36
              unfold wp_md_wordOf_192_B76
              refine wt_T_if (fun h38 => ?_) (fun h38 => ?_)
              · skip
                have c39 := wt_ceq h38
                refine hKK3 _ ⟨rfl, (wt_nn (B := x4) (by omega) (by first | (rw [l6]; omega) | (rw [l6]; done) | omega))⟩ ?_
                show (x4.toInt - (z4.1 + (1 : Int32)).toInt + 0).toNat < (x4.toInt - z4.1.toInt + 0).toNat
                exact wt_mu (by first | (rw [l6]; omega) | (rw [l6]; done) | omega) (by first | (rw [l6]; omega) | (rw [l6]; done) | omega)
              · skip
                have c40 := wt_nceq h38
                refine wt_T_some ?_
                exact ⟨rfl, (show (z4.1.toInt = -1 ∨ (0 ≤ z4.1.toInt ∧ z4.1.toInt < x4.toInt)) from by omega)⟩
            · skip
              have c41 := wt_nceq h36
              refine wt_T_gd (wt_ix (by omega) (by omega)) ?_
              refine wt_T_gd (wt_ix (by omega) (by omega)) ?_
              have bb42 := wt_bd (wt_gf σ 108 4)
              have g43 : 0 ≤ (wt_gf σ 108 4).toInt ∧ (wt_gf σ 108 4).toInt ≤ 500 := wt_R_gf r0 2 rfl
              obtain ⟨j44, j44a, j44b⟩ := wt_addI (wt_gf σ 108 4) z21.2.1
              refine wt_T_bi (wq_md_byteAt n hn ((wt_gf σ 108 4) + z21.2.1) σ r0 (by omega)) (fun r45 h46 => ?_)
              obtain ⟨e47, pp48⟩ := h46
              have bb49 := wt_bd r45.1
              rw [e47]
              have bb50 := wt_bd (wt_gf σ 108 2)
              have g51 : 0 ≤ (wt_gf σ 108 2).toInt ∧ (wt_gf σ 108 2).toInt ≤ 500 := wt_R_gf r0 1 rfl
              have bb52 := wt_tn ((wt_gf σ 108 4) + z21.2.1)
              have bb53 := wt_bd (wt_ga σ 109 (Int32.toNatClampNeg ((wt_gf σ 108 4) + z21.2.1)))
              have bb54 := wt_tn z21.2.1
              have bb55 := wt_bd (wt_ga σ (193 + (Int32.toNatClampNeg z4.1)) (Int32.toNatClampNeg z21.2.1))
              have g56 : 0 ≤ (wt_ga σ (193 + (Int32.toNatClampNeg z4.1)) (Int32.toNatClampNeg z21.2.1)).toInt ∧ (wt_ga σ (193 + (Int32.toNatClampNeg z4.1)) (Int32.toNatClampNeg z21.2.1)).toInt ≤ 25 := wt_R_ga r0 8 rfl (193 + (Int32.toNatClampNeg z4.1)) (show 193 ≤ 193 + (Int32.toNatClampNeg z4.1) by omega) (show 193 + (Int32.toNatClampNeg z4.1) < 253 by omega) (Int32.toNatClampNeg z21.2.1)
              have k57 : (97 : Int32).toInt = 97 := by decide
              obtain ⟨j58, j58a, j58b⟩ := wt_subI r45.1 (97 : Int32)
              refine wt_T_if (fun h59 => ?_) (fun h59 => ?_)
              · skip
                have c60 := wt_ceq h59
                unfold wp_md_wordOf_192_B68
                obtain ⟨j61, j61a, j61b⟩ := wt_addI z21.2.1 (1 : Int32)
                refine hKK20 _ ⟨rfl, (wt_nn (B := x1) (by omega) (by first | (rw [l23]; omega) | (rw [l23]; done) | omega)), (show ((1 : Int32).toInt = 0 ∨ x1.toInt ≤ 9) by omega)⟩ ?_
                show (x1.toInt - (z21.2.1 + (1 : Int32)).toInt + 0).toNat < (x1.toInt - z21.2.1.toInt + 0).toNat
                exact wt_mu (by first | (rw [l23]; omega) | (rw [l23]; done) | omega) (by first | (rw [l23]; omega) | (rw [l23]; done) | omega)
              · skip
                have c62 := wt_nceq h59
                unfold wp_md_wordOf_192_B68
                obtain ⟨j63, j63a, j63b⟩ := wt_addI z21.2.1 (1 : Int32)
                refine hKK20 _ ⟨rfl, (wt_nn (B := x1) (by omega) (by first | (rw [l23]; omega) | (rw [l23]; done) | omega)), (show ((0 : Int32).toInt = 0 ∨ x1.toInt ≤ 9) by omega)⟩ ?_
                show (x1.toInt - (z21.2.1 + (1 : Int32)).toInt + 0).toNat < (x1.toInt - z21.2.1.toInt + 0).toNat
                exact wt_mu (by first | (rw [l23]; omega) | (rw [l23]; done) | omega) (by first | (rw [l23]; omega) | (rw [l23]; done) | omega)
        · skip
          exact ⟨rfl, (show 0 ≤ ((0 : Int32)).toInt by omega), (show ((1 : Int32).toInt = 0 ∨ x1.toInt ≤ 9) by omega)⟩
        · skip
          show (x1.toInt - (0 : Int32).toInt + 0).toNat < n
          omega
      · skip
        have c64 := wt_nceq h18
        unfold wp_md_wordOf_192_B23
        refine wt_T_it (fun s : Int32 × Int32 × wt_St => s.2.2 = σ ∧ 0 ≤ (s.2.1).toInt ∧ (s.1.toInt = 0 ∨ x1.toInt ≤ 9)) (fun s : Int32 × Int32 × wt_St => (x1.toInt - s.2.1.toInt + 0).toNat) (fun KK65 z66 I67 hKK65 => ?_) _ _ ?_ ?_
        · skip
          obtain ⟨l68, l69, l70⟩ := I67
          unfold wp_md_wordOf_192_B28
          rw [l68]
          have bb71 := wt_bd z66.2.1
          refine wt_T_if (fun h72 => ?_) (fun h72 => ?_)
          · skip
            have c73 := wt_cle h72
            unfold wp_md_wordOf_192_B76
            have bb74 := wt_bd z66.1
            refine wt_T_if (fun h75 => ?_) (fun h75 => ?_)
            · skip
              have c76 := wt_ceq h75
              refine hKK3 _ ⟨rfl, (wt_nn (B := x4) (by omega) (by first | (rw [l6]; omega) | (rw [l6]; done) | omega))⟩ ?_
              show (x4.toInt - (z4.1 + (1 : Int32)).toInt + 0).toNat < (x4.toInt - z4.1.toInt + 0).toNat
              exact wt_mu (by first | (rw [l6]; omega) | (rw [l6]; done) | omega) (by first | (rw [l6]; omega) | (rw [l6]; done) | omega)
            · skip
              have c77 := wt_nceq h75
              refine wt_T_some ?_
              exact ⟨rfl, (show (z4.1.toInt = -1 ∨ (0 ≤ z4.1.toInt ∧ z4.1.toInt < x4.toInt)) from by omega)⟩
          · skip
            have c78 := wt_ncle h72
            have bb79 := wt_bd z66.1
            refine wt_T_if (fun h80 => ?_) (fun h80 => ?_)
            · skip
              have c81 := wt_ceq h80
              unfold wp_md_wordOf_192_B76
              refine wt_T_if (fun h82 => ?_) (fun h82 => ?_)
              · skip
                have c83 := wt_ceq h82
                refine hKK3 _ ⟨rfl, (wt_nn (B := x4) (by omega) (by first | (rw [l6]; omega) | (rw [l6]; done) | omega))⟩ ?_
                show (x4.toInt - (z4.1 + (1 : Int32)).toInt + 0).toNat < (x4.toInt - z4.1.toInt + 0).toNat
                exact wt_mu (by first | (rw [l6]; omega) | (rw [l6]; done) | omega) (by first | (rw [l6]; omega) | (rw [l6]; done) | omega)
              · skip
                have c84 := wt_nceq h82
                refine wt_T_some ?_
                exact ⟨rfl, (show (z4.1.toInt = -1 ∨ (0 ≤ z4.1.toInt ∧ z4.1.toInt < x4.toInt)) from by omega)⟩
            · skip
              have c85 := wt_nceq h80
              refine wt_T_gd (wt_ix (by omega) (by omega)) ?_
              refine wt_T_gd (wt_ix (by omega) (by omega)) ?_
              have bb86 := wt_bd (wt_gf σ 108 4)
              have g87 : 0 ≤ (wt_gf σ 108 4).toInt ∧ (wt_gf σ 108 4).toInt ≤ 500 := wt_R_gf r0 2 rfl
              obtain ⟨j88, j88a, j88b⟩ := wt_addI (wt_gf σ 108 4) z66.2.1
              refine wt_T_bi (wq_md_byteAt n hn ((wt_gf σ 108 4) + z66.2.1) σ r0 (by omega)) (fun r89 h90 => ?_)
              obtain ⟨e91, pp92⟩ := h90
              have bb93 := wt_bd r89.1
              rw [e91]
              have bb94 := wt_bd (wt_gf σ 108 2)
              have g95 : 0 ≤ (wt_gf σ 108 2).toInt ∧ (wt_gf σ 108 2).toInt ≤ 500 := wt_R_gf r0 1 rfl
              have bb96 := wt_tn ((wt_gf σ 108 4) + z66.2.1)
              have bb97 := wt_bd (wt_ga σ 109 (Int32.toNatClampNeg ((wt_gf σ 108 4) + z66.2.1)))
              have bb98 := wt_tn z66.2.1
              have bb99 := wt_bd (wt_ga σ (193 + (Int32.toNatClampNeg z4.1)) (Int32.toNatClampNeg z66.2.1))
              have g100 : 0 ≤ (wt_ga σ (193 + (Int32.toNatClampNeg z4.1)) (Int32.toNatClampNeg z66.2.1)).toInt ∧ (wt_ga σ (193 + (Int32.toNatClampNeg z4.1)) (Int32.toNatClampNeg z66.2.1)).toInt ≤ 25 := wt_R_ga r0 8 rfl (193 + (Int32.toNatClampNeg z4.1)) (show 193 ≤ 193 + (Int32.toNatClampNeg z4.1) by omega) (show 193 + (Int32.toNatClampNeg z4.1) < 253 by omega) (Int32.toNatClampNeg z66.2.1)
              have k101 : (97 : Int32).toInt = 97 := by decide
              obtain ⟨j102, j102a, j102b⟩ := wt_subI r89.1 (97 : Int32)
              refine wt_T_if (fun h103 => ?_) (fun h103 => ?_)
              · skip
                have c104 := wt_ceq h103
                unfold wp_md_wordOf_192_B68
                have k105 : (1 : Int32).toInt = 1 := by decide
                obtain ⟨j106, j106a, j106b⟩ := wt_addI z66.2.1 (1 : Int32)
                refine hKK65 _ ⟨rfl, (wt_nn (B := x1) (by omega) (by first | (rw [l68]; omega) | (rw [l68]; done) | omega)), (show ((1 : Int32).toInt = 0 ∨ x1.toInt ≤ 9) by omega)⟩ ?_
                show (x1.toInt - (z66.2.1 + (1 : Int32)).toInt + 0).toNat < (x1.toInt - z66.2.1.toInt + 0).toNat
                exact wt_mu (by first | (rw [l68]; omega) | (rw [l68]; done) | omega) (by first | (rw [l68]; omega) | (rw [l68]; done) | omega)
              · skip
                have c107 := wt_nceq h103
                unfold wp_md_wordOf_192_B68
                have k108 : (1 : Int32).toInt = 1 := by decide
                obtain ⟨j109, j109a, j109b⟩ := wt_addI z66.2.1 (1 : Int32)
                refine hKK65 _ ⟨rfl, (wt_nn (B := x1) (by omega) (by first | (rw [l68]; omega) | (rw [l68]; done) | omega)), (show ((0 : Int32).toInt = 0 ∨ x1.toInt ≤ 9) by omega)⟩ ?_
                show (x1.toInt - (z66.2.1 + (1 : Int32)).toInt + 0).toNat < (x1.toInt - z66.2.1.toInt + 0).toNat
                exact wt_mu (by first | (rw [l68]; omega) | (rw [l68]; done) | omega) (by first | (rw [l68]; omega) | (rw [l68]; done) | omega)
        · skip
          exact ⟨rfl, (show 0 ≤ ((0 : Int32)).toInt by omega), (show ((0 : Int32).toInt = 0 ∨ x1.toInt ≤ 9) by omega)⟩
        · skip
          show (x1.toInt - (0 : Int32).toInt + 0).toNat < n
          omega
  · skip
    exact ⟨rfl, (show 0 ≤ ((0 : Int32)).toInt by omega)⟩
  · skip
    show (x4.toInt - (0 : Int32).toInt + 0).toNat < n
    omega
